/-! part 96e: level 2: stepX, stepY, second -/
section RZSX
variable {X : rz_X} {d : Nat} {w : rz_W} {nc ns : Nat} {kp tl kd ty cl th : Int}
theorem y_lstep1 {s k : Int} (hm : v_model w kp tl kd ty cl th) (hs1 : -2147483648 ≤ s ∧ s ≤ 2147483647) (ha : ¬ (0 ≤ s ∧ s ≤ 7)) : rz_ex X (d + 3) 204 [.ref 32, .int (Int32.ofInt s), .int (Int32.ofInt k)] w = some (.inl (some (.int (Int32.ofInt 1))), w.set 32 (rz_mo kp tl kd ty cl 1), 0, 0) := by
  have y1 := x_no0 (X := X) (d := d + 1) (k := 1) hm
  simp (disch := first | exact nl_i | exact nl_r | exact nl_0 | exact nl_n | exact nl_x | exact kd_r | exact kd_n | exact kd_x | exact kd_o | exact cats0 | exact cats1 | exact cats2 | exact cats3 | exact cats4 | exact nr_i | exact nr_l | exact nr_z0 | exact nr_z1 | exact ft_i | exact ft_l | omega | rfl | assumption | (refine i_ne0 ?_ ?_ ?_ <;> omega) | (refine j_ne0 ?_ ?_ ?_ <;> omega) | (refine i_new ?_ ?_ <;> omega)) only [n_X11_lacksStep, q_X11_lacksStep_0, q_X11_lacksStep_1, q_X11_lacksStep_2, q_X11_lacksStep_5, q_X11_lacksStep_6, q_X11_lacksStep_9, q_X11_lacksStep_12, q_X11_lacksStep_13, q_X11_lacksStep_14, q_X11_lacksStep_15, q_X11_lacksStep_17, q_X11_lacksStep_20, q_X11_lacksStep_21, q_X11_lacksStep_24, q_X11_lacksStep_27, q_X11_lacksStep_28, q_X11_lacksStep_29, q_X11_lacksStep_32, q_X11_lacksStep_33, q_X11_lacksStep_34, q_X11_lacksStep_35, q_X11_lacksStep_38, q_X11_lacksStep_41, q_X11_lacksStep_42, q_X11_lacksStep_45, q_X11_lacksStep_46, i_add, i_sub, i_mul, i_neg, i_lt, i_le, i_eq, i_tm, i_div, i_j, j_i, j_add, j_sub, j_mul, j_neg, j_lt, j_le, j_eq, j_div, c_lt, c_le, c_gt, c_ge, c_eq, i_nat, rz_k, Nat.add_zero, Nat.zero_add, Nat.add_assoc, Nat.reduceAdd, if_true, if_false, y_isSlot, if_neg ha, y1, vk_eq hm, Int.reduceEq, not_false_eq_true, nr_z1]
theorem y_lstep2 {s k : Int} (hm : v_model w kp tl kd ty cl th) (hk1 : -2147483648 ≤ k ∧ k ≤ 2147483647) (ha : 0 ≤ s ∧ s ≤ 7) (hb : ¬ (0 ≤ k ∧ k ≤ 19)) : rz_ex X (d + 3) 204 [.ref 32, .int (Int32.ofInt s), .int (Int32.ofInt k)] w = some (.inl (some (.int (Int32.ofInt 1))), w.set 32 (rz_mo kp tl kd ty cl 2), 0, 0) := by
  have hm1 := v_mo (t := 0) hm
  have y1 := x_no1 (X := X) (d := d + 1) (k := 1) hm
  have y2 := x_no0 (X := X) (d := d + 1) (k := 2) hm1
  rw [mo_mo] at y2
  simp (disch := first | exact nl_i | exact nl_r | exact nl_0 | exact nl_n | exact nl_x | exact kd_r | exact kd_n | exact kd_x | exact kd_o | exact cats0 | exact cats1 | exact cats2 | exact cats3 | exact cats4 | exact nr_i | exact nr_l | exact nr_z0 | exact nr_z1 | exact ft_i | exact ft_l | omega | rfl | assumption | (refine i_ne0 ?_ ?_ ?_ <;> omega) | (refine j_ne0 ?_ ?_ ?_ <;> omega) | (refine i_new ?_ ?_ <;> omega)) only [n_X11_lacksStep, q_X11_lacksStep_0, q_X11_lacksStep_1, q_X11_lacksStep_2, q_X11_lacksStep_5, q_X11_lacksStep_6, q_X11_lacksStep_9, q_X11_lacksStep_12, q_X11_lacksStep_13, q_X11_lacksStep_14, q_X11_lacksStep_15, q_X11_lacksStep_17, q_X11_lacksStep_20, q_X11_lacksStep_21, q_X11_lacksStep_24, q_X11_lacksStep_27, q_X11_lacksStep_28, q_X11_lacksStep_29, q_X11_lacksStep_32, q_X11_lacksStep_33, q_X11_lacksStep_34, q_X11_lacksStep_35, q_X11_lacksStep_38, q_X11_lacksStep_41, q_X11_lacksStep_42, q_X11_lacksStep_45, q_X11_lacksStep_46, i_add, i_sub, i_mul, i_neg, i_lt, i_le, i_eq, i_tm, i_div, i_j, j_i, j_add, j_sub, j_mul, j_neg, j_lt, j_le, j_eq, j_div, c_lt, c_le, c_gt, c_ge, c_eq, i_nat, rz_k, Nat.add_zero, Nat.zero_add, Nat.add_assoc, Nat.reduceAdd, if_true, if_false, y_isSlot, if_pos ha, x_in, if_neg hb, y1, y2, vk_eq hm, vk_eq hm1, Int.reduceEq, not_false_eq_true, not_true_eq_false, nr_z1]
theorem y_lstep3 {H : Nat → Int32} {s k : Int} (hm : v_model w kp tl kd ty cl th) (g33 : v_za w 33 8 H) (hk1 : -2147483648 ≤ k ∧ k ≤ 2147483647) (ha : 0 ≤ s ∧ s ≤ 7) (hb : 0 ≤ k ∧ k ≤ 19) (hh : H s.toNat = Int32.ofInt 0) : rz_ex X (d + 3) 204 [.ref 32, .int (Int32.ofInt s), .int (Int32.ofInt k)] w = some (.inl (some (.int (Int32.ofInt 1))), w.set 32 (rz_mo kp tl kd ty cl 3), 0, 0) := by
  have hm1 := v_mo (t := 0) hm
  have y1 := x_no1 (X := X) (d := d + 1) (k := 1) hm
  have y2 := x_no1 (X := X) (d := d + 1) (k := 2) hm1
  have y3 := x_no0 (X := X) (d := d + 1) (k := 3) hm1
  rw [mo_mo] at y2 y3
  have hH1 : v_za (w.set 32 (rz_mo kp tl kd ty cl 0)) 33 8 H := fr_get (fr_set (S := [32]) (by decide)) (by decide) g33
  simp (disch := first | exact nl_i | exact nl_r | exact nl_0 | exact nl_n | exact nl_x | exact kd_r | exact kd_n | exact kd_x | exact kd_o | exact cats0 | exact cats1 | exact cats2 | exact cats3 | exact cats4 | exact nr_i | exact nr_l | exact nr_z0 | exact nr_z1 | exact ft_i | exact ft_l | omega | rfl | assumption | (refine i_ne0 ?_ ?_ ?_ <;> omega) | (refine j_ne0 ?_ ?_ ?_ <;> omega) | (refine i_new ?_ ?_ <;> omega)) only [n_X11_lacksStep, q_X11_lacksStep_0, q_X11_lacksStep_1, q_X11_lacksStep_2, q_X11_lacksStep_5, q_X11_lacksStep_6, q_X11_lacksStep_9, q_X11_lacksStep_12, q_X11_lacksStep_13, q_X11_lacksStep_14, q_X11_lacksStep_15, q_X11_lacksStep_17, q_X11_lacksStep_20, q_X11_lacksStep_21, q_X11_lacksStep_24, q_X11_lacksStep_27, q_X11_lacksStep_28, q_X11_lacksStep_29, q_X11_lacksStep_32, q_X11_lacksStep_33, q_X11_lacksStep_34, q_X11_lacksStep_35, q_X11_lacksStep_38, q_X11_lacksStep_41, q_X11_lacksStep_42, q_X11_lacksStep_45, q_X11_lacksStep_46, i_add, i_sub, i_mul, i_neg, i_lt, i_le, i_eq, i_tm, i_div, i_j, j_i, j_add, j_sub, j_mul, j_neg, j_lt, j_le, j_eq, j_div, c_lt, c_le, c_gt, c_ge, c_eq, i_nat, rz_k, Nat.add_zero, Nat.zero_add, Nat.add_assoc, Nat.reduceAdd, if_true, if_false, y_isSlot, if_pos ha, x_in, if_pos hb, y1, y2, y3, vk_eq hm, vk_eq hm1, gf_eq hm1, List.getElem?_cons_zero, List.getElem?_cons_succ, az_eq hH1, hh, Int.reduceEq, not_false_eq_true, not_true_eq_false, nr_z1]
theorem y_lstep0 {H : Nat → Int32} {s k : Int} (hm : v_model w kp tl kd ty cl th) (g33 : v_za w 33 8 H) (hk1 : -2147483648 ≤ k ∧ k ≤ 2147483647) (ha : 0 ≤ s ∧ s ≤ 7) (hb : 0 ≤ k ∧ k ≤ 19) (hh : H s.toNat = Int32.ofInt 1) : rz_ex X (d + 3) 204 [.ref 32, .int (Int32.ofInt s), .int (Int32.ofInt k)] w = some (.inl (some (.int (Int32.ofInt 0))), w.set 32 (rz_mo kp tl kd ty cl 0), 0, 0) := by
  have hm1 := v_mo (t := 0) hm
  have y1 := x_no1 (X := X) (d := d + 1) (k := 1) hm
  have y2 := x_no1 (X := X) (d := d + 1) (k := 2) hm1
  have y3 := x_no1 (X := X) (d := d + 1) (k := 3) hm1
  rw [mo_mo] at y2 y3
  have hH1 : v_za (w.set 32 (rz_mo kp tl kd ty cl 0)) 33 8 H := fr_get (fr_set (S := [32]) (by decide)) (by decide) g33
  simp (disch := first | exact nl_i | exact nl_r | exact nl_0 | exact nl_n | exact nl_x | exact kd_r | exact kd_n | exact kd_x | exact kd_o | exact cats0 | exact cats1 | exact cats2 | exact cats3 | exact cats4 | exact nr_i | exact nr_l | exact nr_z0 | exact nr_z1 | exact ft_i | exact ft_l | omega | rfl | assumption | (refine i_ne0 ?_ ?_ ?_ <;> omega) | (refine j_ne0 ?_ ?_ ?_ <;> omega) | (refine i_new ?_ ?_ <;> omega)) only [n_X11_lacksStep, q_X11_lacksStep_0, q_X11_lacksStep_1, q_X11_lacksStep_2, q_X11_lacksStep_5, q_X11_lacksStep_6, q_X11_lacksStep_9, q_X11_lacksStep_12, q_X11_lacksStep_13, q_X11_lacksStep_14, q_X11_lacksStep_15, q_X11_lacksStep_17, q_X11_lacksStep_20, q_X11_lacksStep_21, q_X11_lacksStep_24, q_X11_lacksStep_27, q_X11_lacksStep_28, q_X11_lacksStep_29, q_X11_lacksStep_32, q_X11_lacksStep_33, q_X11_lacksStep_34, q_X11_lacksStep_35, q_X11_lacksStep_38, q_X11_lacksStep_41, q_X11_lacksStep_42, q_X11_lacksStep_45, q_X11_lacksStep_46, i_add, i_sub, i_mul, i_neg, i_lt, i_le, i_eq, i_tm, i_div, i_j, j_i, j_add, j_sub, j_mul, j_neg, j_lt, j_le, j_eq, j_div, c_lt, c_le, c_gt, c_ge, c_eq, i_nat, rz_k, Nat.add_zero, Nat.zero_add, Nat.add_assoc, Nat.reduceAdd, if_true, if_false, y_isSlot, if_pos ha, x_in, if_pos hb, y1, y2, y3, vk_eq hm, vk_eq hm1, gf_eq hm1, List.getElem?_cons_zero, List.getElem?_cons_succ, az_eq hH1, hh, Int.reduceEq, not_false_eq_true, not_true_eq_false, nr_z0]
theorem zt_all {r : List (Int × Int)} (h : r.length = 20) : ∃ q : Nat → Int × Int, ∀ k, k < 20 → r.reverse[k]? = some (q k) := by
  refine ⟨fun k => r.reverse[k]?.getD (0, 0), fun k hk => ?_⟩
  have : k < r.reverse.length := by rw [List.length_reverse]; omega
  have e := List.getElem?_eq_getElem this
  show r.reverse[k]? = some (r.reverse[k]?.getD (0, 0))
  rw [e]
  rfl
theorem ag_stepX {s k : Int} (hs1 : -2147483648 ≤ s ∧ s ≤ 2147483647) (hk1 : -2147483648 ≤ k ∧ k ≤ 2147483647) (hv : v_inv w) : rz_ag X d 117 205 false [.int (Int32.ofInt s), .int (Int32.ofInt k)] ["java/lang/IndexOutOfBoundsException", "java/lang/IllegalArgumentException", "java/util/NoSuchElementException"] w := by
  obtain ⟨kp, tl, kd, ty, cl, th, hy, hm, hs, ht, hp, hq, hmi⟩ := id hv
  obtain ⟨G, KG, H, KH, KS, KT, A, B, C, KA, KB, KC, ⟨g1, g2, g3, g33, g34, g35, g36, g37, g38, g39, g40, g41⟩, hk, hS, hK⟩ := id hs
  by_cases ha : 0 ≤ s ∧ s ≤ 7
  case neg =>
    refine ag_thr0 (c1 := 1) (s1 := 6) 0 rfl hv hm ?_ ?_
    · simp (disch := first | exact nl_i | exact nl_r | exact nl_0 | exact nl_n | exact nl_x | exact kd_r | exact kd_n | exact kd_x | exact kd_o | exact cats0 | exact cats1 | exact cats2 | exact cats3 | exact cats4 | exact nr_i | exact nr_l | exact nr_z0 | exact nr_z1 | exact ft_i | exact ft_l | omega | rfl | assumption | (refine i_ne0 ?_ ?_ ?_ <;> omega) | (refine j_ne0 ?_ ?_ ?_ <;> omega) | (refine i_new ?_ ?_ <;> omega)) only [n_X10_stepX, q_X10_stepX_0, q_X10_stepX_1, q_X10_stepX_4, q_X10_stepX_5, q_X10_stepX_6, q_X10_stepX_8, q_X10_stepX_11, q_X10_stepX_12, q_X10_stepX_13, q_X10_stepX_14, q_X10_stepX_17, q_X10_stepX_20, q_X10_stepX_21, q_X10_stepX_24, q_X10_stepX_25, q_X10_stepX_28, i_add, i_sub, i_mul, i_neg, i_lt, i_le, i_eq, i_tm, i_div, i_j, j_i, j_add, j_sub, j_mul, j_neg, j_lt, j_le, j_eq, j_div, c_lt, c_le, c_gt, c_ge, c_eq, i_nat, rz_k, Nat.add_zero, Nat.zero_add, Nat.add_assoc, Nat.reduceAdd, if_true, if_false, x_slot, if_neg ha, vk_eq hy]
      all_goals rfl
    · rintro wr hm rfl
      refine ⟨Int32.ofInt 0, [], 0, 0, ?_, by omega, by omega⟩
      have hl := y_lstep1 (X := X) (d := d + 26) (k := k) hm hs1 ha
      simp (disch := first | exact nl_i | exact nl_r | exact nl_0 | exact nl_n | exact nl_x | exact kd_r | exact kd_n | exact kd_x | exact kd_o | exact cats0 | exact cats1 | exact cats2 | exact cats3 | exact cats4 | exact nr_i | exact nr_l | exact nr_z0 | exact nr_z1 | exact ft_i | exact ft_l | omega | rfl | assumption | (refine i_ne0 ?_ ?_ ?_ <;> omega) | (refine j_ne0 ?_ ?_ ?_ <;> omega) | (refine i_new ?_ ?_ <;> omega)) only [n_X11_stepX, q_X11_stepX_0, q_X11_stepX_1, q_X11_stepX_2, q_X11_stepX_3, q_X11_stepX_6, q_X11_stepX_9, q_X11_stepX_10, q_X11_stepX_13, q_X11_stepX_14, q_X11_stepX_15, q_X11_stepX_18, q_X11_stepX_19, q_X11_stepX_20, q_X11_stepX_21, q_X11_stepX_22, q_X11_stepX_23, i_add, i_sub, i_mul, i_neg, i_lt, i_le, i_eq, i_tm, i_div, i_j, j_i, j_add, j_sub, j_mul, j_neg, j_lt, j_le, j_eq, j_div, c_lt, c_le, c_gt, c_ge, c_eq, i_nat, rz_k, Nat.add_zero, Nat.zero_add, Nat.add_assoc, Nat.reduceAdd, if_true, if_false, hl, vk_eq hm, List.append_nil, Int.reduceEq, not_false_eq_true, not_true_eq_false]
      all_goals rfl
  by_cases hb : 0 ≤ k ∧ k ≤ 19
  case neg =>
    refine ag_thr0 (c1 := 1) (s1 := 6) 1 rfl hv hm ?_ ?_
    · simp (disch := first | exact nl_i | exact nl_r | exact nl_0 | exact nl_n | exact nl_x | exact kd_r | exact kd_n | exact kd_x | exact kd_o | exact cats0 | exact cats1 | exact cats2 | exact cats3 | exact cats4 | exact nr_i | exact nr_l | exact nr_z0 | exact nr_z1 | exact ft_i | exact ft_l | omega | rfl | assumption | (refine i_ne0 ?_ ?_ ?_ <;> omega) | (refine j_ne0 ?_ ?_ ?_ <;> omega) | (refine i_new ?_ ?_ <;> omega)) only [n_X10_stepX, q_X10_stepX_0, q_X10_stepX_1, q_X10_stepX_4, q_X10_stepX_5, q_X10_stepX_6, q_X10_stepX_8, q_X10_stepX_11, q_X10_stepX_12, q_X10_stepX_13, q_X10_stepX_14, q_X10_stepX_17, q_X10_stepX_20, q_X10_stepX_21, q_X10_stepX_24, q_X10_stepX_25, q_X10_stepX_28, i_add, i_sub, i_mul, i_neg, i_lt, i_le, i_eq, i_tm, i_div, i_j, j_i, j_add, j_sub, j_mul, j_neg, j_lt, j_le, j_eq, j_div, c_lt, c_le, c_gt, c_ge, c_eq, i_nat, rz_k, Nat.add_zero, Nat.zero_add, Nat.add_assoc, Nat.reduceAdd, if_true, if_false, x_slot, if_pos ha, x_range, if_neg hb, vk_eq hy]
      all_goals rfl
    · rintro wr hm rfl
      refine ⟨Int32.ofInt 0, [], 0, 0, ?_, by omega, by omega⟩
      have hl := y_lstep2 (X := X) (d := d + 26) hm hk1 ha hb
      simp (disch := first | exact nl_i | exact nl_r | exact nl_0 | exact nl_n | exact nl_x | exact kd_r | exact kd_n | exact kd_x | exact kd_o | exact cats0 | exact cats1 | exact cats2 | exact cats3 | exact cats4 | exact nr_i | exact nr_l | exact nr_z0 | exact nr_z1 | exact ft_i | exact ft_l | omega | rfl | assumption | (refine i_ne0 ?_ ?_ ?_ <;> omega) | (refine j_ne0 ?_ ?_ ?_ <;> omega) | (refine i_new ?_ ?_ <;> omega)) only [n_X11_stepX, q_X11_stepX_0, q_X11_stepX_1, q_X11_stepX_2, q_X11_stepX_3, q_X11_stepX_6, q_X11_stepX_9, q_X11_stepX_10, q_X11_stepX_13, q_X11_stepX_14, q_X11_stepX_15, q_X11_stepX_18, q_X11_stepX_19, q_X11_stepX_20, q_X11_stepX_21, q_X11_stepX_22, q_X11_stepX_23, i_add, i_sub, i_mul, i_neg, i_lt, i_le, i_eq, i_tm, i_div, i_j, j_i, j_add, j_sub, j_mul, j_neg, j_lt, j_le, j_eq, j_div, c_lt, c_le, c_gt, c_ge, c_eq, i_nat, rz_k, Nat.add_zero, Nat.zero_add, Nat.add_assoc, Nat.reduceAdd, if_true, if_false, hl, vk_eq hm, List.append_nil, Int.reduceEq, not_false_eq_true, not_true_eq_false]
      all_goals rfl
  have hi := hS s.toNat (by omega)
  have hgr := x_gridIn (X := X) (d := d + 27) hy g1 ha.1 ha.2
  cases hg : G s.toNat with
  | none =>
    rw [hg] at hi hgr
    refine ag_thr0 (c1 := 1) (s1 := 6) 2 rfl hv hm ?_ ?_
    · simp (disch := first | exact nl_i | exact nl_r | exact nl_0 | exact nl_n | exact nl_x | exact kd_r | exact kd_n | exact kd_x | exact kd_o | exact cats0 | exact cats1 | exact cats2 | exact cats3 | exact cats4 | exact nr_i | exact nr_l | exact nr_z0 | exact nr_z1 | exact ft_i | exact ft_l | omega | rfl | assumption | (refine i_ne0 ?_ ?_ ?_ <;> omega) | (refine j_ne0 ?_ ?_ ?_ <;> omega) | (refine i_new ?_ ?_ <;> omega)) only [n_X10_stepX, q_X10_stepX_0, q_X10_stepX_1, q_X10_stepX_4, q_X10_stepX_5, q_X10_stepX_6, q_X10_stepX_8, q_X10_stepX_11, q_X10_stepX_12, q_X10_stepX_13, q_X10_stepX_14, q_X10_stepX_17, q_X10_stepX_20, q_X10_stepX_21, q_X10_stepX_24, q_X10_stepX_25, q_X10_stepX_28, i_add, i_sub, i_mul, i_neg, i_lt, i_le, i_eq, i_tm, i_div, i_j, j_i, j_add, j_sub, j_mul, j_neg, j_lt, j_le, j_eq, j_div, c_lt, c_le, c_gt, c_ge, c_eq, i_nat, rz_k, Nat.add_zero, Nat.zero_add, Nat.add_assoc, Nat.reduceAdd, if_true, if_false, x_slot, if_pos ha, x_range, if_pos hb, hgr, vk_eq hy]
      all_goals rfl
    · rintro wr hm rfl
      refine ⟨Int32.ofInt 0, [], 0, 0, ?_, by omega, by omega⟩
      have hl := y_lstep3 (X := X) (d := d + 26) hm g33 hk1 ha hb hi
      simp (disch := first | exact nl_i | exact nl_r | exact nl_0 | exact nl_n | exact nl_x | exact kd_r | exact kd_n | exact kd_x | exact kd_o | exact cats0 | exact cats1 | exact cats2 | exact cats3 | exact cats4 | exact nr_i | exact nr_l | exact nr_z0 | exact nr_z1 | exact ft_i | exact ft_l | omega | rfl | assumption | (refine i_ne0 ?_ ?_ ?_ <;> omega) | (refine j_ne0 ?_ ?_ ?_ <;> omega) | (refine i_new ?_ ?_ <;> omega)) only [n_X11_stepX, q_X11_stepX_0, q_X11_stepX_1, q_X11_stepX_2, q_X11_stepX_3, q_X11_stepX_6, q_X11_stepX_9, q_X11_stepX_10, q_X11_stepX_13, q_X11_stepX_14, q_X11_stepX_15, q_X11_stepX_18, q_X11_stepX_19, q_X11_stepX_20, q_X11_stepX_21, q_X11_stepX_22, q_X11_stepX_23, i_add, i_sub, i_mul, i_neg, i_lt, i_le, i_eq, i_tm, i_div, i_j, j_i, j_add, j_sub, j_mul, j_neg, j_lt, j_le, j_eq, j_div, c_lt, c_le, c_gt, c_ge, c_eq, i_nat, rz_k, Nat.add_zero, Nat.zero_add, Nat.add_assoc, Nat.reduceAdd, if_true, if_false, hl, vk_eq hm, List.append_nil, Int.reduceEq, not_false_eq_true, not_true_eq_false]
      all_goals rfl
  | some g =>
    rw [hg] at hi hgr
    obtain ⟨hh, hg49, a, b, c, hr, ho, ea, eb, ec⟩ := hi
    obtain ⟨r1, r2, r3, r4, hrr, -⟩ := zr_grid hr
    obtain ⟨w1, r, e1, f1, hmi1, hs1', hI, hl, hbd⟩ := x_listSteps (X := X) (d := d + 24) hy hmi ho hg49 hr hrr
    obtain ⟨k, rfl⟩ := Int.eq_ofNat_of_zero_le hb.1
    obtain ⟨q, hq⟩ := zt_all hl
    have hk20 : k < 20 := by omega
    have hqk := hq k hk20
    have kx := x_sx (X := X) (d := d + 27) hs1' hk20 hqk
    have hy1 : v_yard w1 kp := fr_get f1 (by decide) hy
    obtain ⟨L, P, Q, h5, -⟩ := id hs1'
    refine ag_ret (S1 := [4, 5, 6, 7, 8]) (S2 := []) (c1 := 0) (s1 := 0) (r := Int32.ofInt (q k).1) hv hm ?_ f1 (by decide) hmi1 (by simp) (fun h => by cases h) ?_
    · simp (disch := first | exact nl_i | exact nl_r | exact nl_0 | exact nl_n | exact nl_x | exact kd_r | exact kd_n | exact kd_x | exact kd_o | exact cats0 | exact cats1 | exact cats2 | exact cats3 | exact cats4 | exact nr_i | exact nr_l | exact nr_z0 | exact nr_z1 | exact ft_i | exact ft_l | omega | rfl | assumption | (refine i_ne0 ?_ ?_ ?_ <;> omega) | (refine j_ne0 ?_ ?_ ?_ <;> omega) | (refine i_new ?_ ?_ <;> omega)) only [n_X10_stepX, q_X10_stepX_0, q_X10_stepX_1, q_X10_stepX_4, q_X10_stepX_5, q_X10_stepX_6, q_X10_stepX_8, q_X10_stepX_11, q_X10_stepX_12, q_X10_stepX_13, q_X10_stepX_14, q_X10_stepX_17, q_X10_stepX_20, q_X10_stepX_21, q_X10_stepX_24, q_X10_stepX_25, q_X10_stepX_28, i_add, i_sub, i_mul, i_neg, i_lt, i_le, i_eq, i_tm, i_div, i_j, j_i, j_add, j_sub, j_mul, j_neg, j_lt, j_le, j_eq, j_div, c_lt, c_le, c_gt, c_ge, c_eq, i_nat, rz_k, Nat.add_zero, Nat.zero_add, Nat.add_assoc, Nat.reduceAdd, if_true, if_false, x_slot, if_pos ha, x_range, if_pos hb, hgr, vk_eq hy, vk_eq hy1, e1, gf_eq hy1, List.getElem?_cons_zero, List.getElem?_cons_succ, vk_eq h5, kx]
    · intro wr hf hmr hv'
      have hl0 := y_lstep0 (X := X) (d := d + 26) hmr (fr_get hf (by decide) g33) hk1 ha hb hh
      have hm1 := v_mo (t := 0) hmr
      have fa : rz_fr [32] wr (wr.set 32 (rz_mo kp tl kd ty cl 0)) := fr_set (by decide)
      have ff : rz_fr [48, 4, 5, 6, 7, 8, 32] w (wr.set 32 (rz_mo kp tl kd ty cl 0)) := fr_trans (fr_sub hf (by decide)) (fr_sub fa (by decide))
      obtain ⟨l, p, F, e2, hF, hrp⟩ := y_stepsOf (X := X) (d := d + 26) hm1 (fr_get ff (by decide) g34) (fr_get ff (by decide) g35) (fr_get ff (by decide) g36) ha ea eb ec hr hrr hI hl
      have fb : rz_fr [32] wr (wr.set 32 (rz_mo kp tl kd ty cl 0) ++ l) := fr_trans fa fr_app
      have hz := zt_rp_at r hrp k _ hqk
      have t : (2 * (k : Int)).toNat = 2 * k := by omega
      refine ⟨wr.set 32 (rz_mo kp tl kd ty cl 0) ++ l, 2, 46, ?_, fb, fr_get (S := []) fr_app (by simp) hm1, v_misc_fr fb (by decide) (v_inv_misc hv'), by omega, by omega⟩
      simp (disch := first | exact nl_i | exact nl_r | exact nl_0 | exact nl_n | exact nl_x | exact kd_r | exact kd_n | exact kd_x | exact kd_o | exact cats0 | exact cats1 | exact cats2 | exact cats3 | exact cats4 | exact nr_i | exact nr_l | exact nr_z0 | exact nr_z1 | exact ft_i | exact ft_l | omega | rfl | assumption | (refine i_ne0 ?_ ?_ ?_ <;> omega) | (refine j_ne0 ?_ ?_ ?_ <;> omega) | (refine i_new ?_ ?_ <;> omega)) only [n_X11_stepX, q_X11_stepX_0, q_X11_stepX_1, q_X11_stepX_2, q_X11_stepX_3, q_X11_stepX_6, q_X11_stepX_9, q_X11_stepX_10, q_X11_stepX_13, q_X11_stepX_14, q_X11_stepX_15, q_X11_stepX_18, q_X11_stepX_19, q_X11_stepX_20, q_X11_stepX_21, q_X11_stepX_22, q_X11_stepX_23, i_add, i_sub, i_mul, i_neg, i_lt, i_le, i_eq, i_tm, i_div, i_j, j_i, j_add, j_sub, j_mul, j_neg, j_lt, j_le, j_eq, j_div, c_lt, c_le, c_gt, c_ge, c_eq, i_nat, rz_k, Nat.add_zero, Nat.zero_add, Nat.add_assoc, Nat.reduceAdd, if_true, if_false, hl0, vk_eq hmr, vk_eq hm1, e2, al_eq hF, t, hz.1, Int.reduceEq, not_false_eq_true, not_true_eq_false]
theorem ag_stepY {s k : Int} (hs1 : -2147483648 ≤ s ∧ s ≤ 2147483647) (hk1 : -2147483648 ≤ k ∧ k ≤ 2147483647) (hv : v_inv w) : rz_ag X d 118 206 false [.int (Int32.ofInt s), .int (Int32.ofInt k)] ["java/lang/IndexOutOfBoundsException", "java/lang/IllegalArgumentException", "java/util/NoSuchElementException"] w := by
  obtain ⟨kp, tl, kd, ty, cl, th, hy, hm, hs, ht, hp, hq, hmi⟩ := id hv
  obtain ⟨G, KG, H, KH, KS, KT, A, B, C, KA, KB, KC, ⟨g1, g2, g3, g33, g34, g35, g36, g37, g38, g39, g40, g41⟩, hk, hS, hK⟩ := id hs
  by_cases ha : 0 ≤ s ∧ s ≤ 7
  case neg =>
    refine ag_thr0 (c1 := 1) (s1 := 6) 0 rfl hv hm ?_ ?_
    · simp (disch := first | exact nl_i | exact nl_r | exact nl_0 | exact nl_n | exact nl_x | exact kd_r | exact kd_n | exact kd_x | exact kd_o | exact cats0 | exact cats1 | exact cats2 | exact cats3 | exact cats4 | exact nr_i | exact nr_l | exact nr_z0 | exact nr_z1 | exact ft_i | exact ft_l | omega | rfl | assumption | (refine i_ne0 ?_ ?_ ?_ <;> omega) | (refine j_ne0 ?_ ?_ ?_ <;> omega) | (refine i_new ?_ ?_ <;> omega)) only [n_X10_stepY, q_X10_stepY_0, q_X10_stepY_1, q_X10_stepY_4, q_X10_stepY_5, q_X10_stepY_6, q_X10_stepY_8, q_X10_stepY_11, q_X10_stepY_12, q_X10_stepY_13, q_X10_stepY_14, q_X10_stepY_17, q_X10_stepY_20, q_X10_stepY_21, q_X10_stepY_24, q_X10_stepY_25, q_X10_stepY_28, i_add, i_sub, i_mul, i_neg, i_lt, i_le, i_eq, i_tm, i_div, i_j, j_i, j_add, j_sub, j_mul, j_neg, j_lt, j_le, j_eq, j_div, c_lt, c_le, c_gt, c_ge, c_eq, i_nat, rz_k, Nat.add_zero, Nat.zero_add, Nat.add_assoc, Nat.reduceAdd, if_true, if_false, x_slot, if_neg ha, vk_eq hy]
      all_goals rfl
    · rintro wr hm rfl
      refine ⟨Int32.ofInt 0, [], 0, 0, ?_, by omega, by omega⟩
      have hl := y_lstep1 (X := X) (d := d + 26) (k := k) hm hs1 ha
      simp (disch := first | exact nl_i | exact nl_r | exact nl_0 | exact nl_n | exact nl_x | exact kd_r | exact kd_n | exact kd_x | exact kd_o | exact cats0 | exact cats1 | exact cats2 | exact cats3 | exact cats4 | exact nr_i | exact nr_l | exact nr_z0 | exact nr_z1 | exact ft_i | exact ft_l | omega | rfl | assumption | (refine i_ne0 ?_ ?_ ?_ <;> omega) | (refine j_ne0 ?_ ?_ ?_ <;> omega) | (refine i_new ?_ ?_ <;> omega)) only [n_X11_stepY, q_X11_stepY_0, q_X11_stepY_1, q_X11_stepY_2, q_X11_stepY_3, q_X11_stepY_6, q_X11_stepY_9, q_X11_stepY_10, q_X11_stepY_13, q_X11_stepY_14, q_X11_stepY_15, q_X11_stepY_18, q_X11_stepY_19, q_X11_stepY_20, q_X11_stepY_21, q_X11_stepY_22, q_X11_stepY_23, q_X11_stepY_24, q_X11_stepY_25, i_add, i_sub, i_mul, i_neg, i_lt, i_le, i_eq, i_tm, i_div, i_j, j_i, j_add, j_sub, j_mul, j_neg, j_lt, j_le, j_eq, j_div, c_lt, c_le, c_gt, c_ge, c_eq, i_nat, rz_k, Nat.add_zero, Nat.zero_add, Nat.add_assoc, Nat.reduceAdd, if_true, if_false, hl, vk_eq hm, List.append_nil, Int.reduceEq, not_false_eq_true, not_true_eq_false]
      all_goals rfl
  by_cases hb : 0 ≤ k ∧ k ≤ 19
  case neg =>
    refine ag_thr0 (c1 := 1) (s1 := 6) 1 rfl hv hm ?_ ?_
    · simp (disch := first | exact nl_i | exact nl_r | exact nl_0 | exact nl_n | exact nl_x | exact kd_r | exact kd_n | exact kd_x | exact kd_o | exact cats0 | exact cats1 | exact cats2 | exact cats3 | exact cats4 | exact nr_i | exact nr_l | exact nr_z0 | exact nr_z1 | exact ft_i | exact ft_l | omega | rfl | assumption | (refine i_ne0 ?_ ?_ ?_ <;> omega) | (refine j_ne0 ?_ ?_ ?_ <;> omega) | (refine i_new ?_ ?_ <;> omega)) only [n_X10_stepY, q_X10_stepY_0, q_X10_stepY_1, q_X10_stepY_4, q_X10_stepY_5, q_X10_stepY_6, q_X10_stepY_8, q_X10_stepY_11, q_X10_stepY_12, q_X10_stepY_13, q_X10_stepY_14, q_X10_stepY_17, q_X10_stepY_20, q_X10_stepY_21, q_X10_stepY_24, q_X10_stepY_25, q_X10_stepY_28, i_add, i_sub, i_mul, i_neg, i_lt, i_le, i_eq, i_tm, i_div, i_j, j_i, j_add, j_sub, j_mul, j_neg, j_lt, j_le, j_eq, j_div, c_lt, c_le, c_gt, c_ge, c_eq, i_nat, rz_k, Nat.add_zero, Nat.zero_add, Nat.add_assoc, Nat.reduceAdd, if_true, if_false, x_slot, if_pos ha, x_range, if_neg hb, vk_eq hy]
      all_goals rfl
    · rintro wr hm rfl
      refine ⟨Int32.ofInt 0, [], 0, 0, ?_, by omega, by omega⟩
      have hl := y_lstep2 (X := X) (d := d + 26) hm hk1 ha hb
      simp (disch := first | exact nl_i | exact nl_r | exact nl_0 | exact nl_n | exact nl_x | exact kd_r | exact kd_n | exact kd_x | exact kd_o | exact cats0 | exact cats1 | exact cats2 | exact cats3 | exact cats4 | exact nr_i | exact nr_l | exact nr_z0 | exact nr_z1 | exact ft_i | exact ft_l | omega | rfl | assumption | (refine i_ne0 ?_ ?_ ?_ <;> omega) | (refine j_ne0 ?_ ?_ ?_ <;> omega) | (refine i_new ?_ ?_ <;> omega)) only [n_X11_stepY, q_X11_stepY_0, q_X11_stepY_1, q_X11_stepY_2, q_X11_stepY_3, q_X11_stepY_6, q_X11_stepY_9, q_X11_stepY_10, q_X11_stepY_13, q_X11_stepY_14, q_X11_stepY_15, q_X11_stepY_18, q_X11_stepY_19, q_X11_stepY_20, q_X11_stepY_21, q_X11_stepY_22, q_X11_stepY_23, q_X11_stepY_24, q_X11_stepY_25, i_add, i_sub, i_mul, i_neg, i_lt, i_le, i_eq, i_tm, i_div, i_j, j_i, j_add, j_sub, j_mul, j_neg, j_lt, j_le, j_eq, j_div, c_lt, c_le, c_gt, c_ge, c_eq, i_nat, rz_k, Nat.add_zero, Nat.zero_add, Nat.add_assoc, Nat.reduceAdd, if_true, if_false, hl, vk_eq hm, List.append_nil, Int.reduceEq, not_false_eq_true, not_true_eq_false]
      all_goals rfl
  have hi := hS s.toNat (by omega)
  have hgr := x_gridIn (X := X) (d := d + 27) hy g1 ha.1 ha.2
  cases hg : G s.toNat with
  | none =>
    rw [hg] at hi hgr
    refine ag_thr0 (c1 := 1) (s1 := 6) 2 rfl hv hm ?_ ?_
    · simp (disch := first | exact nl_i | exact nl_r | exact nl_0 | exact nl_n | exact nl_x | exact kd_r | exact kd_n | exact kd_x | exact kd_o | exact cats0 | exact cats1 | exact cats2 | exact cats3 | exact cats4 | exact nr_i | exact nr_l | exact nr_z0 | exact nr_z1 | exact ft_i | exact ft_l | omega | rfl | assumption | (refine i_ne0 ?_ ?_ ?_ <;> omega) | (refine j_ne0 ?_ ?_ ?_ <;> omega) | (refine i_new ?_ ?_ <;> omega)) only [n_X10_stepY, q_X10_stepY_0, q_X10_stepY_1, q_X10_stepY_4, q_X10_stepY_5, q_X10_stepY_6, q_X10_stepY_8, q_X10_stepY_11, q_X10_stepY_12, q_X10_stepY_13, q_X10_stepY_14, q_X10_stepY_17, q_X10_stepY_20, q_X10_stepY_21, q_X10_stepY_24, q_X10_stepY_25, q_X10_stepY_28, i_add, i_sub, i_mul, i_neg, i_lt, i_le, i_eq, i_tm, i_div, i_j, j_i, j_add, j_sub, j_mul, j_neg, j_lt, j_le, j_eq, j_div, c_lt, c_le, c_gt, c_ge, c_eq, i_nat, rz_k, Nat.add_zero, Nat.zero_add, Nat.add_assoc, Nat.reduceAdd, if_true, if_false, x_slot, if_pos ha, x_range, if_pos hb, hgr, vk_eq hy]
      all_goals rfl
    · rintro wr hm rfl
      refine ⟨Int32.ofInt 0, [], 0, 0, ?_, by omega, by omega⟩
      have hl := y_lstep3 (X := X) (d := d + 26) hm g33 hk1 ha hb hi
      simp (disch := first | exact nl_i | exact nl_r | exact nl_0 | exact nl_n | exact nl_x | exact kd_r | exact kd_n | exact kd_x | exact kd_o | exact cats0 | exact cats1 | exact cats2 | exact cats3 | exact cats4 | exact nr_i | exact nr_l | exact nr_z0 | exact nr_z1 | exact ft_i | exact ft_l | omega | rfl | assumption | (refine i_ne0 ?_ ?_ ?_ <;> omega) | (refine j_ne0 ?_ ?_ ?_ <;> omega) | (refine i_new ?_ ?_ <;> omega)) only [n_X11_stepY, q_X11_stepY_0, q_X11_stepY_1, q_X11_stepY_2, q_X11_stepY_3, q_X11_stepY_6, q_X11_stepY_9, q_X11_stepY_10, q_X11_stepY_13, q_X11_stepY_14, q_X11_stepY_15, q_X11_stepY_18, q_X11_stepY_19, q_X11_stepY_20, q_X11_stepY_21, q_X11_stepY_22, q_X11_stepY_23, q_X11_stepY_24, q_X11_stepY_25, i_add, i_sub, i_mul, i_neg, i_lt, i_le, i_eq, i_tm, i_div, i_j, j_i, j_add, j_sub, j_mul, j_neg, j_lt, j_le, j_eq, j_div, c_lt, c_le, c_gt, c_ge, c_eq, i_nat, rz_k, Nat.add_zero, Nat.zero_add, Nat.add_assoc, Nat.reduceAdd, if_true, if_false, hl, vk_eq hm, List.append_nil, Int.reduceEq, not_false_eq_true, not_true_eq_false]
      all_goals rfl
  | some g =>
    rw [hg] at hi hgr
    obtain ⟨hh, hg49, a, b, c, hr, ho, ea, eb, ec⟩ := hi
    obtain ⟨r1, r2, r3, r4, hrr, -⟩ := zr_grid hr
    obtain ⟨w1, r, e1, f1, hmi1, hs1', hI, hl, hbd⟩ := x_listSteps (X := X) (d := d + 24) hy hmi ho hg49 hr hrr
    obtain ⟨k, rfl⟩ := Int.eq_ofNat_of_zero_le hb.1
    obtain ⟨q, hq⟩ := zt_all hl
    have hk20 : k < 20 := by omega
    have hqk := hq k hk20
    have kx := x_sy (X := X) (d := d + 27) hs1' hk20 hqk
    have hy1 : v_yard w1 kp := fr_get f1 (by decide) hy
    obtain ⟨L, P, Q, h5, -⟩ := id hs1'
    refine ag_ret (S1 := [4, 5, 6, 7, 8]) (S2 := []) (c1 := 0) (s1 := 0) (r := Int32.ofInt (q k).2) hv hm ?_ f1 (by decide) hmi1 (by simp) (fun h => by cases h) ?_
    · simp (disch := first | exact nl_i | exact nl_r | exact nl_0 | exact nl_n | exact nl_x | exact kd_r | exact kd_n | exact kd_x | exact kd_o | exact cats0 | exact cats1 | exact cats2 | exact cats3 | exact cats4 | exact nr_i | exact nr_l | exact nr_z0 | exact nr_z1 | exact ft_i | exact ft_l | omega | rfl | assumption | (refine i_ne0 ?_ ?_ ?_ <;> omega) | (refine j_ne0 ?_ ?_ ?_ <;> omega) | (refine i_new ?_ ?_ <;> omega)) only [n_X10_stepY, q_X10_stepY_0, q_X10_stepY_1, q_X10_stepY_4, q_X10_stepY_5, q_X10_stepY_6, q_X10_stepY_8, q_X10_stepY_11, q_X10_stepY_12, q_X10_stepY_13, q_X10_stepY_14, q_X10_stepY_17, q_X10_stepY_20, q_X10_stepY_21, q_X10_stepY_24, q_X10_stepY_25, q_X10_stepY_28, i_add, i_sub, i_mul, i_neg, i_lt, i_le, i_eq, i_tm, i_div, i_j, j_i, j_add, j_sub, j_mul, j_neg, j_lt, j_le, j_eq, j_div, c_lt, c_le, c_gt, c_ge, c_eq, i_nat, rz_k, Nat.add_zero, Nat.zero_add, Nat.add_assoc, Nat.reduceAdd, if_true, if_false, x_slot, if_pos ha, x_range, if_pos hb, hgr, vk_eq hy, vk_eq hy1, e1, gf_eq hy1, List.getElem?_cons_zero, List.getElem?_cons_succ, vk_eq h5, kx]
    · intro wr hf hmr hv'
      have hl0 := y_lstep0 (X := X) (d := d + 26) hmr (fr_get hf (by decide) g33) hk1 ha hb hh
      have hm1 := v_mo (t := 0) hmr
      have fa : rz_fr [32] wr (wr.set 32 (rz_mo kp tl kd ty cl 0)) := fr_set (by decide)
      have ff : rz_fr [48, 4, 5, 6, 7, 8, 32] w (wr.set 32 (rz_mo kp tl kd ty cl 0)) := fr_trans (fr_sub hf (by decide)) (fr_sub fa (by decide))
      obtain ⟨l, p, F, e2, hF, hrp⟩ := y_stepsOf (X := X) (d := d + 26) hm1 (fr_get ff (by decide) g34) (fr_get ff (by decide) g35) (fr_get ff (by decide) g36) ha ea eb ec hr hrr hI hl
      have fb : rz_fr [32] wr (wr.set 32 (rz_mo kp tl kd ty cl 0) ++ l) := fr_trans fa fr_app
      have hz := zt_rp_at r hrp k _ hqk
      have t : (2 * (k : Int) + 1).toNat = 2 * k + 1 := by omega
      refine ⟨wr.set 32 (rz_mo kp tl kd ty cl 0) ++ l, 2, 46, ?_, fb, fr_get (S := []) fr_app (by simp) hm1, v_misc_fr fb (by decide) (v_inv_misc hv'), by omega, by omega⟩
      simp (disch := first | exact nl_i | exact nl_r | exact nl_0 | exact nl_n | exact nl_x | exact kd_r | exact kd_n | exact kd_x | exact kd_o | exact cats0 | exact cats1 | exact cats2 | exact cats3 | exact cats4 | exact nr_i | exact nr_l | exact nr_z0 | exact nr_z1 | exact ft_i | exact ft_l | omega | rfl | assumption | (refine i_ne0 ?_ ?_ ?_ <;> omega) | (refine j_ne0 ?_ ?_ ?_ <;> omega) | (refine i_new ?_ ?_ <;> omega)) only [n_X11_stepY, q_X11_stepY_0, q_X11_stepY_1, q_X11_stepY_2, q_X11_stepY_3, q_X11_stepY_6, q_X11_stepY_9, q_X11_stepY_10, q_X11_stepY_13, q_X11_stepY_14, q_X11_stepY_15, q_X11_stepY_18, q_X11_stepY_19, q_X11_stepY_20, q_X11_stepY_21, q_X11_stepY_22, q_X11_stepY_23, q_X11_stepY_24, q_X11_stepY_25, i_add, i_sub, i_mul, i_neg, i_lt, i_le, i_eq, i_tm, i_div, i_j, j_i, j_add, j_sub, j_mul, j_neg, j_lt, j_le, j_eq, j_div, c_lt, c_le, c_gt, c_ge, c_eq, i_nat, rz_k, Nat.add_zero, Nat.zero_add, Nat.add_assoc, Nat.reduceAdd, if_true, if_false, hl0, vk_eq hmr, vk_eq hm1, e2, al_eq hF, t, hz.2, Int.reduceEq, not_false_eq_true, not_true_eq_false]
theorem l_ysec {F : Nat → Int64} {p : Nat} {i1 : Int32} {r : Nat → Int × Int} (hF : v_la w p 42 F) (hr : ∀ k, k < 20 → F (2 * k) = Int64.ofInt (r k).1 ∧ F (2 * k + 1) = Int64.ofInt (r k).2 ∧ (r k).1.natAbs ≤ 100000000 ∧ (r k).2.natAbs ≤ 100000000) (n : Nat) : ∀ k : Nat, k + n = 20 → rz_G X d mz_X11_second 18 [some (.ref 32), some (.int i1), some (.ref p), some (.int (Int32.ofInt (k : Int)))] [] w nc ns = some (.inl (some (.int (Int32.ofInt (zt_asI (zt_as2 r n k))))), w, nc, ns) := by
  obtain ⟨p0, q0, b1, b2⟩ := hr 0 (by omega)
  have p0 : F 0 = Int64.ofInt (r 0).1 := p0
  have q0 : F 1 = Int64.ofInt (r 0).2 := q0
  induction n with
  | zero =>
    intro k hk
    obtain rfl : k = 20 := by omega
    rw [q_X11_second_18]
    simp (disch := first | exact nl_i | exact nl_r | exact nl_0 | exact nl_n | exact nl_x | exact kd_r | exact kd_n | exact kd_x | exact kd_o | exact cats0 | exact cats1 | exact cats2 | exact cats3 | exact cats4 | exact nr_i | exact nr_l | exact nr_z0 | exact nr_z1 | exact ft_i | exact ft_l | omega | rfl | assumption | (refine i_ne0 ?_ ?_ ?_ <;> omega) | (refine j_ne0 ?_ ?_ ?_ <;> omega) | (refine i_new ?_ ?_ <;> omega) | (refine bl_t ?_; with_unfolding_all rfl) | exact ft_z0 | exact ft_z1) only [q_X11_second_19, q_X11_second_21, q_X11_second_24, q_X11_second_25, q_X11_second_26, q_X11_second_27, q_X11_second_28, q_X11_second_29, q_X11_second_30, q_X11_second_31, q_X11_second_32, q_X11_second_33, q_X11_second_34, q_X11_second_35, q_X11_second_36, q_X11_second_37, q_X11_second_38, q_X11_second_39, q_X11_second_40, q_X11_second_41, q_X11_second_42, q_X11_second_43, q_X11_second_44, q_X11_second_45, q_X11_second_48, q_X11_second_49, q_X11_second_50, q_X11_second_53, q_X11_second_56, q_X11_second_57, i_add, i_sub, i_mul, i_neg, i_lt, i_le, i_eq, i_tm, i_div, i_j, j_i, j_add, j_sub, j_mul, j_neg, j_lt, j_le, j_eq, j_div, c_lt, c_le, c_gt, c_ge, c_eq, i_nat, rz_k, Nat.add_zero, Nat.zero_add, Nat.add_assoc, Nat.reduceAdd, if_true, if_false, if_pos (show 20 ≤ ((20 : Nat) : Int) by omega)]
    rfl
  | succ n ih =>
    intro k hk
    obtain ⟨pk, qk, b3, b4⟩ := hr k (by omega)
    have n1 := z_nmul b1 b4
    have n2 := z_nmul b2 b3
    have t1 : (2 * (k : Int)).toNat = 2 * k := by omega
    have t2 : (2 * (k : Int) + 1).toNat = 2 * k + 1 := by omega
    rw [q_X11_second_18]
    unfold zt_as2
    by_cases c : (r 0).1 * (r k).2 = (r 0).2 * (r k).1
    · rw [if_pos c, ← ih (k + 1) (by omega)]
      simp (disch := first | exact nl_i | exact nl_r | exact nl_0 | exact nl_n | exact nl_x | exact kd_r | exact kd_n | exact kd_x | exact kd_o | exact cats0 | exact cats1 | exact cats2 | exact cats3 | exact cats4 | exact nr_i | exact nr_l | exact nr_z0 | exact nr_z1 | exact ft_i | exact ft_l | omega | rfl | assumption | (refine i_ne0 ?_ ?_ ?_ <;> omega) | (refine j_ne0 ?_ ?_ ?_ <;> omega) | (refine i_new ?_ ?_ <;> omega) | (refine bl_t ?_; with_unfolding_all rfl) | exact ft_z0 | exact ft_z1) only [q_X11_second_19, q_X11_second_21, q_X11_second_24, q_X11_second_25, q_X11_second_26, q_X11_second_27, q_X11_second_28, q_X11_second_29, q_X11_second_30, q_X11_second_31, q_X11_second_32, q_X11_second_33, q_X11_second_34, q_X11_second_35, q_X11_second_36, q_X11_second_37, q_X11_second_38, q_X11_second_39, q_X11_second_40, q_X11_second_41, q_X11_second_42, q_X11_second_43, q_X11_second_44, q_X11_second_45, q_X11_second_48, q_X11_second_49, q_X11_second_50, q_X11_second_53, q_X11_second_56, q_X11_second_57, i_add, i_sub, i_mul, i_neg, i_lt, i_le, i_eq, i_tm, i_div, i_j, j_i, j_add, j_sub, j_mul, j_neg, j_lt, j_le, j_eq, j_div, c_lt, c_le, c_gt, c_ge, c_eq, i_nat, rz_k, Nat.add_zero, Nat.zero_add, Nat.add_assoc, Nat.reduceAdd, if_true, if_false, if_neg (show ¬ 20 ≤ (k : Int) by omega), al_eq hF, Int.reduceToNat, t1, t2, p0, q0, pk, qk, eq_true c]
      rfl
    · rw [if_neg c]
      simp (disch := first | exact nl_i | exact nl_r | exact nl_0 | exact nl_n | exact nl_x | exact kd_r | exact kd_n | exact kd_x | exact kd_o | exact cats0 | exact cats1 | exact cats2 | exact cats3 | exact cats4 | exact nr_i | exact nr_l | exact nr_z0 | exact nr_z1 | exact ft_i | exact ft_l | omega | rfl | assumption | (refine i_ne0 ?_ ?_ ?_ <;> omega) | (refine j_ne0 ?_ ?_ ?_ <;> omega) | (refine i_new ?_ ?_ <;> omega) | (refine bl_t ?_; with_unfolding_all rfl) | exact ft_z0 | exact ft_z1) only [q_X11_second_19, q_X11_second_21, q_X11_second_24, q_X11_second_25, q_X11_second_26, q_X11_second_27, q_X11_second_28, q_X11_second_29, q_X11_second_30, q_X11_second_31, q_X11_second_32, q_X11_second_33, q_X11_second_34, q_X11_second_35, q_X11_second_36, q_X11_second_37, q_X11_second_38, q_X11_second_39, q_X11_second_40, q_X11_second_41, q_X11_second_42, q_X11_second_43, q_X11_second_44, q_X11_second_45, q_X11_second_48, q_X11_second_49, q_X11_second_50, q_X11_second_53, q_X11_second_56, q_X11_second_57, i_add, i_sub, i_mul, i_neg, i_lt, i_le, i_eq, i_tm, i_div, i_j, j_i, j_add, j_sub, j_mul, j_neg, j_lt, j_le, j_eq, j_div, c_lt, c_le, c_gt, c_ge, c_eq, i_nat, rz_k, Nat.add_zero, Nat.zero_add, Nat.add_assoc, Nat.reduceAdd, if_true, if_false, if_neg (show ¬ 20 ≤ (k : Int) by omega), al_eq hF, Int.reduceToNat, t1, t2, p0, q0, pk, qk, eq_false c]
      rfl
theorem ag_second {s : Int} (hs1 : -2147483648 ≤ s ∧ s ≤ 2147483647) (hv : v_inv w) : rz_ag X d 119 207 false [.int (Int32.ofInt s)] ["java/lang/IndexOutOfBoundsException", "java/util/NoSuchElementException"] w := by
  obtain ⟨kp, tl, kd, ty, cl, th, hy, hm, hs, ht, hp, hq, hmi⟩ := id hv
  obtain ⟨G, KG, H, KH, KS, KT, A, B, C, KA, KB, KC, ⟨g1, g2, g3, g33, g34, g35, g36, g37, g38, g39, g40, g41⟩, hk, hS, hK⟩ := id hs
  by_cases ha : 0 ≤ s ∧ s ≤ 7
  case neg =>
    refine ag_thr0 (c1 := 1) (s1 := 6) 0 rfl hv hm ?_ ?_
    · simp (disch := first | exact nl_i | exact nl_r | exact nl_0 | exact nl_n | exact nl_x | exact kd_r | exact kd_n | exact kd_x | exact kd_o | exact cats0 | exact cats1 | exact cats2 | exact cats3 | exact cats4 | exact nr_i | exact nr_l | exact nr_z0 | exact nr_z1 | exact ft_i | exact ft_l | omega | rfl | assumption | (refine i_ne0 ?_ ?_ ?_ <;> omega) | (refine j_ne0 ?_ ?_ ?_ <;> omega) | (refine i_new ?_ ?_ <;> omega)) only [n_X10_second, q_X10_second_0, q_X10_second_1, q_X10_second_4, q_X10_second_5, q_X10_second_6, q_X10_second_7, q_X10_second_10, q_X10_second_13, q_X10_second_14, q_X10_second_17, q_X10_second_20, i_add, i_sub, i_mul, i_neg, i_lt, i_le, i_eq, i_tm, i_div, i_j, j_i, j_add, j_sub, j_mul, j_neg, j_lt, j_le, j_eq, j_div, c_lt, c_le, c_gt, c_ge, c_eq, i_nat, rz_k, Nat.add_zero, Nat.zero_add, Nat.add_assoc, Nat.reduceAdd, if_true, if_false, x_slot, if_neg ha, vk_eq hy]
      all_goals rfl
    · rintro wr hm rfl
      refine ⟨Int32.ofInt 0, [], 0, 0, ?_, by omega, by omega⟩
      have hl := y_lacks2 (X := X) (d := d + 26) hm hs1.1 hs1.2 ha
      simp (disch := first | exact nl_i | exact nl_r | exact nl_0 | exact nl_n | exact nl_x | exact kd_r | exact kd_n | exact kd_x | exact kd_o | exact cats0 | exact cats1 | exact cats2 | exact cats3 | exact cats4 | exact nr_i | exact nr_l | exact nr_z0 | exact nr_z1 | exact ft_i | exact ft_l | omega | rfl | assumption | (refine i_ne0 ?_ ?_ ?_ <;> omega) | (refine j_ne0 ?_ ?_ ?_ <;> omega) | (refine i_new ?_ ?_ <;> omega)) only [n_X11_second, q_X11_second_0, q_X11_second_1, q_X11_second_2, q_X11_second_5, q_X11_second_8, q_X11_second_9, q_X11_second_10, q_X11_second_11, q_X11_second_12, q_X11_second_15, q_X11_second_16, q_X11_second_17, q_X11_second_19, q_X11_second_21, q_X11_second_24, q_X11_second_25, q_X11_second_26, q_X11_second_27, q_X11_second_28, q_X11_second_29, q_X11_second_30, q_X11_second_31, q_X11_second_32, q_X11_second_33, q_X11_second_34, q_X11_second_35, q_X11_second_36, q_X11_second_37, q_X11_second_38, q_X11_second_39, q_X11_second_40, q_X11_second_41, q_X11_second_42, q_X11_second_43, q_X11_second_44, q_X11_second_45, q_X11_second_48, q_X11_second_49, q_X11_second_50, q_X11_second_53, q_X11_second_56, q_X11_second_57, i_add, i_sub, i_mul, i_neg, i_lt, i_le, i_eq, i_tm, i_div, i_j, j_i, j_add, j_sub, j_mul, j_neg, j_lt, j_le, j_eq, j_div, c_lt, c_le, c_gt, c_ge, c_eq, i_nat, rz_k, Nat.add_zero, Nat.zero_add, Nat.add_assoc, Nat.reduceAdd, if_true, if_false, hl, vk_eq hm, List.append_nil, Int.reduceEq, not_false_eq_true, not_true_eq_false]
      all_goals rfl
  have hi := hS s.toNat (by omega)
  have hgr := x_gridIn (X := X) (d := d + 27) hy g1 ha.1 ha.2
  cases hg : G s.toNat with
  | none =>
    rw [hg] at hi hgr
    refine ag_thr0 (c1 := 1) (s1 := 6) 1 rfl hv hm ?_ ?_
    · simp (disch := first | exact nl_i | exact nl_r | exact nl_0 | exact nl_n | exact nl_x | exact kd_r | exact kd_n | exact kd_x | exact kd_o | exact cats0 | exact cats1 | exact cats2 | exact cats3 | exact cats4 | exact nr_i | exact nr_l | exact nr_z0 | exact nr_z1 | exact ft_i | exact ft_l | omega | rfl | assumption | (refine i_ne0 ?_ ?_ ?_ <;> omega) | (refine j_ne0 ?_ ?_ ?_ <;> omega) | (refine i_new ?_ ?_ <;> omega)) only [n_X10_second, q_X10_second_0, q_X10_second_1, q_X10_second_4, q_X10_second_5, q_X10_second_6, q_X10_second_7, q_X10_second_10, q_X10_second_13, q_X10_second_14, q_X10_second_17, q_X10_second_20, i_add, i_sub, i_mul, i_neg, i_lt, i_le, i_eq, i_tm, i_div, i_j, j_i, j_add, j_sub, j_mul, j_neg, j_lt, j_le, j_eq, j_div, c_lt, c_le, c_gt, c_ge, c_eq, i_nat, rz_k, Nat.add_zero, Nat.zero_add, Nat.add_assoc, Nat.reduceAdd, if_true, if_false, x_slot, if_pos ha, hgr, vk_eq hy]
      all_goals rfl
    · rintro wr hm rfl
      refine ⟨Int32.ofInt 0, [], 0, 0, ?_, by omega, by omega⟩
      have hl := y_lacks1 (X := X) (d := d + 26) hm g33 ha.1 ha.2 hi
      simp (disch := first | exact nl_i | exact nl_r | exact nl_0 | exact nl_n | exact nl_x | exact kd_r | exact kd_n | exact kd_x | exact kd_o | exact cats0 | exact cats1 | exact cats2 | exact cats3 | exact cats4 | exact nr_i | exact nr_l | exact nr_z0 | exact nr_z1 | exact ft_i | exact ft_l | omega | rfl | assumption | (refine i_ne0 ?_ ?_ ?_ <;> omega) | (refine j_ne0 ?_ ?_ ?_ <;> omega) | (refine i_new ?_ ?_ <;> omega)) only [n_X11_second, q_X11_second_0, q_X11_second_1, q_X11_second_2, q_X11_second_5, q_X11_second_8, q_X11_second_9, q_X11_second_10, q_X11_second_11, q_X11_second_12, q_X11_second_15, q_X11_second_16, q_X11_second_17, q_X11_second_19, q_X11_second_21, q_X11_second_24, q_X11_second_25, q_X11_second_26, q_X11_second_27, q_X11_second_28, q_X11_second_29, q_X11_second_30, q_X11_second_31, q_X11_second_32, q_X11_second_33, q_X11_second_34, q_X11_second_35, q_X11_second_36, q_X11_second_37, q_X11_second_38, q_X11_second_39, q_X11_second_40, q_X11_second_41, q_X11_second_42, q_X11_second_43, q_X11_second_44, q_X11_second_45, q_X11_second_48, q_X11_second_49, q_X11_second_50, q_X11_second_53, q_X11_second_56, q_X11_second_57, i_add, i_sub, i_mul, i_neg, i_lt, i_le, i_eq, i_tm, i_div, i_j, j_i, j_add, j_sub, j_mul, j_neg, j_lt, j_le, j_eq, j_div, c_lt, c_le, c_gt, c_ge, c_eq, i_nat, rz_k, Nat.add_zero, Nat.zero_add, Nat.add_assoc, Nat.reduceAdd, if_true, if_false, hl, vk_eq hm, List.append_nil, Int.reduceEq, not_false_eq_true, not_true_eq_false]
      all_goals rfl
  | some g =>
    rw [hg] at hi hgr
    obtain ⟨hh, hg49, a, b, c, hr, ho, ea, eb, ec⟩ := hi
    obtain ⟨r1, r2, r3, r4, hrr, -⟩ := zr_grid hr
    obtain ⟨w1, r, e1, f1, hmi1, hs1', hI, hl, hbd⟩ := x_listSteps (X := X) (d := d + 24) hy hmi ho hg49 hr hrr
    obtain ⟨q, hq⟩ := zt_all hl
    have kx := x_aside (X := X) (d := d + 27) hs1' hbd hq
    have hy1 : v_yard w1 kp := fr_get f1 (by decide) hy
    obtain ⟨L, P, Q, h5, -⟩ := id hs1'
    refine ag_ret (S1 := [4, 5, 6, 7, 8]) (S2 := []) (c1 := 0) (s1 := 0) (r := Int32.ofInt (zt_asI (zt_as2 q 19 1))) hv hm ?_ f1 (by decide) hmi1 (by simp) (fun h => by cases h) ?_
    · simp (disch := first | exact nl_i | exact nl_r | exact nl_0 | exact nl_n | exact nl_x | exact kd_r | exact kd_n | exact kd_x | exact kd_o | exact cats0 | exact cats1 | exact cats2 | exact cats3 | exact cats4 | exact nr_i | exact nr_l | exact nr_z0 | exact nr_z1 | exact ft_i | exact ft_l | omega | rfl | assumption | (refine i_ne0 ?_ ?_ ?_ <;> omega) | (refine j_ne0 ?_ ?_ ?_ <;> omega) | (refine i_new ?_ ?_ <;> omega)) only [n_X10_second, q_X10_second_0, q_X10_second_1, q_X10_second_4, q_X10_second_5, q_X10_second_6, q_X10_second_7, q_X10_second_10, q_X10_second_13, q_X10_second_14, q_X10_second_17, q_X10_second_20, i_add, i_sub, i_mul, i_neg, i_lt, i_le, i_eq, i_tm, i_div, i_j, j_i, j_add, j_sub, j_mul, j_neg, j_lt, j_le, j_eq, j_div, c_lt, c_le, c_gt, c_ge, c_eq, i_nat, rz_k, Nat.add_zero, Nat.zero_add, Nat.add_assoc, Nat.reduceAdd, if_true, if_false, x_slot, if_pos ha, hgr, vk_eq hy, vk_eq hy1, e1, gf_eq hy1, List.getElem?_cons_zero, List.getElem?_cons_succ, vk_eq h5, kx]
    · intro wr hf hmr hv'
      have hl0 := y_lacks0 (X := X) (d := d + 26) hmr (fr_get hf (by decide) g33) ha.1 ha.2 hh
      have hm1 := v_mo (t := 0) hmr
      have fa : rz_fr [32] wr (wr.set 32 (rz_mo kp tl kd ty cl 0)) := fr_set (by decide)
      have ff : rz_fr [48, 4, 5, 6, 7, 8, 32] w (wr.set 32 (rz_mo kp tl kd ty cl 0)) := fr_trans (fr_sub hf (by decide)) (fr_sub fa (by decide))
      obtain ⟨l, p, F, e2, hF, hrp⟩ := y_stepsOf (X := X) (d := d + 26) hm1 (fr_get ff (by decide) g34) (fr_get ff (by decide) g35) (fr_get ff (by decide) g36) ha ea eb ec hr hrr hI hl
      have fb : rz_fr [32] wr (wr.set 32 (rz_mo kp tl kd ty cl 0) ++ l) := fr_trans fa fr_app
      have hls := l_ysec (X := X) (d := d + 29) (nc := 2) (ns := 46) (i1 := Int32.ofInt s) (r := q) hF (fun k hk => by
        have z := zt_rp_at r hrp k _ (hq k hk)
        have := hbd (q k) (List.mem_reverse.mp (List.mem_of_getElem? (hq k hk)))
        exact ⟨z.1, z.2, this.1, this.2⟩) 19 1 rfl
      refine ⟨wr.set 32 (rz_mo kp tl kd ty cl 0) ++ l, 2, 46, ?_, fb, fr_get (S := []) fr_app (by simp) hm1, v_misc_fr fb (by decide) (v_inv_misc hv'), by omega, by omega⟩
      rw [← hls]
      simp (disch := first | exact nl_i | exact nl_r | exact nl_0 | exact nl_n | exact nl_x | exact kd_r | exact kd_n | exact kd_x | exact kd_o | exact cats0 | exact cats1 | exact cats2 | exact cats3 | exact cats4 | exact nr_i | exact nr_l | exact nr_z0 | exact nr_z1 | exact ft_i | exact ft_l | omega | rfl | assumption | (refine i_ne0 ?_ ?_ ?_ <;> omega) | (refine j_ne0 ?_ ?_ ?_ <;> omega) | (refine i_new ?_ ?_ <;> omega)) only [n_X11_second, q_X11_second_0, q_X11_second_1, q_X11_second_2, q_X11_second_5, q_X11_second_8, q_X11_second_9, q_X11_second_10, q_X11_second_11, q_X11_second_12, q_X11_second_15, q_X11_second_16, q_X11_second_17, i_add, i_sub, i_mul, i_neg, i_lt, i_le, i_eq, i_tm, i_div, i_j, j_i, j_add, j_sub, j_mul, j_neg, j_lt, j_le, j_eq, j_div, c_lt, c_le, c_gt, c_ge, c_eq, i_nat, rz_k, Nat.add_zero, Nat.zero_add, Nat.add_assoc, Nat.reduceAdd, if_true, if_false, hl0, vk_eq hmr, vk_eq hm1, e2, Int.reduceEq, not_false_eq_true, not_true_eq_false]
      rfl
end RZSX
