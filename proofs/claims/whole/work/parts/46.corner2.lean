/-! part 46: level 2: corner, held -/
section RZC2
variable {X : rz_X} {d : Nat} {w : rz_W} {nc ns : Nat} {kp tl kd ty cl th : Int}
/-- the class's corner -/
theorem x_type {px py : Int} {P Q : Nat → Int32} {pa : Int32} (g18 : v_ob w 18 6 [.int (Int32.ofInt ty), .int (Int32.ofInt cl), .ref 19, .ref 22, .ref 23, .ref 24, .ref 25, .int pa]) (g22 : v_ia w 22 12 P) (g23 : v_ia w 23 12 Q) (h1 : 0 ≤ ty) (h2 : ty < 12) : rz_ex X (d + 1) 51 [.ref 18, .int (Int32.ofInt px), .int (Int32.ofInt py)] w = some (.inl none, ((w.set 22 (.inl (.int, 12, .inl (upd P ty.toNat (Int32.ofInt px))))).set 23 (.inl (.int, 12, .inl (upd Q ty.toNat (Int32.ofInt py))))).set 18 (.inr (6, [.int (Int32.ofInt (ty + 1)), .int (Int32.ofInt 0), .ref 19, .ref 22, .ref 23, .ref 24, .ref 25, .int pa])), 0, 0) := by
  have l18 := w_lt g18
  have e1 : (w.set 22 (.inl (.int, 12, .inl (upd P ty.toNat (Int32.ofInt px)))))[23]? = some (.inl (.int, 12, .inl Q)) := (w_ne (by decide)).trans g23
  have e2 : ((w.set 22 (.inl (.int, 12, .inl (upd P ty.toNat (Int32.ofInt px))))).set 23 (.inl (.int, 12, .inl (upd Q ty.toNat (Int32.ofInt py)))))[18]? = some (.inr (6, [.int (Int32.ofInt ty), .int (Int32.ofInt cl), .ref 19, .ref 22, .ref 23, .ref 24, .ref 25, .int pa])) := (w_ne (by decide)).trans ((w_ne (by decide)).trans g18)
  simp (disch := first | exact nl_i | exact nl_r | exact nl_0 | exact nl_n | exact nl_x | exact kd_r | exact kd_n | exact kd_x | exact kd_o | exact cats0 | exact cats1 | exact cats2 | exact cats3 | exact cats4 | exact nr_i | exact nr_l | exact nr_z0 | exact nr_z1 | exact ft_i | exact ft_l | omega | rfl | assumption | (refine i_ne0 ?_ ?_ ?_ <;> omega) | (refine j_ne0 ?_ ?_ ?_ <;> omega) | (refine i_new ?_ ?_ <;> omega) | (refine bl_t ?_; with_unfolding_all rfl) | exact ft_z0 | exact ft_z1) only [n_X6_type, q_X6_type_0, q_X6_type_1, q_X6_type_4, q_X6_type_7, q_X6_type_8, q_X6_type_11, q_X6_type_13, q_X6_type_16, q_X6_type_17, q_X6_type_18, q_X6_type_21, q_X6_type_22, q_X6_type_25, q_X6_type_26, q_X6_type_27, q_X6_type_28, q_X6_type_31, q_X6_type_32, q_X6_type_35, q_X6_type_36, q_X6_type_37, q_X6_type_38, q_X6_type_38r, q_X6_type_39, q_X6_type_42, q_X6_type_43, q_X6_type_44, q_X6_type_47, q_X6_type_48, q_X6_type_49, q_X6_type_52, i_add, i_sub, i_mul, i_neg, i_lt, i_le, i_eq, i_tm, i_div, i_j, j_i, j_add, j_sub, j_mul, j_neg, j_lt, j_le, j_eq, j_div, c_lt, c_le, c_gt, c_ge, c_eq, i_nat, rz_k, Nat.add_zero, Nat.zero_add, Nat.add_assoc, Nat.reduceAdd, if_true, if_false, gf_eq g18, si_eq g22, gf_ne, si_eq e1, pf_eq e2, List.getElem?_cons_zero, List.getElem?_cons_succ, List.set_cons_zero, List.set_cons_succ]
  rw [if_neg (by omega), if_pos (by omega)]
  have l2 : 18 < ((w.set 22 (.inl (.int, 12, .inl (upd P ty.toNat (Int32.ofInt px))))).set 23 (.inl (.int, 12, .inl (upd Q ty.toNat (Int32.ofInt py))))).length := by simp only [List.length_set]; exact l18
  simp (disch := first | exact nl_i | exact nl_r | exact nl_0 | exact nl_n | exact nl_x | exact kd_r | exact kd_n | exact kd_x | exact kd_o | exact cats0 | exact cats1 | exact cats2 | exact cats3 | exact cats4 | exact nr_i | exact nr_l | exact nr_z0 | exact nr_z1 | exact ft_i | exact ft_l | omega | rfl | assumption | (refine i_ne0 ?_ ?_ ?_ <;> omega) | (refine j_ne0 ?_ ?_ ?_ <;> omega) | (refine i_new ?_ ?_ <;> omega) | (refine bl_t ?_; with_unfolding_all rfl) | exact ft_z0 | exact ft_z1) only [n_X6_type, q_X6_type_0, q_X6_type_1, q_X6_type_4, q_X6_type_7, q_X6_type_8, q_X6_type_11, q_X6_type_13, q_X6_type_16, q_X6_type_17, q_X6_type_18, q_X6_type_21, q_X6_type_22, q_X6_type_25, q_X6_type_26, q_X6_type_27, q_X6_type_28, q_X6_type_31, q_X6_type_32, q_X6_type_35, q_X6_type_36, q_X6_type_37, q_X6_type_38, q_X6_type_38r, q_X6_type_39, q_X6_type_42, q_X6_type_43, q_X6_type_44, q_X6_type_47, q_X6_type_48, q_X6_type_49, q_X6_type_52, i_add, i_sub, i_mul, i_neg, i_lt, i_le, i_eq, i_tm, i_div, i_j, j_i, j_add, j_sub, j_mul, j_neg, j_lt, j_le, j_eq, j_div, c_lt, c_le, c_gt, c_ge, c_eq, i_nat, rz_k, Nat.add_zero, Nat.zero_add, Nat.add_assoc, Nat.reduceAdd, if_true, if_false, gf_eq g18, si_eq g22, gf_ne, si_eq e1, pf_eq e2, pf_self, List.getElem?_cons_zero, List.getElem?_cons_succ, List.set_cons_zero, List.set_cons_succ]
/-- corner -/
theorem ag_corner {p q : Int} (hp1 : -2147483648 ≤ p ∧ p ≤ 2147483647) (hq1 : -2147483648 ≤ q ∧ q ≤ 2147483647) (hv : v_inv w) : rz_ag X d 132 228 false [.int (Int32.ofInt p), .int (Int32.ofInt q)] ["java/lang/IllegalArgumentException", "java/lang/IllegalStateException"] w := by
  obtain ⟨kp, tl, kd, ty, cl, th, hy, hm, hs, ht, hp, hq, hmi⟩ := id hv
  obtain ⟨px, py, P, Q, R, S, M, O, L, U, pa, pb, pc, ⟨g18, g19, g20, g21, g22, g23, g24, g25, g44, g45⟩, hty, hxy, hcl⟩ := id hq
  by_cases ha : -20 ≤ p ∧ p ≤ 20
  case neg =>
    have y1 := x_no0 (X := X) (d := d + 28) (k := 1) hm
    refine ag_thr0 (c1 := 1) (s1 := 6) 0 rfl hv hm ?_ ?_
    · simp (disch := first | exact nl_i | exact nl_r | exact nl_0 | exact nl_n | exact nl_x | exact kd_r | exact kd_n | exact kd_x | exact kd_o | exact cats0 | exact cats1 | exact cats2 | exact cats3 | exact cats4 | exact nr_i | exact nr_l | exact nr_z0 | exact nr_z1 | exact ft_i | exact ft_l | omega | rfl | assumption | (refine i_ne0 ?_ ?_ ?_ <;> omega) | (refine j_ne0 ?_ ?_ ?_ <;> omega) | (refine i_new ?_ ?_ <;> omega)) only [n_X10_corner, q_X10_corner_0, q_X10_corner_1, q_X10_corner_3, q_X10_corner_5, q_X10_corner_8, q_X10_corner_9, q_X10_corner_11, q_X10_corner_13, q_X10_corner_16, q_X10_corner_17, q_X10_corner_20, q_X10_corner_23, q_X10_corner_25, q_X10_corner_28, q_X10_corner_39, q_X10_corner_40, q_X10_corner_43, q_X10_corner_44, q_X10_corner_45, q_X10_corner_48, q_X10_corner_49, q_X10_corner_52, q_X10_corner_55, i_add, i_sub, i_mul, i_neg, i_lt, i_le, i_eq, i_tm, i_div, i_j, j_i, j_add, j_sub, j_mul, j_neg, j_lt, j_le, j_eq, j_div, c_lt, c_le, c_gt, c_ge, c_eq, i_nat, rz_k, Nat.add_zero, Nat.zero_add, Nat.add_assoc, Nat.reduceAdd, if_true, if_false, x_range, if_neg ha]
      rfl
    · rintro wr hm rfl
      refine ⟨Int32.ofInt 0, [], 0, 0, ?_, by omega, by omega⟩
      simp (disch := first | exact nl_i | exact nl_r | exact nl_0 | exact nl_n | exact nl_x | exact kd_r | exact kd_n | exact kd_x | exact kd_o | exact cats0 | exact cats1 | exact cats2 | exact cats3 | exact cats4 | exact nr_i | exact nr_l | exact nr_z0 | exact nr_z1 | exact ft_i | exact ft_l | omega | rfl | assumption | (refine i_ne0 ?_ ?_ ?_ <;> omega) | (refine j_ne0 ?_ ?_ ?_ <;> omega) | (refine i_new ?_ ?_ <;> omega)) only [n_X11_corner, q_X11_corner_0, q_X11_corner_1, q_X11_corner_2, q_X11_corner_4, q_X11_corner_6, q_X11_corner_9, q_X11_corner_12, q_X11_corner_13, q_X11_corner_15, q_X11_corner_17, q_X11_corner_20, q_X11_corner_23, q_X11_corner_24, q_X11_corner_27, q_X11_corner_28, q_X11_corner_29, q_X11_corner_32, q_X11_corner_35, q_X11_corner_36, q_X11_corner_37, q_X11_corner_40, q_X11_corner_42, q_X11_corner_45, q_X11_corner_46, q_X11_corner_49, q_X11_corner_50, q_X11_corner_51, q_X11_corner_54, q_X11_corner_57, q_X11_corner_58, q_X11_corner_59, q_X11_corner_60, q_X11_corner_63, q_X11_corner_64, q_X11_corner_67, q_X11_corner_68, q_X11_corner_69, q_X11_corner_70, q_X11_corner_73, q_X11_corner_74, q_X11_corner_77, q_X11_corner_78, q_X11_corner_79, q_X11_corner_80, q_X11_corner_80r, q_X11_corner_81, q_X11_corner_84, q_X11_corner_85, q_X11_corner_86, q_X11_corner_89, q_X11_corner_90, q_X11_corner_91, q_X11_corner_94, q_X11_corner_95, q_X11_corner_98, i_add, i_sub, i_mul, i_neg, i_lt, i_le, i_eq, i_tm, i_div, i_j, j_i, j_add, j_sub, j_mul, j_neg, j_lt, j_le, j_eq, j_div, c_lt, c_le, c_gt, c_ge, c_eq, i_nat, rz_k, Nat.add_zero, Nat.zero_add, Nat.add_assoc, Nat.reduceAdd, if_true, if_false, x_in, if_neg ha, y1, vk_eq hm, List.append_nil, Int.reduceEq, not_false_eq_true]
      all_goals rfl
  by_cases hb : -20 ≤ q ∧ q ≤ 20
  case neg =>
    have y1 := x_no0 (X := X) (d := d + 28) (k := 1) hm
    refine ag_thr0 (c1 := 1) (s1 := 6) 0 rfl hv hm ?_ ?_
    · simp (disch := first | exact nl_i | exact nl_r | exact nl_0 | exact nl_n | exact nl_x | exact kd_r | exact kd_n | exact kd_x | exact kd_o | exact cats0 | exact cats1 | exact cats2 | exact cats3 | exact cats4 | exact nr_i | exact nr_l | exact nr_z0 | exact nr_z1 | exact ft_i | exact ft_l | omega | rfl | assumption | (refine i_ne0 ?_ ?_ ?_ <;> omega) | (refine j_ne0 ?_ ?_ ?_ <;> omega) | (refine i_new ?_ ?_ <;> omega)) only [n_X10_corner, q_X10_corner_0, q_X10_corner_1, q_X10_corner_3, q_X10_corner_5, q_X10_corner_8, q_X10_corner_9, q_X10_corner_11, q_X10_corner_13, q_X10_corner_16, q_X10_corner_17, q_X10_corner_20, q_X10_corner_23, q_X10_corner_25, q_X10_corner_28, q_X10_corner_39, q_X10_corner_40, q_X10_corner_43, q_X10_corner_44, q_X10_corner_45, q_X10_corner_48, q_X10_corner_49, q_X10_corner_52, q_X10_corner_55, i_add, i_sub, i_mul, i_neg, i_lt, i_le, i_eq, i_tm, i_div, i_j, j_i, j_add, j_sub, j_mul, j_neg, j_lt, j_le, j_eq, j_div, c_lt, c_le, c_gt, c_ge, c_eq, i_nat, rz_k, Nat.add_zero, Nat.zero_add, Nat.add_assoc, Nat.reduceAdd, if_true, if_false, x_range, if_pos ha, if_neg hb]
      rfl
    · rintro wr hm rfl
      refine ⟨Int32.ofInt 0, [], 0, 0, ?_, by omega, by omega⟩
      simp (disch := first | exact nl_i | exact nl_r | exact nl_0 | exact nl_n | exact nl_x | exact kd_r | exact kd_n | exact kd_x | exact kd_o | exact cats0 | exact cats1 | exact cats2 | exact cats3 | exact cats4 | exact nr_i | exact nr_l | exact nr_z0 | exact nr_z1 | exact ft_i | exact ft_l | omega | rfl | assumption | (refine i_ne0 ?_ ?_ ?_ <;> omega) | (refine j_ne0 ?_ ?_ ?_ <;> omega) | (refine i_new ?_ ?_ <;> omega)) only [n_X11_corner, q_X11_corner_0, q_X11_corner_1, q_X11_corner_2, q_X11_corner_4, q_X11_corner_6, q_X11_corner_9, q_X11_corner_12, q_X11_corner_13, q_X11_corner_15, q_X11_corner_17, q_X11_corner_20, q_X11_corner_23, q_X11_corner_24, q_X11_corner_27, q_X11_corner_28, q_X11_corner_29, q_X11_corner_32, q_X11_corner_35, q_X11_corner_36, q_X11_corner_37, q_X11_corner_40, q_X11_corner_42, q_X11_corner_45, q_X11_corner_46, q_X11_corner_49, q_X11_corner_50, q_X11_corner_51, q_X11_corner_54, q_X11_corner_57, q_X11_corner_58, q_X11_corner_59, q_X11_corner_60, q_X11_corner_63, q_X11_corner_64, q_X11_corner_67, q_X11_corner_68, q_X11_corner_69, q_X11_corner_70, q_X11_corner_73, q_X11_corner_74, q_X11_corner_77, q_X11_corner_78, q_X11_corner_79, q_X11_corner_80, q_X11_corner_80r, q_X11_corner_81, q_X11_corner_84, q_X11_corner_85, q_X11_corner_86, q_X11_corner_89, q_X11_corner_90, q_X11_corner_91, q_X11_corner_94, q_X11_corner_95, q_X11_corner_98, i_add, i_sub, i_mul, i_neg, i_lt, i_le, i_eq, i_tm, i_div, i_j, j_i, j_add, j_sub, j_mul, j_neg, j_lt, j_le, j_eq, j_div, c_lt, c_le, c_gt, c_ge, c_eq, i_nat, rz_k, Nat.add_zero, Nat.zero_add, Nat.add_assoc, Nat.reduceAdd, if_true, if_false, x_in, if_pos ha, if_neg hb, y1, vk_eq hm, List.append_nil, Int.reduceEq, not_false_eq_true]
      all_goals rfl
  by_cases hc : ty < 12
  case neg =>
    refine ag_thr0 (c1 := 1) (s1 := 6) 1 rfl hv hm ?_ ?_
    · simp (disch := first | exact nl_i | exact nl_r | exact nl_0 | exact nl_n | exact nl_x | exact kd_r | exact kd_n | exact kd_x | exact kd_o | exact cats0 | exact cats1 | exact cats2 | exact cats3 | exact cats4 | exact nr_i | exact nr_l | exact nr_z0 | exact nr_z1 | exact ft_i | exact ft_l | omega | rfl | assumption | (refine i_ne0 ?_ ?_ ?_ <;> omega) | (refine j_ne0 ?_ ?_ ?_ <;> omega) | (refine i_new ?_ ?_ <;> omega)) only [n_X10_corner, q_X10_corner_0, q_X10_corner_1, q_X10_corner_3, q_X10_corner_5, q_X10_corner_8, q_X10_corner_9, q_X10_corner_11, q_X10_corner_13, q_X10_corner_16, q_X10_corner_17, q_X10_corner_20, q_X10_corner_23, q_X10_corner_25, q_X10_corner_28, q_X10_corner_39, q_X10_corner_40, q_X10_corner_43, q_X10_corner_44, q_X10_corner_45, q_X10_corner_48, q_X10_corner_49, q_X10_corner_52, q_X10_corner_55, i_add, i_sub, i_mul, i_neg, i_lt, i_le, i_eq, i_tm, i_div, i_j, j_i, j_add, j_sub, j_mul, j_neg, j_lt, j_le, j_eq, j_div, c_lt, c_le, c_gt, c_ge, c_eq, i_nat, rz_k, Nat.add_zero, Nat.zero_add, Nat.add_assoc, Nat.reduceAdd, if_true, if_false, x_range, if_pos ha, if_pos hb, gf_eq hy, gf_eq g18, List.getElem?_cons_zero, List.getElem?_cons_succ, if_neg hc]
    · rintro wr hm rfl
      refine ⟨Int32.ofInt 0, [], 0, 0, ?_, by omega, by omega⟩
      have y1 := x_no1 (X := X) (d := d + 28) (k := 1) hm
      have hm1 := v_mo (t := 0) hm
      have y2 := x_no0 (X := X) (d := d + 28) (k := 2) hm1
      rw [mo_mo] at y2
      simp (disch := first | exact nl_i | exact nl_r | exact nl_0 | exact nl_n | exact nl_x | exact kd_r | exact kd_n | exact kd_x | exact kd_o | exact cats0 | exact cats1 | exact cats2 | exact cats3 | exact cats4 | exact nr_i | exact nr_l | exact nr_z0 | exact nr_z1 | exact ft_i | exact ft_l | omega | rfl | assumption | (refine i_ne0 ?_ ?_ ?_ <;> omega) | (refine j_ne0 ?_ ?_ ?_ <;> omega) | (refine i_new ?_ ?_ <;> omega)) only [n_X11_corner, q_X11_corner_0, q_X11_corner_1, q_X11_corner_2, q_X11_corner_4, q_X11_corner_6, q_X11_corner_9, q_X11_corner_12, q_X11_corner_13, q_X11_corner_15, q_X11_corner_17, q_X11_corner_20, q_X11_corner_23, q_X11_corner_24, q_X11_corner_27, q_X11_corner_28, q_X11_corner_29, q_X11_corner_32, q_X11_corner_35, q_X11_corner_36, q_X11_corner_37, q_X11_corner_40, q_X11_corner_42, q_X11_corner_45, q_X11_corner_46, q_X11_corner_49, q_X11_corner_50, q_X11_corner_51, q_X11_corner_54, q_X11_corner_57, q_X11_corner_58, q_X11_corner_59, q_X11_corner_60, q_X11_corner_63, q_X11_corner_64, q_X11_corner_67, q_X11_corner_68, q_X11_corner_69, q_X11_corner_70, q_X11_corner_73, q_X11_corner_74, q_X11_corner_77, q_X11_corner_78, q_X11_corner_79, q_X11_corner_80, q_X11_corner_80r, q_X11_corner_81, q_X11_corner_84, q_X11_corner_85, q_X11_corner_86, q_X11_corner_89, q_X11_corner_90, q_X11_corner_91, q_X11_corner_94, q_X11_corner_95, q_X11_corner_98, i_add, i_sub, i_mul, i_neg, i_lt, i_le, i_eq, i_tm, i_div, i_j, j_i, j_add, j_sub, j_mul, j_neg, j_lt, j_le, j_eq, j_div, c_lt, c_le, c_gt, c_ge, c_eq, i_nat, rz_k, Nat.add_zero, Nat.zero_add, Nat.add_assoc, Nat.reduceAdd, if_true, if_false, x_in, if_pos ha, if_pos hb, y1, y2, vk_eq hm, vk_eq hm1, gf_eq hm1, List.getElem?_cons_zero, List.getElem?_cons_succ, if_pos (show 12 ≤ ty by omega), List.append_nil, Int.reduceEq, not_false_eq_true, not_true_eq_false]
      all_goals rfl
  obtain ⟨f, ho⟩ := v_inv_out hv
  have l18 := w_lt g18
  have l22 := w_lt g22
  have l23 := w_lt g23
  have l32 := w_lt hm
  have l44 := w_lt g44
  have l45 := w_lt g45
  have l48 := w_lt ho
  have hxt := x_type (X := X) (d := d + 27) (px := p) (py := q) g18 g22 g23 hty.1 hc
  generalize hw1 : ((w.set 22 (.inl (.int, 12, .inl (upd P ty.toNat (Int32.ofInt p))))).set 23 (.inl (.int, 12, .inl (upd Q ty.toNat (Int32.ofInt q))))).set 18 (.inr (6, [.int (Int32.ofInt (ty + 1)), .int (Int32.ofInt 0), .ref 19, .ref 22, .ref 23, .ref 24, .ref 25, .int pa])) = w1 at hxt
  have f1 : rz_fr [18, 22, 23] w w1 := by
    rw [← hw1]
    exact fr_trans (fr_set (by decide)) (fr_trans (fr_set (by decide)) (fr_set (by decide)))
  have k18 : v_ob w1 18 6 [.int (Int32.ofInt (ty + 1)), .int (Int32.ofInt 0), .ref 19, .ref 22, .ref 23, .ref 24, .ref 25, .int pa] := by
    rw [← hw1]
    exact w_eq (by simp only [List.length_set]; exact l18)
  have k22 : v_ia w1 22 12 (upd P ty.toNat (Int32.ofInt p)) := by
    rw [← hw1]
    exact (w_ne (by decide)).trans ((w_ne (by decide)).trans (w_eq l22))
  have k23 : v_ia w1 23 12 (upd Q ty.toNat (Int32.ofInt q)) := by
    rw [← hw1]
    exact (w_ne (by decide)).trans (w_eq (by simp only [List.length_set]; exact l23))
  have e1 : rz_ex X (d + 29) 132 [.ref 0, .int (Int32.ofInt p), .int (Int32.ofInt q)] w = some (.inl (some (.int (Int32.ofInt (ty + 1)))), w1, 0, 0) := by
    have hy1 : v_yard w1 kp := fr_get f1 (by decide) hy
    simp (disch := first | exact nl_i | exact nl_r | exact nl_0 | exact nl_n | exact nl_x | exact kd_r | exact kd_n | exact kd_x | exact kd_o | exact cats0 | exact cats1 | exact cats2 | exact cats3 | exact cats4 | exact nr_i | exact nr_l | exact nr_z0 | exact nr_z1 | exact ft_i | exact ft_l | omega | rfl | assumption | (refine i_ne0 ?_ ?_ ?_ <;> omega) | (refine j_ne0 ?_ ?_ ?_ <;> omega) | (refine i_new ?_ ?_ <;> omega)) only [n_X10_corner, q_X10_corner_0, q_X10_corner_1, q_X10_corner_3, q_X10_corner_5, q_X10_corner_8, q_X10_corner_9, q_X10_corner_11, q_X10_corner_13, q_X10_corner_16, q_X10_corner_17, q_X10_corner_20, q_X10_corner_23, q_X10_corner_25, q_X10_corner_28, q_X10_corner_39, q_X10_corner_40, q_X10_corner_43, q_X10_corner_44, q_X10_corner_45, q_X10_corner_48, q_X10_corner_49, q_X10_corner_52, q_X10_corner_55, i_add, i_sub, i_mul, i_neg, i_lt, i_le, i_eq, i_tm, i_div, i_j, j_i, j_add, j_sub, j_mul, j_neg, j_lt, j_le, j_eq, j_div, c_lt, c_le, c_gt, c_ge, c_eq, i_nat, rz_k, Nat.add_zero, Nat.zero_add, Nat.add_assoc, Nat.reduceAdd, if_true, if_false, x_range, if_pos ha, if_pos hb, gf_eq hy, gf_eq g18, vk_eq g18, List.getElem?_cons_zero, List.getElem?_cons_succ, if_pos hc, hxt, gf_eq hy1, gf_eq k18]
  have ho1 : v_la w1 48 1 f := fr_get f1 (by decide) ho
  have hm1 : v_model w1 kp tl kd ty cl th := fr_get f1 (by decide) hm
  generalize hw2 : w1.set 48 (.inl (.long, 1, .inr (.inl (vp_updL f 0 (Int32.ofInt (ty + 1)).toInt64)))) = w2
  have f2 : rz_fr [18, 22, 23, 48] w w2 := by
    rw [← hw2]
    exact fr_trans (fr_sub f1 (by decide)) (fr_set (by decide))
  have f12 : rz_fr [48] w1 w2 := by
    rw [← hw2]
    exact fr_set (by decide)
  have o2 : v_la w2 48 1 (vp_updL f 0 (Int32.ofInt (ty + 1)).toInt64) := by
    rw [← hw2]
    exact w_eq (w_lt ho1)
  have hm2 : v_model w2 kp tl kd ty cl th := fr_get f2 (by decide) hm
  have y1 := x_no1 (X := X) (d := d + 28) (k := 1) hm2
  have hm3 := v_mo (t := 0) hm2
  have y2 := x_no1 (X := X) (d := d + 28) (k := 2) hm3
  rw [mo_mo] at y2
  have f3 : rz_fr [18, 22, 23, 48, 32] w (w2.set 32 (rz_mo kp tl kd ty cl 0)) := fr_trans (fr_sub f2 (by decide)) (fr_set (by decide))
  have h44 : v_ia (w2.set 32 (rz_mo kp tl kd ty cl 0)) 44 12 R := fr_get f3 (by decide) g44
  have h45 : ((w2.set 32 (rz_mo kp tl kd ty cl 0)).set 44 (.inl (.int, 12, .inl (upd R ty.toNat (Int32.ofInt p)))))[45]? = some (.inl (.int, 12, .inl S)) := (w_ne (by decide)).trans (fr_get f3 (by decide) g45)
  generalize hw3 : ((w2.set 32 (rz_mo kp tl kd ty cl 0)).set 44 (.inl (.int, 12, .inl (upd R ty.toNat (Int32.ofInt p))))).set 45 (.inl (.int, 12, .inl (upd S ty.toNat (Int32.ofInt q)))) = w3
  have f23 : rz_fr [44, 45, 32] w2 w3 := by
    rw [← hw3]
    exact fr_trans (fr_set (by decide)) (fr_trans (fr_set (by decide)) (fr_set (by decide)))
  have m3 : v_model w3 kp tl kd ty cl 0 := by
    rw [← hw3]
    exact (w_ne (by decide)).trans ((w_ne (by decide)).trans (w_eq (w_lt hm2)))
  have k44 : v_ia w3 44 12 (upd R ty.toNat (Int32.ofInt p)) := by
    rw [← hw3]
    exact (w_ne (by decide)).trans (w_eq (w_lt h44))
  have k45 : v_ia w3 45 12 (upd S ty.toNat (Int32.ofInt q)) := by
    rw [← hw3]
    exact w_eq (w_lt h45)
  have l3 := w_lt m3
  have f4 : rz_fr [18, 22, 23, 48, 44, 45, 32] w (w3.set 32 (rz_mo kp tl kd (ty + 1) 0 0)) := fr_trans (fr_sub f2 (by decide)) (fr_trans (fr_sub f23 (by decide)) (fr_set (by decide)))
  have f34 : rz_fr [32] w3 (w3.set 32 (rz_mo kp tl kd (ty + 1) 0 0)) := fr_set (by decide)
  have o4 : v_la (w3.set 32 (rz_mo kp tl kd (ty + 1) 0 0)) 48 1 (vp_updL f 0 (Int32.ofInt (ty + 1)).toInt64) := fr_get f34 (by decide) (fr_get f23 (by decide) o2)
  have m4 : v_model (w3.set 32 (rz_mo kp tl kd (ty + 1) 0 0)) kp tl kd (ty + 1) 0 0 := w_eq l3
  refine .inl ⟨Int32.ofInt (ty + 1), w1, 0, 0, f, _, w3.set 32 (rz_mo kp tl kd (ty + 1) 0 0), 0, 0, e1, ho1, hm1, ?_, ⟨_, m4, rfl⟩, ⟨_, o4, vp_updL_self⟩, ?_, by omega, by omega, fun h => by cases h⟩
  · rw [hw2]
    simp (disch := first | exact nl_i | exact nl_r | exact nl_0 | exact nl_n | exact nl_x | exact kd_r | exact kd_n | exact kd_x | exact kd_o | exact cats0 | exact cats1 | exact cats2 | exact cats3 | exact cats4 | exact nr_i | exact nr_l | exact nr_z0 | exact nr_z1 | exact ft_i | exact ft_l | omega | rfl | assumption | (refine i_ne0 ?_ ?_ ?_ <;> omega) | (refine j_ne0 ?_ ?_ ?_ <;> omega) | (refine i_new ?_ ?_ <;> omega) | (refine bl_t ?_; with_unfolding_all rfl) | exact ft_z0 | exact ft_z1) only [n_X11_corner, q_X11_corner_0, q_X11_corner_1, q_X11_corner_2, q_X11_corner_4, q_X11_corner_6, q_X11_corner_9, q_X11_corner_12, q_X11_corner_13, q_X11_corner_15, q_X11_corner_17, q_X11_corner_20, q_X11_corner_23, q_X11_corner_24, q_X11_corner_27, q_X11_corner_28, q_X11_corner_29, q_X11_corner_32, q_X11_corner_35, q_X11_corner_36, q_X11_corner_37, q_X11_corner_40, q_X11_corner_42, q_X11_corner_45, q_X11_corner_46, q_X11_corner_49, q_X11_corner_50, q_X11_corner_51, q_X11_corner_54, q_X11_corner_57, q_X11_corner_58, q_X11_corner_59, q_X11_corner_60, q_X11_corner_63, q_X11_corner_64, q_X11_corner_67, q_X11_corner_68, q_X11_corner_69, q_X11_corner_70, q_X11_corner_73, q_X11_corner_74, q_X11_corner_77, q_X11_corner_78, q_X11_corner_79, q_X11_corner_80, q_X11_corner_80r, q_X11_corner_81, q_X11_corner_84, q_X11_corner_85, q_X11_corner_86, q_X11_corner_89, q_X11_corner_90, q_X11_corner_91, q_X11_corner_94, q_X11_corner_95, q_X11_corner_98, i_add, i_sub, i_mul, i_neg, i_lt, i_le, i_eq, i_tm, i_div, i_j, j_i, j_add, j_sub, j_mul, j_neg, j_lt, j_le, j_eq, j_div, c_lt, c_le, c_gt, c_ge, c_eq, i_nat, rz_k, Nat.add_zero, Nat.zero_add, Nat.add_assoc, Nat.reduceAdd, if_true, if_false, x_in, if_pos ha, if_pos hb, y1, y2, vk_eq hm2, vk_eq hm3, gf_eq hm3, List.getElem?_cons_zero, List.getElem?_cons_succ, if_neg (show ¬ 12 ≤ ty by omega), Int.reduceEq, not_false_eq_true, not_true_eq_false, si_eq h44, gf_ne, si_eq h45, hw3, gf_eq m3, pf_eq m3, pf_self, gf_self, List.set_cons_zero, List.set_cons_succ]
    rfl
  · refine ⟨kp, tl, kd, ty + 1, 0, 0, fr_get f4 (by decide) hy, m4, v_slots_fr f4 (by decide) hs, v_text_fr f4 (by decide) (by decide) (by decide) ht, v_purse_fr f4 (by decide) hp, ?_, v_misc_fr48 hmi f4 (by decide) o4⟩
    have fa : rz_fr [48, 44, 45, 32] w1 (w3.set 32 (rz_mo kp tl kd (ty + 1) 0 0)) := fr_trans (fr_sub f12 (by decide)) (fr_trans (fr_sub f23 (by decide)) (fr_set (by decide)))
    refine ⟨fun k => if k = ty.toNat then p else px k, fun k => if k = ty.toNat then q else py k, _, _, _, _, M, O, L, U, pa, pb, pc, ⟨fr_get fa (by decide) k18, fr_get f4 (by decide) g19, fr_get f4 (by decide) g20, fr_get f4 (by decide) g21, fr_get fa (by decide) k22, fr_get fa (by decide) k23, fr_get f4 (by decide) g24, fr_get f4 (by decide) g25, fr_get f34 (by decide) k44, fr_get f34 (by decide) k45⟩, by omega, ?_, .inl rfl⟩
    intro k
    dsimp only
    by_cases hk : k = ty.toNat
    · subst hk
      simp only [if_true, upd_eq]
      exact ⟨⟨ha, hb⟩, fun _ => ⟨trivial, trivial, trivial, trivial⟩⟩
    · simp only [if_neg hk, upd_ne hk]
      exact ⟨(hxy k).1, fun h => (hxy k).2 (by omega)⟩
end RZC2
