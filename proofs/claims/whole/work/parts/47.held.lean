/-! part 47: level 2: terms, termAt, grids, form, parts, held as the law wants them -/
section RZHE
variable {X : rz_X} {d : Nat} {w : rz_W} {nc ns : Nat} {kp tl kd ty cl th : Int}
theorem ag_terms {p q : Int} (hp1 : -2147483648 ≤ p ∧ p ≤ 2147483647) (hq1 : -2147483648 ≤ q ∧ q ≤ 2147483647) (hv : v_inv w) : rz_ag X d 145 256 false [.int (Int32.ofInt p), .int (Int32.ofInt q)] ["java/lang/IllegalArgumentException"] w := by
  obtain ⟨kp, tl, kd, ty, cl, th, hy, hm, hs, ht, hp, hq, hmi⟩ := id hv
  have hx := x_terms (X := X) (d := d + 26) (w := w) (h := 0) hp1.1 hp1.2 hq1.1 hq1.2
  by_cases hc : (1 ≤ p ∧ p ≤ 200) ∧ (1 ≤ q ∧ q ≤ 200)
  · rw [if_pos hc] at hx
    refine ag_ret0 hv hm hx (fun h => by cases h) ?_
    intro wr hf hm hv'
    have hy2 := y_terms (X := X) (d := d + 27) hm rfl hp1.1 hp1.2 hq1.1 hq1.2
    rw [if_pos hc] at hy2
    obtain ⟨e, hy2⟩ := hy2
    exact ⟨[e], 1, 30, hy2, by omega, by omega⟩
  · rw [if_neg hc] at hx
    refine ag_thr0 0 rfl hv hm hx ?_
    rintro wr hm rfl
    have hy2 := y_terms (X := X) (d := d + 27) hm rfl hp1.1 hp1.2 hq1.1 hq1.2
    rw [if_neg hc] at hy2
    exact ⟨_, [], 0, 0, by rw [List.append_nil]; exact hy2, by omega, by omega⟩
theorem ag_termAt {p q k : Int} (hp1 : -2147483648 ≤ p ∧ p ≤ 2147483647) (hq1 : -2147483648 ≤ q ∧ q ≤ 2147483647) (hk1 : -2147483648 ≤ k ∧ k ≤ 2147483647) (hv : v_inv w) : rz_ag X d 146 257 false [.int (Int32.ofInt p), .int (Int32.ofInt q), .int (Int32.ofInt k)] ["java/lang/IllegalArgumentException", "java/util/NoSuchElementException"] w := by
  obtain ⟨kp, tl, kd, ty, cl, th, hy, hm, hs, ht, hp, hq, hmi⟩ := id hv
  have hx := x_termAt (X := X) (d := d + 26) (w := w) (h := 0) hp1.1 hp1.2 hq1.1 hq1.2 hk1.1 hk1.2
  by_cases hc : (1 ≤ p ∧ p ≤ 200) ∧ (1 ≤ q ∧ q ≤ 200)
  · rw [if_pos hc] at hx
    by_cases hin : 0 ≤ k ∧ k < (zf_terms p.toNat q.toNat : Nat)
    · rw [if_pos hin] at hx
      refine ag_ret0 hv hm hx (fun h => by cases h) ?_
      intro wr hf hm hv'
      have hy2 := y_termAt (X := X) (d := d + 27) hm rfl hp1.1 hp1.2 hq1.1 hq1.2 hk1.1 hk1.2
      rw [if_pos hc] at hy2
      obtain ⟨e, hy2⟩ := hy2
      simp only [if_pos hin] at hy2
      exact ⟨[e], 1, 30, hy2, by omega, by omega⟩
    · rw [if_neg hin] at hx
      refine ag_thr0 1 rfl hv hm hx ?_
      rintro wr hm rfl
      have hy2 := y_termAt (X := X) (d := d + 27) hm rfl hp1.1 hp1.2 hq1.1 hq1.2 hk1.1 hk1.2
      rw [if_pos hc] at hy2
      obtain ⟨e, hy2⟩ := hy2
      simp only [if_neg hin] at hy2
      exact ⟨_, [e], 1, 30, hy2, by omega, by omega⟩
  · rw [if_neg hc] at hx
    refine ag_thr0 0 rfl hv hm hx ?_
    rintro wr hm rfl
    have hy2 := y_termAt (X := X) (d := d + 27) hm rfl hp1.1 hp1.2 hq1.1 hq1.2 hk1.1 hk1.2
    rw [if_neg hc] at hy2
    exact ⟨_, [], 0, 0, by rw [List.append_nil]; exact hy2, by omega, by omega⟩
theorem ag_grids {n : Int} (hn1 : -2147483648 ≤ n ∧ n ≤ 2147483647) (hv : v_inv w) : rz_ag X d 109 185 false [.int (Int32.ofInt n)] ["java/lang/IllegalArgumentException"] w := by
  obtain ⟨kp, tl, kd, ty, cl, th, hy, hm, hs, ht, hp, hq, hmi⟩ := id hv
  have hx := x_grids (X := X) (d := d + 27) (w := w) (h := 0) hn1.1 hn1.2
  by_cases hc : 1 ≤ n ∧ n ≤ 200
  · rw [if_pos hc] at hx
    refine ag_ret0 hv hm hx (fun h => by cases h) ?_
    intro wr hf hm hv'
    have hy2 := y_grids (X := X) (d := d + 28) hm rfl hn1.1 hn1.2
    rw [if_pos hc] at hy2
    exact ⟨[], 0, 0, by rw [List.append_nil]; exact hy2, by omega, by omega⟩
  · rw [if_neg hc] at hx
    refine ag_thr0 0 rfl hv hm hx ?_
    rintro wr hm rfl
    have hy2 := y_grids (X := X) (d := d + 28) hm rfl hn1.1 hn1.2
    rw [if_neg hc] at hy2
    exact ⟨_, [], 0, 0, by rw [List.append_nil]; exact hy2, by omega, by omega⟩
/-- form -/
theorem ag_form {s c : Int} (hs1 : -2147483648 ≤ s ∧ s ≤ 2147483647) (hc1 : 0 ≤ c ∧ c ≤ 65535) (hv : v_inv w) : rz_ag X d 110 188 false [.int (Int32.ofInt s), .int (Int32.ofInt c)] ["java/lang/IndexOutOfBoundsException", "java/lang/IllegalArgumentException", "java/util/NoSuchElementException"] w := by
  obtain ⟨kp, tl, kd, ty, cl, th, hy, hm, hs, ht, hp, hq, hmi⟩ := id hv
  obtain ⟨G, KG, H, KH, KS, KT, A, B, C, KA, KB, KC, ⟨g1, g2, g3, g33, g34, g35, g36, g37, g38, g39, g40, g41⟩, hk, hS, hK⟩ := id hs
  by_cases ha : 0 ≤ s ∧ s ≤ 7
  case neg =>
    refine ag_thr0 (c1 := 1) (s1 := 6) 0 rfl hv hm ?_ ?_
    · simp (disch := first | exact nl_i | exact nl_r | exact nl_0 | exact nl_n | exact nl_x | exact kd_r | exact kd_n | exact kd_x | exact kd_o | exact cats0 | exact cats1 | exact cats2 | exact cats3 | exact cats4 | exact nr_i | exact nr_l | exact nr_z0 | exact nr_z1 | exact ft_i | exact ft_l | omega | rfl | assumption | (refine i_ne0 ?_ ?_ ?_ <;> omega) | (refine j_ne0 ?_ ?_ ?_ <;> omega) | (refine i_new ?_ ?_ <;> omega)) only [n_X10_form, q_X10_form_0, q_X10_form_1, q_X10_form_4, q_X10_form_5, q_X10_form_7, q_X10_form_10, q_X10_form_11, q_X10_form_13, q_X10_form_16, q_X10_form_17, q_X10_form_19, q_X10_form_22, q_X10_form_32, q_X10_form_33, q_X10_form_34, q_X10_form_37, q_X10_form_38, q_X10_form_39, q_X10_form_41, q_X10_form_44, q_X10_form_45, q_X10_form_48, q_X10_form_49, q_X10_form_50, q_X10_form_52, q_X10_form_55, q_X10_form_56, q_X10_form_59, q_X10_form_62, q_X10_form_63, q_X10_form_66, i_add, i_sub, i_mul, i_neg, i_lt, i_le, i_eq, i_tm, i_div, i_j, j_i, j_add, j_sub, j_mul, j_neg, j_lt, j_le, j_eq, j_div, c_lt, c_le, c_gt, c_ge, c_eq, i_nat, rz_k, Nat.add_zero, Nat.zero_add, Nat.add_assoc, Nat.reduceAdd, if_true, if_false, x_slot, if_neg ha]
      rfl
    · rintro wr hm rfl
      refine ⟨Int32.ofInt 0, [], 0, 0, ?_, by omega, by omega⟩
      have y1 := x_no0 (X := X) (d := d + 28) (k := 1) hm
      simp (disch := first | exact nl_i | exact nl_r | exact nl_0 | exact nl_n | exact nl_x | exact kd_r | exact kd_n | exact kd_x | exact kd_o | exact cats0 | exact cats1 | exact cats2 | exact cats3 | exact cats4 | exact nr_i | exact nr_l | exact nr_z0 | exact nr_z1 | exact ft_i | exact ft_l | omega | rfl | assumption | (refine i_ne0 ?_ ?_ ?_ <;> omega) | (refine j_ne0 ?_ ?_ ?_ <;> omega) | (refine i_new ?_ ?_ <;> omega)) only [n_X11_form, q_X11_form_0, q_X11_form_1, q_X11_form_2, q_X11_form_5, q_X11_form_6, q_X11_form_9, q_X11_form_12, q_X11_form_13, q_X11_form_14, q_X11_form_16, q_X11_form_18, q_X11_form_21, q_X11_form_22, q_X11_form_25, q_X11_form_28, q_X11_form_29, q_X11_form_30, q_X11_form_33, q_X11_form_34, q_X11_form_35, q_X11_form_36, q_X11_form_39, q_X11_form_42, q_X11_form_43, q_X11_form_44, q_X11_form_45, q_X11_form_47, q_X11_form_50, q_X11_form_51, q_X11_form_54, q_X11_form_55, q_X11_form_56, q_X11_form_59, q_X11_form_60, q_X11_form_62, q_X11_form_65, q_X11_form_66, q_X11_form_69, q_X11_form_70, q_X11_form_71, q_X11_form_74, q_X11_form_75, q_X11_form_78, q_X11_form_79, q_X11_form_80, q_X11_form_81, i_add, i_sub, i_mul, i_neg, i_lt, i_le, i_eq, i_tm, i_div, i_j, j_i, j_add, j_sub, j_mul, j_neg, j_lt, j_le, j_eq, j_div, c_lt, c_le, c_gt, c_ge, c_eq, i_nat, rz_k, Nat.add_zero, Nat.zero_add, Nat.add_assoc, Nat.reduceAdd, if_true, if_false, y_isSlot, if_neg ha, y1, vk_eq hm, List.append_nil, Int.reduceEq, not_false_eq_true]
      all_goals rfl
  by_cases hb : 97 ≤ c ∧ c ≤ 99
  case neg =>
    refine ag_thr0 (c1 := 1) (s1 := 6) 1 rfl hv hm ?_ ?_
    · simp (disch := first | exact nl_i | exact nl_r | exact nl_0 | exact nl_n | exact nl_x | exact kd_r | exact kd_n | exact kd_x | exact kd_o | exact cats0 | exact cats1 | exact cats2 | exact cats3 | exact cats4 | exact nr_i | exact nr_l | exact nr_z0 | exact nr_z1 | exact ft_i | exact ft_l | omega | rfl | assumption | (refine i_ne0 ?_ ?_ ?_ <;> omega) | (refine j_ne0 ?_ ?_ ?_ <;> omega) | (refine i_new ?_ ?_ <;> omega)) only [n_X10_form, q_X10_form_0, q_X10_form_1, q_X10_form_4, q_X10_form_5, q_X10_form_7, q_X10_form_10, q_X10_form_11, q_X10_form_13, q_X10_form_16, q_X10_form_17, q_X10_form_19, q_X10_form_22, q_X10_form_32, q_X10_form_33, q_X10_form_34, q_X10_form_37, q_X10_form_38, q_X10_form_39, q_X10_form_41, q_X10_form_44, q_X10_form_45, q_X10_form_48, q_X10_form_49, q_X10_form_50, q_X10_form_52, q_X10_form_55, q_X10_form_56, q_X10_form_59, q_X10_form_62, q_X10_form_63, q_X10_form_66, i_add, i_sub, i_mul, i_neg, i_lt, i_le, i_eq, i_tm, i_div, i_j, j_i, j_add, j_sub, j_mul, j_neg, j_lt, j_le, j_eq, j_div, c_lt, c_le, c_gt, c_ge, c_eq, i_nat, rz_k, Nat.add_zero, Nat.zero_add, Nat.add_assoc, Nat.reduceAdd, if_true, if_false, x_slot, if_pos ha]
      rw [if_neg (by omega), if_neg (by omega), if_neg (by omega)]
    · rintro wr hm rfl
      refine ⟨Int32.ofInt 0, [], 0, 0, ?_, by omega, by omega⟩
      have y1 := x_no1 (X := X) (d := d + 28) (k := 1) hm
      have hm1 := v_mo (t := 0) hm
      have y2 := x_no0 (X := X) (d := d + 28) (k := 2) hm1
      rw [mo_mo] at y2
      simp (disch := first | exact nl_i | exact nl_r | exact nl_0 | exact nl_n | exact nl_x | exact kd_r | exact kd_n | exact kd_x | exact kd_o | exact cats0 | exact cats1 | exact cats2 | exact cats3 | exact cats4 | exact nr_i | exact nr_l | exact nr_z0 | exact nr_z1 | exact ft_i | exact ft_l | omega | rfl | assumption | (refine i_ne0 ?_ ?_ ?_ <;> omega) | (refine j_ne0 ?_ ?_ ?_ <;> omega) | (refine i_new ?_ ?_ <;> omega)) only [n_X11_form, q_X11_form_0, q_X11_form_1, q_X11_form_2, q_X11_form_5, q_X11_form_6, q_X11_form_9, q_X11_form_12, q_X11_form_13, q_X11_form_14, q_X11_form_16, q_X11_form_18, q_X11_form_21, q_X11_form_22, q_X11_form_25, q_X11_form_28, q_X11_form_29, q_X11_form_30, q_X11_form_33, q_X11_form_34, q_X11_form_35, q_X11_form_36, q_X11_form_39, q_X11_form_42, q_X11_form_43, q_X11_form_44, q_X11_form_45, q_X11_form_47, q_X11_form_50, q_X11_form_51, q_X11_form_54, q_X11_form_55, q_X11_form_56, q_X11_form_59, q_X11_form_60, q_X11_form_62, q_X11_form_65, q_X11_form_66, q_X11_form_69, q_X11_form_70, q_X11_form_71, q_X11_form_74, q_X11_form_75, q_X11_form_78, q_X11_form_79, q_X11_form_80, q_X11_form_81, i_add, i_sub, i_mul, i_neg, i_lt, i_le, i_eq, i_tm, i_div, i_j, j_i, j_add, j_sub, j_mul, j_neg, j_lt, j_le, j_eq, j_div, c_lt, c_le, c_gt, c_ge, c_eq, i_nat, rz_k, Nat.add_zero, Nat.zero_add, Nat.add_assoc, Nat.reduceAdd, if_true, if_false, y_isSlot, if_pos ha, x_in, if_neg hb, y1, y2, vk_eq hm, vk_eq hm1, List.append_nil, Int.reduceEq, not_false_eq_true, not_true_eq_false]
      all_goals rfl
  have hi := hS s.toNat (by omega)
  have hgr := x_gridIn (X := X) (d := d + 27) hy g1 ha.1 ha.2
  have hcs : c = 97 ∨ c = 98 ∨ c = 99 := by omega
  cases hg : G s.toNat with
  | none =>
    rw [hg] at hi hgr
    refine ag_thr0 (c1 := 1) (s1 := 6) 2 rfl hv hm ?_ ?_
    · rcases hcs with rfl | rfl | rfl
      all_goals simp (disch := first | exact nl_i | exact nl_r | exact nl_0 | exact nl_n | exact nl_x | exact kd_r | exact kd_n | exact kd_x | exact kd_o | exact cats0 | exact cats1 | exact cats2 | exact cats3 | exact cats4 | exact nr_i | exact nr_l | exact nr_z0 | exact nr_z1 | exact ft_i | exact ft_l | omega | rfl | assumption | (refine i_ne0 ?_ ?_ ?_ <;> omega) | (refine j_ne0 ?_ ?_ ?_ <;> omega) | (refine i_new ?_ ?_ <;> omega)) only [n_X10_form, q_X10_form_0, q_X10_form_1, q_X10_form_4, q_X10_form_5, q_X10_form_7, q_X10_form_10, q_X10_form_11, q_X10_form_13, q_X10_form_16, q_X10_form_17, q_X10_form_19, q_X10_form_22, q_X10_form_32, q_X10_form_33, q_X10_form_34, q_X10_form_37, q_X10_form_38, q_X10_form_39, q_X10_form_41, q_X10_form_44, q_X10_form_45, q_X10_form_48, q_X10_form_49, q_X10_form_50, q_X10_form_52, q_X10_form_55, q_X10_form_56, q_X10_form_59, q_X10_form_62, q_X10_form_63, q_X10_form_66, i_add, i_sub, i_mul, i_neg, i_lt, i_le, i_eq, i_tm, i_div, i_j, j_i, j_add, j_sub, j_mul, j_neg, j_lt, j_le, j_eq, j_div, c_lt, c_le, c_gt, c_ge, c_eq, i_nat, rz_k, Nat.add_zero, Nat.zero_add, Nat.add_assoc, Nat.reduceAdd, if_true, if_false, x_slot, if_pos ha, hgr, vk_eq hy, Int.reduceEq]
      all_goals rfl
    · rintro wr hm rfl
      refine ⟨Int32.ofInt 0, [], 0, 0, ?_, by omega, by omega⟩
      have y1 := x_no1 (X := X) (d := d + 28) (k := 1) hm
      have hm1 := v_mo (t := 0) hm
      have y2 := x_no1 (X := X) (d := d + 28) (k := 2) hm1
      rw [mo_mo] at y2
      have y3 := x_no0 (X := X) (d := d + 28) (k := 3) hm1
      rw [mo_mo] at y3
      have hH1 : v_za (wr.set 32 (rz_mo kp tl kd ty cl 0)) 33 8 H := fr_get (fr_set (S := [32]) (by decide)) (by decide) g33
      have hi0 : H s.toNat = Int32.ofInt 0 := hi
      simp (disch := first | exact nl_i | exact nl_r | exact nl_0 | exact nl_n | exact nl_x | exact kd_r | exact kd_n | exact kd_x | exact kd_o | exact cats0 | exact cats1 | exact cats2 | exact cats3 | exact cats4 | exact nr_i | exact nr_l | exact nr_z0 | exact nr_z1 | exact ft_i | exact ft_l | omega | rfl | assumption | (refine i_ne0 ?_ ?_ ?_ <;> omega) | (refine j_ne0 ?_ ?_ ?_ <;> omega) | (refine i_new ?_ ?_ <;> omega)) only [n_X11_form, q_X11_form_0, q_X11_form_1, q_X11_form_2, q_X11_form_5, q_X11_form_6, q_X11_form_9, q_X11_form_12, q_X11_form_13, q_X11_form_14, q_X11_form_16, q_X11_form_18, q_X11_form_21, q_X11_form_22, q_X11_form_25, q_X11_form_28, q_X11_form_29, q_X11_form_30, q_X11_form_33, q_X11_form_34, q_X11_form_35, q_X11_form_36, q_X11_form_39, q_X11_form_42, q_X11_form_43, q_X11_form_44, q_X11_form_45, q_X11_form_47, q_X11_form_50, q_X11_form_51, q_X11_form_54, q_X11_form_55, q_X11_form_56, q_X11_form_59, q_X11_form_60, q_X11_form_62, q_X11_form_65, q_X11_form_66, q_X11_form_69, q_X11_form_70, q_X11_form_71, q_X11_form_74, q_X11_form_75, q_X11_form_78, q_X11_form_79, q_X11_form_80, q_X11_form_81, i_add, i_sub, i_mul, i_neg, i_lt, i_le, i_eq, i_tm, i_div, i_j, j_i, j_add, j_sub, j_mul, j_neg, j_lt, j_le, j_eq, j_div, c_lt, c_le, c_gt, c_ge, c_eq, i_nat, rz_k, Nat.add_zero, Nat.zero_add, Nat.add_assoc, Nat.reduceAdd, if_true, if_false, y_isSlot, if_pos ha, x_in, if_pos hb, y1, y2, y3, vk_eq hm, vk_eq hm1, gf_eq hm1, List.getElem?_cons_zero, List.getElem?_cons_succ, az_eq hH1, hi0, List.append_nil, Int.reduceEq, not_false_eq_true, not_true_eq_false]
      all_goals rfl
  | some g =>
    rw [hg] at hi hgr
    obtain ⟨hh, hg49, a, b, e, ⟨r1, r2, r3, r4⟩, ho, ea, eb, ec⟩ := hi
    refine ag_ret0 (r := Int32.ofInt (if c = 97 then a else if c = 98 then b else e)) (c1 := 0) (s1 := 0) hv hm ?_ (fun h => by cases h) ?_
    · rcases hcs with rfl | rfl | rfl
      all_goals simp (disch := first | exact nl_i | exact nl_r | exact nl_0 | exact nl_n | exact nl_x | exact kd_r | exact kd_n | exact kd_x | exact kd_o | exact cats0 | exact cats1 | exact cats2 | exact cats3 | exact cats4 | exact nr_i | exact nr_l | exact nr_z0 | exact nr_z1 | exact ft_i | exact ft_l | omega | rfl | assumption | (refine i_ne0 ?_ ?_ ?_ <;> omega) | (refine j_ne0 ?_ ?_ ?_ <;> omega) | (refine i_new ?_ ?_ <;> omega)) only [n_X10_form, q_X10_form_0, q_X10_form_1, q_X10_form_4, q_X10_form_5, q_X10_form_7, q_X10_form_10, q_X10_form_11, q_X10_form_13, q_X10_form_16, q_X10_form_17, q_X10_form_19, q_X10_form_22, q_X10_form_32, q_X10_form_33, q_X10_form_34, q_X10_form_37, q_X10_form_38, q_X10_form_39, q_X10_form_41, q_X10_form_44, q_X10_form_45, q_X10_form_48, q_X10_form_49, q_X10_form_50, q_X10_form_52, q_X10_form_55, q_X10_form_56, q_X10_form_59, q_X10_form_62, q_X10_form_63, q_X10_form_66, i_add, i_sub, i_mul, i_neg, i_lt, i_le, i_eq, i_tm, i_div, i_j, j_i, j_add, j_sub, j_mul, j_neg, j_lt, j_le, j_eq, j_div, c_lt, c_le, c_gt, c_ge, c_eq, i_nat, rz_k, Nat.add_zero, Nat.zero_add, Nat.add_assoc, Nat.reduceAdd, if_true, if_false, x_slot, if_pos ha, hgr, vk_eq hy, gf_eq ho, List.getElem?_cons_zero, List.getElem?_cons_succ, Int.reduceEq, not_false_eq_true, not_true_eq_false]
    · intro wr hf hm hv'
      refine ⟨[], 0, 0, ?_, by omega, by omega⟩
      have y1 := x_no1 (X := X) (d := d + 28) (k := 1) hm
      have hm1 := v_mo (t := 0) hm
      have y2 := x_no1 (X := X) (d := d + 28) (k := 2) hm1
      rw [mo_mo] at y2
      have y3 := x_no1 (X := X) (d := d + 28) (k := 3) hm1
      rw [mo_mo] at y3
      have hf1 : rz_fr [48, 32] w (wr.set 32 (rz_mo kp tl kd ty cl 0)) := fr_trans (fr_sub hf (by decide)) (fr_set (by decide))
      have hH1 : v_za _ 33 8 H := fr_get hf1 (by decide) g33
      have k1 : v_la _ 34 8 A := fr_get hf1 (by decide) g34
      have k2 : v_la _ 35 8 B := fr_get hf1 (by decide) g35
      have k3 : v_la _ 36 8 C := fr_get hf1 (by decide) g36
      rcases hcs with rfl | rfl | rfl
      all_goals simp (disch := first | exact nl_i | exact nl_r | exact nl_0 | exact nl_n | exact nl_x | exact kd_r | exact kd_n | exact kd_x | exact kd_o | exact cats0 | exact cats1 | exact cats2 | exact cats3 | exact cats4 | exact nr_i | exact nr_l | exact nr_z0 | exact nr_z1 | exact ft_i | exact ft_l | omega | rfl | assumption | (refine i_ne0 ?_ ?_ ?_ <;> omega) | (refine j_ne0 ?_ ?_ ?_ <;> omega) | (refine i_new ?_ ?_ <;> omega)) only [n_X11_form, q_X11_form_0, q_X11_form_1, q_X11_form_2, q_X11_form_5, q_X11_form_6, q_X11_form_9, q_X11_form_12, q_X11_form_13, q_X11_form_14, q_X11_form_16, q_X11_form_18, q_X11_form_21, q_X11_form_22, q_X11_form_25, q_X11_form_28, q_X11_form_29, q_X11_form_30, q_X11_form_33, q_X11_form_34, q_X11_form_35, q_X11_form_36, q_X11_form_39, q_X11_form_42, q_X11_form_43, q_X11_form_44, q_X11_form_45, q_X11_form_47, q_X11_form_50, q_X11_form_51, q_X11_form_54, q_X11_form_55, q_X11_form_56, q_X11_form_59, q_X11_form_60, q_X11_form_62, q_X11_form_65, q_X11_form_66, q_X11_form_69, q_X11_form_70, q_X11_form_71, q_X11_form_74, q_X11_form_75, q_X11_form_78, q_X11_form_79, q_X11_form_80, q_X11_form_81, i_add, i_sub, i_mul, i_neg, i_lt, i_le, i_eq, i_tm, i_div, i_j, j_i, j_add, j_sub, j_mul, j_neg, j_lt, j_le, j_eq, j_div, c_lt, c_le, c_gt, c_ge, c_eq, i_nat, rz_k, Nat.add_zero, Nat.zero_add, Nat.add_assoc, Nat.reduceAdd, if_true, if_false, y_isSlot, if_pos ha, x_in, if_pos hb, y1, y2, y3, vk_eq hm, vk_eq hm1, gf_eq hm1, List.getElem?_cons_zero, List.getElem?_cons_succ, az_eq hH1, hh, al_eq k1, al_eq k2, al_eq k3, ea, eb, ec, List.append_nil, Int.reduceEq, not_false_eq_true, not_true_eq_false]
/-- how many of the first n -/
def zf_ct (f : Nat → Bool) : Nat → Nat
  | 0 => 0
  | n + 1 => zf_ct f n + if f n = true then 1 else 0
theorem zf_ct_le {f : Nat → Bool} {n : Nat} : zf_ct f n ≤ n := by
  induction n with
  | zero => exact Nat.le_refl _
  | succ n ih => unfold zf_ct; split <;> omega
theorem l_held {kept : Int} {G : Nat → Option Nat} (hy : v_yard w kept) (hG : v_ga w 1 8 G) (k : Nat) : ∀ (i c : Nat), i + k = 8 → c = zf_ct (fun j => (G j).isSome) i → rz_G X d mz_X10_held 4 [some (.ref 0), some (.int (Int32.ofInt c)), some (.int (Int32.ofInt i))] [] w nc ns = some (.inl (some (.int (Int32.ofInt (zf_ct (fun j => (G j).isSome) 8 : Nat)))), w, nc, ns) := by
  induction k with
  | zero =>
    intro i c hi hc
    obtain rfl : i = 8 := by omega
    subst hc
    rw [q_X10_held_4]
    simp (disch := first | exact nl_i | exact nl_r | exact nl_0 | exact nl_n | exact nl_x | exact kd_r | exact kd_n | exact kd_x | exact kd_o | exact cats0 | exact cats1 | exact cats2 | exact cats3 | exact cats4 | exact nr_i | exact nr_l | exact nr_z0 | exact nr_z1 | exact ft_i | exact ft_l | omega | rfl | assumption | (refine i_ne0 ?_ ?_ ?_ <;> omega) | (refine j_ne0 ?_ ?_ ?_ <;> omega) | (refine i_new ?_ ?_ <;> omega)) only [n_X10_held, q_X10_held_0, q_X10_held_1, q_X10_held_2, q_X10_held_3, q_X10_held_5, q_X10_held_7, q_X10_held_10, q_X10_held_11, q_X10_held_14, q_X10_held_15, q_X10_held_16n, q_X10_held_16, q_X10_held_19, q_X10_held_22, q_X10_held_25, q_X10_held_28, q_X10_held_29, i_add, i_sub, i_mul, i_neg, i_lt, i_le, i_eq, i_tm, i_div, i_j, j_i, j_add, j_sub, j_mul, j_neg, j_lt, j_le, j_eq, j_div, c_lt, c_le, c_gt, c_ge, c_eq, i_nat, rz_k, Nat.add_zero, Nat.zero_add, Nat.add_assoc, Nat.reduceAdd, if_true, if_false]
    rw [if_pos (by omega)]
  | succ k ih =>
    intro i c hi hc
    have hcl : c ≤ i := hc ▸ zf_ct_le
    rw [q_X10_held_4]
    cases hg : G i with
    | none =>
      simp (disch := first | exact nl_i | exact nl_r | exact nl_0 | exact nl_n | exact nl_x | exact kd_r | exact kd_n | exact kd_x | exact kd_o | exact cats0 | exact cats1 | exact cats2 | exact cats3 | exact cats4 | exact nr_i | exact nr_l | exact nr_z0 | exact nr_z1 | exact ft_i | exact ft_l | omega | rfl | assumption | (refine i_ne0 ?_ ?_ ?_ <;> omega) | (refine j_ne0 ?_ ?_ ?_ <;> omega) | (refine i_new ?_ ?_ <;> omega)) only [n_X10_held, q_X10_held_0, q_X10_held_1, q_X10_held_2, q_X10_held_3, q_X10_held_5, q_X10_held_7, q_X10_held_10, q_X10_held_11, q_X10_held_14, q_X10_held_15, q_X10_held_16n, q_X10_held_16, q_X10_held_19, q_X10_held_22, q_X10_held_25, q_X10_held_28, q_X10_held_29, i_add, i_sub, i_mul, i_neg, i_lt, i_le, i_eq, i_tm, i_div, i_j, j_i, j_add, j_sub, j_mul, j_neg, j_lt, j_le, j_eq, j_div, c_lt, c_le, c_gt, c_ge, c_eq, i_nat, rz_k, Nat.add_zero, Nat.zero_add, Nat.add_assoc, Nat.reduceAdd, if_true, if_false, gf_eq hy, List.getElem?_cons_zero, List.getElem?_cons_succ, aa_eq hG, Int.toNat_natCast, hg, rf_none]
      rw [if_neg (by omega)]
      exact ih (i + 1) c (by omega) (by rw [hc]; simp [zf_ct, hg])
    | some g =>
      simp (disch := first | exact nl_i | exact nl_r | exact nl_0 | exact nl_n | exact nl_x | exact kd_r | exact kd_n | exact kd_x | exact kd_o | exact cats0 | exact cats1 | exact cats2 | exact cats3 | exact cats4 | exact nr_i | exact nr_l | exact nr_z0 | exact nr_z1 | exact ft_i | exact ft_l | omega | rfl | assumption | (refine i_ne0 ?_ ?_ ?_ <;> omega) | (refine j_ne0 ?_ ?_ ?_ <;> omega) | (refine i_new ?_ ?_ <;> omega)) only [n_X10_held, q_X10_held_0, q_X10_held_1, q_X10_held_2, q_X10_held_3, q_X10_held_5, q_X10_held_7, q_X10_held_10, q_X10_held_11, q_X10_held_14, q_X10_held_15, q_X10_held_16n, q_X10_held_16, q_X10_held_19, q_X10_held_22, q_X10_held_25, q_X10_held_28, q_X10_held_29, i_add, i_sub, i_mul, i_neg, i_lt, i_le, i_eq, i_tm, i_div, i_j, j_i, j_add, j_sub, j_mul, j_neg, j_lt, j_le, j_eq, j_div, c_lt, c_le, c_gt, c_ge, c_eq, i_nat, rz_k, Nat.add_zero, Nat.zero_add, Nat.add_assoc, Nat.reduceAdd, if_true, if_false, gf_eq hy, List.getElem?_cons_zero, List.getElem?_cons_succ, aa_eq hG, Int.toNat_natCast, hg, rf_some]
      rw [if_neg (by omega)]
      exact ih (i + 1) (c + 1) (by omega) (by rw [hc]; simp [zf_ct, hg])
theorem l_held2 {G : Nat → Option Nat} {H : Nat → Int32} (hH : v_za w 33 8 H) (hGH : ∀ i, i < 8 → H i = Int32.ofInt (if (G i).isSome = true then 1 else 0)) (k : Nat) : ∀ (i c : Nat) (l5 : Option Value), i + k = 8 → c = zf_ct (fun j => (G j).isSome) i → rz_G X d mz_X11_held 18 [some (.ref 32), some (.int (Int32.ofInt c)), some (.ref 33), some (.int (Int32.ofInt 8)), some (.int (Int32.ofInt i)), l5] [] w nc ns = some (.inl (some (.int (Int32.ofInt (zf_ct (fun j => (G j).isSome) 8 : Nat)))), w, nc, ns) := by
  induction k with
  | zero =>
    intro i c l5 hi hc
    obtain rfl : i = 8 := by omega
    subst hc
    rw [q_X11_held_18]
    simp (disch := first | exact nl_i | exact nl_r | exact nl_0 | exact nl_n | exact nl_x | exact kd_r | exact kd_n | exact kd_x | exact kd_o | exact cats0 | exact cats1 | exact cats2 | exact cats3 | exact cats4 | exact nr_i | exact nr_l | exact nr_z0 | exact nr_z1 | exact ft_i | exact ft_l | omega | rfl | assumption | (refine i_ne0 ?_ ?_ ?_ <;> omega) | (refine j_ne0 ?_ ?_ ?_ <;> omega) | (refine i_new ?_ ?_ <;> omega)) only [n_X11_held, q_X11_held_0, q_X11_held_1, q_X11_held_2, q_X11_held_5, q_X11_held_6, q_X11_held_7, q_X11_held_8, q_X11_held_11, q_X11_held_12, q_X11_held_13, q_X11_held_13x, q_X11_held_14, q_X11_held_15, q_X11_held_16, q_X11_held_20, q_X11_held_21, q_X11_held_24, q_X11_held_25, q_X11_held_27, q_X11_held_28, q_X11_held_30, q_X11_held_31, q_X11_held_33, q_X11_held_36, q_X11_held_37, q_X11_held_40, q_X11_held_41, q_X11_held_42, q_X11_held_43, q_X11_held_46, q_X11_held_49, q_X11_held_50, i_add, i_sub, i_mul, i_neg, i_lt, i_le, i_eq, i_tm, i_div, i_j, j_i, j_add, j_sub, j_mul, j_neg, j_lt, j_le, j_eq, j_div, c_lt, c_le, c_gt, c_ge, c_eq, i_nat, rz_k, Nat.add_zero, Nat.zero_add, Nat.add_assoc, Nat.reduceAdd, if_true, if_false]
    rw [if_pos (by omega)]
  | succ k ih =>
    intro i c l5 hi hc
    have hcl : c ≤ i := hc ▸ zf_ct_le
    have hgh := hGH i (by omega)
    rw [q_X11_held_18]
    cases hg : (G i).isSome with
    | false =>
      simp only [hg, Bool.false_eq_true, if_false] at hgh
      simp (disch := first | exact nl_i | exact nl_r | exact nl_0 | exact nl_n | exact nl_x | exact kd_r | exact kd_n | exact kd_x | exact kd_o | exact cats0 | exact cats1 | exact cats2 | exact cats3 | exact cats4 | exact nr_i | exact nr_l | exact nr_z0 | exact nr_z1 | exact ft_i | exact ft_l | omega | rfl | assumption | (refine i_ne0 ?_ ?_ ?_ <;> omega) | (refine j_ne0 ?_ ?_ ?_ <;> omega) | (refine i_new ?_ ?_ <;> omega)) only [n_X11_held, q_X11_held_0, q_X11_held_1, q_X11_held_2, q_X11_held_5, q_X11_held_6, q_X11_held_7, q_X11_held_8, q_X11_held_11, q_X11_held_12, q_X11_held_13, q_X11_held_13x, q_X11_held_14, q_X11_held_15, q_X11_held_16, q_X11_held_20, q_X11_held_21, q_X11_held_24, q_X11_held_25, q_X11_held_27, q_X11_held_28, q_X11_held_30, q_X11_held_31, q_X11_held_33, q_X11_held_36, q_X11_held_37, q_X11_held_40, q_X11_held_41, q_X11_held_42, q_X11_held_43, q_X11_held_46, q_X11_held_49, q_X11_held_50, i_add, i_sub, i_mul, i_neg, i_lt, i_le, i_eq, i_tm, i_div, i_j, j_i, j_add, j_sub, j_mul, j_neg, j_lt, j_le, j_eq, j_div, c_lt, c_le, c_gt, c_ge, c_eq, i_nat, rz_k, Nat.add_zero, Nat.zero_add, Nat.add_assoc, Nat.reduceAdd, if_true, if_false, az_eq hH, Int.toNat_natCast, hgh, Int.reduceEq]
      rw [if_neg (by omega)]
      exact ih (i + 1) c _ (by omega) (by rw [hc]; simp [zf_ct, hg])
    | true =>
      simp only [hg, if_true] at hgh
      simp (disch := first | exact nl_i | exact nl_r | exact nl_0 | exact nl_n | exact nl_x | exact kd_r | exact kd_n | exact kd_x | exact kd_o | exact cats0 | exact cats1 | exact cats2 | exact cats3 | exact cats4 | exact nr_i | exact nr_l | exact nr_z0 | exact nr_z1 | exact ft_i | exact ft_l | omega | rfl | assumption | (refine i_ne0 ?_ ?_ ?_ <;> omega) | (refine j_ne0 ?_ ?_ ?_ <;> omega) | (refine i_new ?_ ?_ <;> omega)) only [n_X11_held, q_X11_held_0, q_X11_held_1, q_X11_held_2, q_X11_held_5, q_X11_held_6, q_X11_held_7, q_X11_held_8, q_X11_held_11, q_X11_held_12, q_X11_held_13, q_X11_held_13x, q_X11_held_14, q_X11_held_15, q_X11_held_16, q_X11_held_20, q_X11_held_21, q_X11_held_24, q_X11_held_25, q_X11_held_27, q_X11_held_28, q_X11_held_30, q_X11_held_31, q_X11_held_33, q_X11_held_36, q_X11_held_37, q_X11_held_40, q_X11_held_41, q_X11_held_42, q_X11_held_43, q_X11_held_46, q_X11_held_49, q_X11_held_50, i_add, i_sub, i_mul, i_neg, i_lt, i_le, i_eq, i_tm, i_div, i_j, j_i, j_add, j_sub, j_mul, j_neg, j_lt, j_le, j_eq, j_div, c_lt, c_le, c_gt, c_ge, c_eq, i_nat, rz_k, Nat.add_zero, Nat.zero_add, Nat.add_assoc, Nat.reduceAdd, if_true, if_false, az_eq hH, Int.toNat_natCast, hgh, Int.reduceEq]
      rw [if_neg (by omega)]
      exact ih (i + 1) (c + 1) _ (by omega) (by rw [hc]; simp [zf_ct, hg])
theorem ag_held (hv : v_inv w) : rz_agv X d 149 263 w ∧ ∀ v w1 c1 s1, rz_ex X (d + 30) 149 [.ref 0] w = some (.inl (some v), w1, c1, s1) → ∃ r : Int32, v = .int r := by
  obtain ⟨kp, tl, kd, ty, cl, th, hy, hm, hs, ht, hp, hq, hmi⟩ := id hv
  obtain ⟨G, KG, H, KH, KS, KT, A, B, C, KA, KB, KC, ⟨g1, g2, g3, g33, g34, g35, g36, g37, g38, g39, g40, g41⟩, hk, hS, hK⟩ := id hs
  have hGH : ∀ i, i < 8 → H i = Int32.ofInt (if (G i).isSome = true then 1 else 0) := by
    intro i hi
    have := hS i hi
    cases hg : G i with
    | none => rw [hg] at this; exact this
    | some g => rw [hg] at this; exact this.1
  have e1 : rz_ex X (d + 30) 149 [.ref 0] w = some (.inl (some (.int (Int32.ofInt (zf_ct (fun j => (G j).isSome) 8 : Nat)))), w, 0, 0) := by
    simp (disch := first | exact nl_i | exact nl_r | exact nl_0 | exact nl_n | exact nl_x | exact kd_r | exact kd_n | exact kd_x | exact kd_o | exact cats0 | exact cats1 | exact cats2 | exact cats3 | exact cats4 | exact nr_i | exact nr_l | exact nr_z0 | exact nr_z1 | exact ft_i | exact ft_l | omega | rfl | assumption | (refine i_ne0 ?_ ?_ ?_ <;> omega) | (refine j_ne0 ?_ ?_ ?_ <;> omega) | (refine i_new ?_ ?_ <;> omega)) only [n_X10_held, q_X10_held_0, q_X10_held_1, q_X10_held_2, q_X10_held_3, q_X10_held_5, q_X10_held_7, q_X10_held_10, q_X10_held_11, q_X10_held_14, q_X10_held_15, q_X10_held_16n, q_X10_held_16, q_X10_held_19, q_X10_held_22, q_X10_held_25, q_X10_held_28, q_X10_held_29, i_add, i_sub, i_mul, i_neg, i_lt, i_le, i_eq, i_tm, i_div, i_j, j_i, j_add, j_sub, j_mul, j_neg, j_lt, j_le, j_eq, j_div, c_lt, c_le, c_gt, c_ge, c_eq, i_nat, rz_k, Nat.add_zero, Nat.zero_add, Nat.add_assoc, Nat.reduceAdd, if_true, if_false]
    exact l_held hy g1 8 0 0 rfl rfl
  have lm := w_lt hm
  have hm1 := v_mo (t := 0) hm
  have e2 : rz_ex X (d + 30) 263 [.ref 32] w = some (.inl (some (.int (Int32.ofInt (zf_ct (fun j => (G j).isSome) 8 : Nat)))), w.set 32 (rz_mo kp tl kd ty cl 0), 0, 0) := by
    have hH1 : v_za (w.set 32 (rz_mo kp tl kd ty cl 0)) 33 8 H := fr_get (fr_set (S := [32]) (by decide)) (by decide) g33
    have e0 : rz_pf w 32 11 18 .int (.int (Int32.ofInt 0)) (fun w => rz_G X (d + 29) mz_X11_held 5 [some (.ref 32), none, none, none, none, none] [] w 0 0) = rz_G X (d + 29) mz_X11_held 5 [some (.ref 32), none, none, none, none, none] [] (w.set 32 (rz_mo kp tl kd ty cl 0)) 0 0 := pf_eq hm rfl rfl rfl
    simp (disch := first | exact nl_i | exact nl_r | exact nl_0 | exact nl_n | exact nl_x | exact kd_r | exact kd_n | exact kd_x | exact kd_o | exact cats0 | exact cats1 | exact cats2 | exact cats3 | exact cats4 | exact nr_i | exact nr_l | exact nr_z0 | exact nr_z1 | exact ft_i | exact ft_l | omega | rfl | assumption | (refine i_ne0 ?_ ?_ ?_ <;> omega) | (refine j_ne0 ?_ ?_ ?_ <;> omega) | (refine i_new ?_ ?_ <;> omega)) only [n_X11_held, q_X11_held_0, q_X11_held_1, q_X11_held_2, e0]
    simp (disch := first | exact nl_i | exact nl_r | exact nl_0 | exact nl_n | exact nl_x | exact kd_r | exact kd_n | exact kd_x | exact kd_o | exact cats0 | exact cats1 | exact cats2 | exact cats3 | exact cats4 | exact nr_i | exact nr_l | exact nr_z0 | exact nr_z1 | exact ft_i | exact ft_l | omega | rfl | assumption | (refine i_ne0 ?_ ?_ ?_ <;> omega) | (refine j_ne0 ?_ ?_ ?_ <;> omega) | (refine i_new ?_ ?_ <;> omega)) only [n_X11_held, q_X11_held_0, q_X11_held_1, q_X11_held_2, q_X11_held_5, q_X11_held_6, q_X11_held_7, q_X11_held_8, q_X11_held_11, q_X11_held_12, q_X11_held_13, q_X11_held_13x, q_X11_held_14, q_X11_held_15, q_X11_held_16, q_X11_held_20, q_X11_held_21, q_X11_held_24, q_X11_held_25, q_X11_held_27, q_X11_held_28, q_X11_held_30, q_X11_held_31, q_X11_held_33, q_X11_held_36, q_X11_held_37, q_X11_held_40, q_X11_held_41, q_X11_held_42, q_X11_held_43, q_X11_held_46, q_X11_held_49, q_X11_held_50, i_add, i_sub, i_mul, i_neg, i_lt, i_le, i_eq, i_tm, i_div, i_j, j_i, j_add, j_sub, j_mul, j_neg, j_lt, j_le, j_eq, j_div, c_lt, c_le, c_gt, c_ge, c_eq, i_nat, rz_k, Nat.add_zero, Nat.zero_add, Nat.add_assoc, Nat.reduceAdd, if_true, if_false, gf_eq hm1, List.getElem?_cons_zero, List.getElem?_cons_succ, ln_eq hH1]
    exact l_held2 hH1 hGH 8 0 0 none rfl rfl
  refine ⟨⟨_, w, 0, 0, _, _, 0, 0, e1, hm, e2, ?_, by omega, by omega, .inl ⟨_, rfl⟩⟩, ?_⟩
  · exact (v_inv_th (S := []) hv hm 0 (fr_set (by decide)) (by simp) (v_misc_fr (S := [32]) (fr_set (by decide)) (by decide) hmi) hm1).1
  · intro v w1 c1 s1 h
    rw [e1] at h
    injection h with h
    injection h with h
    injection h with h
    injection h with h
    exact ⟨_, h.symm⟩
end RZHE
