/-! part 78: level 2: ways -/
section RZWU
variable {X : rz_X} {d : Nat} {w : rz_W} {nc ns : Nat} {kp tl kd ty cl th : Int}
theorem ag_ways {s : Int} (hs1 : -2147483648 ≤ s ∧ s ≤ 2147483647) (hv : v_inv w) : rz_ag X d 131 227 false [.int (Int32.ofInt s)] ["java/lang/IllegalStateException", "java/lang/IllegalArgumentException"] w := by
  obtain ⟨kp, tl, kd, ty, cl, th, hy, hm, hs, ht, hp, hq, hmi⟩ := id hv
  obtain ⟨n, v, V, V2, CC, YY, gr, lk, rfl, hn, g14, g15, g16, g17, g43, hpu⟩ := v_purse_get hp
  rcases hpu with rfl | ⟨hn2, hv2, hV, hC, hlk, hgr, hgc⟩
  · refine ag_thr0 (c1 := 1) (s1 := 6) 0 rfl hv hm ?_ ?_
    · simp (disch := first | exact nl_i | exact nl_r | exact nl_0 | exact nl_n | exact nl_x | exact kd_r | exact kd_n | exact kd_x | exact kd_o | exact cats0 | exact cats1 | exact cats2 | exact cats3 | exact cats4 | exact nr_i | exact nr_l | exact nr_z0 | exact nr_z1 | exact ft_i | exact ft_l | omega | rfl | assumption | (refine i_ne0 ?_ ?_ ?_ <;> omega) | (refine j_ne0 ?_ ?_ ?_ <;> omega) | (refine i_new ?_ ?_ <;> omega) | (refine bl_t ?_; with_unfolding_all rfl) | exact ft_z0 | exact ft_z1) only [n_X10_ways, q_X10_ways_0, q_X10_ways_1, q_X10_ways_4, q_X10_ways_5, q_X10_ways_6, q_X10_ways_9, q_X10_ways_12, q_X10_ways_13, q_X10_ways_16, q_X10_ways_17, q_X10_ways_20, q_X10_ways_21, q_X10_ways_24, q_X10_ways_25, q_X10_ways_28, i_add, i_sub, i_mul, i_neg, i_lt, i_le, i_eq, i_tm, i_div, i_j, j_i, j_add, j_sub, j_mul, j_neg, j_lt, j_le, j_eq, j_div, c_lt, c_le, c_gt, c_ge, c_eq, i_nat, rz_k, Nat.add_zero, Nat.zero_add, Nat.add_assoc, Nat.reduceAdd, if_true, if_false, vk_eq hy, x_coins0 hy g14 rfl]
      rfl
    · rintro wr hm rfl
      refine ⟨Int32.ofInt 0, [], 0, 0, ?_, by omega, by omega⟩
      have y1 := x_no0 (X := X) (d := d + 28) (k := 1) hm
      simp (disch := first | exact nl_i | exact nl_r | exact nl_0 | exact nl_n | exact nl_x | exact kd_r | exact kd_n | exact kd_x | exact kd_o | exact cats0 | exact cats1 | exact cats2 | exact cats3 | exact cats4 | exact nr_i | exact nr_l | exact nr_z0 | exact nr_z1 | exact ft_i | exact ft_l | omega | rfl | assumption | (refine i_ne0 ?_ ?_ ?_ <;> omega) | (refine j_ne0 ?_ ?_ ?_ <;> omega) | (refine i_new ?_ ?_ <;> omega) | (refine bl_t ?_; with_unfolding_all rfl) | exact ft_z0 | exact ft_z1) only [q_X11_ways_0, q_X11_ways_1, q_X11_ways_2, q_X11_ways_5, q_X11_ways_8, q_X11_ways_9, q_X11_ways_12, q_X11_ways_13, q_X11_ways_14, q_X11_ways_17, q_X11_ways_20, q_X11_ways_21, q_X11_ways_22, q_X11_ways_23, q_X11_ways_26, q_X11_ways_29, q_X11_ways_30, q_X11_ways_33, q_X11_ways_36, q_X11_ways_37, q_X11_ways_38, q_X11_ways_41, q_X11_ways_43, q_X11_ways_44, q_X11_ways_45, q_X11_ways_46, q_X11_ways_47, q_X11_ways_48, q_X11_ways_49, n_X11_ways, i_add, i_sub, i_mul, i_neg, i_lt, i_le, i_eq, i_tm, i_div, i_j, j_i, j_add, j_sub, j_mul, j_neg, j_lt, j_le, j_eq, j_div, c_lt, c_le, c_gt, c_ge, c_eq, i_nat, rz_k, Nat.add_zero, Nat.zero_add, Nat.add_assoc, Nat.reduceAdd, if_true, if_false, gf_eq hm, List.getElem?_cons_zero, List.getElem?_cons_succ, if_pos (show ((0 : Nat) : Int) ≤ 0 by omega), y1, vk_eq hm, List.append_nil, Int.reduceEq, not_false_eq_true]
      all_goals rfl
  have hco := x_coins1 (X := X) (d := d + 27) hy g14 rfl (show 1 ≤ (n : Int) ∧ (n : Int) ≤ 4 by omega)
  by_cases hsr : 0 ≤ s ∧ s ≤ 2500
  case neg =>
    refine ag_thr0 (c1 := 1) (s1 := 6) 1 rfl hv hm ?_ ?_
    · simp (disch := first | exact nl_i | exact nl_r | exact nl_0 | exact nl_n | exact nl_x | exact kd_r | exact kd_n | exact kd_x | exact kd_o | exact cats0 | exact cats1 | exact cats2 | exact cats3 | exact cats4 | exact nr_i | exact nr_l | exact nr_z0 | exact nr_z1 | exact ft_i | exact ft_l | omega | rfl | assumption | (refine i_ne0 ?_ ?_ ?_ <;> omega) | (refine j_ne0 ?_ ?_ ?_ <;> omega) | (refine i_new ?_ ?_ <;> omega) | (refine bl_t ?_; with_unfolding_all rfl) | exact ft_z0 | exact ft_z1) only [n_X10_ways, q_X10_ways_0, q_X10_ways_1, q_X10_ways_4, q_X10_ways_5, q_X10_ways_6, q_X10_ways_9, q_X10_ways_12, q_X10_ways_13, q_X10_ways_16, q_X10_ways_17, q_X10_ways_20, q_X10_ways_21, q_X10_ways_24, q_X10_ways_25, q_X10_ways_28, i_add, i_sub, i_mul, i_neg, i_lt, i_le, i_eq, i_tm, i_div, i_j, j_i, j_add, j_sub, j_mul, j_neg, j_lt, j_le, j_eq, j_div, c_lt, c_le, c_gt, c_ge, c_eq, i_nat, rz_k, Nat.add_zero, Nat.zero_add, Nat.add_assoc, Nat.reduceAdd, if_true, if_false, vk_eq hy, hco, x_range, if_neg hsr]
      rfl
    · rintro wr hm rfl
      refine ⟨Int32.ofInt 0, [], 0, 0, ?_, by omega, by omega⟩
      have y1 := x_no1 (X := X) (d := d + 28) (k := 1) hm
      have hm1 := v_mo (t := 0) hm
      have y2 := x_no0 (X := X) (d := d + 28) (k := 2) hm1
      rw [mo_mo] at y2
      simp (disch := first | exact nl_i | exact nl_r | exact nl_0 | exact nl_n | exact nl_x | exact kd_r | exact kd_n | exact kd_x | exact kd_o | exact cats0 | exact cats1 | exact cats2 | exact cats3 | exact cats4 | exact nr_i | exact nr_l | exact nr_z0 | exact nr_z1 | exact ft_i | exact ft_l | omega | rfl | assumption | (refine i_ne0 ?_ ?_ ?_ <;> omega) | (refine j_ne0 ?_ ?_ ?_ <;> omega) | (refine i_new ?_ ?_ <;> omega) | (refine bl_t ?_; with_unfolding_all rfl) | exact ft_z0 | exact ft_z1) only [q_X11_ways_0, q_X11_ways_1, q_X11_ways_2, q_X11_ways_5, q_X11_ways_8, q_X11_ways_9, q_X11_ways_12, q_X11_ways_13, q_X11_ways_14, q_X11_ways_17, q_X11_ways_20, q_X11_ways_21, q_X11_ways_22, q_X11_ways_23, q_X11_ways_26, q_X11_ways_29, q_X11_ways_30, q_X11_ways_33, q_X11_ways_36, q_X11_ways_37, q_X11_ways_38, q_X11_ways_41, q_X11_ways_43, q_X11_ways_44, q_X11_ways_45, q_X11_ways_46, q_X11_ways_47, q_X11_ways_48, q_X11_ways_49, n_X11_ways, i_add, i_sub, i_mul, i_neg, i_lt, i_le, i_eq, i_tm, i_div, i_j, j_i, j_add, j_sub, j_mul, j_neg, j_lt, j_le, j_eq, j_div, c_lt, c_le, c_gt, c_ge, c_eq, i_nat, rz_k, Nat.add_zero, Nat.zero_add, Nat.add_assoc, Nat.reduceAdd, if_true, if_false, gf_eq hm, List.getElem?_cons_zero, List.getElem?_cons_succ, if_neg (show ¬ (n : Int) ≤ 0 by omega), y1, vk_eq hm, vk_eq hm1, x_in, if_neg hsr, y2, List.append_nil, Int.reduceEq, not_false_eq_true, not_true_eq_false]
      all_goals rfl
  obtain ⟨q, rfl⟩ := Int.eq_ofNat_of_zero_le hsr.1
  have hWb := zf_W_big (v := v) hn (fun k hk => (hv2 k hk).1.1) q (by omega)
  obtain ⟨L, hL⟩ := zf_len_ex (zf_W v n q)
  have hL10 : L ≤ 10 := by
    rcases hL.2.2 with h | h
    · omega
    · rcases Nat.lt_or_ge 10 L with h9 | h9
      · have : 10 ^ 10 ≤ 10 ^ (L - 1) := Nat.pow_le_pow_right (by omega) (by omega)
        omega
      · exact h9
  have hwc : rz_ex X (d + 28) 86 [.ref 14, .int (Int32.ofInt q)] w = some (.inl (some (.int (Int32.ofInt (zf_W v n q : Nat)))), w, 0, 0) := by
    simp (disch := first | exact nl_i | exact nl_r | exact nl_0 | exact nl_n | exact nl_x | exact kd_r | exact kd_n | exact kd_x | exact kd_o | exact cats0 | exact cats1 | exact cats2 | exact cats3 | exact cats4 | exact nr_i | exact nr_l | exact nr_z0 | exact nr_z1 | exact ft_i | exact ft_l | omega | rfl | assumption | (refine i_ne0 ?_ ?_ ?_ <;> omega) | (refine j_ne0 ?_ ?_ ?_ <;> omega) | (refine i_new ?_ ?_ <;> omega) | (refine bl_t ?_; with_unfolding_all rfl) | exact ft_z0 | exact ft_z1) only [n_X7_wayCount, q_X7_wayCount_0, q_X7_wayCount_1, q_X7_wayCount_4, q_X7_wayCount_5, q_X7_wayCount_8, q_X7_wayCount_11, q_X7_wayCount_12, q_X7_wayCount_15, q_X7_wayCount_16, q_X7_wayCount_16x, q_X7_wayCount_17, q_X7_wayCount_20, q_X7_wayCount_21, i_add, i_sub, i_mul, i_neg, i_lt, i_le, i_eq, i_tm, i_div, i_j, j_i, j_add, j_sub, j_mul, j_neg, j_lt, j_le, j_eq, j_div, c_lt, c_le, c_gt, c_ge, c_eq, i_nat, rz_k, Nat.add_zero, Nat.zero_add, Nat.add_assoc, Nat.reduceAdd, if_true, if_false, gf_eq g14, List.getElem?_cons_zero, List.getElem?_cons_succ, ai_eq g17, Int.toNat_natCast, (hC q (by omega)).2]
    rw [if_neg (by omega), if_neg (by omega)]
  obtain ⟨w1, e1, f1, r1⟩ := x_becomeNumber (X := X) (d := d + 24) (z := ((zf_W v n q : Nat) : Int)) (n := zf_W v n q) (L := L) ht (by omega) (by omega) hL (by omega)
  have hnn : ¬ ((zf_W v n q : Nat) : Int) < 0 := by omega
  rw [if_neg hnn, List.nil_append] at e1 r1
  have hTl : (zds L (zf_W v n q)).length = L := zds_len
  obtain ⟨sg, sg2, g12, g13, g42, htl, hsg⟩ := id ht
  refine ag_txt (S1 := []) (c1 := 0) (s1 := 0) (w1 := w1) (T := zds L (zf_W v n q)) ⟨hy, hm, hs, ht, hp, hq, hmi⟩ ?_ f1 (by simp) (v_misc_fr f1 (by decide) hmi) r1 ⟨by omega, fun c hc => by have := zds_c hc; omega⟩ ?_
  · simp (disch := first | exact nl_i | exact nl_r | exact nl_0 | exact nl_n | exact nl_x | exact kd_r | exact kd_n | exact kd_x | exact kd_o | exact cats0 | exact cats1 | exact cats2 | exact cats3 | exact cats4 | exact nr_i | exact nr_l | exact nr_z0 | exact nr_z1 | exact ft_i | exact ft_l | omega | rfl | assumption | (refine i_ne0 ?_ ?_ ?_ <;> omega) | (refine j_ne0 ?_ ?_ ?_ <;> omega) | (refine i_new ?_ ?_ <;> omega) | (refine bl_t ?_; with_unfolding_all rfl) | exact ft_z0 | exact ft_z1) only [n_X10_ways, q_X10_ways_0, q_X10_ways_1, q_X10_ways_4, q_X10_ways_5, q_X10_ways_6, q_X10_ways_9, q_X10_ways_12, q_X10_ways_13, q_X10_ways_16, q_X10_ways_17, q_X10_ways_20, q_X10_ways_21, q_X10_ways_24, q_X10_ways_25, q_X10_ways_28, i_add, i_sub, i_mul, i_neg, i_lt, i_le, i_eq, i_tm, i_div, i_j, j_i, j_add, j_sub, j_mul, j_neg, j_lt, j_le, j_eq, j_div, c_lt, c_le, c_gt, c_ge, c_eq, i_nat, rz_k, Nat.add_zero, Nat.zero_add, Nat.add_assoc, Nat.reduceAdd, if_true, if_false, vk_eq hy, hco, x_range, if_pos hsr, gf_eq hy, vk_eq g14, List.getElem?_cons_zero, List.getElem?_cons_succ, hwc, vk_eq g12, e1]
  · intro wr hf hmr
    have y1 := x_no1 (X := X) (d := d + 28) (k := 1) hmr
    have hm1 := v_mo (t := 0) hmr
    have y2 := x_no1 (X := X) (d := d + 28) (k := 2) hm1
    rw [mo_mo] at y2
    generalize hwq : wr.set 32 (rz_mo kp tl n ty cl 0) = wq at *
    have frq : rz_fr [32] wr wq := by rw [← hwq]; exact fr_set (by decide)
    have fwq : rz_fr [48, 12, 13, 32] w wq := fr_trans (fr_sub hf (by decide)) (fr_sub frq (by decide))
    obtain ⟨F1, m4, e3, hF1⟩ := l_yw2 (X := X) (d := d + 29) (nc := 1) (ns := 2501) (w := wq) (x1 := Int32.ofInt q) hm1 (fr_get fwq (by decide) g43) hn hv2 rfl n 0 (vp_updL (fun _ => 0) 0 (Int64.ofInt 1)) none (by omega) (fun s hs => by
      unfold vp_updL zf_W
      by_cases h : s = 0
      · rw [if_pos h, if_pos h]; rfl
      · rw [if_neg h, if_neg h]; rfl)
    generalize hwx : wq ++ [.inl (.long, 2501, .inr (.inl F1))] = wx at e3
    have fqx : rz_fr [] wq wx := by rw [← hwx]; exact fr_al
    have hmx : v_model wx kp tl n ty cl 0 := fr_get fqx (by decide) hm1
    have hax : v_la wx wq.length 2501 F1 := by rw [← hwx]; exact w_new
    have lq : 49 ≤ wq.length := by
      obtain ⟨fo, h⟩ := v_inv_out hv
      have := w_lt h
      have := fwq.1
      omega
    generalize hwz : wx.set 32 (rz_mo kp 0 n ty cl 0) = wz
    have e4 : rz_pf wx 32 11 11 .int (.int (Int32.ofInt 0)) = fun K => K wz := by
      funext K
      rw [← hwz]
      exact pf_eq hmx rfl rfl rfl
    have fxz : rz_fr [32] wx wz := by rw [← hwz]; exact fr_set (by decide)
    have hmz : v_model wz kp 0 n ty cl 0 := by rw [← hwz]; exact w_eq (w_lt hmx)
    have haz : v_la wz wq.length 2501 F1 := fr_get fxz (by simp; omega) hax
    have fwz : rz_fr [48, 12, 13, 32] w wz := fr_trans fwq (fr_trans (fr_sub fqx (by simp)) (fr_sub fxz (by decide)))
    have hrt : v_rt wz [] kp n ty cl 0 := ⟨hmz, sg2, fr_get fwz (by decide) g42, fun k c h => by cases h⟩
    have hcond : L = 1 ∨ (1 : Int) = L ∨ 10 ^ (L - 1) ≤ zf_W v n q := by
      rcases hL.2.2 with h | h
      · exact .inl h
      · exact .inr (.inr h)
    obtain ⟨w2, e5, f5, r5⟩ := y_addsNumber (X := X) L (zf_W v n q) 1 (d + 29) wz [] (by omega) hL.1 hL.2.1 (by omega) (by omega) (by have := hL.1; omega) hcond (by omega) (by simp; omega) hrt
    rw [List.nil_append] at r5
    refine ⟨w2, 1, 2501, ?_, fr_trans (fr_sub frq (by decide)) (fr_trans (fr_sub fqx (by simp)) (fr_trans (fr_sub fxz (by decide)) f5)), r5, by omega, by omega⟩
    obtain ⟨m5, -⟩ := r5
    have hs0 : v_la (wq ++ [.inl (.long, 2501, .inr (.inl fun _ => 0))]) wq.length 2501 (fun _ => 0) := w_new
    simp (disch := first | exact nl_i | exact nl_r | exact nl_0 | exact nl_n | exact nl_x | exact kd_r | exact kd_n | exact kd_x | exact kd_o | exact cats0 | exact cats1 | exact cats2 | exact cats3 | exact cats4 | exact nr_i | exact nr_l | exact nr_z0 | exact nr_z1 | exact ft_i | exact ft_l | omega | rfl | assumption | (refine i_ne0 ?_ ?_ ?_ <;> omega) | (refine j_ne0 ?_ ?_ ?_ <;> omega) | (refine i_new ?_ ?_ <;> omega) | (refine bl_t ?_; with_unfolding_all rfl) | exact ft_z0 | exact ft_z1) only [q_X11_ways_0, q_X11_ways_1, q_X11_ways_2, q_X11_ways_5, q_X11_ways_8, q_X11_ways_9, q_X11_ways_12, q_X11_ways_13, q_X11_ways_14, q_X11_ways_17, q_X11_ways_20, q_X11_ways_21, q_X11_ways_22, q_X11_ways_23, q_X11_ways_26, q_X11_ways_29, q_X11_ways_30, q_X11_ways_33, q_X11_ways_36, q_X11_ways_37, q_X11_ways_38, q_X11_ways_41, q_X11_ways_43, q_X11_ways_44, q_X11_ways_45, q_X11_ways_46, q_X11_ways_47, q_X11_ways_48, q_X11_ways_49, n_X11_ways, i_add, i_sub, i_mul, i_neg, i_lt, i_le, i_eq, i_tm, i_div, i_j, j_i, j_add, j_sub, j_mul, j_neg, j_lt, j_le, j_eq, j_div, c_lt, c_le, c_gt, c_ge, c_eq, i_nat, rz_k, Nat.add_zero, Nat.zero_add, Nat.add_assoc, Nat.reduceAdd, if_true, if_false, gf_eq hmr, List.getElem?_cons_zero, List.getElem?_cons_succ, if_neg (show ¬ (n : Int) ≤ 0 by omega), y1, vk_eq hmr, vk_eq hm1, x_in, if_pos hsr, y2, Int.reduceToNat, sl_eq hs0, w_snew, Int.toNat_zero, Int.reduceEq, not_false_eq_true, not_true_eq_false]
    refine Eq.trans e3 ?_
    rw [q_X11_ways_104 rfl]
    simp (disch := first | exact nl_i | exact nl_r | exact nl_0 | exact nl_n | exact nl_x | exact kd_r | exact kd_n | exact kd_x | exact kd_o | exact cats0 | exact cats1 | exact cats2 | exact cats3 | exact cats4 | exact nr_i | exact nr_l | exact nr_z0 | exact nr_z1 | exact ft_i | exact ft_l | omega | rfl | assumption | (refine i_ne0 ?_ ?_ ?_ <;> omega) | (refine j_ne0 ?_ ?_ ?_ <;> omega) | (refine i_new ?_ ?_ <;> omega) | (refine bl_t ?_; with_unfolding_all rfl) | exact ft_z0 | exact ft_z1) only [q_X11_ways_105, q_X11_ways_106, q_X11_ways_109, q_X11_ways_110, q_X11_ways_111, q_X11_ways_112, q_X11_ways_113, q_X11_ways_114, q_X11_ways_117, q_X11_ways_118, q_X11_ways_121, i_add, i_sub, i_mul, i_neg, i_lt, i_le, i_eq, i_tm, i_div, i_j, j_i, j_add, j_sub, j_mul, j_neg, j_lt, j_le, j_eq, j_div, c_lt, c_le, c_gt, c_ge, c_eq, i_nat, rz_k, Nat.add_zero, Nat.zero_add, Nat.add_assoc, Nat.reduceAdd, if_true, if_false, e4, al_eq haz, Int.toNat_natCast, hF1 q (by omega), vk_eq hmz, e5, gf_eq m5, List.getElem?_cons_zero, List.getElem?_cons_succ]
end RZWU
