/-! part 68: level 2: canMake, fewest, lacks, lackAt -/
section RZLK
variable {X : rz_X} {d : Nat} {w : rz_W} {nc ns : Nat} {kp tl kd ty cl th : Int}
theorem v_purse_get (hp : v_purse w kd) : ∃ (n : Nat) (v : Nat → Nat) (V V2 CC YY : Nat → Int32) (gr lk : Int), kd = n ∧ n ≤ 4 ∧ v_ob w 14 7 [.int (Int32.ofInt kd), .int (Int32.ofInt gr), .int (Int32.ofInt lk), .ref 15, .ref 16, .ref 17] ∧ v_ia w 15 4 V ∧ v_ia w 16 2501 CC ∧ v_ia w 17 2501 YY ∧ v_ia w 43 4 V2 ∧ (n = 0 ∨ ((2 ≤ n) ∧ (∀ k, k < n → (2 ≤ v k ∧ v k ≤ 50) ∧ V2 k = Int32.ofInt (v k)) ∧ (∀ k, k < n → V k = Int32.ofInt (v k)) ∧ (∀ s, s ≤ 2500 → CC s = Int32.ofInt (zf_G v n s) ∧ YY s = Int32.ofInt (zf_W v n s)) ∧ lk = zf_lk (zf_G v n) 2501 ∧ gr = zf_ll (zf_G v n) 2501 ∧ (n = 2 → Nat.gcd (v 0) (v 1) = 1))) := by
  obtain ⟨V, V2, CC, YY, gr, lk, vv, ⟨g14, g15, g16, g17, g43, hpu⟩⟩ := id hp
  rcases hpu with rfl | ⟨h1, h2, h3, h4, h5, h6⟩
  · exact ⟨0, vv, V, V2, CC, YY, gr, lk, rfl, by omega, g14, g15, g16, g17, g43, .inl rfl⟩
  · obtain ⟨n, rfl⟩ := Int.eq_ofNat_of_zero_le (show 0 ≤ kd by omega)
    rw [Int.toNat_natCast] at h3 h4 h5
    exact ⟨n, vv, V, V2, CC, YY, gr, lk, rfl, by omega, g14, g15, g16, g17, g43, .inr ⟨by omega, fun k hk => ⟨(h2 k (by omega)).1, (h2 k (by omega)).2.2⟩, fun k hk => (h2 k (by omega)).2.1, h3, h4, h5, fun h => h6 (by omega)⟩⟩
theorem x_coins0 {fs : List Value} (hy : v_yard w kp) (h14 : v_ob w 14 7 fs) (h0 : fs[0]? = some (.int (Int32.ofInt 0))) : rz_ex X (d + 1) 155 [.ref 0] w = some (.inr "java/lang/IllegalStateException", w, 1, 6) := by
  simp (disch := first | exact nl_i | exact nl_r | exact nl_0 | exact nl_n | exact nl_x | exact kd_r | exact kd_n | exact kd_x | exact kd_o | exact cats0 | exact cats1 | exact cats2 | exact cats3 | exact cats4 | exact nr_i | exact nr_l | exact nr_z0 | exact nr_z1 | exact ft_i | exact ft_l | omega | rfl | assumption | (refine i_ne0 ?_ ?_ ?_ <;> omega) | (refine j_ne0 ?_ ?_ ?_ <;> omega) | (refine i_new ?_ ?_ <;> omega) | (refine bl_t ?_; with_unfolding_all rfl) | exact ft_z0 | exact ft_z1) only [n_X10_checkCoins, q_X10_checkCoins_0, q_X10_checkCoins_1, q_X10_checkCoins_4, q_X10_checkCoins_7, q_X10_checkCoins_10, q_X10_checkCoins_21, i_add, i_sub, i_mul, i_neg, i_lt, i_le, i_eq, i_tm, i_div, i_j, j_i, j_add, j_sub, j_mul, j_neg, j_lt, j_le, j_eq, j_div, c_lt, c_le, c_gt, c_ge, c_eq, i_nat, rz_k, Nat.add_zero, Nat.zero_add, Nat.add_assoc, Nat.reduceAdd, if_true, if_false, gf_eq hy, gf_eq h14, List.getElem?_cons_zero, List.getElem?_cons_succ, h0, Int.reduceEq, not_true_eq_false]
theorem x_coins1 {fs : List Value} {n : Int} (hy : v_yard w kp) (h14 : v_ob w 14 7 fs) (h0 : fs[0]? = some (.int (Int32.ofInt n))) (hn : 1 ≤ n ∧ n ≤ 4) : rz_ex X (d + 1) 155 [.ref 0] w = some (.inl none, w, 0, 0) := by
  simp (disch := first | exact nl_i | exact nl_r | exact nl_0 | exact nl_n | exact nl_x | exact kd_r | exact kd_n | exact kd_x | exact kd_o | exact cats0 | exact cats1 | exact cats2 | exact cats3 | exact cats4 | exact nr_i | exact nr_l | exact nr_z0 | exact nr_z1 | exact ft_i | exact ft_l | omega | rfl | assumption | (refine i_ne0 ?_ ?_ ?_ <;> omega) | (refine j_ne0 ?_ ?_ ?_ <;> omega) | (refine i_new ?_ ?_ <;> omega) | (refine bl_t ?_; with_unfolding_all rfl) | exact ft_z0 | exact ft_z1) only [n_X10_checkCoins, q_X10_checkCoins_0, q_X10_checkCoins_1, q_X10_checkCoins_4, q_X10_checkCoins_7, q_X10_checkCoins_10, q_X10_checkCoins_21, i_add, i_sub, i_mul, i_neg, i_lt, i_le, i_eq, i_tm, i_div, i_j, j_i, j_add, j_sub, j_mul, j_neg, j_lt, j_le, j_eq, j_div, c_lt, c_le, c_gt, c_ge, c_eq, i_nat, rz_k, Nat.add_zero, Nat.zero_add, Nat.add_assoc, Nat.reduceAdd, if_true, if_false, gf_eq hy, gf_eq h14, List.getElem?_cons_zero, List.getElem?_cons_succ, h0]
  rw [if_pos (by omega)]
theorem x_least {fs : List Value} {CC : Nat → Int32} {s : Nat} (h14 : v_ob w 14 7 fs) (h4 : fs[4]? = some (.ref 16)) (g16 : v_ia w 16 2501 CC) (hs : s ≤ 2500) : rz_ex X (d + 1) 85 [.ref 14, .int (Int32.ofInt s)] w = some (.inl (some (.int (CC s))), w, 0, 0) := by
  simp (disch := first | exact nl_i | exact nl_r | exact nl_0 | exact nl_n | exact nl_x | exact kd_r | exact kd_n | exact kd_x | exact kd_o | exact cats0 | exact cats1 | exact cats2 | exact cats3 | exact cats4 | exact nr_i | exact nr_l | exact nr_z0 | exact nr_z1 | exact ft_i | exact ft_l | omega | rfl | assumption | (refine i_ne0 ?_ ?_ ?_ <;> omega) | (refine j_ne0 ?_ ?_ ?_ <;> omega) | (refine i_new ?_ ?_ <;> omega) | (refine bl_t ?_; with_unfolding_all rfl) | exact ft_z0 | exact ft_z1) only [n_X7_leastCoins, q_X7_leastCoins_0, q_X7_leastCoins_1, q_X7_leastCoins_4, q_X7_leastCoins_5, q_X7_leastCoins_8, q_X7_leastCoins_11, q_X7_leastCoins_12, q_X7_leastCoins_15, q_X7_leastCoins_16, q_X7_leastCoins_16x, q_X7_leastCoins_17, q_X7_leastCoins_20, q_X7_leastCoins_21, i_add, i_sub, i_mul, i_neg, i_lt, i_le, i_eq, i_tm, i_div, i_j, j_i, j_add, j_sub, j_mul, j_neg, j_lt, j_le, j_eq, j_div, c_lt, c_le, c_gt, c_ge, c_eq, i_nat, rz_k, Nat.add_zero, Nat.zero_add, Nat.add_assoc, Nat.reduceAdd, if_true, if_false, gf_eq h14, h4, List.getElem?_cons_zero, List.getElem?_cons_succ, ai_eq g16, Int.toNat_natCast]
  rw [if_neg (by omega), if_neg (by omega)]
theorem ag_canMake {s : Int} (hs1 : -2147483648 ≤ s ∧ s ≤ 2147483647) (hv : v_inv w) : rz_ag X d 129 225 true [.int (Int32.ofInt s)] ["java/lang/IllegalStateException", "java/lang/IllegalArgumentException"] w := by
  obtain ⟨kp, tl, kd, ty, cl, th, hy, hm, hs, ht, hp, hq, hmi⟩ := id hv
  obtain ⟨n, v, V, V2, CC, YY, gr, lk, rfl, hn, g14, g15, g16, g17, g43, hpu⟩ := v_purse_get hp
  rcases hpu with rfl | ⟨hn2, hv2, hV, hC, hlk, hgr, hgc⟩
  · refine ag_thr0 (c1 := 1) (s1 := 6) 0 rfl hv hm ?_ ?_
    · simp (disch := first | exact nl_i | exact nl_r | exact nl_0 | exact nl_n | exact nl_x | exact kd_r | exact kd_n | exact kd_x | exact kd_o | exact cats0 | exact cats1 | exact cats2 | exact cats3 | exact cats4 | exact nr_i | exact nr_l | exact nr_z0 | exact nr_z1 | exact ft_i | exact ft_l | omega | rfl | assumption | (refine i_ne0 ?_ ?_ ?_ <;> omega) | (refine j_ne0 ?_ ?_ ?_ <;> omega) | (refine i_new ?_ ?_ <;> omega) | (refine bl_t ?_; with_unfolding_all rfl) | exact ft_z0 | exact ft_z1) only [n_X10_canMake, q_X10_canMake_0, q_X10_canMake_1, q_X10_canMake_4, q_X10_canMake_5, q_X10_canMake_6, q_X10_canMake_9, q_X10_canMake_12, q_X10_canMake_13, q_X10_canMake_16, q_X10_canMake_17, q_X10_canMake_20, q_X10_canMake_23, q_X10_canMake_24, q_X10_canMake_27, q_X10_canMake_28, i_add, i_sub, i_mul, i_neg, i_lt, i_le, i_eq, i_tm, i_div, i_j, j_i, j_add, j_sub, j_mul, j_neg, j_lt, j_le, j_eq, j_div, c_lt, c_le, c_gt, c_ge, c_eq, i_nat, rz_k, Nat.add_zero, Nat.zero_add, Nat.add_assoc, Nat.reduceAdd, if_true, if_false, vk_eq hy, x_coins0 hy g14 rfl]
      rfl
    · rintro wr hm rfl
      refine ⟨Int32.ofInt 0, [], 0, 0, ?_, by omega, by omega⟩
      have y1 := x_no0 (X := X) (d := d + 28) (k := 1) hm
      simp (disch := first | exact nl_i | exact nl_r | exact nl_0 | exact nl_n | exact nl_x | exact kd_r | exact kd_n | exact kd_x | exact kd_o | exact cats0 | exact cats1 | exact cats2 | exact cats3 | exact cats4 | exact nr_i | exact nr_l | exact nr_z0 | exact nr_z1 | exact ft_i | exact ft_l | omega | rfl | assumption | (refine i_ne0 ?_ ?_ ?_ <;> omega) | (refine j_ne0 ?_ ?_ ?_ <;> omega) | (refine i_new ?_ ?_ <;> omega) | (refine bl_t ?_; with_unfolding_all rfl) | exact ft_z0 | exact ft_z1) only [n_X11_canMake, q_X11_canMake_0, q_X11_canMake_1, q_X11_canMake_2, q_X11_canMake_5, q_X11_canMake_8, q_X11_canMake_9, q_X11_canMake_12, q_X11_canMake_13, q_X11_canMake_14, q_X11_canMake_17, q_X11_canMake_20, q_X11_canMake_21, q_X11_canMake_22, q_X11_canMake_23, q_X11_canMake_26, q_X11_canMake_29, q_X11_canMake_30, q_X11_canMake_33, q_X11_canMake_36, q_X11_canMake_37, q_X11_canMake_40, q_X11_canMake_41, q_X11_canMake_41x, q_X11_canMake_42, q_X11_canMake_45, q_X11_canMake_46, q_X11_canMake_49, q_X11_canMake_50, i_add, i_sub, i_mul, i_neg, i_lt, i_le, i_eq, i_tm, i_div, i_j, j_i, j_add, j_sub, j_mul, j_neg, j_lt, j_le, j_eq, j_div, c_lt, c_le, c_gt, c_ge, c_eq, i_nat, rz_k, Nat.add_zero, Nat.zero_add, Nat.add_assoc, Nat.reduceAdd, if_true, if_false, gf_eq hm, List.getElem?_cons_zero, List.getElem?_cons_succ, if_pos (show ((0 : Nat) : Int) ≤ 0 by omega), y1, vk_eq hm, List.append_nil, Int.reduceEq, not_false_eq_true]
      all_goals rfl
  have hco := x_coins1 (X := X) (d := d + 27) hy g14 rfl (show 1 ≤ (n : Int) ∧ (n : Int) ≤ 4 by omega)
  by_cases hsr : 0 ≤ s ∧ s ≤ 2500
  case neg =>
    refine ag_thr0 (c1 := 1) (s1 := 6) 1 rfl hv hm ?_ ?_
    · simp (disch := first | exact nl_i | exact nl_r | exact nl_0 | exact nl_n | exact nl_x | exact kd_r | exact kd_n | exact kd_x | exact kd_o | exact cats0 | exact cats1 | exact cats2 | exact cats3 | exact cats4 | exact nr_i | exact nr_l | exact nr_z0 | exact nr_z1 | exact ft_i | exact ft_l | omega | rfl | assumption | (refine i_ne0 ?_ ?_ ?_ <;> omega) | (refine j_ne0 ?_ ?_ ?_ <;> omega) | (refine i_new ?_ ?_ <;> omega) | (refine bl_t ?_; with_unfolding_all rfl) | exact ft_z0 | exact ft_z1) only [n_X10_canMake, q_X10_canMake_0, q_X10_canMake_1, q_X10_canMake_4, q_X10_canMake_5, q_X10_canMake_6, q_X10_canMake_9, q_X10_canMake_12, q_X10_canMake_13, q_X10_canMake_16, q_X10_canMake_17, q_X10_canMake_20, q_X10_canMake_23, q_X10_canMake_24, q_X10_canMake_27, q_X10_canMake_28, i_add, i_sub, i_mul, i_neg, i_lt, i_le, i_eq, i_tm, i_div, i_j, j_i, j_add, j_sub, j_mul, j_neg, j_lt, j_le, j_eq, j_div, c_lt, c_le, c_gt, c_ge, c_eq, i_nat, rz_k, Nat.add_zero, Nat.zero_add, Nat.add_assoc, Nat.reduceAdd, if_true, if_false, vk_eq hy, hco, x_range, if_neg hsr]
      rfl
    · rintro wr hm rfl
      refine ⟨Int32.ofInt 0, [], 0, 0, ?_, by omega, by omega⟩
      have y1 := x_no1 (X := X) (d := d + 28) (k := 1) hm
      have hm1 := v_mo (t := 0) hm
      have y2 := x_no0 (X := X) (d := d + 28) (k := 2) hm1
      rw [mo_mo] at y2
      simp (disch := first | exact nl_i | exact nl_r | exact nl_0 | exact nl_n | exact nl_x | exact kd_r | exact kd_n | exact kd_x | exact kd_o | exact cats0 | exact cats1 | exact cats2 | exact cats3 | exact cats4 | exact nr_i | exact nr_l | exact nr_z0 | exact nr_z1 | exact ft_i | exact ft_l | omega | rfl | assumption | (refine i_ne0 ?_ ?_ ?_ <;> omega) | (refine j_ne0 ?_ ?_ ?_ <;> omega) | (refine i_new ?_ ?_ <;> omega) | (refine bl_t ?_; with_unfolding_all rfl) | exact ft_z0 | exact ft_z1) only [n_X11_canMake, q_X11_canMake_0, q_X11_canMake_1, q_X11_canMake_2, q_X11_canMake_5, q_X11_canMake_8, q_X11_canMake_9, q_X11_canMake_12, q_X11_canMake_13, q_X11_canMake_14, q_X11_canMake_17, q_X11_canMake_20, q_X11_canMake_21, q_X11_canMake_22, q_X11_canMake_23, q_X11_canMake_26, q_X11_canMake_29, q_X11_canMake_30, q_X11_canMake_33, q_X11_canMake_36, q_X11_canMake_37, q_X11_canMake_40, q_X11_canMake_41, q_X11_canMake_41x, q_X11_canMake_42, q_X11_canMake_45, q_X11_canMake_46, q_X11_canMake_49, q_X11_canMake_50, i_add, i_sub, i_mul, i_neg, i_lt, i_le, i_eq, i_tm, i_div, i_j, j_i, j_add, j_sub, j_mul, j_neg, j_lt, j_le, j_eq, j_div, c_lt, c_le, c_gt, c_ge, c_eq, i_nat, rz_k, Nat.add_zero, Nat.zero_add, Nat.add_assoc, Nat.reduceAdd, if_true, if_false, gf_eq hm, List.getElem?_cons_zero, List.getElem?_cons_succ, if_neg (show ¬ (n : Int) ≤ 0 by omega), y1, vk_eq hm, vk_eq hm1, x_in, if_neg hsr, y2, List.append_nil, Int.reduceEq, not_false_eq_true, not_true_eq_false]
      all_goals rfl
  obtain ⟨q, rfl⟩ := Int.eq_ofNat_of_zero_le hsr.1
  have hle := x_least (X := X) (d := d + 27) (s := q) g14 rfl g16 (by omega)
  rw [(hC q (by omega)).1] at hle
  have hG := zf_G_b (n := n) (s := q) (fun k hk => by have := (hv2 k hk).1; omega : ∀ k, k < n → 1 ≤ v k)
  refine ag_ret0 (r := Int32.ofInt (if zf_G v n q < 0 then 0 else 1)) (c1 := 0) (s1 := 0) hv hm ?_ ?_ ?_
  · simp (disch := first | exact nl_i | exact nl_r | exact nl_0 | exact nl_n | exact nl_x | exact kd_r | exact kd_n | exact kd_x | exact kd_o | exact cats0 | exact cats1 | exact cats2 | exact cats3 | exact cats4 | exact nr_i | exact nr_l | exact nr_z0 | exact nr_z1 | exact ft_i | exact ft_l | omega | rfl | assumption | (refine i_ne0 ?_ ?_ ?_ <;> omega) | (refine j_ne0 ?_ ?_ ?_ <;> omega) | (refine i_new ?_ ?_ <;> omega) | (refine bl_t ?_; with_unfolding_all rfl) | exact ft_z0 | exact ft_z1) only [n_X10_canMake, q_X10_canMake_0, q_X10_canMake_1, q_X10_canMake_4, q_X10_canMake_5, q_X10_canMake_6, q_X10_canMake_9, q_X10_canMake_12, q_X10_canMake_13, q_X10_canMake_16, q_X10_canMake_17, q_X10_canMake_20, q_X10_canMake_23, q_X10_canMake_24, q_X10_canMake_27, q_X10_canMake_28, i_add, i_sub, i_mul, i_neg, i_lt, i_le, i_eq, i_tm, i_div, i_j, j_i, j_add, j_sub, j_mul, j_neg, j_lt, j_le, j_eq, j_div, c_lt, c_le, c_gt, c_ge, c_eq, i_nat, rz_k, Nat.add_zero, Nat.zero_add, Nat.add_assoc, Nat.reduceAdd, if_true, if_false, vk_eq hy, hco, x_range, if_pos hsr, gf_eq hy, vk_eq g14, List.getElem?_cons_zero, List.getElem?_cons_succ, hle]
    split <;> rfl
  · intro _
    split
    · exact .inl rfl
    · exact .inr rfl
  · intro wr hf hmr hv'
    have y1 := x_no1 (X := X) (d := d + 28) (k := 1) hmr
    have hm1 := v_mo (t := 0) hmr
    have y2 := x_no1 (X := X) (d := d + 28) (k := 2) hm1
    rw [mo_mo] at y2
    have hf1 : rz_fr [48, 32] w (wr.set 32 (rz_mo kp tl n ty cl 0)) := fr_trans (fr_sub hf (by decide)) (fr_set (by decide))
    obtain ⟨F, e, hF⟩ := y_fewestOf (X := X) (d := d + 28) hm1 (fr_get hf1 (by decide) g43) hn hv2
    refine ⟨[.inl (.int, 2501, .inl F)], 1, 2501, ?_, by omega, by omega⟩
    have hF0 : v_ia (wr.set 32 (rz_mo kp tl n ty cl 0) ++ [.inl (.int, 2501, .inl F)]) (wr.set 32 (rz_mo kp tl n ty cl 0)).length 2501 F := w_new
    simp (disch := first | exact nl_i | exact nl_r | exact nl_0 | exact nl_n | exact nl_x | exact kd_r | exact kd_n | exact kd_x | exact kd_o | exact cats0 | exact cats1 | exact cats2 | exact cats3 | exact cats4 | exact nr_i | exact nr_l | exact nr_z0 | exact nr_z1 | exact ft_i | exact ft_l | omega | rfl | assumption | (refine i_ne0 ?_ ?_ ?_ <;> omega) | (refine j_ne0 ?_ ?_ ?_ <;> omega) | (refine i_new ?_ ?_ <;> omega) | (refine bl_t ?_; with_unfolding_all rfl) | exact ft_z0 | exact ft_z1) only [n_X11_canMake, q_X11_canMake_0, q_X11_canMake_1, q_X11_canMake_2, q_X11_canMake_5, q_X11_canMake_8, q_X11_canMake_9, q_X11_canMake_12, q_X11_canMake_13, q_X11_canMake_14, q_X11_canMake_17, q_X11_canMake_20, q_X11_canMake_21, q_X11_canMake_22, q_X11_canMake_23, q_X11_canMake_26, q_X11_canMake_29, q_X11_canMake_30, q_X11_canMake_33, q_X11_canMake_36, q_X11_canMake_37, q_X11_canMake_40, q_X11_canMake_41, q_X11_canMake_41x, q_X11_canMake_42, q_X11_canMake_45, q_X11_canMake_46, q_X11_canMake_49, q_X11_canMake_50, i_add, i_sub, i_mul, i_neg, i_lt, i_le, i_eq, i_tm, i_div, i_j, j_i, j_add, j_sub, j_mul, j_neg, j_lt, j_le, j_eq, j_div, c_lt, c_le, c_gt, c_ge, c_eq, i_nat, rz_k, Nat.add_zero, Nat.zero_add, Nat.add_assoc, Nat.reduceAdd, if_true, if_false, gf_eq hmr, List.getElem?_cons_zero, List.getElem?_cons_succ, if_neg (show ¬ (n : Int) ≤ 0 by omega), y1, vk_eq hmr, vk_eq hm1, x_in, if_pos hsr, y2, e, ai_eq hF0, Int.toNat_natCast, hF q (by omega), Int.reduceEq, not_false_eq_true, not_true_eq_false]
    split <;> rfl
theorem ag_fewest {s : Int} (hs1 : -2147483648 ≤ s ∧ s ≤ 2147483647) (hv : v_inv w) : rz_ag X d 130 226 false [.int (Int32.ofInt s)] ["java/lang/IllegalStateException", "java/lang/IllegalArgumentException", "java/util/NoSuchElementException"] w := by
  obtain ⟨kp, tl, kd, ty, cl, th, hy, hm, hs, ht, hp, hq, hmi⟩ := id hv
  obtain ⟨n, v, V, V2, CC, YY, gr, lk, rfl, hn, g14, g15, g16, g17, g43, hpu⟩ := v_purse_get hp
  rcases hpu with rfl | ⟨hn2, hv2, hV, hC, hlk, hgr, hgc⟩
  · refine ag_thr0 (c1 := 1) (s1 := 6) 0 rfl hv hm ?_ ?_
    · simp (disch := first | exact nl_i | exact nl_r | exact nl_0 | exact nl_n | exact nl_x | exact kd_r | exact kd_n | exact kd_x | exact kd_o | exact cats0 | exact cats1 | exact cats2 | exact cats3 | exact cats4 | exact nr_i | exact nr_l | exact nr_z0 | exact nr_z1 | exact ft_i | exact ft_l | omega | rfl | assumption | (refine i_ne0 ?_ ?_ ?_ <;> omega) | (refine j_ne0 ?_ ?_ ?_ <;> omega) | (refine i_new ?_ ?_ <;> omega) | (refine bl_t ?_; with_unfolding_all rfl) | exact ft_z0 | exact ft_z1) only [n_X10_fewest, q_X10_fewest_0, q_X10_fewest_1, q_X10_fewest_4, q_X10_fewest_5, q_X10_fewest_6, q_X10_fewest_9, q_X10_fewest_12, q_X10_fewest_13, q_X10_fewest_16, q_X10_fewest_17, q_X10_fewest_20, q_X10_fewest_21, q_X10_fewest_22, q_X10_fewest_25, q_X10_fewest_36, q_X10_fewest_37, i_add, i_sub, i_mul, i_neg, i_lt, i_le, i_eq, i_tm, i_div, i_j, j_i, j_add, j_sub, j_mul, j_neg, j_lt, j_le, j_eq, j_div, c_lt, c_le, c_gt, c_ge, c_eq, i_nat, rz_k, Nat.add_zero, Nat.zero_add, Nat.add_assoc, Nat.reduceAdd, if_true, if_false, vk_eq hy, x_coins0 hy g14 rfl]
      rfl
    · rintro wr hm rfl
      refine ⟨Int32.ofInt 0, [], 0, 0, ?_, by omega, by omega⟩
      have y1 := x_no0 (X := X) (d := d + 28) (k := 1) hm
      simp (disch := first | exact nl_i | exact nl_r | exact nl_0 | exact nl_n | exact nl_x | exact kd_r | exact kd_n | exact kd_x | exact kd_o | exact cats0 | exact cats1 | exact cats2 | exact cats3 | exact cats4 | exact nr_i | exact nr_l | exact nr_z0 | exact nr_z1 | exact ft_i | exact ft_l | omega | rfl | assumption | (refine i_ne0 ?_ ?_ ?_ <;> omega) | (refine j_ne0 ?_ ?_ ?_ <;> omega) | (refine i_new ?_ ?_ <;> omega) | (refine bl_t ?_; with_unfolding_all rfl) | exact ft_z0 | exact ft_z1) only [n_X11_fewest, q_X11_fewest_0, q_X11_fewest_1, q_X11_fewest_2, q_X11_fewest_5, q_X11_fewest_8, q_X11_fewest_9, q_X11_fewest_12, q_X11_fewest_13, q_X11_fewest_14, q_X11_fewest_17, q_X11_fewest_20, q_X11_fewest_21, q_X11_fewest_22, q_X11_fewest_23, q_X11_fewest_26, q_X11_fewest_29, q_X11_fewest_30, q_X11_fewest_33, q_X11_fewest_36, q_X11_fewest_37, q_X11_fewest_38, q_X11_fewest_39, q_X11_fewest_42, q_X11_fewest_43, q_X11_fewest_43x, q_X11_fewest_44, q_X11_fewest_45, q_X11_fewest_46, q_X11_fewest_47, q_X11_fewest_50, q_X11_fewest_51, q_X11_fewest_54, q_X11_fewest_55, q_X11_fewest_56, q_X11_fewest_59, q_X11_fewest_62, q_X11_fewest_63, q_X11_fewest_66, q_X11_fewest_67, i_add, i_sub, i_mul, i_neg, i_lt, i_le, i_eq, i_tm, i_div, i_j, j_i, j_add, j_sub, j_mul, j_neg, j_lt, j_le, j_eq, j_div, c_lt, c_le, c_gt, c_ge, c_eq, i_nat, rz_k, Nat.add_zero, Nat.zero_add, Nat.add_assoc, Nat.reduceAdd, if_true, if_false, gf_eq hm, List.getElem?_cons_zero, List.getElem?_cons_succ, if_pos (show ((0 : Nat) : Int) ≤ 0 by omega), y1, vk_eq hm, List.append_nil, Int.reduceEq, not_false_eq_true]
      all_goals rfl
  have hco := x_coins1 (X := X) (d := d + 27) hy g14 rfl (show 1 ≤ (n : Int) ∧ (n : Int) ≤ 4 by omega)
  by_cases hsr : 0 ≤ s ∧ s ≤ 2500
  case neg =>
    refine ag_thr0 (c1 := 1) (s1 := 6) 1 rfl hv hm ?_ ?_
    · simp (disch := first | exact nl_i | exact nl_r | exact nl_0 | exact nl_n | exact nl_x | exact kd_r | exact kd_n | exact kd_x | exact kd_o | exact cats0 | exact cats1 | exact cats2 | exact cats3 | exact cats4 | exact nr_i | exact nr_l | exact nr_z0 | exact nr_z1 | exact ft_i | exact ft_l | omega | rfl | assumption | (refine i_ne0 ?_ ?_ ?_ <;> omega) | (refine j_ne0 ?_ ?_ ?_ <;> omega) | (refine i_new ?_ ?_ <;> omega) | (refine bl_t ?_; with_unfolding_all rfl) | exact ft_z0 | exact ft_z1) only [n_X10_fewest, q_X10_fewest_0, q_X10_fewest_1, q_X10_fewest_4, q_X10_fewest_5, q_X10_fewest_6, q_X10_fewest_9, q_X10_fewest_12, q_X10_fewest_13, q_X10_fewest_16, q_X10_fewest_17, q_X10_fewest_20, q_X10_fewest_21, q_X10_fewest_22, q_X10_fewest_25, q_X10_fewest_36, q_X10_fewest_37, i_add, i_sub, i_mul, i_neg, i_lt, i_le, i_eq, i_tm, i_div, i_j, j_i, j_add, j_sub, j_mul, j_neg, j_lt, j_le, j_eq, j_div, c_lt, c_le, c_gt, c_ge, c_eq, i_nat, rz_k, Nat.add_zero, Nat.zero_add, Nat.add_assoc, Nat.reduceAdd, if_true, if_false, vk_eq hy, hco, x_range, if_neg hsr]
      rfl
    · rintro wr hm rfl
      refine ⟨Int32.ofInt 0, [], 0, 0, ?_, by omega, by omega⟩
      have y1 := x_no1 (X := X) (d := d + 28) (k := 1) hm
      have hm1 := v_mo (t := 0) hm
      have y2 := x_no0 (X := X) (d := d + 28) (k := 2) hm1
      rw [mo_mo] at y2
      simp (disch := first | exact nl_i | exact nl_r | exact nl_0 | exact nl_n | exact nl_x | exact kd_r | exact kd_n | exact kd_x | exact kd_o | exact cats0 | exact cats1 | exact cats2 | exact cats3 | exact cats4 | exact nr_i | exact nr_l | exact nr_z0 | exact nr_z1 | exact ft_i | exact ft_l | omega | rfl | assumption | (refine i_ne0 ?_ ?_ ?_ <;> omega) | (refine j_ne0 ?_ ?_ ?_ <;> omega) | (refine i_new ?_ ?_ <;> omega) | (refine bl_t ?_; with_unfolding_all rfl) | exact ft_z0 | exact ft_z1) only [n_X11_fewest, q_X11_fewest_0, q_X11_fewest_1, q_X11_fewest_2, q_X11_fewest_5, q_X11_fewest_8, q_X11_fewest_9, q_X11_fewest_12, q_X11_fewest_13, q_X11_fewest_14, q_X11_fewest_17, q_X11_fewest_20, q_X11_fewest_21, q_X11_fewest_22, q_X11_fewest_23, q_X11_fewest_26, q_X11_fewest_29, q_X11_fewest_30, q_X11_fewest_33, q_X11_fewest_36, q_X11_fewest_37, q_X11_fewest_38, q_X11_fewest_39, q_X11_fewest_42, q_X11_fewest_43, q_X11_fewest_43x, q_X11_fewest_44, q_X11_fewest_45, q_X11_fewest_46, q_X11_fewest_47, q_X11_fewest_50, q_X11_fewest_51, q_X11_fewest_54, q_X11_fewest_55, q_X11_fewest_56, q_X11_fewest_59, q_X11_fewest_62, q_X11_fewest_63, q_X11_fewest_66, q_X11_fewest_67, i_add, i_sub, i_mul, i_neg, i_lt, i_le, i_eq, i_tm, i_div, i_j, j_i, j_add, j_sub, j_mul, j_neg, j_lt, j_le, j_eq, j_div, c_lt, c_le, c_gt, c_ge, c_eq, i_nat, rz_k, Nat.add_zero, Nat.zero_add, Nat.add_assoc, Nat.reduceAdd, if_true, if_false, gf_eq hm, List.getElem?_cons_zero, List.getElem?_cons_succ, if_neg (show ¬ (n : Int) ≤ 0 by omega), y1, vk_eq hm, vk_eq hm1, x_in, if_neg hsr, y2, List.append_nil, Int.reduceEq, not_false_eq_true, not_true_eq_false]
      all_goals rfl
  obtain ⟨q, rfl⟩ := Int.eq_ofNat_of_zero_le hsr.1
  have hle := x_least (X := X) (d := d + 27) (s := q) g14 rfl g16 (by omega)
  rw [(hC q (by omega)).1] at hle
  have hG := zf_G_b (n := n) (s := q) (fun k hk => by have := (hv2 k hk).1; omega : ∀ k, k < n → 1 ≤ v k)
  by_cases hneg : zf_G v n q < 0
  · refine ag_thr0 (c1 := 1) (s1 := 6) 2 rfl hv hm ?_ ?_
    · simp (disch := first | exact nl_i | exact nl_r | exact nl_0 | exact nl_n | exact nl_x | exact kd_r | exact kd_n | exact kd_x | exact kd_o | exact cats0 | exact cats1 | exact cats2 | exact cats3 | exact cats4 | exact nr_i | exact nr_l | exact nr_z0 | exact nr_z1 | exact ft_i | exact ft_l | omega | rfl | assumption | (refine i_ne0 ?_ ?_ ?_ <;> omega) | (refine j_ne0 ?_ ?_ ?_ <;> omega) | (refine i_new ?_ ?_ <;> omega) | (refine bl_t ?_; with_unfolding_all rfl) | exact ft_z0 | exact ft_z1) only [n_X10_fewest, q_X10_fewest_0, q_X10_fewest_1, q_X10_fewest_4, q_X10_fewest_5, q_X10_fewest_6, q_X10_fewest_9, q_X10_fewest_12, q_X10_fewest_13, q_X10_fewest_16, q_X10_fewest_17, q_X10_fewest_20, q_X10_fewest_21, q_X10_fewest_22, q_X10_fewest_25, q_X10_fewest_36, q_X10_fewest_37, i_add, i_sub, i_mul, i_neg, i_lt, i_le, i_eq, i_tm, i_div, i_j, j_i, j_add, j_sub, j_mul, j_neg, j_lt, j_le, j_eq, j_div, c_lt, c_le, c_gt, c_ge, c_eq, i_nat, rz_k, Nat.add_zero, Nat.zero_add, Nat.add_assoc, Nat.reduceAdd, if_true, if_false, vk_eq hy, hco, x_range, if_pos hsr, gf_eq hy, vk_eq g14, List.getElem?_cons_zero, List.getElem?_cons_succ, hle]
      rw [if_neg (by omega)]
    · rintro wr hmr rfl
      have y1 := x_no1 (X := X) (d := d + 28) (k := 1) hmr
      have hm1 := v_mo (t := 0) hmr
      have y2 := x_no1 (X := X) (d := d + 28) (k := 2) hm1
      rw [mo_mo] at y2
      have hf1 : rz_fr [32] wr (wr.set 32 (rz_mo kp tl n ty cl 0)) := fr_set (by decide)
      obtain ⟨F, e, hF⟩ := y_fewestOf (X := X) (d := d + 28) hm1 (fr_get hf1 (by decide) g43) hn hv2
      refine ⟨Int32.ofInt 0, [.inl (.int, 2501, .inl F)], 1, 2501, ?_, by omega, by omega⟩
      have hF0 : v_ia (wr.set 32 (rz_mo kp tl n ty cl 0) ++ [.inl (.int, 2501, .inl F)]) (wr.set 32 (rz_mo kp tl n ty cl 0)).length 2501 F := w_new
      have hm2 : v_model (wr.set 32 (rz_mo kp tl n ty cl 0) ++ [.inl (.int, 2501, .inl F)]) kp tl n ty cl 0 := fr_get (fr_al (w := wr.set 32 (rz_mo kp tl n ty cl 0))) (by simp) hm1
      have y3 := x_no0 (X := X) (d := d + 28) (k := 3) hm2
      rw [List.set_append_left _ _ (w_lt hm1), mo_mo] at y3
      simp (disch := first | exact nl_i | exact nl_r | exact nl_0 | exact nl_n | exact nl_x | exact kd_r | exact kd_n | exact kd_x | exact kd_o | exact cats0 | exact cats1 | exact cats2 | exact cats3 | exact cats4 | exact nr_i | exact nr_l | exact nr_z0 | exact nr_z1 | exact ft_i | exact ft_l | omega | rfl | assumption | (refine i_ne0 ?_ ?_ ?_ <;> omega) | (refine j_ne0 ?_ ?_ ?_ <;> omega) | (refine i_new ?_ ?_ <;> omega) | (refine bl_t ?_; with_unfolding_all rfl) | exact ft_z0 | exact ft_z1) only [n_X11_fewest, q_X11_fewest_0, q_X11_fewest_1, q_X11_fewest_2, q_X11_fewest_5, q_X11_fewest_8, q_X11_fewest_9, q_X11_fewest_12, q_X11_fewest_13, q_X11_fewest_14, q_X11_fewest_17, q_X11_fewest_20, q_X11_fewest_21, q_X11_fewest_22, q_X11_fewest_23, q_X11_fewest_26, q_X11_fewest_29, q_X11_fewest_30, q_X11_fewest_33, q_X11_fewest_36, q_X11_fewest_37, q_X11_fewest_38, q_X11_fewest_39, q_X11_fewest_42, q_X11_fewest_43, q_X11_fewest_43x, q_X11_fewest_44, q_X11_fewest_45, q_X11_fewest_46, q_X11_fewest_47, q_X11_fewest_50, q_X11_fewest_51, q_X11_fewest_54, q_X11_fewest_55, q_X11_fewest_56, q_X11_fewest_59, q_X11_fewest_62, q_X11_fewest_63, q_X11_fewest_66, q_X11_fewest_67, i_add, i_sub, i_mul, i_neg, i_lt, i_le, i_eq, i_tm, i_div, i_j, j_i, j_add, j_sub, j_mul, j_neg, j_lt, j_le, j_eq, j_div, c_lt, c_le, c_gt, c_ge, c_eq, i_nat, rz_k, Nat.add_zero, Nat.zero_add, Nat.add_assoc, Nat.reduceAdd, if_true, if_false, gf_eq hmr, List.getElem?_cons_zero, List.getElem?_cons_succ, if_neg (show ¬ (n : Int) ≤ 0 by omega), y1, vk_eq hmr, vk_eq hm1, x_in, if_pos hsr, y2, e, ai_eq hF0, Int.toNat_natCast, hF q (by omega), if_pos hneg, vk_eq hm2, y3, Int.reduceEq, not_false_eq_true, not_true_eq_false]
      all_goals rfl
  · refine ag_ret0 (r := Int32.ofInt (zf_G v n q)) (c1 := 0) (s1 := 0) hv hm ?_ (fun h => by cases h) ?_
    · simp (disch := first | exact nl_i | exact nl_r | exact nl_0 | exact nl_n | exact nl_x | exact kd_r | exact kd_n | exact kd_x | exact kd_o | exact cats0 | exact cats1 | exact cats2 | exact cats3 | exact cats4 | exact nr_i | exact nr_l | exact nr_z0 | exact nr_z1 | exact ft_i | exact ft_l | omega | rfl | assumption | (refine i_ne0 ?_ ?_ ?_ <;> omega) | (refine j_ne0 ?_ ?_ ?_ <;> omega) | (refine i_new ?_ ?_ <;> omega) | (refine bl_t ?_; with_unfolding_all rfl) | exact ft_z0 | exact ft_z1) only [n_X10_fewest, q_X10_fewest_0, q_X10_fewest_1, q_X10_fewest_4, q_X10_fewest_5, q_X10_fewest_6, q_X10_fewest_9, q_X10_fewest_12, q_X10_fewest_13, q_X10_fewest_16, q_X10_fewest_17, q_X10_fewest_20, q_X10_fewest_21, q_X10_fewest_22, q_X10_fewest_25, q_X10_fewest_36, q_X10_fewest_37, i_add, i_sub, i_mul, i_neg, i_lt, i_le, i_eq, i_tm, i_div, i_j, j_i, j_add, j_sub, j_mul, j_neg, j_lt, j_le, j_eq, j_div, c_lt, c_le, c_gt, c_ge, c_eq, i_nat, rz_k, Nat.add_zero, Nat.zero_add, Nat.add_assoc, Nat.reduceAdd, if_true, if_false, vk_eq hy, hco, x_range, if_pos hsr, gf_eq hy, vk_eq g14, List.getElem?_cons_zero, List.getElem?_cons_succ, hle]
      rw [if_pos (by omega)]
    · intro wr hf hmr hv'
      have y1 := x_no1 (X := X) (d := d + 28) (k := 1) hmr
      have hm1 := v_mo (t := 0) hmr
      have y2 := x_no1 (X := X) (d := d + 28) (k := 2) hm1
      rw [mo_mo] at y2
      have hf1 : rz_fr [48, 32] w (wr.set 32 (rz_mo kp tl n ty cl 0)) := fr_trans (fr_sub hf (by decide)) (fr_set (by decide))
      obtain ⟨F, e, hF⟩ := y_fewestOf (X := X) (d := d + 28) hm1 (fr_get hf1 (by decide) g43) hn hv2
      refine ⟨[.inl (.int, 2501, .inl F)], 1, 2501, ?_, by omega, by omega⟩
      have hF0 : v_ia (wr.set 32 (rz_mo kp tl n ty cl 0) ++ [.inl (.int, 2501, .inl F)]) (wr.set 32 (rz_mo kp tl n ty cl 0)).length 2501 F := w_new
      have hm2 : v_model (wr.set 32 (rz_mo kp tl n ty cl 0) ++ [.inl (.int, 2501, .inl F)]) kp tl n ty cl 0 := fr_get (fr_al (w := wr.set 32 (rz_mo kp tl n ty cl 0))) (by simp) hm1
      have y3 := x_no1 (X := X) (d := d + 28) (k := 3) hm2
      rw [List.set_append_left _ _ (w_lt hm1), mo_mo] at y3
      simp (disch := first | exact nl_i | exact nl_r | exact nl_0 | exact nl_n | exact nl_x | exact kd_r | exact kd_n | exact kd_x | exact kd_o | exact cats0 | exact cats1 | exact cats2 | exact cats3 | exact cats4 | exact nr_i | exact nr_l | exact nr_z0 | exact nr_z1 | exact ft_i | exact ft_l | omega | rfl | assumption | (refine i_ne0 ?_ ?_ ?_ <;> omega) | (refine j_ne0 ?_ ?_ ?_ <;> omega) | (refine i_new ?_ ?_ <;> omega) | (refine bl_t ?_; with_unfolding_all rfl) | exact ft_z0 | exact ft_z1) only [n_X11_fewest, q_X11_fewest_0, q_X11_fewest_1, q_X11_fewest_2, q_X11_fewest_5, q_X11_fewest_8, q_X11_fewest_9, q_X11_fewest_12, q_X11_fewest_13, q_X11_fewest_14, q_X11_fewest_17, q_X11_fewest_20, q_X11_fewest_21, q_X11_fewest_22, q_X11_fewest_23, q_X11_fewest_26, q_X11_fewest_29, q_X11_fewest_30, q_X11_fewest_33, q_X11_fewest_36, q_X11_fewest_37, q_X11_fewest_38, q_X11_fewest_39, q_X11_fewest_42, q_X11_fewest_43, q_X11_fewest_43x, q_X11_fewest_44, q_X11_fewest_45, q_X11_fewest_46, q_X11_fewest_47, q_X11_fewest_50, q_X11_fewest_51, q_X11_fewest_54, q_X11_fewest_55, q_X11_fewest_56, q_X11_fewest_59, q_X11_fewest_62, q_X11_fewest_63, q_X11_fewest_66, q_X11_fewest_67, i_add, i_sub, i_mul, i_neg, i_lt, i_le, i_eq, i_tm, i_div, i_j, j_i, j_add, j_sub, j_mul, j_neg, j_lt, j_le, j_eq, j_div, c_lt, c_le, c_gt, c_ge, c_eq, i_nat, rz_k, Nat.add_zero, Nat.zero_add, Nat.add_assoc, Nat.reduceAdd, if_true, if_false, gf_eq hmr, List.getElem?_cons_zero, List.getElem?_cons_succ, if_neg (show ¬ (n : Int) ≤ 0 by omega), y1, vk_eq hmr, vk_eq hm1, x_in, if_pos hsr, y2, e, ai_eq hF0, Int.toNat_natCast, hF q (by omega), if_neg hneg, vk_eq hm2, y3, Int.reduceEq, not_false_eq_true, not_true_eq_false]
/-- the count of lacks from a sum on -/
def zf_lf (g : Nat → Int) : Nat → Nat → Nat
  | 0, _ => 0
  | c + 1, s => (if g s < 0 then 1 else 0) + zf_lf g c (s + 1)
theorem lk_lf {g : Nat → Int} : ∀ c s, zf_lk g (s + c) = zf_lk g s + zf_lf g c s := by
  intro c
  induction c with
  | zero => intro s; rfl
  | succ c ih =>
    intro s
    have := ih (s + 1)
    rw [show s + (c + 1) = s + 1 + c by omega, this, zf_lk, zf_lf]
    omega
/-- a lack by its place -/
def zf_nl (g : Nat → Int) : Nat → Nat → Nat → Option Nat
  | 0, _, _ => none
  | c + 1, s, l => if g s < 0 then (if l = 0 then some s else zf_nl g c (s + 1) (l - 1)) else zf_nl g c (s + 1) l
theorem nl_none {g : Nat → Int} : ∀ c s l, zf_nl g c s l = none ↔ zf_lf g c s ≤ l := by
  intro c
  induction c with
  | zero => intro s l; simp [zf_nl, zf_lf]
  | succ c ih =>
    intro s l
    unfold zf_nl zf_lf
    by_cases h : g s < 0
    · rw [if_pos h, if_pos h]
      by_cases hl : l = 0
      · rw [if_pos hl]
        constructor
        · intro h; cases h
        · intro h; omega
      · rw [if_neg hl, ih]
        omega
    · rw [if_neg h, if_neg h, ih]
      omega
theorem ag_lacks (hv : v_inv w) : rz_ag X d 127 223 false [] ["java/lang/IllegalStateException"] w := by
  obtain ⟨kp, tl, kd, ty, cl, th, hy, hm, hs, ht, hp, hq, hmi⟩ := id hv
  obtain ⟨n, v, V, V2, CC, YY, gr, lk, rfl, hn, g14, g15, g16, g17, g43, hpu⟩ := v_purse_get hp
  rcases hpu with rfl | ⟨hn2, hv2, hV, hC, hlk, hgr, hgc⟩
  · refine ag_thr0 (c1 := 1) (s1 := 6) 0 rfl hv hm ?_ ?_
    · simp (disch := first | exact nl_i | exact nl_r | exact nl_0 | exact nl_n | exact nl_x | exact kd_r | exact kd_n | exact kd_x | exact kd_o | exact cats0 | exact cats1 | exact cats2 | exact cats3 | exact cats4 | exact nr_i | exact nr_l | exact nr_z0 | exact nr_z1 | exact ft_i | exact ft_l | omega | rfl | assumption | (refine i_ne0 ?_ ?_ ?_ <;> omega) | (refine j_ne0 ?_ ?_ ?_ <;> omega) | (refine i_new ?_ ?_ <;> omega) | (refine bl_t ?_; with_unfolding_all rfl) | exact ft_z0 | exact ft_z1) only [n_X10_lacks, q_X10_lacks_0, q_X10_lacks_1, q_X10_lacks_4, q_X10_lacks_5, q_X10_lacks_8, q_X10_lacks_11, i_add, i_sub, i_mul, i_neg, i_lt, i_le, i_eq, i_tm, i_div, i_j, j_i, j_add, j_sub, j_mul, j_neg, j_lt, j_le, j_eq, j_div, c_lt, c_le, c_gt, c_ge, c_eq, i_nat, rz_k, Nat.add_zero, Nat.zero_add, Nat.add_assoc, Nat.reduceAdd, if_true, if_false, vk_eq hy, x_coins0 hy g14 rfl]
      rfl
    · rintro wr hm rfl
      refine ⟨Int32.ofInt 0, [], 0, 0, ?_, by omega, by omega⟩
      have y1 := x_no0 (X := X) (d := d + 28) (k := 1) hm
      simp (disch := first | exact nl_i | exact nl_r | exact nl_0 | exact nl_n | exact nl_x | exact kd_r | exact kd_n | exact kd_x | exact kd_o | exact cats0 | exact cats1 | exact cats2 | exact cats3 | exact cats4 | exact nr_i | exact nr_l | exact nr_z0 | exact nr_z1 | exact ft_i | exact ft_l | omega | rfl | assumption | (refine i_ne0 ?_ ?_ ?_ <;> omega) | (refine j_ne0 ?_ ?_ ?_ <;> omega) | (refine i_new ?_ ?_ <;> omega) | (refine bl_t ?_; with_unfolding_all rfl) | exact ft_z0 | exact ft_z1) only [n_X11_lacks_, q_X11_lacks__0, q_X11_lacks__1, q_X11_lacks__2, q_X11_lacks__5, q_X11_lacks__8, q_X11_lacks__9, q_X11_lacks__12, q_X11_lacks__13, q_X11_lacks__14, q_X11_lacks__17, q_X11_lacks__20, q_X11_lacks__21, q_X11_lacks__24, q_X11_lacks__25, q_X11_lacks__28, q_X11_lacks__31, i_add, i_sub, i_mul, i_neg, i_lt, i_le, i_eq, i_tm, i_div, i_j, j_i, j_add, j_sub, j_mul, j_neg, j_lt, j_le, j_eq, j_div, c_lt, c_le, c_gt, c_ge, c_eq, i_nat, rz_k, Nat.add_zero, Nat.zero_add, Nat.add_assoc, Nat.reduceAdd, if_true, if_false, gf_eq hm, List.getElem?_cons_zero, List.getElem?_cons_succ, if_pos (show ((0 : Nat) : Int) ≤ 0 by omega), y1, vk_eq hm, List.append_nil, Int.reduceEq, not_false_eq_true]
      all_goals rfl
  have hco := x_coins1 (X := X) (d := d + 27) hy g14 rfl (show 1 ≤ (n : Int) ∧ (n : Int) ≤ 4 by omega)
  refine ag_ret0 (r := Int32.ofInt lk) (c1 := 0) (s1 := 0) hv hm ?_ (fun h => by cases h) ?_
  · simp (disch := first | exact nl_i | exact nl_r | exact nl_0 | exact nl_n | exact nl_x | exact kd_r | exact kd_n | exact kd_x | exact kd_o | exact cats0 | exact cats1 | exact cats2 | exact cats3 | exact cats4 | exact nr_i | exact nr_l | exact nr_z0 | exact nr_z1 | exact ft_i | exact ft_l | omega | rfl | assumption | (refine i_ne0 ?_ ?_ ?_ <;> omega) | (refine j_ne0 ?_ ?_ ?_ <;> omega) | (refine i_new ?_ ?_ <;> omega) | (refine bl_t ?_; with_unfolding_all rfl) | exact ft_z0 | exact ft_z1) only [n_X10_lacks, q_X10_lacks_0, q_X10_lacks_1, q_X10_lacks_4, q_X10_lacks_5, q_X10_lacks_8, q_X10_lacks_11, i_add, i_sub, i_mul, i_neg, i_lt, i_le, i_eq, i_tm, i_div, i_j, j_i, j_add, j_sub, j_mul, j_neg, j_lt, j_le, j_eq, j_div, c_lt, c_le, c_gt, c_ge, c_eq, i_nat, rz_k, Nat.add_zero, Nat.zero_add, Nat.add_assoc, Nat.reduceAdd, if_true, if_false, vk_eq hy, hco, gf_eq hy, gf_eq g14, List.getElem?_cons_zero, List.getElem?_cons_succ]
  · intro wr hf hmr hv'
    have y1 := x_no1 (X := X) (d := d + 28) (k := 1) hmr
    have hm1 := v_mo (t := 0) hmr
    have hf1 : rz_fr [48, 32] w (wr.set 32 (rz_mo kp tl n ty cl 0)) := fr_trans (fr_sub hf (by decide)) (fr_set (by decide))
    obtain ⟨F, e, hF⟩ := y_fewestOf (X := X) (d := d + 27) hm1 (fr_get hf1 (by decide) g43) hn hv2
    refine ⟨[.inl (.int, 2501, .inl F)], 1, 2501, ?_, by omega, by omega⟩
    generalize hwq : wr.set 32 (rz_mo kp tl n ty cl 0) = wq at *
    have hF0 : v_ia (wq ++ [.inl (.int, 2501, .inl F)]) wq.length 2501 F := w_new
    have hloop : ∀ (c s : Nat), s + c = 2501 → rz_G X (d + 28) mz_X11_lacksUpTo 10 [some (.ref 32), some (.int (Int32.ofInt 2500)), some (.ref wq.length), some (.int (Int32.ofInt (zf_lk (zf_G v n) s : Nat))), some (.int (Int32.ofInt s))] [] (wq ++ [.inl (.int, 2501, .inl F)]) 1 2501 = some (.inl (some (.int (Int32.ofInt lk))), wq ++ [.inl (.int, 2501, .inl F)], 1, 2501) := by
      intro c
      induction c with
      | zero =>
        intro s hs
        obtain rfl : s = 2501 := hs
        rw [q_X11_lacksUpTo_10]
        simp (disch := first | exact nl_i | exact nl_r | exact nl_0 | exact nl_n | exact nl_x | exact kd_r | exact kd_n | exact kd_x | exact kd_o | exact cats0 | exact cats1 | exact cats2 | exact cats3 | exact cats4 | exact nr_i | exact nr_l | exact nr_z0 | exact nr_z1 | exact ft_i | exact ft_l | omega | rfl | assumption | (refine i_ne0 ?_ ?_ ?_ <;> omega) | (refine j_ne0 ?_ ?_ ?_ <;> omega) | (refine i_new ?_ ?_ <;> omega) | (refine bl_t ?_; with_unfolding_all rfl) | exact ft_z0 | exact ft_z1) only [n_X11_lacksUpTo, q_X11_lacksUpTo_0, q_X11_lacksUpTo_1, q_X11_lacksUpTo_4, q_X11_lacksUpTo_5, q_X11_lacksUpTo_6, q_X11_lacksUpTo_7, q_X11_lacksUpTo_8, q_X11_lacksUpTo_12, q_X11_lacksUpTo_13, q_X11_lacksUpTo_16, q_X11_lacksUpTo_17, q_X11_lacksUpTo_18, q_X11_lacksUpTo_20, q_X11_lacksUpTo_20x, q_X11_lacksUpTo_21, q_X11_lacksUpTo_24, q_X11_lacksUpTo_25, q_X11_lacksUpTo_28, q_X11_lacksUpTo_29, q_X11_lacksUpTo_30, q_X11_lacksUpTo_31, q_X11_lacksUpTo_34, q_X11_lacksUpTo_37, q_X11_lacksUpTo_38, i_add, i_sub, i_mul, i_neg, i_lt, i_le, i_eq, i_tm, i_div, i_j, j_i, j_add, j_sub, j_mul, j_neg, j_lt, j_le, j_eq, j_div, c_lt, c_le, c_gt, c_ge, c_eq, i_nat, rz_k, Nat.add_zero, Nat.zero_add, Nat.add_assoc, Nat.reduceAdd, if_true, if_false]
        rw [if_pos (by omega), hlk]
      | succ c ih =>
        intro s hs
        have hG := zf_G_b (n := n) (s := s) (fun k hk => by have := (hv2 k hk).1; omega : ∀ k, k < n → 1 ≤ v k)
        rw [← ih (s + 1) (by omega), q_X11_lacksUpTo_10]
        simp (disch := first | exact nl_i | exact nl_r | exact nl_0 | exact nl_n | exact nl_x | exact kd_r | exact kd_n | exact kd_x | exact kd_o | exact cats0 | exact cats1 | exact cats2 | exact cats3 | exact cats4 | exact nr_i | exact nr_l | exact nr_z0 | exact nr_z1 | exact ft_i | exact ft_l | omega | rfl | assumption | (refine i_ne0 ?_ ?_ ?_ <;> omega) | (refine j_ne0 ?_ ?_ ?_ <;> omega) | (refine i_new ?_ ?_ <;> omega) | (refine bl_t ?_; with_unfolding_all rfl) | exact ft_z0 | exact ft_z1) only [n_X11_lacksUpTo, q_X11_lacksUpTo_0, q_X11_lacksUpTo_1, q_X11_lacksUpTo_4, q_X11_lacksUpTo_5, q_X11_lacksUpTo_6, q_X11_lacksUpTo_7, q_X11_lacksUpTo_8, q_X11_lacksUpTo_12, q_X11_lacksUpTo_13, q_X11_lacksUpTo_16, q_X11_lacksUpTo_17, q_X11_lacksUpTo_18, q_X11_lacksUpTo_20, q_X11_lacksUpTo_20x, q_X11_lacksUpTo_21, q_X11_lacksUpTo_24, q_X11_lacksUpTo_25, q_X11_lacksUpTo_28, q_X11_lacksUpTo_29, q_X11_lacksUpTo_30, q_X11_lacksUpTo_31, q_X11_lacksUpTo_34, q_X11_lacksUpTo_37, q_X11_lacksUpTo_38, i_add, i_sub, i_mul, i_neg, i_lt, i_le, i_eq, i_tm, i_div, i_j, j_i, j_add, j_sub, j_mul, j_neg, j_lt, j_le, j_eq, j_div, c_lt, c_le, c_gt, c_ge, c_eq, i_nat, rz_k, Nat.add_zero, Nat.zero_add, Nat.add_assoc, Nat.reduceAdd, if_true, if_false, ai_eq hF0, Int.toNat_natCast, hF s (by omega), zf_lk]
        rw [if_neg (by omega)]
        by_cases hg : zf_G v n s < 0
        · rw [if_neg (by omega), if_pos hg]
          rfl
        · rw [if_pos (by omega), if_neg hg]
          rfl
    have := hloop 2501 0 rfl
    simp (disch := first | exact nl_i | exact nl_r | exact nl_0 | exact nl_n | exact nl_x | exact kd_r | exact kd_n | exact kd_x | exact kd_o | exact cats0 | exact cats1 | exact cats2 | exact cats3 | exact cats4 | exact nr_i | exact nr_l | exact nr_z0 | exact nr_z1 | exact ft_i | exact ft_l | omega | rfl | assumption | (refine i_ne0 ?_ ?_ ?_ <;> omega) | (refine j_ne0 ?_ ?_ ?_ <;> omega) | (refine i_new ?_ ?_ <;> omega) | (refine bl_t ?_; with_unfolding_all rfl) | exact ft_z0 | exact ft_z1) only [n_X11_lacks_, q_X11_lacks__0, q_X11_lacks__1, q_X11_lacks__2, q_X11_lacks__5, q_X11_lacks__8, q_X11_lacks__9, q_X11_lacks__12, q_X11_lacks__13, q_X11_lacks__14, q_X11_lacks__17, q_X11_lacks__20, q_X11_lacks__21, q_X11_lacks__24, q_X11_lacks__25, q_X11_lacks__28, q_X11_lacks__31, n_X11_lacksUpTo, q_X11_lacksUpTo_0, q_X11_lacksUpTo_1, q_X11_lacksUpTo_4, q_X11_lacksUpTo_5, q_X11_lacksUpTo_6, q_X11_lacksUpTo_7, q_X11_lacksUpTo_8, i_add, i_sub, i_mul, i_neg, i_lt, i_le, i_eq, i_tm, i_div, i_j, j_i, j_add, j_sub, j_mul, j_neg, j_lt, j_le, j_eq, j_div, c_lt, c_le, c_gt, c_ge, c_eq, i_nat, rz_k, Nat.add_zero, Nat.zero_add, Nat.add_assoc, Nat.reduceAdd, if_true, if_false, gf_eq hmr, List.getElem?_cons_zero, List.getElem?_cons_succ, if_neg (show ¬ (n : Int) ≤ 0 by omega), y1, vk_eq hmr, vk_eq hm1, e, Int.reduceEq, not_false_eq_true, not_true_eq_false]
    have h2 : rz_G X (d + 28) mz_X11_lacksUpTo 10 [some (.ref 32), some (.int (Int32.ofInt 2500)), some (.ref wq.length), some (.int (Int32.ofInt 0)), some (.int (Int32.ofInt 0))] [] (wq ++ [.inl (.int, 2501, .inl F)]) 1 2501 = some (.inl (some (.int (Int32.ofInt lk))), wq ++ [.inl (.int, 2501, .inl F)], 1, 2501) := this
    rw [h2]
    simp (disch := first | exact nl_i | exact nl_r | exact nl_0 | exact nl_n | exact nl_x | exact kd_r | exact kd_n | exact kd_x | exact kd_o | exact cats0 | exact cats1 | exact cats2 | exact cats3 | exact cats4 | exact nr_i | exact nr_l | exact nr_z0 | exact nr_z1 | exact ft_i | exact ft_l | omega | rfl | assumption | (refine i_ne0 ?_ ?_ ?_ <;> omega) | (refine j_ne0 ?_ ?_ ?_ <;> omega) | (refine i_new ?_ ?_ <;> omega) | (refine bl_t ?_; with_unfolding_all rfl) | exact ft_z0 | exact ft_z1) only [n_X11_lacks_, q_X11_lacks__0, q_X11_lacks__1, q_X11_lacks__2, q_X11_lacks__5, q_X11_lacks__8, q_X11_lacks__9, q_X11_lacks__12, q_X11_lacks__13, q_X11_lacks__14, q_X11_lacks__17, q_X11_lacks__20, q_X11_lacks__21, q_X11_lacks__24, q_X11_lacks__25, q_X11_lacks__28, q_X11_lacks__31, i_add, i_sub, i_mul, i_neg, i_lt, i_le, i_eq, i_tm, i_div, i_j, j_i, j_add, j_sub, j_mul, j_neg, j_lt, j_le, j_eq, j_div, c_lt, c_le, c_gt, c_ge, c_eq, i_nat, rz_k, Nat.add_zero, Nat.zero_add, Nat.add_assoc, Nat.reduceAdd, if_true, if_false]
end RZLK
