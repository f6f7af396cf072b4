/-! part 97s: level 2: within, but for Pick's count -/
section RZWR
variable {X : rz_X} {d : Nat} {w w1 : rz_W} {nc ns : Nat} {x y : Nat → Int} {n : Nat} {kp tl kd ty cl th : Int}
/-- the points within of a row, and of all rows -/
def zi_c (x y : Nat → Int) (n : Nat) (Xx : Int) : Nat → Int
  | 0 => 0
  | k + 1 => zi_c x y n Xx k + (if zw_v x y n Xx (-20 + (k : Int)) 1 = 119 then 1 else 0)
def zi_s (x y : Nat → Int) (n : Nat) : Nat → Int
  | 0 => 0
  | k + 1 => zi_s x y n k + zi_c x y n (-20 + (k : Int)) 41
theorem zi_c_b {Xx : Int} (k : Nat) : 0 ≤ zi_c x y n Xx k ∧ zi_c x y n Xx k ≤ k := by
  induction k with
  | zero => exact ⟨Int.le_refl _, Int.le_refl _⟩
  | succ k ih =>
    unfold zi_c
    split <;> omega
theorem zi_s_b (k : Nat) : 0 ≤ zi_s x y n k ∧ zi_s x y n k ≤ 41 * k := by
  induction k with
  | zero => exact ⟨Int.le_refl _, Int.le_refl _⟩
  | succ k ih =>
    have := zi_c_b (x := x) (y := y) (n := n) (Xx := -20 + (k : Int)) 41
    unfold zi_s
    omega
theorem l_wirow (h : v_rp w x y n) (h3 : 3 ≤ n) {Xx a : Int} (hX : -20 ≤ Xx ∧ Xx ≤ 20) (ha : 0 ≤ a ∧ a ≤ 2000) (m : Nat) : ∀ k : Nat, k + m = 41 → rz_G X (d + 3) mz_X11_within 28 [some (.ref 32), some (.int (Int32.ofInt (a + zi_c x y n Xx k))), some (.int (Int32.ofInt Xx)), some (.int (Int32.ofInt (-20 + (k : Int))))] [] w nc ns = rz_G X (d + 3) mz_X11_within 61 [some (.ref 32), some (.int (Int32.ofInt (a + zi_c x y n Xx 41))), some (.int (Int32.ofInt Xx)), some (.int (Int32.ofInt 21))] [] w nc ns := by
  obtain ⟨kp, tl, kd, cl, th, R, S, hm, h44, h45, hn, hr, he⟩ := id h
  induction m with
  | zero =>
    intro k hk
    obtain rfl : k = 41 := by omega
    rw [q_X11_within_28]
    simp (disch := first | exact nl_i | exact nl_r | exact nl_0 | exact nl_n | exact nl_x | exact kd_r | exact kd_n | exact kd_x | exact kd_o | exact cats0 | exact cats1 | exact cats2 | exact cats3 | exact cats4 | exact nr_i | exact nr_l | exact nr_z0 | exact nr_z1 | exact ft_i | exact ft_l | omega | rfl | assumption | (refine i_ne0 ?_ ?_ ?_ <;> omega) | (refine j_ne0 ?_ ?_ ?_ <;> omega) | (refine i_new ?_ ?_ <;> omega) | (refine bl_t ?_; with_unfolding_all rfl) | exact ft_z0 | exact ft_z1) only [↓reduceIte, q_X11_within_29, q_X11_within_31, q_X11_within_34, q_X11_within_35, q_X11_within_36, q_X11_within_37, q_X11_within_38, q_X11_within_39, q_X11_within_40, q_X11_within_43, q_X11_within_45, q_X11_within_48, q_X11_within_49, q_X11_within_52, q_X11_within_53, q_X11_within_54, q_X11_within_55, q_X11_within_58, i_add, i_sub, i_mul, i_neg, i_lt, i_le, i_eq, i_tm, i_div, i_j, j_i, j_add, j_sub, j_mul, j_neg, j_lt, j_le, j_eq, j_div, c_lt, c_le, c_gt, c_ge, c_eq, i_nat, rz_k, Nat.add_zero, Nat.zero_add, Nat.add_assoc, Nat.reduceAdd, if_true, if_false, eq_true (show 20 < -20 + ((41 : Nat) : Int) by omega)]
    rfl
  | succ m ih =>
    intro k hk
    have e := y_whereIts (X := X) (d := d) (Xx := Xx) (Y := -20 + (k : Int)) h h3 (by omega) (by omega)
    have hb := zw_v_c (x := x) (y := y) (n := n) (Xx := Xx) (Y := -20 + (k : Int)) (t := 1)
    have hc := zi_c_b (x := x) (y := y) (n := n) (Xx := Xx) k
    have ih1 := ih (k + 1) (by omega)
    rw [← ih1, q_X11_within_28]
    have ek : -20 + ((k + 1 : Nat) : Int) = -20 + ((k : Int) + 1) := by omega
    have es : zi_c x y n Xx (k + 1) = zi_c x y n Xx k + (if zw_v x y n Xx (-20 + (k : Int)) 1 = 119 then 1 else 0) := rfl
    rw [ek, es]
    by_cases hv : zw_v x y n Xx (-20 + (k : Int)) 1 = 119
    · rw [if_pos hv]
      simp (disch := first | exact nl_i | exact nl_r | exact nl_0 | exact nl_n | exact nl_x | exact kd_r | exact kd_n | exact kd_x | exact kd_o | exact cats0 | exact cats1 | exact cats2 | exact cats3 | exact cats4 | exact nr_i | exact nr_l | exact nr_z0 | exact nr_z1 | exact ft_i | exact ft_l | omega | rfl | assumption | (refine i_ne0 ?_ ?_ ?_ <;> omega) | (refine j_ne0 ?_ ?_ ?_ <;> omega) | (refine i_new ?_ ?_ <;> omega) | (refine bl_t ?_; with_unfolding_all rfl) | exact ft_z0 | exact ft_z1) only [↓reduceIte, q_X11_within_29, q_X11_within_31, q_X11_within_34, q_X11_within_35, q_X11_within_36, q_X11_within_37, q_X11_within_38, q_X11_within_39, q_X11_within_40, q_X11_within_43, q_X11_within_45, q_X11_within_48, q_X11_within_49, q_X11_within_52, q_X11_within_53, q_X11_within_54, q_X11_within_55, q_X11_within_58, i_add, i_sub, i_mul, i_neg, i_lt, i_le, i_eq, i_tm, i_div, i_j, j_i, j_add, j_sub, j_mul, j_neg, j_lt, j_le, j_eq, j_div, c_lt, c_le, c_gt, c_ge, c_eq, i_nat, rz_k, Nat.add_zero, Nat.zero_add, Nat.add_assoc, Nat.reduceAdd, if_true, if_false, vk_eq hm, eq_false (show ¬ 20 < -20 + (k : Int) by omega), e, hv, not_true_eq_false, Int.add_assoc]
    · rw [if_neg hv]
      simp (disch := first | exact nl_i | exact nl_r | exact nl_0 | exact nl_n | exact nl_x | exact kd_r | exact kd_n | exact kd_x | exact kd_o | exact cats0 | exact cats1 | exact cats2 | exact cats3 | exact cats4 | exact nr_i | exact nr_l | exact nr_z0 | exact nr_z1 | exact ft_i | exact ft_l | omega | rfl | assumption | (refine i_ne0 ?_ ?_ ?_ <;> omega) | (refine j_ne0 ?_ ?_ ?_ <;> omega) | (refine i_new ?_ ?_ <;> omega) | (refine bl_t ?_; with_unfolding_all rfl) | exact ft_z0 | exact ft_z1) only [↓reduceIte, q_X11_within_29, q_X11_within_31, q_X11_within_34, q_X11_within_35, q_X11_within_36, q_X11_within_37, q_X11_within_38, q_X11_within_39, q_X11_within_40, q_X11_within_43, q_X11_within_45, q_X11_within_48, q_X11_within_49, q_X11_within_52, q_X11_within_53, q_X11_within_54, q_X11_within_55, q_X11_within_58, i_add, i_sub, i_mul, i_neg, i_lt, i_le, i_eq, i_tm, i_div, i_j, j_i, j_add, j_sub, j_mul, j_neg, j_lt, j_le, j_eq, j_div, c_lt, c_le, c_gt, c_ge, c_eq, i_nat, rz_k, Nat.add_zero, Nat.zero_add, Nat.add_assoc, Nat.reduceAdd, if_true, if_false, vk_eq hm, eq_false (show ¬ 20 < -20 + (k : Int) by omega), e, eq_false hv, not_false_eq_true, Int.add_assoc]
theorem l_wiall (h : v_rp w x y n) (h3 : 3 ≤ n) (m : Nat) : ∀ (k : Nat) (l3 : Option Value), k + m = 41 → rz_G X (d + 3) mz_X11_within 19 [some (.ref 32), some (.int (Int32.ofInt (zi_s x y n k))), some (.int (Int32.ofInt (-20 + (k : Int)))), l3] [] w nc ns = some (.inl (some (.int (Int32.ofInt (zi_s x y n 41)))), w, nc, ns) := by
  induction m with
  | zero =>
    intro k l3 hk
    obtain rfl : k = 41 := by omega
    rw [q_X11_within_19]
    simp (disch := first | exact nl_i | exact nl_r | exact nl_0 | exact nl_n | exact nl_x | exact kd_r | exact kd_n | exact kd_x | exact kd_o | exact cats0 | exact cats1 | exact cats2 | exact cats3 | exact cats4 | exact nr_i | exact nr_l | exact nr_z0 | exact nr_z1 | exact ft_i | exact ft_l | omega | rfl | assumption | (refine i_ne0 ?_ ?_ ?_ <;> omega) | (refine j_ne0 ?_ ?_ ?_ <;> omega) | (refine i_new ?_ ?_ <;> omega) | (refine bl_t ?_; with_unfolding_all rfl) | exact ft_z0 | exact ft_z1) only [↓reduceIte, q_X11_within_20, q_X11_within_22, q_X11_within_25, q_X11_within_27, q_X11_within_67, q_X11_within_68, i_add, i_sub, i_mul, i_neg, i_lt, i_le, i_eq, i_tm, i_div, i_j, j_i, j_add, j_sub, j_mul, j_neg, j_lt, j_le, j_eq, j_div, c_lt, c_le, c_gt, c_ge, c_eq, i_nat, rz_k, Nat.add_zero, Nat.zero_add, Nat.add_assoc, Nat.reduceAdd, if_true, if_false, eq_true (show 20 < -20 + ((41 : Nat) : Int) by omega)]
  | succ m ih =>
    intro k l3 hk
    have hb := zi_s_b (x := x) (y := y) (n := n) k
    have hc := zi_c_b (x := x) (y := y) (n := n) (Xx := -20 + (k : Int)) 41
    have e := l_wirow (X := X) (d := d) (nc := nc) (ns := ns) h h3 (Xx := -20 + (k : Int)) (a := zi_s x y n k) (by omega) (by omega) 41 0 (by omega)
    have ih1 := ih (k + 1) (some (.int (Int32.ofInt 21))) (by omega)
    rw [← ih1, q_X11_within_19]
    have ek : -20 + ((k + 1 : Nat) : Int) = -20 + (k : Int) + 1 := by omega
    have e0 : zi_c x y n (-20 + (k : Int)) 0 = 0 := rfl
    rw [e0, Int.add_zero] at e
    have es : zi_s x y n (k + 1) = zi_s x y n k + zi_c x y n (-20 + (k : Int)) 41 := rfl
    rw [ek, es]
    have h2 : rz_G X (d + 3) mz_X11_within 20 [some (.ref 32), some (.int (Int32.ofInt (zi_s x y n k))), some (.int (Int32.ofInt (-20 + (k : Int)))), l3] [.int (Int32.ofInt (-20 + (k : Int)))] w nc ns = rz_G X (d + 3) mz_X11_within 28 [some (.ref 32), some (.int (Int32.ofInt (zi_s x y n k))), some (.int (Int32.ofInt (-20 + (k : Int)))), some (.int (Int32.ofInt (-20 + ((0 : Nat) : Int))))] [] w nc ns := by
      simp (disch := first | exact nl_i | exact nl_r | exact nl_0 | exact nl_n | exact nl_x | exact kd_r | exact kd_n | exact kd_x | exact kd_o | exact cats0 | exact cats1 | exact cats2 | exact cats3 | exact cats4 | exact nr_i | exact nr_l | exact nr_z0 | exact nr_z1 | exact ft_i | exact ft_l | omega | rfl | assumption | (refine i_ne0 ?_ ?_ ?_ <;> omega) | (refine j_ne0 ?_ ?_ ?_ <;> omega) | (refine i_new ?_ ?_ <;> omega) | (refine bl_t ?_; with_unfolding_all rfl) | exact ft_z0 | exact ft_z1) only [↓reduceIte, q_X11_within_20, q_X11_within_22, q_X11_within_25, q_X11_within_27, i_add, i_sub, i_mul, i_neg, i_lt, i_le, i_eq, i_tm, i_div, i_j, j_i, j_add, j_sub, j_mul, j_neg, j_lt, j_le, j_eq, j_div, c_lt, c_le, c_gt, c_ge, c_eq, i_nat, rz_k, Nat.add_zero, Nat.zero_add, Nat.add_assoc, Nat.reduceAdd, if_true, if_false, eq_false (show ¬ 20 < -20 + (k : Int) by omega)]
      rfl
    rw [h2, e]
    simp (disch := first | exact nl_i | exact nl_r | exact nl_0 | exact nl_n | exact nl_x | exact kd_r | exact kd_n | exact kd_x | exact kd_o | exact cats0 | exact cats1 | exact cats2 | exact cats3 | exact cats4 | exact nr_i | exact nr_l | exact nr_z0 | exact nr_z1 | exact ft_i | exact ft_l | omega | rfl | assumption | (refine i_ne0 ?_ ?_ ?_ <;> omega) | (refine j_ne0 ?_ ?_ ?_ <;> omega) | (refine i_new ?_ ?_ <;> omega) | (refine bl_t ?_; with_unfolding_all rfl) | exact ft_z0 | exact ft_z1) only [q_X11_within_61, q_X11_within_64, i_add, i_sub, i_mul, i_neg, i_lt, i_le, i_eq, i_tm, i_div, i_j, j_i, j_add, j_sub, j_mul, j_neg, j_lt, j_le, j_eq, j_div, c_lt, c_le, c_gt, c_ge, c_eq, i_nat, rz_k, Nat.add_zero, Nat.zero_add, Nat.add_assoc, Nat.reduceAdd, if_true, if_false]
/-- the reference's within, of a closed polygon -/
theorem y_wi (h : v_rp w x y n) (h3 : 3 ≤ n) : rz_G X (d + 3) mz_X11_within 14 [some (.ref 32), none, none, none] [] w nc ns = some (.inl (some (.int (Int32.ofInt (zi_s x y n 41)))), w, nc, ns) := by
  rw [← l_wiall (X := X) (d := d) (nc := nc) (ns := ns) h h3 41 0 none (by omega)]
  simp (disch := first | exact nl_i | exact nl_r | exact nl_0 | exact nl_n | exact nl_x | exact kd_r | exact kd_n | exact kd_x | exact kd_o | exact cats0 | exact cats1 | exact cats2 | exact cats3 | exact cats4 | exact nr_i | exact nr_l | exact nr_z0 | exact nr_z1 | exact ft_i | exact ft_l | omega | rfl | assumption | (refine i_ne0 ?_ ?_ ?_ <;> omega) | (refine j_ne0 ?_ ?_ ?_ <;> omega) | (refine i_new ?_ ?_ <;> omega) | (refine bl_t ?_; with_unfolding_all rfl) | exact ft_z0 | exact ft_z1) only [q_X11_within_14, q_X11_within_15, q_X11_within_16, q_X11_within_18, i_add, i_sub, i_mul, i_neg, i_lt, i_le, i_eq, i_tm, i_div, i_j, j_i, j_add, j_sub, j_mul, j_neg, j_lt, j_le, j_eq, j_div, c_lt, c_le, c_gt, c_ge, c_eq, i_nat, rz_k, Nat.add_zero, Nat.zero_add, Nat.add_assoc, Nat.reduceAdd, if_true, if_false]
  rfl
/-- within, of a polygon that Pick's count holds of -/
theorem ag_within_of (hP : ∀ (x y : Nat → Int) (n : Nat), 3 ≤ n → n ≤ 12 → (∀ k, (-20 ≤ x k ∧ x k ≤ 20) ∧ (-20 ≤ y k ∧ y k ≤ 20)) → zp_ok x y n → ((zp_area x y n).natAbs : Int) = 2 * zi_s x y n 41 + zp_rim x y n - 2) (hv : v_inv w) : rz_ag X d 136 242 false [] ["java/lang/IllegalStateException"] w := by
  obtain ⟨kp, tl, kd, ty, cl, th, hy, hm, hs, ht, hp, hq, hmi⟩ := id hv
  obtain ⟨n, x, y, P, Q, R, S, M, O, L, U, pa, pb, pc, rfl, hn, hcp, g18, g44, g45, hRS, hr, g24, g25, g19, g20, g21, g22, g23, hcl⟩ := v_poly_cp hq
  rcases hcl with rfl | ⟨rfl, hn3, hok, htr⟩
  · refine ag_thr0 (c1 := 1) (s1 := 6) 0 rfl hv hm ?_ ?_
    · simp (disch := first | exact nl_i | exact nl_r | exact nl_0 | exact nl_n | exact nl_x | exact kd_r | exact kd_n | exact kd_x | exact kd_o | exact cats0 | exact cats1 | exact cats2 | exact cats3 | exact cats4 | exact nr_i | exact nr_l | exact nr_z0 | exact nr_z1 | exact ft_i | exact ft_l | omega | rfl | assumption | (refine i_ne0 ?_ ?_ ?_ <;> omega) | (refine j_ne0 ?_ ?_ ?_ <;> omega) | (refine i_new ?_ ?_ <;> omega) | (refine bl_t ?_; with_unfolding_all rfl) | exact ft_z0 | exact ft_z1) only [n_X10_within, q_X10_within_0, q_X10_within_1, q_X10_within_4, q_X10_within_5, q_X10_within_8, q_X10_within_11, q_X10_within_12, q_X10_within_15, q_X10_within_18, q_X10_within_19, q_X10_within_20, q_X10_within_21, q_X10_within_22, q_X10_within_23, i_add, i_sub, i_mul, i_neg, i_lt, i_le, i_eq, i_tm, i_div, i_j, j_i, j_add, j_sub, j_mul, j_neg, j_lt, j_le, j_eq, j_div, c_lt, c_le, c_gt, c_ge, c_eq, i_nat, rz_k, Nat.add_zero, Nat.zero_add, Nat.add_assoc, Nat.reduceAdd, if_true, if_false, vk_eq hy, x_closed0 hy g18 rfl]
      rfl
    · rintro wr hm rfl
      refine ⟨Int32.ofInt 0, [], 0, 0, ?_, by omega, by omega⟩
      have y1 := x_no0 (X := X) (d := d + 28) (k := 1) hm
      simp (disch := first | exact nl_i | exact nl_r | exact nl_0 | exact nl_n | exact nl_x | exact kd_r | exact kd_n | exact kd_x | exact kd_o | exact cats0 | exact cats1 | exact cats2 | exact cats3 | exact cats4 | exact nr_i | exact nr_l | exact nr_z0 | exact nr_z1 | exact ft_i | exact ft_l | omega | rfl | assumption | (refine i_ne0 ?_ ?_ ?_ <;> omega) | (refine j_ne0 ?_ ?_ ?_ <;> omega) | (refine i_new ?_ ?_ <;> omega) | (refine bl_t ?_; with_unfolding_all rfl) | exact ft_z0 | exact ft_z1) only [↓reduceIte, n_X11_within, q_X11_within_0, q_X11_within_1, q_X11_within_2, q_X11_within_5, q_X11_within_6, q_X11_within_9, q_X11_within_12, q_X11_within_13, i_add, i_sub, i_mul, i_neg, i_lt, i_le, i_eq, i_tm, i_div, i_j, j_i, j_add, j_sub, j_mul, j_neg, j_lt, j_le, j_eq, j_div, c_lt, c_le, c_gt, c_ge, c_eq, i_nat, rz_k, Nat.add_zero, Nat.zero_add, Nat.add_assoc, Nat.reduceAdd, if_true, if_false, gf_eq hm, List.getElem?_cons_zero, List.getElem?_cons_succ, y1, vk_eq hm, List.append_nil, Int.reduceEq, not_false_eq_true]
      all_goals rfl
  · have hpk := hP x y n hn3 hn hr hok
    have xr := x_rim (X := X) (d := d + 25) hcp
    have xt := x_twice (X := X) (d := d + 25) hcp
    have hzA := z_area_b (x := x) (y := y) (n := n) hr n
    have hAb : -9600 ≤ zp_area x y n ∧ zp_area x y n ≤ 9600 := by unfold zp_area; omega
    have hrb := z_rim_b (x := x) (y := y) (n := n) hr n
    have hrb2 : 0 ≤ zp_rim x y n ∧ zp_rim x y n ≤ 480 := by unfold zp_rim; omega
    have hsb := zi_s_b (x := x) (y := y) (n := n) 41
    have hdiv : (((zp_area x y n).natAbs : Int) - zp_rim x y n + 2).tdiv 2 = zi_s x y n 41 := by
      rw [Int.tdiv_eq_ediv_of_nonneg (by omega)]
      omega
    refine ag_ret0 (r := Int32.ofInt (zi_s x y n 41)) (c1 := 0) (s1 := 0) hv hm ?_ (fun h => by cases h) ?_
    · generalize (zp_area x y n).natAbs = A at *
      simp (disch := first | exact nl_i | exact nl_r | exact nl_0 | exact nl_n | exact nl_x | exact kd_r | exact kd_n | exact kd_x | exact kd_o | exact cats0 | exact cats1 | exact cats2 | exact cats3 | exact cats4 | exact nr_i | exact nr_l | exact nr_z0 | exact nr_z1 | exact ft_i | exact ft_l | omega | rfl | assumption | (refine i_ne0 ?_ ?_ ?_ <;> omega) | (refine j_ne0 ?_ ?_ ?_ <;> omega) | (refine i_new ?_ ?_ <;> omega) | (refine bl_t ?_; with_unfolding_all rfl) | exact ft_z0 | exact ft_z1) only [n_X10_within, q_X10_within_0, q_X10_within_1, q_X10_within_4, q_X10_within_5, q_X10_within_8, q_X10_within_11, q_X10_within_12, q_X10_within_15, q_X10_within_18, q_X10_within_19, q_X10_within_20, q_X10_within_21, q_X10_within_22, q_X10_within_23, i_add, i_sub, i_mul, i_neg, i_lt, i_le, i_eq, i_tm, i_div, i_j, j_i, j_add, j_sub, j_mul, j_neg, j_lt, j_le, j_eq, j_div, c_lt, c_le, c_gt, c_ge, c_eq, i_nat, rz_k, Nat.add_zero, Nat.zero_add, Nat.add_assoc, Nat.reduceAdd, if_true, if_false, vk_eq hy, x_closed1 hy g18 rfl, gf_eq hy, vk_eq g18, List.getElem?_cons_zero, List.getElem?_cons_succ, xr, xt, hdiv]
    · intro wr hf hmr hv'
      refine ⟨[], 0, 0, ?_, by omega, by omega⟩
      have y1 := x_no1 (X := X) (d := d + 28) (k := 1) hmr
      have hm1 := v_mo (t := 0) hmr
      have hf1 : rz_fr [48, 32] w (wr.set 32 (rz_mo kp tl kd n 1 0)) := fr_trans (fr_sub hf (by decide)) (fr_set (by decide))
      have hrp : v_rp (wr.set 32 (rz_mo kp tl kd n 1 0)) x y n := ⟨_, _, _, _, _, R, S, hm1, fr_get hf1 (by decide) g44, fr_get hf1 (by decide) g45, hn, hr, hRS⟩
      have yw := y_wi (X := X) (d := d + 26) (nc := 0) (ns := 0) hrp hn3
      rw [List.append_nil, ← yw]
      simp (disch := first | exact nl_i | exact nl_r | exact nl_0 | exact nl_n | exact nl_x | exact kd_r | exact kd_n | exact kd_x | exact kd_o | exact cats0 | exact cats1 | exact cats2 | exact cats3 | exact cats4 | exact nr_i | exact nr_l | exact nr_z0 | exact nr_z1 | exact ft_i | exact ft_l | omega | rfl | assumption | (refine i_ne0 ?_ ?_ ?_ <;> omega) | (refine j_ne0 ?_ ?_ ?_ <;> omega) | (refine i_new ?_ ?_ <;> omega) | (refine bl_t ?_; with_unfolding_all rfl) | exact ft_z0 | exact ft_z1) only [n_X11_within, q_X11_within_0, q_X11_within_1, q_X11_within_2, q_X11_within_5, q_X11_within_6, q_X11_within_9, q_X11_within_12, q_X11_within_13, i_add, i_sub, i_mul, i_neg, i_lt, i_le, i_eq, i_tm, i_div, i_j, j_i, j_add, j_sub, j_mul, j_neg, j_lt, j_le, j_eq, j_div, c_lt, c_le, c_gt, c_ge, c_eq, i_nat, rz_k, Nat.add_zero, Nat.zero_add, Nat.add_assoc, Nat.reduceAdd, if_true, if_false, gf_eq hmr, List.getElem?_cons_zero, List.getElem?_cons_succ, y1, vk_eq hmr, if_pos (show (0 : Int) = 0 by omega)]
end RZWR
