/-! part 63: level 2: the polygon's small methods, in the class and in the reference -/
/-- the class's corners -/
def v_cp (w : rz_W) (x y : Nat → Int) (n : Nat) : Prop := ∃ (cl a : Int32) (P Q : Nat → Int32), v_ob w 18 6 [.int (Int32.ofInt n), .int cl, .ref 19, .ref 22, .ref 23, .ref 24, .ref 25, .int a] ∧ v_ia w 22 12 P ∧ v_ia w 23 12 Q ∧ n ≤ 12 ∧ (∀ k, (-20 ≤ x k ∧ x k ≤ 20) ∧ (-20 ≤ y k ∧ y k ≤ 20)) ∧ ∀ k, k < n → P k = Int32.ofInt (x k) ∧ Q k = Int32.ofInt (y k)
/-- the reference's -/
def v_rp (w : rz_W) (x y : Nat → Int) (n : Nat) : Prop := ∃ (kp tl kd cl th : Int) (R S : Nat → Int32), v_model w kp tl kd n cl th ∧ v_ia w 44 12 R ∧ v_ia w 45 12 S ∧ n ≤ 12 ∧ (∀ k, (-20 ≤ x k ∧ x k ≤ 20) ∧ (-20 ≤ y k ∧ y k ≤ 20)) ∧ ∀ k, k < n → R k = Int32.ofInt (x k) ∧ S k = Int32.ofInt (y k)
section RZPO
variable {X : rz_X} {d : Nat} {w : rz_W} {nc ns : Nat} {x y : Nat → Int} {n : Nat}
theorem nx_lt {i : Nat} (h : i < n) : zp_nx n i < n := by unfold zp_nx; split <;> omega
theorem z_turn_b (hr : ∀ k, (-20 ≤ x k ∧ x k ≤ 20) ∧ (-20 ≤ y k ∧ y k ≤ 20)) (i j k : Nat) : -3200 ≤ zp_turn x y i j k ∧ zp_turn x y i j k ≤ 3200 := by
  have h1 := hr i
  have h2 := hr j
  have h3 := hr k
  have e1 := z_nmul (a := x j - x i) (b := y k - y i) (M := 40) (N := 40) (by omega) (by omega)
  have e2 := z_nmul (a := y j - y i) (b := x k - x i) (M := 40) (N := 40) (by omega) (by omega)
  unfold zp_turn
  omega
theorem x_pX (h : v_cp w x y n) {k : Nat} (hk : k < n) : rz_ex X (d + 1) 54 [.ref 18, .int (Int32.ofInt k)] w = some (.inl (some (.int (Int32.ofInt (x k)))), w, 0, 0) := by
  obtain ⟨cl, a, P, Q, h18, h22, h23, hn, hr, he⟩ := h
  simp (disch := first | exact nl_i | exact nl_r | exact nl_0 | exact nl_n | exact nl_x | exact kd_r | exact kd_n | exact kd_x | exact kd_o | exact cats0 | exact cats1 | exact cats2 | exact cats3 | exact cats4 | exact nr_i | exact nr_l | exact nr_z0 | exact nr_z1 | exact ft_i | exact ft_l | omega | rfl | assumption | (refine i_ne0 ?_ ?_ ?_ <;> omega) | (refine j_ne0 ?_ ?_ ?_ <;> omega) | (refine i_new ?_ ?_ <;> omega) | (refine bl_t ?_; with_unfolding_all rfl) | exact ft_z0 | exact ft_z1) only [n_X6_xOf, q_X6_xOf_0, q_X6_xOf_1, q_X6_xOf_4, q_X6_xOf_5, q_X6_xOf_7, q_X6_xOf_10, q_X6_xOf_11, q_X6_xOf_14, q_X6_xOf_15, q_X6_xOf_15x, q_X6_xOf_16, q_X6_xOf_19, q_X6_xOf_20, i_add, i_sub, i_mul, i_neg, i_lt, i_le, i_eq, i_tm, i_div, i_j, j_i, j_add, j_sub, j_mul, j_neg, j_lt, j_le, j_eq, j_div, c_lt, c_le, c_gt, c_ge, c_eq, i_nat, rz_k, Nat.add_zero, Nat.zero_add, Nat.add_assoc, Nat.reduceAdd, if_true, if_false, gf_eq h18, List.getElem?_cons_zero, List.getElem?_cons_succ, ai_eq h22, Int.toNat_natCast, (he k hk).1]
  rw [if_neg (by omega), if_neg (by omega)]
theorem x_pY (h : v_cp w x y n) {k : Nat} (hk : k < n) : rz_ex X (d + 1) 55 [.ref 18, .int (Int32.ofInt k)] w = some (.inl (some (.int (Int32.ofInt (y k)))), w, 0, 0) := by
  obtain ⟨cl, a, P, Q, h18, h22, h23, hn, hr, he⟩ := h
  simp (disch := first | exact nl_i | exact nl_r | exact nl_0 | exact nl_n | exact nl_x | exact kd_r | exact kd_n | exact kd_x | exact kd_o | exact cats0 | exact cats1 | exact cats2 | exact cats3 | exact cats4 | exact nr_i | exact nr_l | exact nr_z0 | exact nr_z1 | exact ft_i | exact ft_l | omega | rfl | assumption | (refine i_ne0 ?_ ?_ ?_ <;> omega) | (refine j_ne0 ?_ ?_ ?_ <;> omega) | (refine i_new ?_ ?_ <;> omega) | (refine bl_t ?_; with_unfolding_all rfl) | exact ft_z0 | exact ft_z1) only [n_X6_yOf, q_X6_yOf_0, q_X6_yOf_1, q_X6_yOf_4, q_X6_yOf_5, q_X6_yOf_7, q_X6_yOf_10, q_X6_yOf_11, q_X6_yOf_14, q_X6_yOf_15, q_X6_yOf_15x, q_X6_yOf_16, q_X6_yOf_19, q_X6_yOf_20, i_add, i_sub, i_mul, i_neg, i_lt, i_le, i_eq, i_tm, i_div, i_j, j_i, j_add, j_sub, j_mul, j_neg, j_lt, j_le, j_eq, j_div, c_lt, c_le, c_gt, c_ge, c_eq, i_nat, rz_k, Nat.add_zero, Nat.zero_add, Nat.add_assoc, Nat.reduceAdd, if_true, if_false, gf_eq h18, List.getElem?_cons_zero, List.getElem?_cons_succ, ai_eq h23, Int.toNat_natCast, (he k hk).2]
  rw [if_neg (by omega), if_neg (by omega)]
theorem x_nx (h : v_cp w x y n) {k : Nat} (hk : k < n) : rz_ex X (d + 1) 56 [.ref 18, .int (Int32.ofInt k)] w = some (.inl (some (.int (Int32.ofInt (zp_nx n k : Nat)))), w, 0, 0) := by
  obtain ⟨cl, a, P, Q, h18, h22, h23, hn, hr, he⟩ := h
  simp (disch := first | exact nl_i | exact nl_r | exact nl_0 | exact nl_n | exact nl_x | exact kd_r | exact kd_n | exact kd_x | exact kd_o | exact cats0 | exact cats1 | exact cats2 | exact cats3 | exact cats4 | exact nr_i | exact nr_l | exact nr_z0 | exact nr_z1 | exact ft_i | exact ft_l | omega | rfl | assumption | (refine i_ne0 ?_ ?_ ?_ <;> omega) | (refine j_ne0 ?_ ?_ ?_ <;> omega) | (refine i_new ?_ ?_ <;> omega) | (refine bl_t ?_; with_unfolding_all rfl) | exact ft_z0 | exact ft_z1) only [n_X6_after, q_X6_after_0, q_X6_after_1, q_X6_after_2, q_X6_after_3, q_X6_after_4, q_X6_after_7, q_X6_after_10, q_X6_after_11, q_X6_after_12, q_X6_after_13, q_X6_after_16, q_X6_after_17, i_add, i_sub, i_mul, i_neg, i_lt, i_le, i_eq, i_tm, i_div, i_j, j_i, j_add, j_sub, j_mul, j_neg, j_lt, j_le, j_eq, j_div, c_lt, c_le, c_gt, c_ge, c_eq, i_nat, rz_k, Nat.add_zero, Nat.zero_add, Nat.add_assoc, Nat.reduceAdd, if_true, if_false, gf_eq h18, List.getElem?_cons_zero, List.getElem?_cons_succ]
  unfold zp_nx
  by_cases hc : k + 1 < n
  · rw [if_neg (by omega), if_pos hc]
    rfl
  · rw [if_pos (by omega), if_neg hc]
    rfl
theorem y_nx (h : v_rp w x y n) {k : Nat} (hk : k < n) : rz_ex X (d + 1) 230 [.ref 32, .int (Int32.ofInt k)] w = some (.inl (some (.int (Int32.ofInt (zp_nx n k : Nat)))), w, 0, 0) := by
  obtain ⟨kp, tl, kd, cl, th, R, S, hm, h44, h45, hn, hr, he⟩ := h
  simp (disch := first | exact nl_i | exact nl_r | exact nl_0 | exact nl_n | exact nl_x | exact kd_r | exact kd_n | exact kd_x | exact kd_o | exact cats0 | exact cats1 | exact cats2 | exact cats3 | exact cats4 | exact nr_i | exact nr_l | exact nr_z0 | exact nr_z1 | exact ft_i | exact ft_l | omega | rfl | assumption | (refine i_ne0 ?_ ?_ ?_ <;> omega) | (refine j_ne0 ?_ ?_ ?_ <;> omega) | (refine i_new ?_ ?_ <;> omega) | (refine bl_t ?_; with_unfolding_all rfl) | exact ft_z0 | exact ft_z1) only [n_X11_after, q_X11_after_0, q_X11_after_1, q_X11_after_2, q_X11_after_3, q_X11_after_4, q_X11_after_7, q_X11_after_10, q_X11_after_11, q_X11_after_14, q_X11_after_15, q_X11_after_16, q_X11_after_17, i_add, i_sub, i_mul, i_neg, i_lt, i_le, i_eq, i_tm, i_div, i_j, j_i, j_add, j_sub, j_mul, j_neg, j_lt, j_le, j_eq, j_div, c_lt, c_le, c_gt, c_ge, c_eq, i_nat, rz_k, Nat.add_zero, Nat.zero_add, Nat.add_assoc, Nat.reduceAdd, if_true, if_false, gf_eq hm, List.getElem?_cons_zero, List.getElem?_cons_succ]
  unfold zp_nx
  by_cases hc : k + 1 < n
  · rw [if_pos (by omega), if_pos hc]
    rfl
  · rw [if_neg (by omega), if_neg hc]
    rfl
theorem x_pturn (h : v_cp w x y n) {i j k : Nat} (hi : i < n) (hj : j < n) (hk : k < n) : rz_ex X (d + 2) 57 [.ref 18, .int (Int32.ofInt i), .int (Int32.ofInt j), .int (Int32.ofInt k)] w = some (.inl (some (.int (Int32.ofInt (zp_turn x y i j k)))), w, 0, 0) := by
  have a1 := x_pX (X := X) (d := d) h hi
  have a2 := x_pX (X := X) (d := d) h hj
  have a3 := x_pX (X := X) (d := d) h hk
  have b1 := x_pY (X := X) (d := d) h hi
  have b2 := x_pY (X := X) (d := d) h hj
  have b3 := x_pY (X := X) (d := d) h hk
  obtain ⟨cl, a, P, Q, h18, h22, h23, hn, hr, he⟩ := h
  simp (disch := first | exact nl_i | exact nl_r | exact nl_0 | exact nl_n | exact nl_x | exact kd_r | exact kd_n | exact kd_x | exact kd_o | exact cats0 | exact cats1 | exact cats2 | exact cats3 | exact cats4 | exact nr_i | exact nr_l | exact nr_z0 | exact nr_z1 | exact ft_i | exact ft_l | omega | rfl | assumption | (refine i_ne0 ?_ ?_ ?_ <;> omega) | (refine j_ne0 ?_ ?_ ?_ <;> omega) | (refine i_new ?_ ?_ <;> omega) | (refine bl_t ?_; with_unfolding_all rfl) | exact ft_z0 | exact ft_z1) only [n_X6_turn, q_X6_turn_0, q_X6_turn_1, q_X6_turn_2, q_X6_turn_5, q_X6_turn_6, q_X6_turn_7, q_X6_turn_10, q_X6_turn_11, q_X6_turn_12, q_X6_turn_13, q_X6_turn_16, q_X6_turn_17, q_X6_turn_18, q_X6_turn_21, q_X6_turn_22, q_X6_turn_23, q_X6_turn_24, q_X6_turn_25, q_X6_turn_28, q_X6_turn_29, q_X6_turn_30, q_X6_turn_33, q_X6_turn_34, q_X6_turn_35, q_X6_turn_36, q_X6_turn_39, q_X6_turn_40, q_X6_turn_41, q_X6_turn_44, q_X6_turn_45, q_X6_turn_46, q_X6_turn_47, i_add, i_sub, i_mul, i_neg, i_lt, i_le, i_eq, i_tm, i_div, i_j, j_i, j_add, j_sub, j_mul, j_neg, j_lt, j_le, j_eq, j_div, c_lt, c_le, c_gt, c_ge, c_eq, i_nat, rz_k, Nat.add_zero, Nat.zero_add, Nat.add_assoc, Nat.reduceAdd, if_true, if_false, vk_eq h18, a1, a2, a3, b1, b2, b3]
  rfl
theorem y_pturn (h : v_rp w x y n) {i j k : Nat} (hi : i < n) (hj : j < n) (hk : k < n) : rz_ex X (d + 1) 231 [.ref 32, .int (Int32.ofInt i), .int (Int32.ofInt j), .int (Int32.ofInt k)] w = some (.inl (some (.int (Int32.ofInt (zp_turn x y i j k)))), w, 0, 0) := by
  obtain ⟨kp, tl, kd, cl, th, R, S, hm, h44, h45, hn, hr, he⟩ := h
  simp (disch := first | exact nl_i | exact nl_r | exact nl_0 | exact nl_n | exact nl_x | exact kd_r | exact kd_n | exact kd_x | exact kd_o | exact cats0 | exact cats1 | exact cats2 | exact cats3 | exact cats4 | exact nr_i | exact nr_l | exact nr_z0 | exact nr_z1 | exact ft_i | exact ft_l | omega | rfl | assumption | (refine i_ne0 ?_ ?_ ?_ <;> omega) | (refine j_ne0 ?_ ?_ ?_ <;> omega) | (refine i_new ?_ ?_ <;> omega) | (refine bl_t ?_; with_unfolding_all rfl) | exact ft_z0 | exact ft_z1) only [n_X11_turn, q_X11_turn_0, q_X11_turn_1, q_X11_turn_4, q_X11_turn_5, q_X11_turn_5x, q_X11_turn_6, q_X11_turn_7, q_X11_turn_10, q_X11_turn_11, q_X11_turn_11x, q_X11_turn_12, q_X11_turn_13, q_X11_turn_14, q_X11_turn_17, q_X11_turn_18, q_X11_turn_18x, q_X11_turn_19, q_X11_turn_20, q_X11_turn_23, q_X11_turn_24, q_X11_turn_24x, q_X11_turn_25, q_X11_turn_26, q_X11_turn_27, q_X11_turn_28, q_X11_turn_31, q_X11_turn_32, q_X11_turn_32x, q_X11_turn_33, q_X11_turn_34, q_X11_turn_37, q_X11_turn_38, q_X11_turn_38x, q_X11_turn_39, q_X11_turn_40, q_X11_turn_41, q_X11_turn_44, q_X11_turn_45, q_X11_turn_45x, q_X11_turn_46, q_X11_turn_47, q_X11_turn_50, q_X11_turn_51, q_X11_turn_51x, q_X11_turn_52, q_X11_turn_53, q_X11_turn_54, q_X11_turn_55, i_add, i_sub, i_mul, i_neg, i_lt, i_le, i_eq, i_tm, i_div, i_j, j_i, j_add, j_sub, j_mul, j_neg, j_lt, j_le, j_eq, j_div, c_lt, c_le, c_gt, c_ge, c_eq, i_nat, rz_k, Nat.add_zero, Nat.zero_add, Nat.add_assoc, Nat.reduceAdd, if_true, if_false, gf_eq hm, List.getElem?_cons_zero, List.getElem?_cons_succ, ai_eq h44, ai_eq h45, Int.toNat_natCast, (he i hi).1, (he j hj).1, (he k hk).1, (he i hi).2, (he j hj).2, (he k hk).2]
  rfl
/-- sums round the polygon -/
def zp_rim (x y : Nat → Int) (n : Nat) : Int := zp_sum (fun i => (Int.gcd (x (zp_nx n i) - x i) (y (zp_nx n i) - y i) : Int)) n
theorem z_rim_b (hr : ∀ k, (-20 ≤ x k ∧ x k ≤ 20) ∧ (-20 ≤ y k ∧ y k ≤ 20)) (m : Nat) : 0 ≤ zp_sum (fun i => (Int.gcd (x (zp_nx n i) - x i) (y (zp_nx n i) - y i) : Int)) m ∧ zp_sum (fun i => (Int.gcd (x (zp_nx n i) - x i) (y (zp_nx n i) - y i) : Int)) m ≤ 40 * m := by
  induction m with
  | zero => exact ⟨Int.le_refl _, Int.le_refl _⟩
  | succ m ih =>
    have h1 := hr m
    have h2 := hr (zp_nx n m)
    have h3 : Int.gcd (x (zp_nx n m) - x m) (y (zp_nx n m) - y m) ≤ 40 := by
      unfold Int.gcd
      rcases Nat.eq_zero_or_pos (x (zp_nx n m) - x m).natAbs with h | h
      · rw [h, Nat.gcd_zero_left]; omega
      · have := Nat.gcd_le_left (y (zp_nx n m) - y m).natAbs h; omega
    unfold zp_sum
    omega
theorem l_xrim (h : v_cp w x y n) (k : Nat) : ∀ (i : Nat) (l3 : Option Value), i + k = n → rz_G X (d + 2) mz_X6_rimPoints 4 [some (.ref 18), some (.int (Int32.ofInt (zp_sum (fun i => (Int.gcd (x (zp_nx n i) - x i) (y (zp_nx n i) - y i) : Int)) i))), some (.int (Int32.ofInt i)), l3] [] w nc ns = some (.inl (some (.int (Int32.ofInt (zp_rim x y n)))), w, nc, ns) := by
  obtain ⟨cl, a, P, Q, h18, h22, h23, hn, hr, he⟩ := id h
  induction k with
  | zero =>
    intro i l3 hi
    obtain rfl : i = n := hi
    rw [q_X6_rimPoints_4]
    simp (disch := first | exact nl_i | exact nl_r | exact nl_0 | exact nl_n | exact nl_x | exact kd_r | exact kd_n | exact kd_x | exact kd_o | exact cats0 | exact cats1 | exact cats2 | exact cats3 | exact cats4 | exact nr_i | exact nr_l | exact nr_z0 | exact nr_z1 | exact ft_i | exact ft_l | omega | rfl | assumption | (refine i_ne0 ?_ ?_ ?_ <;> omega) | (refine j_ne0 ?_ ?_ ?_ <;> omega) | (refine i_new ?_ ?_ <;> omega) | (refine bl_t ?_; with_unfolding_all rfl) | exact ft_z0 | exact ft_z1) only [n_X6_rimPoints, q_X6_rimPoints_0, q_X6_rimPoints_1, q_X6_rimPoints_2, q_X6_rimPoints_3, q_X6_rimPoints_5, q_X6_rimPoints_6, q_X6_rimPoints_9, q_X6_rimPoints_12, q_X6_rimPoints_13, q_X6_rimPoints_14, q_X6_rimPoints_17, q_X6_rimPoints_18, q_X6_rimPoints_19, q_X6_rimPoints_20, q_X6_rimPoints_21, q_X6_rimPoints_24, q_X6_rimPoints_25, q_X6_rimPoints_26, q_X6_rimPoints_29, q_X6_rimPoints_30, q_X6_rimPoints_31, q_X6_rimPoints_32, q_X6_rimPoints_33, q_X6_rimPoints_36, q_X6_rimPoints_37, q_X6_rimPoints_38, q_X6_rimPoints_41, q_X6_rimPoints_42, q_X6_rimPoints_43, q_X6_rimPoints_46, q_X6_rimPoints_47, q_X6_rimPoints_48, q_X6_rimPoints_49, q_X6_rimPoints_52, q_X6_rimPoints_55, q_X6_rimPoints_56, i_add, i_sub, i_mul, i_neg, i_lt, i_le, i_eq, i_tm, i_div, i_j, j_i, j_add, j_sub, j_mul, j_neg, j_lt, j_le, j_eq, j_div, c_lt, c_le, c_gt, c_ge, c_eq, i_nat, rz_k, Nat.add_zero, Nat.zero_add, Nat.add_assoc, Nat.reduceAdd, if_true, if_false, gf_eq h18, List.getElem?_cons_zero, List.getElem?_cons_succ]
    rw [if_pos (by omega)]
    rfl
  | succ k ih =>
    intro i l3 hi
    have hx := x_nx (X := X) (d := d + 1) h (show i < n by omega)
    have hnx := nx_lt (show i < n by omega)
    have a1 := x_pX (X := X) (d := d + 1) h (show i < n by omega)
    have b1 := x_pY (X := X) (d := d + 1) h (show i < n by omega)
    have a2 := x_pX (X := X) (d := d + 1) h hnx
    have b2 := x_pY (X := X) (d := d + 1) h hnx
    have r1 := hr i
    have r2 := hr (zp_nx n i)
    have hg := x_gcd (X := X) (d := d) (w := w) (a := x (zp_nx n i) - x i) (b := y (zp_nx n i) - y i) (by omega) (by omega) (by omega) (by omega)
    rw [q_X6_rimPoints_4]
    simp (disch := first | exact nl_i | exact nl_r | exact nl_0 | exact nl_n | exact nl_x | exact kd_r | exact kd_n | exact kd_x | exact kd_o | exact cats0 | exact cats1 | exact cats2 | exact cats3 | exact cats4 | exact nr_i | exact nr_l | exact nr_z0 | exact nr_z1 | exact ft_i | exact ft_l | omega | rfl | assumption | (refine i_ne0 ?_ ?_ ?_ <;> omega) | (refine j_ne0 ?_ ?_ ?_ <;> omega) | (refine i_new ?_ ?_ <;> omega) | (refine bl_t ?_; with_unfolding_all rfl) | exact ft_z0 | exact ft_z1) only [n_X6_rimPoints, q_X6_rimPoints_0, q_X6_rimPoints_1, q_X6_rimPoints_2, q_X6_rimPoints_3, q_X6_rimPoints_5, q_X6_rimPoints_6, q_X6_rimPoints_9, q_X6_rimPoints_12, q_X6_rimPoints_13, q_X6_rimPoints_14, q_X6_rimPoints_17, q_X6_rimPoints_18, q_X6_rimPoints_19, q_X6_rimPoints_20, q_X6_rimPoints_21, q_X6_rimPoints_24, q_X6_rimPoints_25, q_X6_rimPoints_26, q_X6_rimPoints_29, q_X6_rimPoints_30, q_X6_rimPoints_31, q_X6_rimPoints_32, q_X6_rimPoints_33, q_X6_rimPoints_36, q_X6_rimPoints_37, q_X6_rimPoints_38, q_X6_rimPoints_41, q_X6_rimPoints_42, q_X6_rimPoints_43, q_X6_rimPoints_46, q_X6_rimPoints_47, q_X6_rimPoints_48, q_X6_rimPoints_49, q_X6_rimPoints_52, q_X6_rimPoints_55, q_X6_rimPoints_56, i_add, i_sub, i_mul, i_neg, i_lt, i_le, i_eq, i_tm, i_div, i_j, j_i, j_add, j_sub, j_mul, j_neg, j_lt, j_le, j_eq, j_div, c_lt, c_le, c_gt, c_ge, c_eq, i_nat, rz_k, Nat.add_zero, Nat.zero_add, Nat.add_assoc, Nat.reduceAdd, if_true, if_false, gf_eq h18, vk_eq h18, List.getElem?_cons_zero, List.getElem?_cons_succ, hx, a1, a2, b1, b2, hg, j_i]
    rw [if_neg (by omega)]
    exact ih (i + 1) _ (by omega)
theorem x_rim (h : v_cp w x y n) : rz_ex X (d + 3) 60 [.ref 18] w = some (.inl (some (.int (Int32.ofInt (zp_rim x y n)))), w, 0, 0) := by
  simp (disch := first | exact nl_i | exact nl_r | exact nl_0 | exact nl_n | exact nl_x | exact kd_r | exact kd_n | exact kd_x | exact kd_o | exact cats0 | exact cats1 | exact cats2 | exact cats3 | exact cats4 | exact nr_i | exact nr_l | exact nr_z0 | exact nr_z1 | exact ft_i | exact ft_l | omega | rfl | assumption | (refine i_ne0 ?_ ?_ ?_ <;> omega) | (refine j_ne0 ?_ ?_ ?_ <;> omega) | (refine i_new ?_ ?_ <;> omega) | (refine bl_t ?_; with_unfolding_all rfl) | exact ft_z0 | exact ft_z1) only [n_X6_rimPoints, q_X6_rimPoints_0, q_X6_rimPoints_1, q_X6_rimPoints_2, q_X6_rimPoints_3]
  exact l_xrim h n 0 none (by omega)
theorem l_yrim (h : v_rp w x y n) (k : Nat) : ∀ (i : Nat) (l3 : Option Value), i + k = n → rz_G X (d + 2) mz_X11_rimIts 4 [some (.ref 32), some (.int (Int32.ofInt (zp_sum (fun i => (Int.gcd (x (zp_nx n i) - x i) (y (zp_nx n i) - y i) : Int)) i))), some (.int (Int32.ofInt i)), l3] [] w nc ns = some (.inl (some (.int (Int32.ofInt (zp_rim x y n)))), w, nc, ns) := by
  obtain ⟨kp, tl, kd, cl, th, R, S, hm, h44, h45, hn, hr, he⟩ := id h
  induction k with
  | zero =>
    intro i l3 hi
    obtain rfl : i = n := hi
    rw [q_X11_rimIts_4]
    simp (disch := first | exact nl_i | exact nl_r | exact nl_0 | exact nl_n | exact nl_x | exact kd_r | exact kd_n | exact kd_x | exact kd_o | exact cats0 | exact cats1 | exact cats2 | exact cats3 | exact cats4 | exact nr_i | exact nr_l | exact nr_z0 | exact nr_z1 | exact ft_i | exact ft_l | omega | rfl | assumption | (refine i_ne0 ?_ ?_ ?_ <;> omega) | (refine j_ne0 ?_ ?_ ?_ <;> omega) | (refine i_new ?_ ?_ <;> omega) | (refine bl_t ?_; with_unfolding_all rfl) | exact ft_z0 | exact ft_z1) only [n_X11_rimIts, q_X11_rimIts_0, q_X11_rimIts_1, q_X11_rimIts_2, q_X11_rimIts_3, q_X11_rimIts_5, q_X11_rimIts_6, q_X11_rimIts_9, q_X11_rimIts_12, q_X11_rimIts_13, q_X11_rimIts_14, q_X11_rimIts_17, q_X11_rimIts_18, q_X11_rimIts_19, q_X11_rimIts_20, q_X11_rimIts_23, q_X11_rimIts_24, q_X11_rimIts_24x, q_X11_rimIts_25, q_X11_rimIts_26, q_X11_rimIts_29, q_X11_rimIts_30, q_X11_rimIts_30x, q_X11_rimIts_31, q_X11_rimIts_32, q_X11_rimIts_33, q_X11_rimIts_34, q_X11_rimIts_37, q_X11_rimIts_38, q_X11_rimIts_38x, q_X11_rimIts_39, q_X11_rimIts_40, q_X11_rimIts_43, q_X11_rimIts_44, q_X11_rimIts_44x, q_X11_rimIts_45, q_X11_rimIts_46, q_X11_rimIts_47, q_X11_rimIts_50, q_X11_rimIts_51, q_X11_rimIts_52, q_X11_rimIts_53, q_X11_rimIts_56, q_X11_rimIts_59, q_X11_rimIts_60, i_add, i_sub, i_mul, i_neg, i_lt, i_le, i_eq, i_tm, i_div, i_j, j_i, j_add, j_sub, j_mul, j_neg, j_lt, j_le, j_eq, j_div, c_lt, c_le, c_gt, c_ge, c_eq, i_nat, rz_k, Nat.add_zero, Nat.zero_add, Nat.add_assoc, Nat.reduceAdd, if_true, if_false, gf_eq hm, List.getElem?_cons_zero, List.getElem?_cons_succ]
    rw [if_pos (by omega)]
    rfl
  | succ k ih =>
    intro i l3 hi
    have hx := y_nx (X := X) (d := d + 1) h (show i < n by omega)
    have hnx := nx_lt (show i < n by omega)
    have r1 := hr i
    have r2 := hr (zp_nx n i)
    have v1 := he i (by omega)
    have v2 := he (zp_nx n i) hnx
    have hg := y_gcd (X := X) (d := d + 1) (w := w) (a := x (zp_nx n i) - x i) (b := y (zp_nx n i) - y i) (by omega) (by omega) (by omega) (by omega)
    rw [q_X11_rimIts_4]
    simp (disch := first | exact nl_i | exact nl_r | exact nl_0 | exact nl_n | exact nl_x | exact kd_r | exact kd_n | exact kd_x | exact kd_o | exact cats0 | exact cats1 | exact cats2 | exact cats3 | exact cats4 | exact nr_i | exact nr_l | exact nr_z0 | exact nr_z1 | exact ft_i | exact ft_l | omega | rfl | assumption | (refine i_ne0 ?_ ?_ ?_ <;> omega) | (refine j_ne0 ?_ ?_ ?_ <;> omega) | (refine i_new ?_ ?_ <;> omega) | (refine bl_t ?_; with_unfolding_all rfl) | exact ft_z0 | exact ft_z1) only [n_X11_rimIts, q_X11_rimIts_0, q_X11_rimIts_1, q_X11_rimIts_2, q_X11_rimIts_3, q_X11_rimIts_5, q_X11_rimIts_6, q_X11_rimIts_9, q_X11_rimIts_12, q_X11_rimIts_13, q_X11_rimIts_14, q_X11_rimIts_17, q_X11_rimIts_18, q_X11_rimIts_19, q_X11_rimIts_20, q_X11_rimIts_23, q_X11_rimIts_24, q_X11_rimIts_24x, q_X11_rimIts_25, q_X11_rimIts_26, q_X11_rimIts_29, q_X11_rimIts_30, q_X11_rimIts_30x, q_X11_rimIts_31, q_X11_rimIts_32, q_X11_rimIts_33, q_X11_rimIts_34, q_X11_rimIts_37, q_X11_rimIts_38, q_X11_rimIts_38x, q_X11_rimIts_39, q_X11_rimIts_40, q_X11_rimIts_43, q_X11_rimIts_44, q_X11_rimIts_44x, q_X11_rimIts_45, q_X11_rimIts_46, q_X11_rimIts_47, q_X11_rimIts_50, q_X11_rimIts_51, q_X11_rimIts_52, q_X11_rimIts_53, q_X11_rimIts_56, q_X11_rimIts_59, q_X11_rimIts_60, i_add, i_sub, i_mul, i_neg, i_lt, i_le, i_eq, i_tm, i_div, i_j, j_i, j_add, j_sub, j_mul, j_neg, j_lt, j_le, j_eq, j_div, c_lt, c_le, c_gt, c_ge, c_eq, i_nat, rz_k, Nat.add_zero, Nat.zero_add, Nat.add_assoc, Nat.reduceAdd, if_true, if_false, gf_eq hm, vk_eq hm, List.getElem?_cons_zero, List.getElem?_cons_succ, hx, ai_eq h44, ai_eq h45, Int.toNat_natCast, v1.1, v1.2, v2.1, v2.2, hg, j_i]
    rw [if_neg (by omega)]
    exact ih (i + 1) _ (by omega)
theorem y_rim (h : v_rp w x y n) : rz_ex X (d + 3) 237 [.ref 32] w = some (.inl (some (.int (Int32.ofInt (zp_rim x y n)))), w, 0, 0) := by
  simp (disch := first | exact nl_i | exact nl_r | exact nl_0 | exact nl_n | exact nl_x | exact kd_r | exact kd_n | exact kd_x | exact kd_o | exact cats0 | exact cats1 | exact cats2 | exact cats3 | exact cats4 | exact nr_i | exact nr_l | exact nr_z0 | exact nr_z1 | exact ft_i | exact ft_l | omega | rfl | assumption | (refine i_ne0 ?_ ?_ ?_ <;> omega) | (refine j_ne0 ?_ ?_ ?_ <;> omega) | (refine i_new ?_ ?_ <;> omega) | (refine bl_t ?_; with_unfolding_all rfl) | exact ft_z0 | exact ft_z1) only [n_X11_rimIts, q_X11_rimIts_0, q_X11_rimIts_1, q_X11_rimIts_2, q_X11_rimIts_3]
  exact l_yrim h n 0 none (by omega)
theorem l_xarea (h : v_cp w x y n) (k : Nat) : ∀ (i : Nat) (l3 : Option Value), i + k = n → rz_G X (d + 1) mz_X6_signedArea 4 [some (.ref 18), some (.int (Int32.ofInt (zp_sum (fun i => x i * y (zp_nx n i) - y i * x (zp_nx n i)) i))), some (.int (Int32.ofInt i)), l3] [] w nc ns = some (.inl (some (.int (Int32.ofInt (zp_area x y n)))), w, nc, ns) := by
  obtain ⟨cl, a, P, Q, h18, h22, h23, hn, hr, he⟩ := id h
  induction k with
  | zero =>
    intro i l3 hi
    obtain rfl : i = n := hi
    rw [q_X6_signedArea_4]
    simp (disch := first | exact nl_i | exact nl_r | exact nl_0 | exact nl_n | exact nl_x | exact kd_r | exact kd_n | exact kd_x | exact kd_o | exact cats0 | exact cats1 | exact cats2 | exact cats3 | exact cats4 | exact nr_i | exact nr_l | exact nr_z0 | exact nr_z1 | exact ft_i | exact ft_l | omega | rfl | assumption | (refine i_ne0 ?_ ?_ ?_ <;> omega) | (refine j_ne0 ?_ ?_ ?_ <;> omega) | (refine i_new ?_ ?_ <;> omega) | (refine bl_t ?_; with_unfolding_all rfl) | exact ft_z0 | exact ft_z1) only [n_X6_signedArea, q_X6_signedArea_0, q_X6_signedArea_1, q_X6_signedArea_2, q_X6_signedArea_3, q_X6_signedArea_5, q_X6_signedArea_6, q_X6_signedArea_9, q_X6_signedArea_12, q_X6_signedArea_13, q_X6_signedArea_14, q_X6_signedArea_17, q_X6_signedArea_18, q_X6_signedArea_19, q_X6_signedArea_20, q_X6_signedArea_21, q_X6_signedArea_24, q_X6_signedArea_25, q_X6_signedArea_26, q_X6_signedArea_29, q_X6_signedArea_30, q_X6_signedArea_31, q_X6_signedArea_32, q_X6_signedArea_35, q_X6_signedArea_36, q_X6_signedArea_37, q_X6_signedArea_40, q_X6_signedArea_41, q_X6_signedArea_42, q_X6_signedArea_43, q_X6_signedArea_44, q_X6_signedArea_47, q_X6_signedArea_50, q_X6_signedArea_51, i_add, i_sub, i_mul, i_neg, i_lt, i_le, i_eq, i_tm, i_div, i_j, j_i, j_add, j_sub, j_mul, j_neg, j_lt, j_le, j_eq, j_div, c_lt, c_le, c_gt, c_ge, c_eq, i_nat, rz_k, Nat.add_zero, Nat.zero_add, Nat.add_assoc, Nat.reduceAdd, if_true, if_false, gf_eq h18, List.getElem?_cons_zero, List.getElem?_cons_succ]
    rw [if_pos (by omega)]
    rfl
  | succ k ih =>
    intro i l3 hi
    have hx := x_nx (X := X) (d := d) h (show i < n by omega)
    have hnx := nx_lt (show i < n by omega)
    have a1 := x_pX (X := X) (d := d) h (show i < n by omega)
    have b1 := x_pY (X := X) (d := d) h (show i < n by omega)
    have a2 := x_pX (X := X) (d := d) h hnx
    have b2 := x_pY (X := X) (d := d) h hnx
    rw [q_X6_signedArea_4]
    simp (disch := first | exact nl_i | exact nl_r | exact nl_0 | exact nl_n | exact nl_x | exact kd_r | exact kd_n | exact kd_x | exact kd_o | exact cats0 | exact cats1 | exact cats2 | exact cats3 | exact cats4 | exact nr_i | exact nr_l | exact nr_z0 | exact nr_z1 | exact ft_i | exact ft_l | omega | rfl | assumption | (refine i_ne0 ?_ ?_ ?_ <;> omega) | (refine j_ne0 ?_ ?_ ?_ <;> omega) | (refine i_new ?_ ?_ <;> omega) | (refine bl_t ?_; with_unfolding_all rfl) | exact ft_z0 | exact ft_z1) only [n_X6_signedArea, q_X6_signedArea_0, q_X6_signedArea_1, q_X6_signedArea_2, q_X6_signedArea_3, q_X6_signedArea_5, q_X6_signedArea_6, q_X6_signedArea_9, q_X6_signedArea_12, q_X6_signedArea_13, q_X6_signedArea_14, q_X6_signedArea_17, q_X6_signedArea_18, q_X6_signedArea_19, q_X6_signedArea_20, q_X6_signedArea_21, q_X6_signedArea_24, q_X6_signedArea_25, q_X6_signedArea_26, q_X6_signedArea_29, q_X6_signedArea_30, q_X6_signedArea_31, q_X6_signedArea_32, q_X6_signedArea_35, q_X6_signedArea_36, q_X6_signedArea_37, q_X6_signedArea_40, q_X6_signedArea_41, q_X6_signedArea_42, q_X6_signedArea_43, q_X6_signedArea_44, q_X6_signedArea_47, q_X6_signedArea_50, q_X6_signedArea_51, i_add, i_sub, i_mul, i_neg, i_lt, i_le, i_eq, i_tm, i_div, i_j, j_i, j_add, j_sub, j_mul, j_neg, j_lt, j_le, j_eq, j_div, c_lt, c_le, c_gt, c_ge, c_eq, i_nat, rz_k, Nat.add_zero, Nat.zero_add, Nat.add_assoc, Nat.reduceAdd, if_true, if_false, gf_eq h18, vk_eq h18, List.getElem?_cons_zero, List.getElem?_cons_succ, hx, a1, a2, b1, b2]
    rw [if_neg (by omega)]
    exact ih (i + 1) _ (by omega)
theorem x_area (h : v_cp w x y n) : rz_ex X (d + 2) 58 [.ref 18] w = some (.inl (some (.int (Int32.ofInt (zp_area x y n)))), w, 0, 0) := by
  simp (disch := first | exact nl_i | exact nl_r | exact nl_0 | exact nl_n | exact nl_x | exact kd_r | exact kd_n | exact kd_x | exact kd_o | exact cats0 | exact cats1 | exact cats2 | exact cats3 | exact cats4 | exact nr_i | exact nr_l | exact nr_z0 | exact nr_z1 | exact ft_i | exact ft_l | omega | rfl | assumption | (refine i_ne0 ?_ ?_ ?_ <;> omega) | (refine j_ne0 ?_ ?_ ?_ <;> omega) | (refine i_new ?_ ?_ <;> omega) | (refine bl_t ?_; with_unfolding_all rfl) | exact ft_z0 | exact ft_z1) only [n_X6_signedArea, q_X6_signedArea_0, q_X6_signedArea_1, q_X6_signedArea_2, q_X6_signedArea_3]
  exact l_xarea h n 0 none (by omega)
theorem z_area_b (hr : ∀ k, (-20 ≤ x k ∧ x k ≤ 20) ∧ (-20 ≤ y k ∧ y k ≤ 20)) (m : Nat) : -800 * m ≤ zp_sum (fun i => x i * y (zp_nx n i) - y i * x (zp_nx n i)) m ∧ zp_sum (fun i => x i * y (zp_nx n i) - y i * x (zp_nx n i)) m ≤ 800 * m := by
  induction m with
  | zero => exact ⟨Int.le_refl _, Int.le_refl _⟩
  | succ m ih =>
    have h1 := hr m
    have h2 := hr (zp_nx n m)
    have e1 := z_nmul (a := x m) (b := y (zp_nx n m)) (M := 20) (N := 20) (by omega) (by omega)
    have e2 := z_nmul (a := y m) (b := x (zp_nx n m)) (M := 20) (N := 20) (by omega) (by omega)
    unfold zp_sum
    omega
theorem x_twice (h : v_cp w x y n) : rz_ex X (d + 3) 59 [.ref 18] w = some (.inl (some (.int (Int32.ofInt ((zp_area x y n).natAbs : Nat)))), w, 0, 0) := by
  have ha := x_area (X := X) (d := d) h
  obtain ⟨cl, a, P, Q, h18, h22, h23, hn, hr, he⟩ := id h
  have hb := z_area_b (n := n) hr n
  have hb2 : -9600 ≤ zp_area x y n ∧ zp_area x y n ≤ 9600 := by unfold zp_area; omega
  have hab := x_abs (X := X) (d := d + 1) (w := w) (a := zp_area x y n) (by omega) (by omega)
  simp (disch := first | exact nl_i | exact nl_r | exact nl_0 | exact nl_n | exact nl_x | exact kd_r | exact kd_n | exact kd_x | exact kd_o | exact cats0 | exact cats1 | exact cats2 | exact cats3 | exact cats4 | exact nr_i | exact nr_l | exact nr_z0 | exact nr_z1 | exact ft_i | exact ft_l | omega | rfl | assumption | (refine i_ne0 ?_ ?_ ?_ <;> omega) | (refine j_ne0 ?_ ?_ ?_ <;> omega) | (refine i_new ?_ ?_ <;> omega) | (refine bl_t ?_; with_unfolding_all rfl) | exact ft_z0 | exact ft_z1) only [n_X6_twiceArea, q_X6_twiceArea_0, q_X6_twiceArea_1, q_X6_twiceArea_4, q_X6_twiceArea_7, i_add, i_sub, i_mul, i_neg, i_lt, i_le, i_eq, i_tm, i_div, i_j, j_i, j_add, j_sub, j_mul, j_neg, j_lt, j_le, j_eq, j_div, c_lt, c_le, c_gt, c_ge, c_eq, i_nat, rz_k, Nat.add_zero, Nat.zero_add, Nat.add_assoc, Nat.reduceAdd, if_true, if_false, vk_eq h18, ha, hab]
theorem l_yarea (h : v_rp w x y n) (k : Nat) : ∀ (i : Nat) (l3 : Option Value), i + k = n → rz_G X (d + 1) mz_X11_areaTwice 4 [some (.ref 32), some (.int (Int32.ofInt (zp_sum (fun i => x i * y (zp_nx n i) - y i * x (zp_nx n i)) i))), some (.int (Int32.ofInt i)), l3] [] w nc ns = some (.inl (some (.int (Int32.ofInt (zp_area x y n)))), w, nc, ns) := by
  obtain ⟨kp, tl, kd, cl, th, R, S, hm, h44, h45, hn, hr, he⟩ := id h
  induction k with
  | zero =>
    intro i l3 hi
    obtain rfl : i = n := hi
    rw [q_X11_areaTwice_4]
    simp (disch := first | exact nl_i | exact nl_r | exact nl_0 | exact nl_n | exact nl_x | exact kd_r | exact kd_n | exact kd_x | exact kd_o | exact cats0 | exact cats1 | exact cats2 | exact cats3 | exact cats4 | exact nr_i | exact nr_l | exact nr_z0 | exact nr_z1 | exact ft_i | exact ft_l | omega | rfl | assumption | (refine i_ne0 ?_ ?_ ?_ <;> omega) | (refine j_ne0 ?_ ?_ ?_ <;> omega) | (refine i_new ?_ ?_ <;> omega) | (refine bl_t ?_; with_unfolding_all rfl) | exact ft_z0 | exact ft_z1) only [n_X11_areaTwice, q_X11_areaTwice_0, q_X11_areaTwice_1, q_X11_areaTwice_2, q_X11_areaTwice_3, q_X11_areaTwice_5, q_X11_areaTwice_6, q_X11_areaTwice_9, q_X11_areaTwice_12, q_X11_areaTwice_13, q_X11_areaTwice_14, q_X11_areaTwice_17, q_X11_areaTwice_18, q_X11_areaTwice_19, q_X11_areaTwice_20, q_X11_areaTwice_23, q_X11_areaTwice_24, q_X11_areaTwice_24x, q_X11_areaTwice_25, q_X11_areaTwice_26, q_X11_areaTwice_29, q_X11_areaTwice_30, q_X11_areaTwice_30x, q_X11_areaTwice_31, q_X11_areaTwice_32, q_X11_areaTwice_33, q_X11_areaTwice_36, q_X11_areaTwice_37, q_X11_areaTwice_37x, q_X11_areaTwice_38, q_X11_areaTwice_39, q_X11_areaTwice_42, q_X11_areaTwice_43, q_X11_areaTwice_43x, q_X11_areaTwice_44, q_X11_areaTwice_45, q_X11_areaTwice_46, q_X11_areaTwice_47, q_X11_areaTwice_48, q_X11_areaTwice_51, q_X11_areaTwice_54, q_X11_areaTwice_55, i_add, i_sub, i_mul, i_neg, i_lt, i_le, i_eq, i_tm, i_div, i_j, j_i, j_add, j_sub, j_mul, j_neg, j_lt, j_le, j_eq, j_div, c_lt, c_le, c_gt, c_ge, c_eq, i_nat, rz_k, Nat.add_zero, Nat.zero_add, Nat.add_assoc, Nat.reduceAdd, if_true, if_false, gf_eq hm, List.getElem?_cons_zero, List.getElem?_cons_succ]
    rw [if_pos (by omega)]
    rfl
  | succ k ih =>
    intro i l3 hi
    have hx := y_nx (X := X) (d := d) h (show i < n by omega)
    have hnx := nx_lt (show i < n by omega)
    have v1 := he i (by omega)
    have v2 := he (zp_nx n i) hnx
    rw [q_X11_areaTwice_4]
    simp (disch := first | exact nl_i | exact nl_r | exact nl_0 | exact nl_n | exact nl_x | exact kd_r | exact kd_n | exact kd_x | exact kd_o | exact cats0 | exact cats1 | exact cats2 | exact cats3 | exact cats4 | exact nr_i | exact nr_l | exact nr_z0 | exact nr_z1 | exact ft_i | exact ft_l | omega | rfl | assumption | (refine i_ne0 ?_ ?_ ?_ <;> omega) | (refine j_ne0 ?_ ?_ ?_ <;> omega) | (refine i_new ?_ ?_ <;> omega) | (refine bl_t ?_; with_unfolding_all rfl) | exact ft_z0 | exact ft_z1) only [n_X11_areaTwice, q_X11_areaTwice_0, q_X11_areaTwice_1, q_X11_areaTwice_2, q_X11_areaTwice_3, q_X11_areaTwice_5, q_X11_areaTwice_6, q_X11_areaTwice_9, q_X11_areaTwice_12, q_X11_areaTwice_13, q_X11_areaTwice_14, q_X11_areaTwice_17, q_X11_areaTwice_18, q_X11_areaTwice_19, q_X11_areaTwice_20, q_X11_areaTwice_23, q_X11_areaTwice_24, q_X11_areaTwice_24x, q_X11_areaTwice_25, q_X11_areaTwice_26, q_X11_areaTwice_29, q_X11_areaTwice_30, q_X11_areaTwice_30x, q_X11_areaTwice_31, q_X11_areaTwice_32, q_X11_areaTwice_33, q_X11_areaTwice_36, q_X11_areaTwice_37, q_X11_areaTwice_37x, q_X11_areaTwice_38, q_X11_areaTwice_39, q_X11_areaTwice_42, q_X11_areaTwice_43, q_X11_areaTwice_43x, q_X11_areaTwice_44, q_X11_areaTwice_45, q_X11_areaTwice_46, q_X11_areaTwice_47, q_X11_areaTwice_48, q_X11_areaTwice_51, q_X11_areaTwice_54, q_X11_areaTwice_55, i_add, i_sub, i_mul, i_neg, i_lt, i_le, i_eq, i_tm, i_div, i_j, j_i, j_add, j_sub, j_mul, j_neg, j_lt, j_le, j_eq, j_div, c_lt, c_le, c_gt, c_ge, c_eq, i_nat, rz_k, Nat.add_zero, Nat.zero_add, Nat.add_assoc, Nat.reduceAdd, if_true, if_false, gf_eq hm, vk_eq hm, List.getElem?_cons_zero, List.getElem?_cons_succ, hx, ai_eq h44, ai_eq h45, Int.toNat_natCast, v1.1, v1.2, v2.1, v2.2]
    rw [if_neg (by omega), Int.mul_comm (x (zp_nx n i)) (y i)]
    exact ih (i + 1) _ (by omega)
theorem y_area (h : v_rp w x y n) : rz_ex X (d + 2) 235 [.ref 32] w = some (.inl (some (.int (Int32.ofInt (zp_area x y n)))), w, 0, 0) := by
  simp (disch := first | exact nl_i | exact nl_r | exact nl_0 | exact nl_n | exact nl_x | exact kd_r | exact kd_n | exact kd_x | exact kd_o | exact cats0 | exact cats1 | exact cats2 | exact cats3 | exact cats4 | exact nr_i | exact nr_l | exact nr_z0 | exact nr_z1 | exact ft_i | exact ft_l | omega | rfl | assumption | (refine i_ne0 ?_ ?_ ?_ <;> omega) | (refine j_ne0 ?_ ?_ ?_ <;> omega) | (refine i_new ?_ ?_ <;> omega) | (refine bl_t ?_; with_unfolding_all rfl) | exact ft_z0 | exact ft_z1) only [n_X11_areaTwice, q_X11_areaTwice_0, q_X11_areaTwice_1, q_X11_areaTwice_2, q_X11_areaTwice_3]
  exact l_yarea h n 0 none (by omega)
end RZPO
