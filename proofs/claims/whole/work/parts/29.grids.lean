/-! part 29: level 2: grids: class and reference -/
section RZGR
variable {X : rz_X} {d : Nat} {w : rz_W} {nc ns : Nat}
/-- the sum of the divisors of n up to k; the sum of what they leave -/
def zf_sd (n : Nat) : Nat → Nat
  | 0 => 0
  | k + 1 => zf_sd n k + if n % (k + 1) = 0 then k + 1 else 0
def zf_sq (n : Nat) : Nat → Nat
  | 0 => 0
  | k + 1 => zf_sq n k + if n % (k + 1) = 0 then n / (k + 1) else 0
theorem zf_sd_sq : ∀ n, n < 201 → zf_sd n n = zf_sq n n := by decide +kernel
theorem zf_sd_le {n k : Nat} : zf_sd n k ≤ k * k := by
  induction k with
  | zero => exact Nat.le_refl _
  | succ k ih =>
    have h : (k + 1) * (k + 1) = k * k + 2 * k + 1 := by rw [Nat.add_mul, Nat.mul_add]; omega
    unfold zf_sd
    split <;> omega
theorem zf_sq_le {n k : Nat} : zf_sq n k ≤ n * k := by
  induction k with
  | zero => exact Nat.zero_le _
  | succ k ih =>
    have h : n * (k + 1) = n * k + n := by rw [Nat.mul_add, Nat.mul_one]
    have h2 := Nat.div_le_self n (k + 1)
    unfold zf_sq
    split <;> omega
theorem l_gr {h n : Nat} (hn : n ≤ 200) (k : Nat) : ∀ j : Nat, 1 ≤ j → j + k = n + 1 → rz_G X d mz_X10_grids 12 [some (.ref h), some (.int (Int32.ofInt n)), some (.int (Int32.ofInt (zf_sd n (j - 1) : Nat))), some (.int (Int32.ofInt j))] [] w nc ns = some (.inl (some (.int (Int32.ofInt (zf_sd n n : Nat)))), w, nc, ns) := by
  induction k with
  | zero =>
    intro j h1 h2
    have e : j = n + 1 := by omega
    subst e
    rw [q_X10_grids_12]
    simp (disch := first | exact nl_i | exact nl_r | exact nl_0 | exact nl_n | exact nl_x | exact kd_r | exact kd_n | exact kd_x | exact kd_o | exact cats0 | exact cats1 | exact cats2 | exact cats3 | exact cats4 | exact nr_i | exact nr_l | exact nr_z0 | exact nr_z1 | exact ft_i | exact ft_l | omega | rfl | assumption | (refine i_ne0 ?_ ?_ ?_ <;> omega) | (refine j_ne0 ?_ ?_ ?_ <;> omega) | (refine i_new ?_ ?_ <;> omega)) only [n_X10_grids, q_X10_grids_0, q_X10_grids_1, q_X10_grids_2, q_X10_grids_5, q_X10_grids_8, q_X10_grids_9, q_X10_grids_10, q_X10_grids_11, q_X10_grids_13, q_X10_grids_14, q_X10_grids_17, q_X10_grids_18, q_X10_grids_19, q_X10_grids_20, q_X10_grids_23, q_X10_grids_24, q_X10_grids_25, q_X10_grids_26, q_X10_grids_27, q_X10_grids_30, q_X10_grids_33, q_X10_grids_34, i_add, i_sub, i_mul, i_neg, i_lt, i_le, i_eq, i_tm, i_div, i_j, j_i, j_add, j_sub, j_mul, j_neg, j_lt, j_le, j_eq, j_div, c_lt, c_le, c_gt, c_ge, c_eq, i_nat, rz_k, Nat.add_zero, Nat.zero_add, Nat.add_assoc, Nat.reduceAdd, if_true, if_false]
    rw [if_pos (by omega), Nat.add_sub_cancel]
  | succ k ih =>
    intro j h1 h2
    obtain ⟨i, rfl⟩ : ∃ i, j = i + 1 := ⟨j - 1, by omega⟩
    rw [q_X10_grids_12]
    have hr := Nat.mod_lt n (show 0 < i + 1 by omega)
    simp (disch := first | exact nl_i | exact nl_r | exact nl_0 | exact nl_n | exact nl_x | exact kd_r | exact kd_n | exact kd_x | exact kd_o | exact cats0 | exact cats1 | exact cats2 | exact cats3 | exact cats4 | exact nr_i | exact nr_l | exact nr_z0 | exact nr_z1 | exact ft_i | exact ft_l | omega | rfl | assumption | (refine i_ne0 ?_ ?_ ?_ <;> omega) | (refine j_ne0 ?_ ?_ ?_ <;> omega) | (refine i_new ?_ ?_ <;> omega)) only [n_X10_grids, q_X10_grids_0, q_X10_grids_1, q_X10_grids_2, q_X10_grids_5, q_X10_grids_8, q_X10_grids_9, q_X10_grids_10, q_X10_grids_11, q_X10_grids_13, q_X10_grids_14, q_X10_grids_17, q_X10_grids_18, q_X10_grids_19, q_X10_grids_20, q_X10_grids_23, q_X10_grids_24, q_X10_grids_25, q_X10_grids_26, q_X10_grids_27, q_X10_grids_30, q_X10_grids_33, q_X10_grids_34, i_add, i_sub, i_mul, i_neg, i_lt, i_le, i_eq, i_tm, i_div, i_j, j_i, j_add, j_sub, j_mul, j_neg, j_lt, j_le, j_eq, j_div, c_lt, c_le, c_gt, c_ge, c_eq, i_nat, rz_k, Nat.add_zero, Nat.zero_add, Nat.add_assoc, Nat.reduceAdd, if_true, if_false, z_ctm]
    rw [if_neg (by omega)]
    have := ih (i + 1 + 1) (by omega) (by omega)
    rw [Nat.add_sub_cancel] at this ⊢
    by_cases h0 : n % (i + 1) = 0
    · rw [if_neg (by omega)]
      refine Eq.trans ?_ this
      simp only [zf_sd, if_pos h0]
      rfl
    · rw [if_pos (by omega)]
      refine Eq.trans ?_ this
      simp only [zf_sd, if_neg h0]
      rfl
theorem x_grids {h : Nat} {n : Int} (h1 : -2147483648 ≤ n) (h2 : n ≤ 2147483647) : rz_ex X (d + 2) 109 [.ref h, .int (Int32.ofInt n)] w = if 1 ≤ n ∧ n ≤ 200 then some (.inl (some (.int (Int32.ofInt (zf_sd n.toNat n.toNat : Nat)))), w, 0, 0) else some (.inr "java/lang/IllegalArgumentException", w, 1, 6) := by
  simp (disch := first | exact nl_i | exact nl_r | exact nl_0 | exact nl_n | exact nl_x | exact kd_r | exact kd_n | exact kd_x | exact kd_o | exact cats0 | exact cats1 | exact cats2 | exact cats3 | exact cats4 | exact nr_i | exact nr_l | exact nr_z0 | exact nr_z1 | exact ft_i | exact ft_l | omega | rfl | assumption | (refine i_ne0 ?_ ?_ ?_ <;> omega) | (refine j_ne0 ?_ ?_ ?_ <;> omega) | (refine i_new ?_ ?_ <;> omega)) only [n_X10_grids, q_X10_grids_0, q_X10_grids_1, q_X10_grids_2, q_X10_grids_5, q_X10_grids_8, q_X10_grids_9, q_X10_grids_10, q_X10_grids_11, q_X10_grids_13, q_X10_grids_14, q_X10_grids_17, q_X10_grids_18, q_X10_grids_19, q_X10_grids_20, q_X10_grids_23, q_X10_grids_24, q_X10_grids_25, q_X10_grids_26, q_X10_grids_27, q_X10_grids_30, q_X10_grids_33, q_X10_grids_34, i_add, i_sub, i_mul, i_neg, i_lt, i_le, i_eq, i_tm, i_div, i_j, j_i, j_add, j_sub, j_mul, j_neg, j_lt, j_le, j_eq, j_div, c_lt, c_le, c_gt, c_ge, c_eq, i_nat, rz_k, Nat.add_zero, Nat.zero_add, Nat.add_assoc, Nat.reduceAdd, if_true, if_false, x_range]
  by_cases hc : 1 ≤ n ∧ n ≤ 200
  · obtain ⟨a, rfl⟩ := Int.eq_ofNat_of_zero_le (show 0 ≤ n by omega)
    rw [if_pos hc, if_pos hc]
    simp (disch := first | exact nl_i | exact nl_r | exact nl_0 | exact nl_n | exact nl_x | exact kd_r | exact kd_n | exact kd_x | exact kd_o | exact cats0 | exact cats1 | exact cats2 | exact cats3 | exact cats4 | exact nr_i | exact nr_l | exact nr_z0 | exact nr_z1 | exact ft_i | exact ft_l | omega | rfl | assumption | (refine i_ne0 ?_ ?_ ?_ <;> omega) | (refine j_ne0 ?_ ?_ ?_ <;> omega) | (refine i_new ?_ ?_ <;> omega)) only [n_X10_grids, q_X10_grids_0, q_X10_grids_1, q_X10_grids_2, q_X10_grids_5, q_X10_grids_8, q_X10_grids_9, q_X10_grids_10, q_X10_grids_11, q_X10_grids_13, q_X10_grids_14, q_X10_grids_17, q_X10_grids_18, q_X10_grids_19, q_X10_grids_20, q_X10_grids_23, q_X10_grids_24, q_X10_grids_25, q_X10_grids_26, q_X10_grids_27, q_X10_grids_30, q_X10_grids_33, q_X10_grids_34, i_add, i_sub, i_mul, i_neg, i_lt, i_le, i_eq, i_tm, i_div, i_j, j_i, j_add, j_sub, j_mul, j_neg, j_lt, j_le, j_eq, j_div, c_lt, c_le, c_gt, c_ge, c_eq, i_nat, rz_k, Nat.add_zero, Nat.zero_add, Nat.add_assoc, Nat.reduceAdd, if_true, if_false, Int.toNat_natCast]
    exact l_gr (X := X) (d := d + 1) (w := w) (nc := 0) (ns := 0) (show a ≤ 200 by omega) a 1 (by omega) (by omega)
  · rw [if_neg hc, if_neg hc]
    rfl
theorem z_rem (p q : Nat) : (p : Int) - ((p / q : Nat) : Int) * (q : Int) = ((p % q : Nat) : Int) := by rw [← z_tdn, i_tm, z_ctm]
theorem l_hr {h n : Nat} (hn : n ≤ 200) (k : Nat) : ∀ j : Nat, 1 ≤ j → j + k = n + 1 → rz_G X d mz_X11_grids 22 [some (.ref h), some (.int (Int32.ofInt n)), some (.int (Int32.ofInt (zf_sq n (j - 1) : Nat))), some (.int (Int32.ofInt j))] [] w nc ns = some (.inl (some (.int (Int32.ofInt (zf_sq n n : Nat)))), w, nc, ns) := by
  induction k with
  | zero =>
    intro j h1 h2
    have e : j = n + 1 := by omega
    subst e
    rw [q_X11_grids_22]
    simp (disch := first | exact nl_i | exact nl_r | exact nl_0 | exact nl_n | exact nl_x | exact kd_r | exact kd_n | exact kd_x | exact kd_o | exact cats0 | exact cats1 | exact cats2 | exact cats3 | exact cats4 | exact nr_i | exact nr_l | exact nr_z0 | exact nr_z1 | exact ft_i | exact ft_l | omega | rfl | assumption | (refine i_ne0 ?_ ?_ ?_ <;> omega) | (refine j_ne0 ?_ ?_ ?_ <;> omega) | (refine i_new ?_ ?_ <;> omega)) only [n_X11_grids, q_X11_grids_0, q_X11_grids_1, q_X11_grids_2, q_X11_grids_3, q_X11_grids_6, q_X11_grids_9, q_X11_grids_10, q_X11_grids_13, q_X11_grids_16, q_X11_grids_17, q_X11_grids_18, q_X11_grids_19, q_X11_grids_20, q_X11_grids_21, q_X11_grids_23, q_X11_grids_24, q_X11_grids_27, q_X11_grids_28, q_X11_grids_29, q_X11_grids_30, q_X11_grids_31, q_X11_grids_34, q_X11_grids_35, q_X11_grids_36, q_X11_grids_37, q_X11_grids_40, q_X11_grids_41, q_X11_grids_42, q_X11_grids_43, q_X11_grids_46, q_X11_grids_49, q_X11_grids_50, i_add, i_sub, i_mul, i_neg, i_lt, i_le, i_eq, i_tm, i_div, i_j, j_i, j_add, j_sub, j_mul, j_neg, j_lt, j_le, j_eq, j_div, c_lt, c_le, c_gt, c_ge, c_eq, i_nat, rz_k, Nat.add_zero, Nat.zero_add, Nat.add_assoc, Nat.reduceAdd, if_true, if_false]
    rw [if_pos (by omega), Nat.add_sub_cancel]
  | succ k ih =>
    intro j h1 h2
    obtain ⟨i, rfl⟩ : ∃ i, j = i + 1 := ⟨j - 1, by omega⟩
    rw [q_X11_grids_22]
    have hr := Nat.mod_lt n (show 0 < i + 1 by omega)
    simp (disch := first | exact nl_i | exact nl_r | exact nl_0 | exact nl_n | exact nl_x | exact kd_r | exact kd_n | exact kd_x | exact kd_o | exact cats0 | exact cats1 | exact cats2 | exact cats3 | exact cats4 | exact nr_i | exact nr_l | exact nr_z0 | exact nr_z1 | exact ft_i | exact ft_l | omega | rfl | assumption | (refine i_ne0 ?_ ?_ ?_ <;> omega) | (refine j_ne0 ?_ ?_ ?_ <;> omega) | (refine i_new ?_ ?_ <;> omega)) only [n_X11_grids, q_X11_grids_0, q_X11_grids_1, q_X11_grids_2, q_X11_grids_3, q_X11_grids_6, q_X11_grids_9, q_X11_grids_10, q_X11_grids_13, q_X11_grids_16, q_X11_grids_17, q_X11_grids_18, q_X11_grids_19, q_X11_grids_20, q_X11_grids_21, q_X11_grids_23, q_X11_grids_24, q_X11_grids_27, q_X11_grids_28, q_X11_grids_29, q_X11_grids_30, q_X11_grids_31, q_X11_grids_34, q_X11_grids_35, q_X11_grids_36, q_X11_grids_37, q_X11_grids_40, q_X11_grids_41, q_X11_grids_42, q_X11_grids_43, q_X11_grids_46, q_X11_grids_49, q_X11_grids_50, i_add, i_sub, i_mul, i_neg, i_lt, i_le, i_eq, i_tm, i_div, i_j, j_i, j_add, j_sub, j_mul, j_neg, j_lt, j_le, j_eq, j_div, c_lt, c_le, c_gt, c_ge, c_eq, i_nat, rz_k, Nat.add_zero, Nat.zero_add, Nat.add_assoc, Nat.reduceAdd, if_true, if_false, z_ctm, z_tdn, z_rem]
    rw [if_neg (by omega)]
    have := ih (i + 1 + 1) (by omega) (by omega)
    rw [Nat.add_sub_cancel] at this ⊢
    by_cases h0 : n % (i + 1) = 0
    · rw [if_neg (by omega)]
      refine Eq.trans ?_ this
      simp only [zf_sq, if_pos h0]
      rfl
    · rw [if_pos (by omega)]
      refine Eq.trans ?_ this
      simp only [zf_sq, if_neg h0]
      rfl
theorem y_grids {pm : Nat} {fs : List Value} {n : Int} (hm : w[pm]? = some (.inr (11, fs))) (hl : Nat.blt 18 fs.length = true) (h1 : -2147483648 ≤ n) (h2 : n ≤ 2147483647) : rz_ex X (d + 2) 185 [.ref pm, .int (Int32.ofInt n)] w = if 1 ≤ n ∧ n ≤ 200 then some (.inl (some (.int (Int32.ofInt (zf_sd n.toNat n.toNat : Nat)))), w.set pm (.inr (11, fs.set 18 (.int (Int32.ofInt 0)))), 0, 0) else some (.inl (some (.int (Int32.ofInt 0))), w.set pm (.inr (11, fs.set 18 (.int (Int32.ofInt 1)))), 0, 0) := by
  by_cases hc : 1 ≤ n ∧ n ≤ 200
  · obtain ⟨a, rfl⟩ := Int.eq_ofNat_of_zero_le (show 0 ≤ n by omega)
    simp (disch := first | exact nl_i | exact nl_r | exact nl_0 | exact nl_n | exact nl_x | exact kd_r | exact kd_n | exact kd_x | exact kd_o | exact cats0 | exact cats1 | exact cats2 | exact cats3 | exact cats4 | exact nr_i | exact nr_l | exact nr_z0 | exact nr_z1 | exact ft_i | exact ft_l | omega | rfl | assumption | (refine i_ne0 ?_ ?_ ?_ <;> omega) | (refine j_ne0 ?_ ?_ ?_ <;> omega) | (refine i_new ?_ ?_ <;> omega)) only [n_X11_grids, q_X11_grids_0, q_X11_grids_1, q_X11_grids_2, q_X11_grids_3, q_X11_grids_6, q_X11_grids_9, q_X11_grids_10, q_X11_grids_13, q_X11_grids_16, q_X11_grids_17, q_X11_grids_18, q_X11_grids_19, q_X11_grids_20, q_X11_grids_21, q_X11_grids_23, q_X11_grids_24, q_X11_grids_27, q_X11_grids_28, q_X11_grids_29, q_X11_grids_30, q_X11_grids_31, q_X11_grids_34, q_X11_grids_35, q_X11_grids_36, q_X11_grids_37, q_X11_grids_40, q_X11_grids_41, q_X11_grids_42, q_X11_grids_43, q_X11_grids_46, q_X11_grids_49, q_X11_grids_50, i_add, i_sub, i_mul, i_neg, i_lt, i_le, i_eq, i_tm, i_div, i_j, j_i, j_add, j_sub, j_mul, j_neg, j_lt, j_le, j_eq, j_div, c_lt, c_le, c_gt, c_ge, c_eq, i_nat, rz_k, Nat.add_zero, Nat.zero_add, Nat.add_assoc, Nat.reduceAdd, if_true, if_false, x_in, if_pos hc, vk_eq hm, x_no hm hl, Int.one_ne_zero, Int.toNat_natCast]
    rw [zf_sd_sq a (by omega)]
    exact l_hr (X := X) (d := d + 1) (nc := 0) (ns := 0) (show a ≤ 200 by omega) a 1 (by omega) (by omega)
  · simp (disch := first | exact nl_i | exact nl_r | exact nl_0 | exact nl_n | exact nl_x | exact kd_r | exact kd_n | exact kd_x | exact kd_o | exact cats0 | exact cats1 | exact cats2 | exact cats3 | exact cats4 | exact nr_i | exact nr_l | exact nr_z0 | exact nr_z1 | exact ft_i | exact ft_l | omega | rfl | assumption | (refine i_ne0 ?_ ?_ ?_ <;> omega) | (refine j_ne0 ?_ ?_ ?_ <;> omega) | (refine i_new ?_ ?_ <;> omega)) only [n_X11_grids, q_X11_grids_0, q_X11_grids_1, q_X11_grids_2, q_X11_grids_3, q_X11_grids_6, q_X11_grids_9, q_X11_grids_10, q_X11_grids_13, q_X11_grids_16, q_X11_grids_17, q_X11_grids_18, q_X11_grids_19, q_X11_grids_20, q_X11_grids_21, q_X11_grids_23, q_X11_grids_24, q_X11_grids_27, q_X11_grids_28, q_X11_grids_29, q_X11_grids_30, q_X11_grids_31, q_X11_grids_34, q_X11_grids_35, q_X11_grids_36, q_X11_grids_37, q_X11_grids_40, q_X11_grids_41, q_X11_grids_42, q_X11_grids_43, q_X11_grids_46, q_X11_grids_49, q_X11_grids_50, i_add, i_sub, i_mul, i_neg, i_lt, i_le, i_eq, i_tm, i_div, i_j, j_i, j_add, j_sub, j_mul, j_neg, j_lt, j_le, j_eq, j_div, c_lt, c_le, c_gt, c_ge, c_eq, i_nat, rz_k, Nat.add_zero, Nat.zero_add, Nat.add_assoc, Nat.reduceAdd, if_true, if_false, x_in, if_neg hc, vk_eq hm, x_no hm hl, Int.one_ne_zero]
end RZGR
