/-! part 30: level 2: termAt: class and reference -/
section RZTA
variable {X : rz_X} {d : Nat} {w : rz_W} {nc ns : Nat}
theorem l_ft {ix : Nat} (hx : ix ≤ 100) (k : Nat) : ∀ (p q r f : Nat) (l4 : Option Value), r + k = ix → k < zf_cnt f p q → p ≤ 1000 → q ≤ 1000 → rz_G X d mz_X10_findTerm 2 [some (.int (Int32.ofInt p)), some (.int (Int32.ofInt q)), some (.int (Int32.ofInt ix)), some (.int (Int32.ofInt r)), l4] [] w nc ns = some (.inl (some (.int (Int32.ofInt (zf_term k p q : Nat)))), w, nc, ns) := by
  induction k with
  | zero =>
    intro p q r f l4 h1 h2 h3 h4
    have h0 : q ≠ 0 := by
      rintro rfl
      cases f with
      | zero => simp [zf_cnt] at h2
      | succ f => simp [zf_cnt] at h2
    rw [q_X10_findTerm_2]
    simp (disch := first | exact nl_i | exact nl_r | exact nl_0 | exact nl_n | exact nl_x | exact kd_r | exact kd_n | exact kd_x | exact kd_o | exact cats0 | exact cats1 | exact cats2 | exact cats3 | exact cats4 | exact nr_i | exact nr_l | exact nr_z0 | exact nr_z1 | exact ft_i | exact ft_l | omega | rfl | assumption | (refine i_ne0 ?_ ?_ ?_ <;> omega) | (refine j_ne0 ?_ ?_ ?_ <;> omega) | (refine i_new ?_ ?_ <;> omega)) only [n_X10_findTerm, q_X10_findTerm_0, q_X10_findTerm_1, q_X10_findTerm_3, q_X10_findTerm_4, q_X10_findTerm_7, q_X10_findTerm_8, q_X10_findTerm_11, q_X10_findTerm_12, q_X10_findTerm_13, q_X10_findTerm_14, q_X10_findTerm_16, q_X10_findTerm_17, q_X10_findTerm_18, q_X10_findTerm_20, q_X10_findTerm_21, q_X10_findTerm_24, q_X10_findTerm_27, q_X10_findTerm_28, q_X10_findTerm_31, q_X10_findTerm_32, q_X10_findTerm_35, q_X10_findTerm_36, q_X10_findTerm_37, q_X10_findTerm_38, i_add, i_sub, i_mul, i_neg, i_lt, i_le, i_eq, i_tm, i_div, i_j, j_i, j_add, j_sub, j_mul, j_neg, j_lt, j_le, j_eq, j_div, c_lt, c_le, c_gt, c_ge, c_eq, i_nat, rz_k, Nat.add_zero, Nat.zero_add, Nat.add_assoc, Nat.reduceAdd, if_true, if_false, z_tdn]
    rw [if_pos (by omega), if_pos (by omega)]
    rfl
  | succ k ih =>
    intro p q r f l4 h1 h2 h3 h4
    have h0 : q ≠ 0 := by
      rintro rfl
      cases f with
      | zero => simp [zf_cnt] at h2
      | succ f => simp [zf_cnt] at h2
    obtain ⟨g, rfl⟩ : ∃ g, f = g + 1 := by
      cases f with
      | zero => simp [zf_cnt] at h2
      | succ f => exact ⟨f, rfl⟩
    simp only [zf_cnt, if_neg h0] at h2
    have hm := Nat.mod_lt p (show 0 < q by omega)
    rw [q_X10_findTerm_2]
    simp (disch := first | exact nl_i | exact nl_r | exact nl_0 | exact nl_n | exact nl_x | exact kd_r | exact kd_n | exact kd_x | exact kd_o | exact cats0 | exact cats1 | exact cats2 | exact cats3 | exact cats4 | exact nr_i | exact nr_l | exact nr_z0 | exact nr_z1 | exact ft_i | exact ft_l | omega | rfl | assumption | (refine i_ne0 ?_ ?_ ?_ <;> omega) | (refine j_ne0 ?_ ?_ ?_ <;> omega) | (refine i_new ?_ ?_ <;> omega)) only [n_X10_findTerm, q_X10_findTerm_0, q_X10_findTerm_1, q_X10_findTerm_3, q_X10_findTerm_4, q_X10_findTerm_7, q_X10_findTerm_8, q_X10_findTerm_11, q_X10_findTerm_12, q_X10_findTerm_13, q_X10_findTerm_14, q_X10_findTerm_16, q_X10_findTerm_17, q_X10_findTerm_18, q_X10_findTerm_20, q_X10_findTerm_21, q_X10_findTerm_24, q_X10_findTerm_27, q_X10_findTerm_28, q_X10_findTerm_31, q_X10_findTerm_32, q_X10_findTerm_35, q_X10_findTerm_36, q_X10_findTerm_37, q_X10_findTerm_38, i_add, i_sub, i_mul, i_neg, i_lt, i_le, i_eq, i_tm, i_div, i_j, j_i, j_add, j_sub, j_mul, j_neg, j_lt, j_le, j_eq, j_div, c_lt, c_le, c_gt, c_ge, c_eq, i_nat, rz_k, Nat.add_zero, Nat.zero_add, Nat.add_assoc, Nat.reduceAdd, if_true, if_false, z_ctm]
    rw [if_neg (by omega), if_neg (by omega)]
    exact ih q (p % q) (r + 1) g _ (by omega) (by omega) h4 (by omega)
theorem x_ft {p q ix : Nat} (h1 : p ≤ 200) (h2 : q ≤ 200) (h3 : ix < zf_terms p q) : rz_ex X (d + 1) 165 [.int (Int32.ofInt p), .int (Int32.ofInt q), .int (Int32.ofInt ix)] w = some (.inl (some (.int (Int32.ofInt (zf_term ix p q : Nat)))), w, 0, 0) := by
  have := zf_terms_le (p := p) (q := q)
  simp (disch := first | exact nl_i | exact nl_r | exact nl_0 | exact nl_n | exact nl_x | exact kd_r | exact kd_n | exact kd_x | exact kd_o | exact cats0 | exact cats1 | exact cats2 | exact cats3 | exact cats4 | exact nr_i | exact nr_l | exact nr_z0 | exact nr_z1 | exact ft_i | exact ft_l | omega | rfl | assumption | (refine i_ne0 ?_ ?_ ?_ <;> omega) | (refine j_ne0 ?_ ?_ ?_ <;> omega) | (refine i_new ?_ ?_ <;> omega)) only [n_X10_findTerm, q_X10_findTerm_0, q_X10_findTerm_1, q_X10_findTerm_3, q_X10_findTerm_4, q_X10_findTerm_7, q_X10_findTerm_8, q_X10_findTerm_11, q_X10_findTerm_12, q_X10_findTerm_13, q_X10_findTerm_14, q_X10_findTerm_16, q_X10_findTerm_17, q_X10_findTerm_18, q_X10_findTerm_20, q_X10_findTerm_21, q_X10_findTerm_24, q_X10_findTerm_27, q_X10_findTerm_28, q_X10_findTerm_31, q_X10_findTerm_32, q_X10_findTerm_35, q_X10_findTerm_36, q_X10_findTerm_37, q_X10_findTerm_38, i_add, i_sub, i_mul, i_neg, i_lt, i_le, i_eq, i_tm, i_div, i_j, j_i, j_add, j_sub, j_mul, j_neg, j_lt, j_le, j_eq, j_div, c_lt, c_le, c_gt, c_ge, c_eq, i_nat, rz_k, Nat.add_zero, Nat.zero_add, Nat.add_assoc, Nat.reduceAdd, if_true, if_false]
  exact l_ft (X := X) (d := d) (w := w) (nc := 0) (ns := 0) (by omega) ix p q 0 18 none (by omega) h3 (by omega) (by omega)
theorem z_is2 : mz_X10_termAt.2.2.2.2.2.2.2.1 = [] := rfl
theorem x_termAt {h : Nat} {p q ix : Int} (h1 : -2147483648 ≤ p) (h2 : p ≤ 2147483647) (h3 : -2147483648 ≤ q) (h4 : q ≤ 2147483647) (h5 : -2147483648 ≤ ix) (h6 : ix ≤ 2147483647) : rz_ex X (d + 3) 146 [.ref h, .int (Int32.ofInt p), .int (Int32.ofInt q), .int (Int32.ofInt ix)] w = if (1 ≤ p ∧ p ≤ 200) ∧ (1 ≤ q ∧ q ≤ 200) then (if 0 ≤ ix ∧ ix < (zf_terms p.toNat q.toNat : Nat) then some (.inl (some (.int (Int32.ofInt (zf_term ix.toNat p.toNat q.toNat : Nat)))), w, 0, 0) else some (.inr "java/util/NoSuchElementException", w, 1, 6)) else some (.inr "java/lang/IllegalArgumentException", w, 1, 6) := by
  simp (disch := first | exact nl_i | exact nl_r | exact nl_0 | exact nl_n | exact nl_x | exact kd_r | exact kd_n | exact kd_x | exact kd_o | exact cats0 | exact cats1 | exact cats2 | exact cats3 | exact cats4 | exact nr_i | exact nr_l | exact nr_z0 | exact nr_z1 | exact ft_i | exact ft_l | omega | rfl | assumption | (refine i_ne0 ?_ ?_ ?_ <;> omega) | (refine j_ne0 ?_ ?_ ?_ <;> omega) | (refine i_new ?_ ?_ <;> omega)) only [n_X10_termAt, q_X10_termAt_0, q_X10_termAt_1, q_X10_termAt_2, q_X10_termAt_5, q_X10_termAt_6, q_X10_termAt_9, q_X10_termAt_10, q_X10_termAt_11, q_X10_termAt_12, q_X10_termAt_15, q_X10_termAt_18, q_X10_termAt_29, q_X10_termAt_30, q_X10_termAt_31, q_X10_termAt_32, q_X10_termAt_35, i_add, i_sub, i_mul, i_neg, i_lt, i_le, i_eq, i_tm, i_div, i_j, j_i, j_add, j_sub, j_mul, j_neg, j_lt, j_le, j_eq, j_div, c_lt, c_le, c_gt, c_ge, c_eq, i_nat, rz_k, Nat.add_zero, Nat.zero_add, Nat.add_assoc, Nat.reduceAdd, if_true, if_false, x_frac]
  by_cases hc : (1 ≤ p ∧ p ≤ 200) ∧ (1 ≤ q ∧ q ≤ 200)
  · obtain ⟨a, rfl⟩ := Int.eq_ofNat_of_zero_le (show 0 ≤ p by omega)
    obtain ⟨b, rfl⟩ := Int.eq_ofNat_of_zero_le (show 0 ≤ q by omega)
    have hT := zf_terms_le (p := a) (q := b)
    rw [if_pos hc, if_pos hc]
    simp (disch := first | exact nl_i | exact nl_r | exact nl_0 | exact nl_n | exact nl_x | exact kd_r | exact kd_n | exact kd_x | exact kd_o | exact cats0 | exact cats1 | exact cats2 | exact cats3 | exact cats4 | exact nr_i | exact nr_l | exact nr_z0 | exact nr_z1 | exact ft_i | exact ft_l | omega | rfl | assumption | (refine i_ne0 ?_ ?_ ?_ <;> omega) | (refine j_ne0 ?_ ?_ ?_ <;> omega) | (refine i_new ?_ ?_ <;> omega)) only [n_X10_termAt, q_X10_termAt_0, q_X10_termAt_1, q_X10_termAt_2, q_X10_termAt_5, q_X10_termAt_6, q_X10_termAt_9, q_X10_termAt_10, q_X10_termAt_11, q_X10_termAt_12, q_X10_termAt_15, q_X10_termAt_18, q_X10_termAt_29, q_X10_termAt_30, q_X10_termAt_31, q_X10_termAt_32, q_X10_termAt_35, i_add, i_sub, i_mul, i_neg, i_lt, i_le, i_eq, i_tm, i_div, i_j, j_i, j_add, j_sub, j_mul, j_neg, j_lt, j_le, j_eq, j_div, c_lt, c_le, c_gt, c_ge, c_eq, i_nat, rz_k, Nat.add_zero, Nat.zero_add, Nat.add_assoc, Nat.reduceAdd, if_true, if_false, x_cnt, Int.toNat_natCast]
    by_cases h0 : 0 ≤ ix
    · obtain ⟨c, rfl⟩ := Int.eq_ofNat_of_zero_le h0
      rw [if_neg (by omega)]
      by_cases hlt : c < zf_terms a b
      · rw [if_pos (by omega), if_pos (by omega)]
        simp (disch := first | exact nl_i | exact nl_r | exact nl_0 | exact nl_n | exact nl_x | exact kd_r | exact kd_n | exact kd_x | exact kd_o | exact cats0 | exact cats1 | exact cats2 | exact cats3 | exact cats4 | exact nr_i | exact nr_l | exact nr_z0 | exact nr_z1 | exact ft_i | exact ft_l | omega | rfl | assumption | (refine i_ne0 ?_ ?_ ?_ <;> omega) | (refine j_ne0 ?_ ?_ ?_ <;> omega) | (refine i_new ?_ ?_ <;> omega)) only [n_X10_termAt, q_X10_termAt_0, q_X10_termAt_1, q_X10_termAt_2, q_X10_termAt_5, q_X10_termAt_6, q_X10_termAt_9, q_X10_termAt_10, q_X10_termAt_11, q_X10_termAt_12, q_X10_termAt_15, q_X10_termAt_18, q_X10_termAt_29, q_X10_termAt_30, q_X10_termAt_31, q_X10_termAt_32, q_X10_termAt_35, i_add, i_sub, i_mul, i_neg, i_lt, i_le, i_eq, i_tm, i_div, i_j, j_i, j_add, j_sub, j_mul, j_neg, j_lt, j_le, j_eq, j_div, c_lt, c_le, c_gt, c_ge, c_eq, i_nat, rz_k, Nat.add_zero, Nat.zero_add, Nat.add_assoc, Nat.reduceAdd, if_true, if_false, x_ft, Int.toNat_natCast]
      · rw [if_neg (by omega), if_neg (by omega)]
    · rw [if_pos (by omega), if_neg (by omega)]
  · rw [if_neg hc, if_neg hc]
    rfl
end RZTA
