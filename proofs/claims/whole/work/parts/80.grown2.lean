/-! part 80: level 2: grown -/
section RZGR
variable {X : rz_X} {d : Nat} {w : rz_W} {nc ns : Nat} {kp tl kd ty cl th : Int}
theorem len_b {N L B : Nat} (h : zf_len N L) (hB : N < 10 ^ B) (h1 : 1 ≤ B) : L ≤ B := by
  rcases h.2.2 with h9 | h9
  · omega
  · rcases Nat.lt_or_ge B L with h8 | h8
    · have : 10 ^ B ≤ 10 ^ (L - 1) := Nat.pow_le_pow_right (by omega) (by omega)
      omega
    · exact h8
theorem x_bpo1 {one other N L : Nat} {tl' : Int} (hN : N = one * other + 1) (h1 : one ≤ 100000000000000) (h2 : other ≤ 1000000000) (hs : N < 1000000000) (hL : zf_len N L) (ht : v_text w tl') : ∃ w', rz_ex X (d + 4) 100 [.ref 12, .long (Int64.ofInt one), .long (Int64.ofInt other)] w = some (.inl (some (.int (Int32.ofInt (zds L N).length))), w', 0, 0) ∧ rz_fr [12, 13] w w' ∧ v_ct w' (zds L N) := by
  have hct := v_text_ct ht rfl
  obtain ⟨sg, sg2, g12, g13, g42, htl, hsg⟩ := id ht
  generalize hw1 : w.set 12 (.inr (9, [.int (Int32.ofInt 0), .ref 13])) = w1 at hct
  have f1 : rz_fr [12] w w1 := by rw [← hw1]; exact fr_set (by decide)
  have hL9 := len_b hL (B := 9) (by omega) (by omega)
  have t1 : (one : Int).tdiv 1000000000 = ((one / 1000000000 : Nat) : Int) := z_tdn one 1000000000
  have t2 : (one : Int) - ((one / 1000000000 : Nat) : Int) * 1000000000 = ((one % 1000000000 : Nat) : Int) := z_dm2 (n := one) (a := 1000000000)
  have hdm := Nat.div_add_mod one 1000000000
  have hsplit : one * other = 1000000000 * ((one / 1000000000) * other) + one % 1000000000 * other := by
    rw [← Nat.mul_assoc, ← Nat.add_mul, hdm]
  have hq0 : (one / 1000000000) * other = 0 := by omega
  have hlow : one % 1000000000 * other + 1 = N := by omega
  have c1 : ((one % 1000000000 : Nat) : Int) * (other : Int) + 1 = (N : Int) := by rw [← hlow, Int.natCast_add, Int.natCast_mul]; rfl
  have c2 : ((one / 1000000000 : Nat) : Int) * (other : Int) = 0 := by rw [← Int.natCast_mul, hq0]; rfl
  have t3 : (N : Int).tdiv 1000000000 = 0 := by
    have := z_tdn N 1000000000
    rw [Nat.div_eq_of_lt hs] at this
    exact this
  obtain ⟨w', e, f, r⟩ := x_putNumber (X := X) (d := d) (z := (N : Int)) (n := N) (L := L) (by omega) (by omega) hL (by simp; omega) hct
  rw [List.nil_append, if_neg (by omega), List.nil_append] at r
  refine ⟨w', ?_, fr_trans (fr_sub f1 (by decide)) f, r⟩
  obtain ⟨f0, h12, -, -⟩ := hct
  obtain ⟨f3, h12', -, -⟩ := r
  generalize one / 1000000000 = q at *
  generalize one % 1000000000 = rr at *
  simp (disch := first | exact nl_i | exact nl_r | exact nl_0 | exact nl_n | exact nl_x | exact kd_r | exact kd_n | exact kd_x | exact kd_o | exact cats0 | exact cats1 | exact cats2 | exact cats3 | exact cats4 | exact nr_i | exact nr_l | exact nr_z0 | exact nr_z1 | exact ft_i | exact ft_l | omega | rfl | assumption | (refine i_ne0 ?_ ?_ ?_ <;> omega) | (refine j_ne0 ?_ ?_ ?_ <;> omega) | (refine i_new ?_ ?_ <;> omega) | (refine bl_t ?_; with_unfolding_all rfl) | exact ft_z0 | exact ft_z1) only [n_X9_becomeProductAndOne, q_X9_becomeProductAndOne_0, q_X9_becomeProductAndOne_1, q_X9_becomeProductAndOne_4, q_X9_becomeProductAndOne_5, q_X9_becomeProductAndOne_6, q_X9_becomeProductAndOne_7, q_X9_becomeProductAndOne_8, q_X9_becomeProductAndOne_9, q_X9_becomeProductAndOne_11, q_X9_becomeProductAndOne_12, q_X9_becomeProductAndOne_15, q_X9_becomeProductAndOne_16, q_X9_becomeProductAndOne_17, q_X9_becomeProductAndOne_18, q_X9_becomeProductAndOne_20, q_X9_becomeProductAndOne_23, q_X9_becomeProductAndOne_24, q_X9_becomeProductAndOne_25, q_X9_becomeProductAndOne_27, q_X9_becomeProductAndOne_28, q_X9_becomeProductAndOne_29, q_X9_becomeProductAndOne_32, q_X9_becomeProductAndOne_34, q_X9_becomeProductAndOne_35, q_X9_becomeProductAndOne_36, q_X9_becomeProductAndOne_39, q_X9_becomeProductAndOne_40, q_X9_becomeProductAndOne_42, q_X9_becomeProductAndOne_45, q_X9_becomeProductAndOne_46, q_X9_becomeProductAndOne_48, q_X9_becomeProductAndOne_51, q_X9_becomeProductAndOne_52, q_X9_becomeProductAndOne_55, q_X9_becomeProductAndOne_58, q_X9_becomeProductAndOne_61, q_X9_becomeProductAndOne_62, q_X9_becomeProductAndOne_64, q_X9_becomeProductAndOne_67, q_X9_becomeProductAndOne_68, q_X9_becomeProductAndOne_71, i_add, i_sub, i_mul, i_neg, i_lt, i_le, i_eq, i_tm, i_div, i_j, j_i, j_add, j_sub, j_mul, j_neg, j_lt, j_le, j_eq, j_div, c_lt, c_le, c_gt, c_ge, c_eq, i_nat, rz_k, Nat.add_zero, Nat.zero_add, Nat.add_assoc, Nat.reduceAdd, if_true, if_false, t1, t2, c1, c2, t3, pf_eq g12, List.set_cons_zero, List.set_cons_succ, hw1, vk_eq h12, e, gf_eq h12', List.getElem?_cons_zero, List.getElem?_cons_succ, Int.add_zero, Int.lt_irrefl, Int.le_refl, if_true]
theorem x_bpo2 {one other N L : Nat} {tl' : Int} (hN : N = one * other + 1) (h1 : one ≤ 100000000000000) (h2 : other ≤ 1000000000) (hs : 1000000000 ≤ N) (hL : zf_len (N / 1000000000) L) (ht : v_text w tl') : ∃ w', rz_ex X (d + 4) 100 [.ref 12, .long (Int64.ofInt one), .long (Int64.ofInt other)] w = some (.inl (some (.int (Int32.ofInt (zds L (N / 1000000000) ++ zds 9 (N % 1000000000)).length))), w', 0, 0) ∧ rz_fr [12, 13] w w' ∧ v_ct w' (zds L (N / 1000000000) ++ zds 9 (N % 1000000000)) := by
  have hct := v_text_ct ht rfl
  obtain ⟨sg, sg2, g12, g13, g42, htl, hsg⟩ := id ht
  generalize hw1 : w.set 12 (.inr (9, [.int (Int32.ofInt 0), .ref 13])) = w1 at hct
  have f1 : rz_fr [12] w w1 := by rw [← hw1]; exact fr_set (by decide)
  have t1 : (one : Int).tdiv 1000000000 = ((one / 1000000000 : Nat) : Int) := z_tdn one 1000000000
  have t2 : (one : Int) - ((one / 1000000000 : Nat) : Int) * 1000000000 = ((one % 1000000000 : Nat) : Int) := z_dm2 (n := one) (a := 1000000000)
  have hdm := Nat.div_add_mod one 1000000000
  have hsplit : one * other = 1000000000 * ((one / 1000000000) * other) + one % 1000000000 * other := by
    rw [← Nat.mul_assoc, ← Nat.add_mul, hdm]
  have hrlt : one % 1000000000 < 1000000000 := Nat.mod_lt _ (by omega)
  have hro := Nat.mul_le_mul (show one % 1000000000 ≤ 1000000000 by omega) h2
  have hqo := Nat.mul_le_mul (show one / 1000000000 ≤ 100000 by omega) h2
  generalize hlw : one % 1000000000 * other + 1 = low at *
  have c1 : ((one % 1000000000 : Nat) : Int) * (other : Int) + 1 = (low : Int) := by rw [← hlw, Int.natCast_add, Int.natCast_mul]; rfl
  have t3 : (low : Int).tdiv 1000000000 = ((low / 1000000000 : Nat) : Int) := z_tdn low 1000000000
  have t4 : (low : Int) - ((low / 1000000000 : Nat) : Int) * 1000000000 = ((low % 1000000000 : Nat) : Int) := z_dm2 (n := low) (a := 1000000000)
  generalize hqq : one / 1000000000 * other = qo at *
  have c2 : ((one / 1000000000 : Nat) : Int) * (other : Int) = (qo : Int) := by rw [← hqq, Int.natCast_mul]
  have hNl : N = 1000000000 * qo + low := by omega
  have hhi : N / 1000000000 = qo + low / 1000000000 := by omega
  have hlo : N % 1000000000 = low % 1000000000 := by omega
  have c3 : (qo : Int) + ((low / 1000000000 : Nat) : Int) = ((N / 1000000000 : Nat) : Int) := by omega
  rw [← hlo] at t4
  have hbig : N / 1000000000 < 10 ^ 18 := by omega
  have hL18 := len_b hL (B := 18) hbig (by omega)
  have hhpos : 1 ≤ N / 1000000000 := by omega
  have hNm : N % 1000000000 < 10 ^ 18 := by omega
  obtain ⟨w2, e, f, r⟩ := x_putNumber (X := X) (d := d) (z := ((N / 1000000000 : Nat) : Int)) (n := N / 1000000000) (L := L) (by omega) hbig hL (by simp; omega) hct
  rw [List.nil_append, if_neg (by omega), List.nil_append] at r
  obtain ⟨w', e3, f3', r3⟩ := x_putDigits (X := X) (d := d + 1) (k := 9) hNm (by omega) (by rw [zds_len]; omega) r
  have e3' : rz_ex X (d + 3) 102 [.ref 12, .long (Int64.ofInt ((N % 1000000000 : Nat) : Int)), .long (Int64.ofInt 100000000)] w2 = some (.inl none, w', 0, 0) := e3
  refine ⟨w', ?_, fr_trans (fr_sub f1 (by decide)) (fr_trans f f3'), r3⟩
  obtain ⟨f0, h12, -, -⟩ := hct
  obtain ⟨f4, h12', -, -⟩ := r
  obtain ⟨f5, h12'', -, -⟩ := r3
  generalize one / 1000000000 = q at *
  generalize one % 1000000000 = rr at *
  generalize hNh : N / 1000000000 = nh at *
  generalize hNL : N % 1000000000 = nl at *
  generalize low / 1000000000 = lh at *
  simp (disch := first | exact nl_i | exact nl_r | exact nl_0 | exact nl_n | exact nl_x | exact kd_r | exact kd_n | exact kd_x | exact kd_o | exact cats0 | exact cats1 | exact cats2 | exact cats3 | exact cats4 | exact nr_i | exact nr_l | exact nr_z0 | exact nr_z1 | exact ft_i | exact ft_l | omega | rfl | assumption | (refine i_ne0 ?_ ?_ ?_ <;> omega) | (refine j_ne0 ?_ ?_ ?_ <;> omega) | (refine i_new ?_ ?_ <;> omega) | (refine bl_t ?_; with_unfolding_all rfl) | exact ft_z0 | exact ft_z1) only [n_X9_becomeProductAndOne, q_X9_becomeProductAndOne_0, q_X9_becomeProductAndOne_1, q_X9_becomeProductAndOne_4, q_X9_becomeProductAndOne_5, q_X9_becomeProductAndOne_6, q_X9_becomeProductAndOne_7, q_X9_becomeProductAndOne_8, q_X9_becomeProductAndOne_9, q_X9_becomeProductAndOne_11, q_X9_becomeProductAndOne_12, q_X9_becomeProductAndOne_15, q_X9_becomeProductAndOne_16, q_X9_becomeProductAndOne_17, q_X9_becomeProductAndOne_18, q_X9_becomeProductAndOne_20, q_X9_becomeProductAndOne_23, q_X9_becomeProductAndOne_24, q_X9_becomeProductAndOne_25, q_X9_becomeProductAndOne_27, q_X9_becomeProductAndOne_28, q_X9_becomeProductAndOne_29, q_X9_becomeProductAndOne_32, q_X9_becomeProductAndOne_34, q_X9_becomeProductAndOne_35, q_X9_becomeProductAndOne_36, q_X9_becomeProductAndOne_39, q_X9_becomeProductAndOne_40, q_X9_becomeProductAndOne_42, q_X9_becomeProductAndOne_45, q_X9_becomeProductAndOne_46, q_X9_becomeProductAndOne_48, q_X9_becomeProductAndOne_51, q_X9_becomeProductAndOne_52, q_X9_becomeProductAndOne_55, q_X9_becomeProductAndOne_58, q_X9_becomeProductAndOne_61, q_X9_becomeProductAndOne_62, q_X9_becomeProductAndOne_64, q_X9_becomeProductAndOne_67, q_X9_becomeProductAndOne_68, q_X9_becomeProductAndOne_71, i_add, i_sub, i_mul, i_neg, i_lt, i_le, i_eq, i_tm, i_div, i_j, j_i, j_add, j_sub, j_mul, j_neg, j_lt, j_le, j_eq, j_div, c_lt, c_le, c_gt, c_ge, c_eq, i_nat, rz_k, Nat.add_zero, Nat.zero_add, Nat.add_assoc, Nat.reduceAdd, if_true, if_false, t1, t2, c1, c2, t3, c3, t4, pf_eq g12, List.set_cons_zero, List.set_cons_succ, hw1, vk_eq h12, e, vk_eq h12', e3', gf_eq h12'', List.getElem?_cons_zero, List.getElem?_cons_succ]
  rw [if_neg (by omega)]
end RZGR
