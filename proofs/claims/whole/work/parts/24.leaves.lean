/-! part 24: level 2: Math's methods, gcd, checks -/
section RZLV
variable {X : rz_X} {d : Nat} {w : rz_W}
theorem nl_i {x : Int32} : rz_nl (some (.int x)) = true := rfl
theorem nl_r {x : Nat} : rz_nl (some (.ref x)) = true := rfl
theorem nl_x {x : Nat} : rz_nl (some (.retAddr x)) = true := rfl
theorem nl_n : rz_nl (some .null) = true := rfl
theorem nl_0 : rz_nl none = true := rfl
theorem kd_r {x : Nat} : rz_kd (.ref x) = 2 := rfl
theorem kd_x {x : Nat} : rz_kd (.retAddr x) = 2 := rfl
theorem kd_n : rz_kd .null = 2 := rfl
theorem kd_o {x : Option Nat} : rz_kd (va_rf x) = 2 := by cases x <;> rfl
theorem cat_le (v : Value) : v.category ≤ 2 := by cases v <;> simp [Value.category]
theorem cats0 : Nat.ble (rz_cats []) 8 = true := rfl
theorem cats4 {a b c e : Value} : Nat.ble (rz_cats [a, b, c, e]) 8 = true := by
  apply Nat.ble_eq_true_of_le
  have h1 := cat_le a
  have h2 := cat_le b
  have h3 := cat_le c
  have h4 := cat_le e
  simp only [rz_cats, List.map_cons, List.map_nil, List.sum_cons, List.sum_nil]
  omega
theorem cats3 {a b c : Value} : Nat.ble (rz_cats [a, b, c]) 8 = true := by
  apply Nat.ble_eq_true_of_le
  have h1 := cat_le a
  have h2 := cat_le b
  have h3 := cat_le c
  simp only [rz_cats, List.map_cons, List.map_nil, List.sum_cons, List.sum_nil]
  omega
theorem cats2 {a b : Value} : Nat.ble (rz_cats [a, b]) 8 = true := by
  apply Nat.ble_eq_true_of_le
  have h1 := cat_le a
  have h2 := cat_le b
  simp only [rz_cats, List.map_cons, List.map_nil, List.sum_cons, List.sum_nil]
  omega
theorem cats1 {a : Value} : Nat.ble (rz_cats [a]) 8 = true := by
  apply Nat.ble_eq_true_of_le
  have h1 := cat_le a
  simp only [rz_cats, List.map_cons, List.map_nil, List.sum_cons, List.sum_nil]
  omega
theorem nr_i {x : Int32} : narrow .int (.int x) = .int x := rfl
theorem nr_l {x : Int64} : narrow .long (.long x) = .long x := rfl
theorem nr_z0 : narrow .boolean (.int (Int32.ofInt 0)) = .int (Int32.ofInt 0) := by rfl
theorem nr_z1 : narrow .boolean (.int (Int32.ofInt 1)) = .int (Int32.ofInt 1) := by rfl
theorem ft_i {x : Int32} : fits .int (.int x) = true := rfl
theorem ft_l {x : Int64} : fits .long (.long x) = true := rfl
theorem i_ne0 {a : Int} (h : a ≠ 0) (h1 : -2147483648 ≤ a) (h2 : a ≤ 2147483647) : ¬ Int32.ofInt a = 0 := by rw [i_eq0 h1 h2]; exact h
theorem j_ne0 {a : Int} (h : a ≠ 0) (h1 : -9223372036854775808 ≤ a) (h2 : a ≤ 9223372036854775807) : ¬ Int64.ofInt a = 0 := by rw [j_eq0 h1 h2]; exact h
theorem x_abs {a : Int} (h1 : -2147483647 ≤ a) (h2 : a ≤ 2147483647) : rz_ex X (d + 1) 270 [.int (Int32.ofInt a)] w = some (.inl (some (.int (Int32.ofInt a.natAbs))), w, 0, 0) := by
  simp (disch := first | exact nl_i | exact nl_r | exact nl_0 | exact nl_n | exact nl_x | exact kd_r | exact kd_n | exact kd_x | exact kd_o | exact cats0 | exact cats1 | exact cats2 | exact cats3 | exact cats4 | exact nr_i | exact nr_l | exact nr_z0 | exact nr_z1 | exact ft_i | exact ft_l | omega | rfl | assumption | (refine i_ne0 ?_ ?_ ?_ <;> omega) | (refine j_ne0 ?_ ?_ ?_ <;> omega) | (refine i_new ?_ ?_ <;> omega)) only [n_J9_abs_0f7a4, q_J9_abs_0f7a4_0, q_J9_abs_0f7a4_1, q_J9_abs_0f7a4_4, q_J9_abs_0f7a4_5, q_J9_abs_0f7a4_6, q_J9_abs_0f7a4_9, q_J9_abs_0f7a4_10, i_add, i_sub, i_mul, i_neg, i_lt, i_le, i_eq, i_tm, i_div, i_j, j_i, j_add, j_sub, j_mul, j_neg, j_lt, j_le, j_eq, j_div, c_lt, c_le, c_gt, c_ge, c_eq, i_nat, rz_k, Nat.add_zero, Nat.zero_add, Nat.add_assoc, Nat.reduceAdd, if_true, if_false]
  split
  · rw [show ((a.natAbs : Nat) : Int) = a by omega]
  · rw [show ((a.natAbs : Nat) : Int) = -a by omega]
theorem x_absJ {a : Int} (h1 : -9223372036854775807 ≤ a) (h2 : a ≤ 9223372036854775807) : rz_ex X (d + 1) 271 [.long (Int64.ofInt a)] w = some (.inl (some (.long (Int64.ofInt a.natAbs))), w, 0, 0) := by
  simp (disch := first | exact nl_i | exact nl_r | exact nl_0 | exact nl_n | exact nl_x | exact kd_r | exact kd_n | exact kd_x | exact kd_o | exact cats0 | exact cats1 | exact cats2 | exact cats3 | exact cats4 | exact nr_i | exact nr_l | exact nr_z0 | exact nr_z1 | exact ft_i | exact ft_l | omega | rfl | assumption | (refine i_ne0 ?_ ?_ ?_ <;> omega) | (refine j_ne0 ?_ ?_ ?_ <;> omega) | (refine i_new ?_ ?_ <;> omega)) only [n_J9_abs_067f4, q_J9_abs_067f4_0, q_J9_abs_067f4_1, q_J9_abs_067f4_2, q_J9_abs_067f4_3, q_J9_abs_067f4_6, q_J9_abs_067f4_7, q_J9_abs_067f4_8, q_J9_abs_067f4_11, q_J9_abs_067f4_12, i_add, i_sub, i_mul, i_neg, i_lt, i_le, i_eq, i_tm, i_div, i_j, j_i, j_add, j_sub, j_mul, j_neg, j_lt, j_le, j_eq, j_div, c_lt, c_le, c_gt, c_ge, c_eq, i_nat, rz_k, Nat.add_zero, Nat.zero_add, Nat.add_assoc, Nat.reduceAdd, if_true, if_false]
  split
  · rw [show ((a.natAbs : Nat) : Int) = a by omega]
  · rw [show ((a.natAbs : Nat) : Int) = -a by omega]
theorem x_max {a b : Int} (h1 : -2147483648 ≤ a) (h2 : a ≤ 2147483647) (h3 : -2147483648 ≤ b) (h4 : b ≤ 2147483647) : rz_ex X (d + 1) 272 [.int (Int32.ofInt a), .int (Int32.ofInt b)] w = some (.inl (some (.int (Int32.ofInt (max a b)))), w, 0, 0) := by
  simp (disch := first | exact nl_i | exact nl_r | exact nl_0 | exact nl_n | exact nl_x | exact kd_r | exact kd_n | exact kd_x | exact kd_o | exact cats0 | exact cats1 | exact cats2 | exact cats3 | exact cats4 | exact nr_i | exact nr_l | exact nr_z0 | exact nr_z1 | exact ft_i | exact ft_l | omega | rfl | assumption | (refine i_ne0 ?_ ?_ ?_ <;> omega) | (refine j_ne0 ?_ ?_ ?_ <;> omega) | (refine i_new ?_ ?_ <;> omega)) only [n_J9_max_7cf53, q_J9_max_7cf53_0, q_J9_max_7cf53_1, q_J9_max_7cf53_2, q_J9_max_7cf53_5, q_J9_max_7cf53_6, q_J9_max_7cf53_9, q_J9_max_7cf53_10, i_add, i_sub, i_mul, i_neg, i_lt, i_le, i_eq, i_tm, i_div, i_j, j_i, j_add, j_sub, j_mul, j_neg, j_lt, j_le, j_eq, j_div, c_lt, c_le, c_gt, c_ge, c_eq, i_nat, rz_k, Nat.add_zero, Nat.zero_add, Nat.add_assoc, Nat.reduceAdd, if_true, if_false]
  split
  · rw [show max a b = b by omega]
  · rw [show max a b = a by omega]
theorem x_min {a b : Int} (h1 : -2147483648 ≤ a) (h2 : a ≤ 2147483647) (h3 : -2147483648 ≤ b) (h4 : b ≤ 2147483647) : rz_ex X (d + 1) 274 [.int (Int32.ofInt a), .int (Int32.ofInt b)] w = some (.inl (some (.int (Int32.ofInt (min a b)))), w, 0, 0) := by
  simp (disch := first | exact nl_i | exact nl_r | exact nl_0 | exact nl_n | exact nl_x | exact kd_r | exact kd_n | exact kd_x | exact kd_o | exact cats0 | exact cats1 | exact cats2 | exact cats3 | exact cats4 | exact nr_i | exact nr_l | exact nr_z0 | exact nr_z1 | exact ft_i | exact ft_l | omega | rfl | assumption | (refine i_ne0 ?_ ?_ ?_ <;> omega) | (refine j_ne0 ?_ ?_ ?_ <;> omega) | (refine i_new ?_ ?_ <;> omega)) only [n_J9_min_7cf53, q_J9_min_7cf53_0, q_J9_min_7cf53_1, q_J9_min_7cf53_2, q_J9_min_7cf53_5, q_J9_min_7cf53_6, q_J9_min_7cf53_9, q_J9_min_7cf53_10, i_add, i_sub, i_mul, i_neg, i_lt, i_le, i_eq, i_tm, i_div, i_j, j_i, j_add, j_sub, j_mul, j_neg, j_lt, j_le, j_eq, j_div, c_lt, c_le, c_gt, c_ge, c_eq, i_nat, rz_k, Nat.add_zero, Nat.zero_add, Nat.add_assoc, Nat.reduceAdd, if_true, if_false]
  split
  · rw [show min a b = b by omega]
  · rw [show min a b = a by omega]
theorem x_maxJ {a b : Int} (h1 : -9223372036854775808 ≤ a) (h2 : a ≤ 9223372036854775807) (h3 : -9223372036854775808 ≤ b) (h4 : b ≤ 9223372036854775807) : rz_ex X (d + 1) 273 [.long (Int64.ofInt a), .long (Int64.ofInt b)] w = some (.inl (some (.long (Int64.ofInt (max a b)))), w, 0, 0) := by
  simp (disch := first | exact nl_i | exact nl_r | exact nl_0 | exact nl_n | exact nl_x | exact kd_r | exact kd_n | exact kd_x | exact kd_o | exact cats0 | exact cats1 | exact cats2 | exact cats3 | exact cats4 | exact nr_i | exact nr_l | exact nr_z0 | exact nr_z1 | exact ft_i | exact ft_l | omega | rfl | assumption | (refine i_ne0 ?_ ?_ ?_ <;> omega) | (refine j_ne0 ?_ ?_ ?_ <;> omega) | (refine i_new ?_ ?_ <;> omega)) only [n_J9_max_f86c9, q_J9_max_f86c9_0, q_J9_max_f86c9_1, q_J9_max_f86c9_2, q_J9_max_f86c9_3, q_J9_max_f86c9_6, q_J9_max_f86c9_7, q_J9_max_f86c9_10, q_J9_max_f86c9_11, i_add, i_sub, i_mul, i_neg, i_lt, i_le, i_eq, i_tm, i_div, i_j, j_i, j_add, j_sub, j_mul, j_neg, j_lt, j_le, j_eq, j_div, c_lt, c_le, c_gt, c_ge, c_eq, i_nat, rz_k, Nat.add_zero, Nat.zero_add, Nat.add_assoc, Nat.reduceAdd, if_true, if_false]
  split
  · rw [show max a b = b by omega]
  · rw [show max a b = a by omega]
theorem x_minJ {a b : Int} (h1 : -9223372036854775808 ≤ a) (h2 : a ≤ 9223372036854775807) (h3 : -9223372036854775808 ≤ b) (h4 : b ≤ 9223372036854775807) : rz_ex X (d + 1) 275 [.long (Int64.ofInt a), .long (Int64.ofInt b)] w = some (.inl (some (.long (Int64.ofInt (min a b)))), w, 0, 0) := by
  simp (disch := first | exact nl_i | exact nl_r | exact nl_0 | exact nl_n | exact nl_x | exact kd_r | exact kd_n | exact kd_x | exact kd_o | exact cats0 | exact cats1 | exact cats2 | exact cats3 | exact cats4 | exact nr_i | exact nr_l | exact nr_z0 | exact nr_z1 | exact ft_i | exact ft_l | omega | rfl | assumption | (refine i_ne0 ?_ ?_ ?_ <;> omega) | (refine j_ne0 ?_ ?_ ?_ <;> omega) | (refine i_new ?_ ?_ <;> omega)) only [n_J9_min_f86c9, q_J9_min_f86c9_0, q_J9_min_f86c9_1, q_J9_min_f86c9_2, q_J9_min_f86c9_3, q_J9_min_f86c9_6, q_J9_min_f86c9_7, q_J9_min_f86c9_10, q_J9_min_f86c9_11, i_add, i_sub, i_mul, i_neg, i_lt, i_le, i_eq, i_tm, i_div, i_j, j_i, j_add, j_sub, j_mul, j_neg, j_lt, j_le, j_eq, j_div, c_lt, c_le, c_gt, c_ge, c_eq, i_nat, rz_k, Nat.add_zero, Nat.zero_add, Nat.add_assoc, Nat.reduceAdd, if_true, if_false]
  split
  · rw [show min a b = b by omega]
  · rw [show min a b = a by omega]
theorem i_xor {a b : Int} (h1 : -2147483648 ≤ a) (h2 : a ≤ 2147483647) (h3 : 0 ≤ b) (h4 : b ≤ 2147483647) : (Int32.ofInt 0 ≤ (Int32.ofInt a ^^^ Int32.ofInt b)) = (0 ≤ a) := by
  have e : ∀ x : Int32, (Int32.ofInt 0 ≤ x) ↔ x.toBitVec.msb = false := by
    intro x
    rw [Int32.le_iff_toInt_le, BitVec.msb_eq_toInt, i_to (by omega) (by omega)]
    show 0 ≤ x.toBitVec.toInt ↔ _
    simp
  have ea := e (Int32.ofInt a)
  have eb := e (Int32.ofInt b)
  rw [i_le (by omega) (by omega) h1 h2] at ea
  rw [i_le (by omega) (by omega) (by omega) h4] at eb
  have hb := eb.mp h3
  apply propext
  rw [e, ea, Int32.toBitVec_xor, BitVec.msb_xor, hb]
  simp
theorem j_xor {a b : Int} (h1 : -9223372036854775808 ≤ a) (h2 : a ≤ 9223372036854775807) (h3 : 0 ≤ b) (h4 : b ≤ 9223372036854775807) : (Int64.ofInt 0 ≤ (Int64.ofInt a ^^^ Int64.ofInt b)) = (0 ≤ a) := by
  have e : ∀ x : Int64, (Int64.ofInt 0 ≤ x) ↔ x.toBitVec.msb = false := by
    intro x
    rw [Int64.le_iff_toInt_le, BitVec.msb_eq_toInt, j_to (by omega) (by omega)]
    show 0 ≤ x.toBitVec.toInt ↔ _
    simp
  have ea := e (Int64.ofInt a)
  have eb := e (Int64.ofInt b)
  rw [j_le (by omega) (by omega) h1 h2] at ea
  rw [j_le (by omega) (by omega) (by omega) h4] at eb
  have hb := eb.mp h3
  apply propext
  rw [e, ea, Int64.toBitVec_xor, BitVec.msb_xor, hb]
  simp
theorem z_tb {a b : Int} (hb : 0 < b) : a.tdiv b = a / b ∨ (a < 0 ∧ ¬ b ∣ a ∧ a.tdiv b = a / b + 1) := by
  rw [Int.tdiv_eq_ediv]
  by_cases h : 0 ≤ a ∨ b ∣ a
  · left; rw [if_pos h]; omega
  · right
    rw [if_neg h, Int.sign_eq_one_of_pos hb]
    exact ⟨by omega, fun q => h (.inr q), rfl⟩
theorem z_floor {a b : Int} (hb : 0 < b) : a / b = if 0 ≤ a then a.tdiv b else if a.tdiv b * b = a then a.tdiv b else a.tdiv b - 1 := by
  by_cases h : 0 ≤ a
  · rw [if_pos h, Int.tdiv_eq_ediv_of_nonneg h]
  · rw [if_neg h]
    rcases z_tb (a := a) hb with e | ⟨_, hd, e⟩
    · rw [e]
      split
      · rfl
      · rename_i h2
        rw [Int.tdiv_eq_ediv] at e
        by_cases h3 : b ∣ a
        · exact (h2 (Int.ediv_mul_cancel h3)).elim
        · rw [if_neg (by rintro (q | q) <;> contradiction), Int.sign_eq_one_of_pos hb] at e
          omega
    · split
      · rename_i h2
        exact (hd ⟨a.tdiv b, by rw [Int.mul_comm]; exact h2.symm⟩).elim
      · omega
theorem z_rng {a b : Int} (hb : 0 < b) : -(a.natAbs : Int) ≤ a.tdiv b ∧ a.tdiv b ≤ a.natAbs := by
  have := Int.natAbs_tdiv_le_natAbs a b
  omega
theorem z_div {a b : Int} {N : Int} (hb : 0 < b) (h1 : -N ≤ a) (h2 : a ≤ N) : -N ≤ a.tdiv b ∧ a.tdiv b ≤ N := by
  have := z_rng (a := a) hb
  omega
theorem z_dm (a b : Int) : a.tdiv b * b = a - a.tmod b := by rw [Int.tmod_def, Int.mul_comm]; omega
theorem z_tm {a b : Int} (hb : 0 < b) : -b < a.tmod b ∧ a.tmod b < b ∧ (0 ≤ a → 0 ≤ a.tmod b) ∧ (a ≤ 0 → a.tmod b ≤ 0) := by
  refine ⟨?_, Int.tmod_lt_of_pos a hb, fun h => Int.tmod_nonneg b h, fun h => ?_⟩
  · have := Int.tmod_lt_of_pos (-a) hb
    rw [Int.neg_tmod] at this
    omega
  · have := Int.tmod_nonneg (a := -a) b (by omega)
    rw [Int.neg_tmod] at this
    omega
theorem z_emod {a b : Int} (hb : 0 < b) : a % b = if a.tmod b < 0 then a.tmod b + b else a.tmod b := by
  have h1 := z_tm (a := a) hb
  have h2 : a.tmod b = a - b * a.tdiv b := Int.tmod_def a b
  have h3 : a % b = a - b * (a / b) := by have := Int.mul_ediv_add_emod a b; omega
  have h4 := Int.emod_nonneg a (by omega : b ≠ 0)
  have h5 := Int.emod_lt_of_pos a hb
  rcases z_tb (a := a) hb with e | ⟨_, _, e⟩
  · rw [if_neg (by rw [h2, e, ← h3]; omega), h2, e, h3]
  · have e2 : b * a.tdiv b = b * (a / b) + b := by rw [e, Int.mul_add, Int.mul_one]
    rw [if_pos (by omega)]
    omega
theorem x_fdiv {a b : Int} (h1 : -2147483648 ≤ a) (h2 : a ≤ 2147483647) (h3 : 0 < b) (h4 : b ≤ 2147483647) : rz_ex X (d + 1) 266 [.int (Int32.ofInt a), .int (Int32.ofInt b)] w = some (.inl (some (.int (Int32.ofInt (a / b)))), w, 0, 0) := by
  have hr := z_div (N := 2147483648) h3 (a := a) (by omega) (by omega)
  have hr2 : 0 ≤ a → 0 ≤ a.tdiv b := fun h => Int.tdiv_nonneg h (by omega)
  have hm := z_tm (a := a) h3
  have hd := z_dm a b
  have hx := i_xor h1 h2 (by omega : 0 ≤ b) h4
  have hle : a.tdiv b ≤ 2147483647 := by
    by_cases h : 0 ≤ a
    · rw [Int.tdiv_eq_ediv_of_nonneg h]; exact Int.le_trans (Int.ediv_le_self b h) h2
    · have : a.tdiv b ≤ 0 := by
        have := Int.tdiv_nonneg (a := -a) (b := b) (by omega) (by omega)
        rw [Int.neg_tdiv] at this; omega
      omega
  simp (disch := first | exact nl_i | exact nl_r | exact nl_0 | exact nl_n | exact nl_x | exact kd_r | exact kd_n | exact kd_x | exact kd_o | exact cats0 | exact cats1 | exact cats2 | exact cats3 | exact cats4 | exact nr_i | exact nr_l | exact nr_z0 | exact nr_z1 | exact ft_i | exact ft_l | omega | rfl | assumption | (refine i_ne0 ?_ ?_ ?_ <;> omega) | (refine j_ne0 ?_ ?_ ?_ <;> omega) | (refine i_new ?_ ?_ <;> omega)) only [n_J9_floorDiv_7cf53, q_J9_floorDiv_7cf53_0, q_J9_floorDiv_7cf53_1, q_J9_floorDiv_7cf53_2, q_J9_floorDiv_7cf53_3, q_J9_floorDiv_7cf53_4, q_J9_floorDiv_7cf53_5, q_J9_floorDiv_7cf53_6, q_J9_floorDiv_7cf53_7, q_J9_floorDiv_7cf53_10, q_J9_floorDiv_7cf53_11, q_J9_floorDiv_7cf53_12, q_J9_floorDiv_7cf53_13, q_J9_floorDiv_7cf53_14, q_J9_floorDiv_7cf53_17, q_J9_floorDiv_7cf53_18, q_J9_floorDiv_7cf53_19, q_J9_floorDiv_7cf53_20, q_J9_floorDiv_7cf53_21, q_J9_floorDiv_7cf53_22, i_add, i_sub, i_mul, i_neg, i_lt, i_le, i_eq, i_tm, i_div, i_j, j_i, j_add, j_sub, j_mul, j_neg, j_lt, j_le, j_eq, j_div, c_lt, c_le, c_gt, c_ge, c_eq, i_nat, rz_k, Nat.add_zero, Nat.zero_add, Nat.add_assoc, Nat.reduceAdd, if_true, if_false, hx]
  rw [z_floor h3]
  by_cases h : 0 ≤ a
  · rw [if_pos h, if_pos h]
  · rw [if_neg h, if_neg h]
    split <;> rfl
theorem x_fmod {a b : Int} (h1 : -2147483648 ≤ a) (h2 : a ≤ 2147483647) (h3 : 0 < b) (h4 : b ≤ 2147483647) : rz_ex X (d + 1) 268 [.int (Int32.ofInt a), .int (Int32.ofInt b)] w = some (.inl (some (.int (Int32.ofInt (a % b)))), w, 0, 0) := by
  have hr := z_div (N := 2147483648) h3 (a := a) (by omega) (by omega)
  have hm := z_tm (a := a) h3
  have hx := i_xor h1 h2 (by omega : 0 ≤ b) h4
  simp (disch := first | exact nl_i | exact nl_r | exact nl_0 | exact nl_n | exact nl_x | exact kd_r | exact kd_n | exact kd_x | exact kd_o | exact cats0 | exact cats1 | exact cats2 | exact cats3 | exact cats4 | exact nr_i | exact nr_l | exact nr_z0 | exact nr_z1 | exact ft_i | exact ft_l | omega | rfl | assumption | (refine i_ne0 ?_ ?_ ?_ <;> omega) | (refine j_ne0 ?_ ?_ ?_ <;> omega) | (refine i_new ?_ ?_ <;> omega)) only [n_J9_floorMod_7cf53, q_J9_floorMod_7cf53_0, q_J9_floorMod_7cf53_1, q_J9_floorMod_7cf53_2, q_J9_floorMod_7cf53_3, q_J9_floorMod_7cf53_4, q_J9_floorMod_7cf53_5, q_J9_floorMod_7cf53_6, q_J9_floorMod_7cf53_7, q_J9_floorMod_7cf53_10, q_J9_floorMod_7cf53_11, q_J9_floorMod_7cf53_14, q_J9_floorMod_7cf53_15, q_J9_floorMod_7cf53_16, q_J9_floorMod_7cf53_17, q_J9_floorMod_7cf53_18, q_J9_floorMod_7cf53_19, i_add, i_sub, i_mul, i_neg, i_lt, i_le, i_eq, i_tm, i_div, i_j, j_i, j_add, j_sub, j_mul, j_neg, j_lt, j_le, j_eq, j_div, c_lt, c_le, c_gt, c_ge, c_eq, i_nat, rz_k, Nat.add_zero, Nat.zero_add, Nat.add_assoc, Nat.reduceAdd, if_true, if_false, hx]
  rw [z_emod h3]
  by_cases h : 0 ≤ a
  · rw [if_pos h, if_neg (by omega)]
  · rw [if_neg h]
    by_cases h0 : a.tmod b = 0
    · rw [if_pos h0, if_neg (by omega)]
    · rw [if_neg h0, if_pos (by omega)]
theorem x_fdivJ {a b : Int} (h1 : -9223372036854775807 ≤ a) (h2 : a ≤ 9223372036854775807) (h3 : 0 < b) (h4 : b ≤ 9223372036854775807) : rz_ex X (d + 1) 267 [.long (Int64.ofInt a), .long (Int64.ofInt b)] w = some (.inl (some (.long (Int64.ofInt (a / b)))), w, 0, 0) := by
  have hr := z_div (N := 9223372036854775807) h3 (a := a) (by omega) (by omega)
  have hm := z_tm (a := a) h3
  have hd := z_dm a b
  have hx := j_xor (by omega : -9223372036854775808 ≤ a) h2 (by omega : 0 ≤ b) h4
  simp (disch := first | exact nl_i | exact nl_r | exact nl_0 | exact nl_n | exact nl_x | exact kd_r | exact kd_n | exact kd_x | exact kd_o | exact cats0 | exact cats1 | exact cats2 | exact cats3 | exact cats4 | exact nr_i | exact nr_l | exact nr_z0 | exact nr_z1 | exact ft_i | exact ft_l | omega | rfl | assumption | (refine i_ne0 ?_ ?_ ?_ <;> omega) | (refine j_ne0 ?_ ?_ ?_ <;> omega) | (refine i_new ?_ ?_ <;> omega)) only [n_J9_floorDiv_f86c9, q_J9_floorDiv_f86c9_0, q_J9_floorDiv_f86c9_1, q_J9_floorDiv_f86c9_2, q_J9_floorDiv_f86c9_3, q_J9_floorDiv_f86c9_5, q_J9_floorDiv_f86c9_6, q_J9_floorDiv_f86c9_7, q_J9_floorDiv_f86c9_8, q_J9_floorDiv_f86c9_9, q_J9_floorDiv_f86c9_10, q_J9_floorDiv_f86c9_13, q_J9_floorDiv_f86c9_15, q_J9_floorDiv_f86c9_16, q_J9_floorDiv_f86c9_17, q_J9_floorDiv_f86c9_18, q_J9_floorDiv_f86c9_19, q_J9_floorDiv_f86c9_22, q_J9_floorDiv_f86c9_24, q_J9_floorDiv_f86c9_25, q_J9_floorDiv_f86c9_26, q_J9_floorDiv_f86c9_27, q_J9_floorDiv_f86c9_29, i_add, i_sub, i_mul, i_neg, i_lt, i_le, i_eq, i_tm, i_div, i_j, j_i, j_add, j_sub, j_mul, j_neg, j_lt, j_le, j_eq, j_div, c_lt, c_le, c_gt, c_ge, c_eq, i_nat, rz_k, Nat.add_zero, Nat.zero_add, Nat.add_assoc, Nat.reduceAdd, if_true, if_false, hx]
  rw [z_floor h3]
  by_cases h : 0 ≤ a
  · rw [if_pos h, if_pos h]
  · rw [if_neg h, if_neg h]
    split <;> rfl
theorem x_fmodJ {a b : Int} (h1 : -9223372036854775807 ≤ a) (h2 : a ≤ 9223372036854775807) (h3 : 0 < b) (h4 : b ≤ 4611686018427387904) : rz_ex X (d + 1) 269 [.long (Int64.ofInt a), .long (Int64.ofInt b)] w = some (.inl (some (.long (Int64.ofInt (a % b)))), w, 0, 0) := by
  have hr := z_div (N := 9223372036854775807) h3 (a := a) (by omega) (by omega)
  have hm := z_tm (a := a) h3
  have hx := j_xor (by omega : -9223372036854775808 ≤ a) h2 (by omega : 0 ≤ b) (by omega)
  simp (disch := first | exact nl_i | exact nl_r | exact nl_0 | exact nl_n | exact nl_x | exact kd_r | exact kd_n | exact kd_x | exact kd_o | exact cats0 | exact cats1 | exact cats2 | exact cats3 | exact cats4 | exact nr_i | exact nr_l | exact nr_z0 | exact nr_z1 | exact ft_i | exact ft_l | omega | rfl | assumption | (refine i_ne0 ?_ ?_ ?_ <;> omega) | (refine j_ne0 ?_ ?_ ?_ <;> omega) | (refine i_new ?_ ?_ <;> omega)) only [n_J9_floorMod_f86c9, q_J9_floorMod_f86c9_0, q_J9_floorMod_f86c9_1, q_J9_floorMod_f86c9_2, q_J9_floorMod_f86c9_3, q_J9_floorMod_f86c9_5, q_J9_floorMod_f86c9_6, q_J9_floorMod_f86c9_7, q_J9_floorMod_f86c9_8, q_J9_floorMod_f86c9_9, q_J9_floorMod_f86c9_10, q_J9_floorMod_f86c9_13, q_J9_floorMod_f86c9_15, q_J9_floorMod_f86c9_16, q_J9_floorMod_f86c9_17, q_J9_floorMod_f86c9_20, q_J9_floorMod_f86c9_22, q_J9_floorMod_f86c9_23, q_J9_floorMod_f86c9_24, q_J9_floorMod_f86c9_25, q_J9_floorMod_f86c9_27, i_add, i_sub, i_mul, i_neg, i_lt, i_le, i_eq, i_tm, i_div, i_j, j_i, j_add, j_sub, j_mul, j_neg, j_lt, j_le, j_eq, j_div, c_lt, c_le, c_gt, c_ge, c_eq, i_nat, rz_k, Nat.add_zero, Nat.zero_add, Nat.add_assoc, Nat.reduceAdd, if_true, if_false, hx]
  rw [z_emod h3]
  by_cases h : 0 ≤ a
  · rw [if_pos h, if_neg (by omega)]
  · rw [if_neg h]
    by_cases h0 : a.tmod b = 0
    · rw [if_pos h0, if_neg (by omega)]
    · rw [if_neg h0, if_pos (by omega)]
-- gcd
theorem z_gcd_step {p q : Nat} (hq : q ≠ 0) : Nat.gcd q (p % q) = Nat.gcd p q := by
  rw [Nat.gcd_comm p q, Nat.gcd_rec q p, Nat.gcd_comm]
theorem z_ctm (p q : Nat) : (p : Int).tmod q = ((p % q : Nat) : Int) := (Int.ofNat_tmod p q).symm
theorem z_halve {p q n : Nat} (hq : q ≠ 0) (hp : q ≤ p) (h : p * q < 2 ^ (n + 1)) : q * (p % q) < 2 ^ n := by
  have h1 : p % q < q := Nat.mod_lt _ (by omega)
  have h2 : p % q + q ≤ p := by
    have h3 := Nat.div_add_mod p q
    have h4 : 1 ≤ p / q := (Nat.one_le_div_iff (by omega)).mpr hp
    have h5 : q * 1 ≤ q * (p / q) := Nat.mul_le_mul_left q h4
    omega
  have h6 : 2 * (q * (p % q)) < 2 ^ (n + 1) := by
    have h7 : 2 * (p % q) ≤ p := by omega
    have h8 : q * (2 * (p % q)) ≤ q * p := Nat.mul_le_mul_left q h7
    have h9 : q * (2 * (p % q)) = 2 * (q * (p % q)) := by rw [Nat.mul_left_comm]
    rw [Nat.mul_comm p q] at h
    omega
  rw [Nat.pow_succ] at h6
  omega
theorem l_gcd0 {b1 b2 : Int64} {p i : Int} {l9 l10 : Option Value} {nc ns : Nat} (h1 : 0 ≤ i) (h2 : i ≤ 1000) : rz_G X d mz_X10_gcd 15 [some (.long b1), none, some (.long b2), none, some (.long (Int64.ofInt p)), none, some (.long (Int64.ofInt 0)), none, some (.int (Int32.ofInt i)), l9, l10] [] w nc ns = some (.inl (some (.long (Int64.ofInt p))), w, nc, ns) := by
  rw [q_X10_gcd_15]
  simp (disch := first | exact nl_i | exact nl_r | exact nl_0 | exact nl_n | exact nl_x | exact kd_r | exact kd_n | exact kd_x | exact kd_o | exact cats0 | exact cats1 | exact cats2 | exact cats3 | exact cats4 | exact nr_i | exact nr_l | exact nr_z0 | exact nr_z1 | exact ft_i | exact ft_l | omega | rfl | assumption | (refine i_ne0 ?_ ?_ ?_ <;> omega) | (refine j_ne0 ?_ ?_ ?_ <;> omega) | (refine i_new ?_ ?_ <;> omega)) only [n_X10_gcd, q_X10_gcd_0, q_X10_gcd_1, q_X10_gcd_4, q_X10_gcd_6, q_X10_gcd_7, q_X10_gcd_10, q_X10_gcd_12, q_X10_gcd_13, q_X10_gcd_17, q_X10_gcd_20, q_X10_gcd_23, q_X10_gcd_25, q_X10_gcd_26, q_X10_gcd_27, q_X10_gcd_30, q_X10_gcd_32, q_X10_gcd_34, q_X10_gcd_35, q_X10_gcd_37, q_X10_gcd_39, q_X10_gcd_41, q_X10_gcd_43, q_X10_gcd_45, q_X10_gcd_48, q_X10_gcd_51, q_X10_gcd_53, i_add, i_sub, i_mul, i_neg, i_lt, i_le, i_eq, i_tm, i_div, i_j, j_i, j_add, j_sub, j_mul, j_neg, j_lt, j_le, j_eq, j_div, c_lt, c_le, c_gt, c_ge, c_eq, i_nat, rz_k, Nat.add_zero, Nat.zero_add, Nat.add_assoc, Nat.reduceAdd, if_true, if_false]
  split <;> rfl
theorem l_gcd1 {b1 b2 : Int64} {p q i : Int} {l9 l10 : Option Value} {nc ns : Nat} (h1 : 0 ≤ i) (h2 : i < 1000) (h3 : 0 ≤ p) (h4 : p ≤ 9223372036854775807) (h5 : 0 < q) (h6 : q ≤ 9223372036854775807) : rz_G X d mz_X10_gcd 15 [some (.long b1), none, some (.long b2), none, some (.long (Int64.ofInt p)), none, some (.long (Int64.ofInt q)), none, some (.int (Int32.ofInt i)), l9, l10] [] w nc ns = rz_G X d mz_X10_gcd 15 [some (.long b1), none, some (.long b2), none, some (.long (Int64.ofInt q)), none, some (.long (Int64.ofInt (p.tmod q))), none, some (.int (Int32.ofInt (i + 1))), some (.long (Int64.ofInt (p.tmod q))), none] [] w nc ns := by
  rw [q_X10_gcd_15]
  simp (disch := first | exact nl_i | exact nl_r | exact nl_0 | exact nl_n | exact nl_x | exact kd_r | exact kd_n | exact kd_x | exact kd_o | exact cats0 | exact cats1 | exact cats2 | exact cats3 | exact cats4 | exact nr_i | exact nr_l | exact nr_z0 | exact nr_z1 | exact ft_i | exact ft_l | omega | rfl | assumption | (refine i_ne0 ?_ ?_ ?_ <;> omega) | (refine j_ne0 ?_ ?_ ?_ <;> omega) | (refine i_new ?_ ?_ <;> omega)) only [n_X10_gcd, q_X10_gcd_0, q_X10_gcd_1, q_X10_gcd_4, q_X10_gcd_6, q_X10_gcd_7, q_X10_gcd_10, q_X10_gcd_12, q_X10_gcd_13, q_X10_gcd_17, q_X10_gcd_20, q_X10_gcd_23, q_X10_gcd_25, q_X10_gcd_26, q_X10_gcd_27, q_X10_gcd_30, q_X10_gcd_32, q_X10_gcd_34, q_X10_gcd_35, q_X10_gcd_37, q_X10_gcd_39, q_X10_gcd_41, q_X10_gcd_43, q_X10_gcd_45, q_X10_gcd_48, q_X10_gcd_51, q_X10_gcd_53, i_add, i_sub, i_mul, i_neg, i_lt, i_le, i_eq, i_tm, i_div, i_j, j_i, j_add, j_sub, j_mul, j_neg, j_lt, j_le, j_eq, j_div, c_lt, c_le, c_gt, c_ge, c_eq, i_nat, rz_k, Nat.add_zero, Nat.zero_add, Nat.add_assoc, Nat.reduceAdd, if_true, if_false]
  rw [if_neg (by omega), if_neg (by omega)]
theorem l_gcd {b1 b2 : Int64} (n : Nat) : ∀ (p q i : Nat) (l9 l10 : Option Value) (nc ns : Nat), q ≤ p → p ≤ 9223372036854775807 → p * q < 2 ^ n → i + n ≤ 999 → rz_G X d mz_X10_gcd 15 [some (.long b1), none, some (.long b2), none, some (.long (Int64.ofInt p)), none, some (.long (Int64.ofInt q)), none, some (.int (Int32.ofInt i)), l9, l10] [] w nc ns = some (.inl (some (.long (Int64.ofInt (Nat.gcd p q)))), w, nc, ns) := by
  induction n with
  | zero =>
    intro p q i l9 l10 nc ns hpq hp hb hi
    have hq0 : q = 0 := by
      rcases Nat.eq_zero_or_pos q with h | h
      · exact h
      · have : 1 * 1 ≤ p * q := Nat.mul_le_mul (by omega) (by omega)
        omega
    subst hq0
    rw [Nat.gcd_zero_right]
    exact l_gcd0 (by omega) (by omega)
  | succ n ih =>
    intro p q i l9 l10 nc ns hpq hp hb hi
    by_cases hq : q = 0
    · subst hq
      rw [Nat.gcd_zero_right]
      exact l_gcd0 (by omega) (by omega)
    · rw [l_gcd1 (by omega) (by omega) (by omega) (by omega) (by omega) (by omega), z_ctm, ← z_gcd_step hq]
      have hm : p % q < q := Nat.mod_lt _ (by omega)
      exact ih q (p % q) (i + 1) _ _ nc ns (by omega) (by omega) (z_halve hq hpq hb) (by omega)
theorem x_gcd {a b : Int} (h1 : -9223372036854775807 ≤ a) (h2 : a ≤ 9223372036854775807) (h3 : -9223372036854775807 ≤ b) (h4 : b ≤ 9223372036854775807) : rz_ex X (d + 2) 163 [.long (Int64.ofInt a), .long (Int64.ofInt b)] w = some (.inl (some (.long (Int64.ofInt (Int.gcd a b)))), w, 0, 0) := by
  simp (disch := first | exact nl_i | exact nl_r | exact nl_0 | exact nl_n | exact nl_x | exact kd_r | exact kd_n | exact kd_x | exact kd_o | exact cats0 | exact cats1 | exact cats2 | exact cats3 | exact cats4 | exact nr_i | exact nr_l | exact nr_z0 | exact nr_z1 | exact ft_i | exact ft_l | omega | rfl | assumption | (refine i_ne0 ?_ ?_ ?_ <;> omega) | (refine j_ne0 ?_ ?_ ?_ <;> omega) | (refine i_new ?_ ?_ <;> omega)) only [n_X10_gcd, q_X10_gcd_0, q_X10_gcd_1, q_X10_gcd_4, q_X10_gcd_6, q_X10_gcd_7, q_X10_gcd_10, q_X10_gcd_12, q_X10_gcd_13, q_X10_gcd_17, q_X10_gcd_20, q_X10_gcd_23, q_X10_gcd_25, q_X10_gcd_26, q_X10_gcd_27, q_X10_gcd_30, q_X10_gcd_32, q_X10_gcd_34, q_X10_gcd_35, q_X10_gcd_37, q_X10_gcd_39, q_X10_gcd_41, q_X10_gcd_43, q_X10_gcd_45, q_X10_gcd_48, q_X10_gcd_51, q_X10_gcd_53, i_add, i_sub, i_mul, i_neg, i_lt, i_le, i_eq, i_tm, i_div, i_j, j_i, j_add, j_sub, j_mul, j_neg, j_lt, j_le, j_eq, j_div, c_lt, c_le, c_gt, c_ge, c_eq, i_nat, rz_k, Nat.add_zero, Nat.zero_add, Nat.add_assoc, Nat.reduceAdd, if_true, if_false, x_absJ]
  have hA : a.natAbs ≤ 9223372036854775807 := by omega
  have hB : b.natAbs ≤ 9223372036854775807 := by omega
  have big : ∀ p q : Nat, p ≤ 9223372036854775807 → q ≤ 9223372036854775807 → p * q < 2 ^ 130 := by
    intro p q hp hq
    have := Nat.mul_le_mul hp hq
    have h9 : 9223372036854775807 * 9223372036854775807 < 2 ^ 130 := by decide
    omega
  unfold Int.gcd
  by_cases hc : b.natAbs ≤ a.natAbs
  · exact l_gcd 130 _ _ 0 _ _ 0 0 hc hA (big _ _ hA hB) (by omega)
  · rw [l_gcd1 (by omega) (by omega) (by omega) (by omega) (by omega) (by omega), z_ctm, ← z_gcd_step (by omega : b.natAbs ≠ 0), Nat.mod_eq_of_lt (by omega)]
    exact l_gcd 130 _ _ 1 _ _ 0 0 (by omega) (by omega) (big _ _ hB hA) (by omega)
-- checks of the class
theorem x_slot {a : Int} (h1 : -2147483648 ≤ a) (h2 : a ≤ 2147483647) : rz_ex X (d + 1) 152 [.int (Int32.ofInt a)] w = if 0 ≤ a ∧ a ≤ 7 then some (.inl none, w, 0, 0) else some (.inr "java/lang/IndexOutOfBoundsException", w, 1, 6) := by
  simp (disch := first | exact nl_i | exact nl_r | exact nl_0 | exact nl_n | exact nl_x | exact kd_r | exact kd_n | exact kd_x | exact kd_o | exact cats0 | exact cats1 | exact cats2 | exact cats3 | exact cats4 | exact nr_i | exact nr_l | exact nr_z0 | exact nr_z1 | exact ft_i | exact ft_l | omega | rfl | assumption | (refine i_ne0 ?_ ?_ ?_ <;> omega) | (refine j_ne0 ?_ ?_ ?_ <;> omega) | (refine i_new ?_ ?_ <;> omega)) only [n_X10_checkSlot, q_X10_checkSlot_0, q_X10_checkSlot_1, q_X10_checkSlot_4, q_X10_checkSlot_5, q_X10_checkSlot_7, q_X10_checkSlot_10, q_X10_checkSlot_21, i_add, i_sub, i_mul, i_neg, i_lt, i_le, i_eq, i_tm, i_div, i_j, j_i, j_add, j_sub, j_mul, j_neg, j_lt, j_le, j_eq, j_div, c_lt, c_le, c_gt, c_ge, c_eq, i_nat, rz_k, Nat.add_zero, Nat.zero_add, Nat.add_assoc, Nat.reduceAdd, if_true, if_false]
  repeat' split
  all_goals first | rfl | (exfalso; omega)
theorem x_range {a b c : Int} (h1 : -2147483648 ≤ a) (h2 : a ≤ 2147483647) (h3 : -2147483648 ≤ b) (h4 : b ≤ 2147483647) (h5 : -2147483648 ≤ c) (h6 : c ≤ 2147483647) : rz_ex X (d + 1) 153 [.int (Int32.ofInt a), .int (Int32.ofInt b), .int (Int32.ofInt c)] w = if b ≤ a ∧ a ≤ c then some (.inl none, w, 0, 0) else some (.inr "java/lang/IllegalArgumentException", w, 1, 6) := by
  simp (disch := first | exact nl_i | exact nl_r | exact nl_0 | exact nl_n | exact nl_x | exact kd_r | exact kd_n | exact kd_x | exact kd_o | exact cats0 | exact cats1 | exact cats2 | exact cats3 | exact cats4 | exact nr_i | exact nr_l | exact nr_z0 | exact nr_z1 | exact ft_i | exact ft_l | omega | rfl | assumption | (refine i_ne0 ?_ ?_ ?_ <;> omega) | (refine j_ne0 ?_ ?_ ?_ <;> omega) | (refine i_new ?_ ?_ <;> omega)) only [n_X10_checkRange, q_X10_checkRange_0, q_X10_checkRange_1, q_X10_checkRange_2, q_X10_checkRange_5, q_X10_checkRange_6, q_X10_checkRange_7, q_X10_checkRange_10, q_X10_checkRange_21, i_add, i_sub, i_mul, i_neg, i_lt, i_le, i_eq, i_tm, i_div, i_j, j_i, j_add, j_sub, j_mul, j_neg, j_lt, j_le, j_eq, j_div, c_lt, c_le, c_gt, c_ge, c_eq, i_nat, rz_k, Nat.add_zero, Nat.zero_add, Nat.add_assoc, Nat.reduceAdd, if_true, if_false]
  repeat' split
  all_goals first | rfl | (exfalso; omega)
theorem z_isE : mz_X10_checkFraction.2.2.2.2.2.2.2.1 = [] := rfl
theorem x_frac {a b : Int} (h1 : -2147483648 ≤ a) (h2 : a ≤ 2147483647) (h3 : -2147483648 ≤ b) (h4 : b ≤ 2147483647) : rz_ex X (d + 2) 154 [.int (Int32.ofInt a), .int (Int32.ofInt b)] w = if (1 ≤ a ∧ a ≤ 200) ∧ (1 ≤ b ∧ b ≤ 200) then some (.inl none, w, 0, 0) else some (.inr "java/lang/IllegalArgumentException", w, 1, 6) := by
  simp (disch := first | exact nl_i | exact nl_r | exact nl_0 | exact nl_n | exact nl_x | exact kd_r | exact kd_n | exact kd_x | exact kd_o | exact cats0 | exact cats1 | exact cats2 | exact cats3 | exact cats4 | exact nr_i | exact nr_l | exact nr_z0 | exact nr_z1 | exact ft_i | exact ft_l | omega | rfl | assumption | (refine i_ne0 ?_ ?_ ?_ <;> omega) | (refine j_ne0 ?_ ?_ ?_ <;> omega) | (refine i_new ?_ ?_ <;> omega)) only [n_X10_checkFraction, q_X10_checkFraction_0, q_X10_checkFraction_1, q_X10_checkFraction_2, q_X10_checkFraction_5, q_X10_checkFraction_8, q_X10_checkFraction_9, q_X10_checkFraction_10, q_X10_checkFraction_13, q_X10_checkFraction_16, i_add, i_sub, i_mul, i_neg, i_lt, i_le, i_eq, i_tm, i_div, i_j, j_i, j_add, j_sub, j_mul, j_neg, j_lt, j_le, j_eq, j_div, c_lt, c_le, c_gt, c_ge, c_eq, i_nat, rz_k, Nat.add_zero, Nat.zero_add, Nat.add_assoc, Nat.reduceAdd, if_true, if_false, x_range]
  by_cases ha : 1 ≤ a ∧ a ≤ 200
  · by_cases hb : 1 ≤ b ∧ b ≤ 200
    · simp (disch := first | exact nl_i | exact nl_r | exact nl_0 | exact nl_n | exact nl_x | exact kd_r | exact kd_n | exact kd_x | exact kd_o | exact cats0 | exact cats1 | exact cats2 | exact cats3 | exact cats4 | exact nr_i | exact nr_l | exact nr_z0 | exact nr_z1 | exact ft_i | exact ft_l | omega | rfl | assumption | (refine i_ne0 ?_ ?_ ?_ <;> omega) | (refine j_ne0 ?_ ?_ ?_ <;> omega) | (refine i_new ?_ ?_ <;> omega)) only [if_pos ha, if_pos hb, if_pos (And.intro ha hb), n_X10_checkFraction, q_X10_checkFraction_0, q_X10_checkFraction_1, q_X10_checkFraction_2, q_X10_checkFraction_5, q_X10_checkFraction_8, q_X10_checkFraction_9, q_X10_checkFraction_10, q_X10_checkFraction_13, q_X10_checkFraction_16, i_add, i_sub, i_mul, i_neg, i_lt, i_le, i_eq, i_tm, i_div, i_j, j_i, j_add, j_sub, j_mul, j_neg, j_lt, j_le, j_eq, j_div, c_lt, c_le, c_gt, c_ge, c_eq, i_nat, rz_k, Nat.add_zero, Nat.zero_add, Nat.add_assoc, Nat.reduceAdd, if_true, if_false, x_range]
    · simp (disch := first | exact nl_i | exact nl_r | exact nl_0 | exact nl_n | exact nl_x | exact kd_r | exact kd_n | exact kd_x | exact kd_o | exact cats0 | exact cats1 | exact cats2 | exact cats3 | exact cats4 | exact nr_i | exact nr_l | exact nr_z0 | exact nr_z1 | exact ft_i | exact ft_l | omega | rfl | assumption | (refine i_ne0 ?_ ?_ ?_ <;> omega) | (refine j_ne0 ?_ ?_ ?_ <;> omega) | (refine i_new ?_ ?_ <;> omega)) only [if_pos ha, if_neg hb, if_neg (fun h : (1 ≤ a ∧ a ≤ 200) ∧ (1 ≤ b ∧ b ≤ 200) => hb h.2), n_X10_checkFraction, q_X10_checkFraction_0, q_X10_checkFraction_1, q_X10_checkFraction_2, q_X10_checkFraction_5, q_X10_checkFraction_8, q_X10_checkFraction_9, q_X10_checkFraction_10, q_X10_checkFraction_13, q_X10_checkFraction_16, i_add, i_sub, i_mul, i_neg, i_lt, i_le, i_eq, i_tm, i_div, i_j, j_i, j_add, j_sub, j_mul, j_neg, j_lt, j_le, j_eq, j_div, c_lt, c_le, c_gt, c_ge, c_eq, i_nat, rz_k, Nat.add_zero, Nat.zero_add, Nat.add_assoc, Nat.reduceAdd, if_true, if_false, x_range, z_isE, rz_hand, List.isEmpty_nil]
  · simp (disch := first | exact nl_i | exact nl_r | exact nl_0 | exact nl_n | exact nl_x | exact kd_r | exact kd_n | exact kd_x | exact kd_o | exact cats0 | exact cats1 | exact cats2 | exact cats3 | exact cats4 | exact nr_i | exact nr_l | exact nr_z0 | exact nr_z1 | exact ft_i | exact ft_l | omega | rfl | assumption | (refine i_ne0 ?_ ?_ ?_ <;> omega) | (refine j_ne0 ?_ ?_ ?_ <;> omega) | (refine i_new ?_ ?_ <;> omega)) only [if_neg ha, if_neg (fun h : (1 ≤ a ∧ a ≤ 200) ∧ (1 ≤ b ∧ b ≤ 200) => ha h.1), n_X10_checkFraction, q_X10_checkFraction_0, q_X10_checkFraction_1, q_X10_checkFraction_2, q_X10_checkFraction_5, q_X10_checkFraction_8, q_X10_checkFraction_9, q_X10_checkFraction_10, q_X10_checkFraction_13, q_X10_checkFraction_16, i_add, i_sub, i_mul, i_neg, i_lt, i_le, i_eq, i_tm, i_div, i_j, j_i, j_add, j_sub, j_mul, j_neg, j_lt, j_le, j_eq, j_div, c_lt, c_le, c_gt, c_ge, c_eq, i_nat, rz_k, Nat.add_zero, Nat.zero_add, Nat.add_assoc, Nat.reduceAdd, if_true, if_false, x_range, z_isE, rz_hand, List.isEmpty_nil]
-- the reference's small methods
theorem x_in {a b c : Int} (h1 : -2147483648 ≤ a) (h2 : a ≤ 2147483647) (h3 : -2147483648 ≤ b) (h4 : b ≤ 2147483647) (h5 : -2147483648 ≤ c) (h6 : c ≤ 2147483647) : rz_ex X (d + 1) 176 [.int (Int32.ofInt a), .int (Int32.ofInt b), .int (Int32.ofInt c)] w = some (.inl (some (.int (if b ≤ a ∧ a ≤ c then Int32.ofInt 1 else Int32.ofInt 0))), w, 0, 0) := by
  simp (disch := first | exact nl_i | exact nl_r | exact nl_0 | exact nl_n | exact nl_x | exact kd_r | exact kd_n | exact kd_x | exact kd_o | exact cats0 | exact cats1 | exact cats2 | exact cats3 | exact cats4 | exact nr_i | exact nr_l | exact nr_z0 | exact nr_z1 | exact ft_i | exact ft_l | omega | rfl | assumption | (refine i_ne0 ?_ ?_ ?_ <;> omega) | (refine j_ne0 ?_ ?_ ?_ <;> omega) | (refine i_new ?_ ?_ <;> omega)) only [n_X11_in, q_X11_in_0, q_X11_in_1, q_X11_in_2, q_X11_in_5, q_X11_in_6, q_X11_in_7, q_X11_in_10, q_X11_in_11, q_X11_in_14, q_X11_in_15, i_add, i_sub, i_mul, i_neg, i_lt, i_le, i_eq, i_tm, i_div, i_j, j_i, j_add, j_sub, j_mul, j_neg, j_lt, j_le, j_eq, j_div, c_lt, c_le, c_gt, c_ge, c_eq, i_nat, rz_k, Nat.add_zero, Nat.zero_add, Nat.add_assoc, Nat.reduceAdd, if_true, if_false]
  repeat' split
  all_goals first | rfl | (exfalso; omega)
end RZLV
