/-! part 44: level 2: signAt, corner, clear, held -/
section RZSP
variable {X : rz_X} {d : Nat} {w : rz_W} {nc ns : Nat} {kp tl kd ty cl th : Int}
theorem i_inF {a : Int} {n : Nat} (h1 : 0 ≤ a) (h2 : a < n) (h3 : a ≤ 2147483647) : (Int32.ofInt a < 0 ∨ n ≤ a.toNat) = False := by
  apply eq_false
  intro h
  rcases h with h | h
  · have := (i_lt (b := 0) (by omega) h3 (by omega) (by omega)).mp h
    omega
  · omega
/-- a call that only the document's own methods make: no throw -/
def rz_agv (X : rz_X) (d mx my : Nat) (w : rz_W) : Prop := ∃ (v : Value) (w1 : rz_W) (c1 s1 : Nat) (fs : List Value) (w2 : rz_W) (c2 s2 : Nat), rz_ex X (d + 30) mx [.ref 0] w = some (.inl (some v), w1, c1, s1) ∧ v_ob w1 32 11 fs ∧ rz_ex X (d + 30) my [.ref 32] w1 = some (.inl (some v), w2, c2, s2) ∧ v_inv w2 ∧ c1 + c2 ≤ 1100 ∧ s1 + s2 ≤ 14000 ∧ ((∃ r : Int32, v = .int r) ∨ (∃ r : Int64, v = .long r))
theorem c_clear {i : Nat} (hv : v_inv w) (h : rz_agv X d 133 229 w) (hi : ∀ v w1 c1 s1, rz_ex X (d + 30) 133 [.ref 0] w = some (.inl (some v), w1, c1, s1) → ∃ r : Int32, v = .int r) : rz_way X d 2139 i w := by
  intro l5 l6 nc ns
  obtain ⟨kp, tl, kd, ty, cl, th, hy, hm, hs, ht, hp, hq, hmi⟩ := id hv
  obtain ⟨v, w1, c1, s1, fs, w2, c2, s2, e1, e2, e3, iv, b1, b2, -⟩ := h
  obtain ⟨r, rfl⟩ := hi _ _ _ _ e1
  refine ⟨w2, c1 + c2, s1 + s2, l5, l6, ?_, iv, b1, b2⟩
  simp (disch := first | exact nl_i | exact nl_r | exact nl_0 | exact nl_n | exact nl_x | exact kd_r | exact kd_n | exact kd_x | exact kd_o | exact cats0 | exact cats1 | exact cats2 | exact cats3 | exact cats4 | exact nr_i | exact nr_l | exact nr_z0 | exact nr_z1 | exact ft_i | exact ft_l | omega | rfl | assumption | (refine i_ne0 ?_ ?_ ?_ <;> omega) | (refine j_ne0 ?_ ?_ ?_ <;> omega) | (refine i_new ?_ ?_ <;> omega)) only [q_L_law_2139, q_L_law_2140, q_L_law_2143, q_L_law_2144, q_L_law_2147, q_L_law_2150, q_L_law_2151, i_add, i_sub, i_mul, i_neg, i_lt, i_le, i_eq, i_tm, i_div, i_j, j_i, j_add, j_sub, j_mul, j_neg, j_lt, j_le, j_eq, j_div, c_lt, c_le, c_gt, c_ge, c_eq, i_nat, rz_k, Nat.add_zero, Nat.zero_add, Nat.add_assoc, Nat.reduceAdd, if_true, if_false, vk_eq hy, e1, vk_eq e2, e3]
theorem c_held {i : Nat} (hv : v_inv w) (h : rz_agv X d 149 263 w) (hi : ∀ v w1 c1 s1, rz_ex X (d + 30) 149 [.ref 0] w = some (.inl (some v), w1, c1, s1) → ∃ r : Int32, v = .int r) : rz_way X d 3102 i w := by
  intro l5 l6 nc ns
  obtain ⟨kp, tl, kd, ty, cl, th, hy, hm, hs, ht, hp, hq, hmi⟩ := id hv
  obtain ⟨v, w1, c1, s1, fs, w2, c2, s2, e1, e2, e3, iv, b1, b2, -⟩ := h
  obtain ⟨r, rfl⟩ := hi _ _ _ _ e1
  refine ⟨w2, c1 + c2, s1 + s2, l5, l6, ?_, iv, b1, b2⟩
  simp (disch := first | exact nl_i | exact nl_r | exact nl_0 | exact nl_n | exact nl_x | exact kd_r | exact kd_n | exact kd_x | exact kd_o | exact cats0 | exact cats1 | exact cats2 | exact cats3 | exact cats4 | exact nr_i | exact nr_l | exact nr_z0 | exact nr_z1 | exact ft_i | exact ft_l | omega | rfl | assumption | (refine i_ne0 ?_ ?_ ?_ <;> omega) | (refine j_ne0 ?_ ?_ ?_ <;> omega) | (refine i_new ?_ ?_ <;> omega)) only [q_L_law_3102, q_L_law_3103, q_L_law_3106, q_L_law_3107, q_L_law_3110, q_L_law_3113, q_L_law_3114, i_add, i_sub, i_mul, i_neg, i_lt, i_le, i_eq, i_tm, i_div, i_j, j_i, j_add, j_sub, j_mul, j_neg, j_lt, j_le, j_eq, j_div, c_lt, c_le, c_gt, c_ge, c_eq, i_nat, rz_k, Nat.add_zero, Nat.zero_add, Nat.add_assoc, Nat.reduceAdd, if_true, if_false, vk_eq hy, e1, vk_eq e2, e3]
theorem c_isSound {i : Nat} (hv : v_inv w) (h : rz_agv X d 151 265 w) (hi : ∀ v w1 c1 s1, rz_ex X (d + 30) 151 [.ref 0] w = some (.inl (some v), w1, c1, s1) → ∃ r : Int32, v = .int r) : rz_way X d 3129 i w := by
  intro l5 l6 nc ns
  obtain ⟨kp, tl, kd, ty, cl, th, hy, hm, hs, ht, hp, hq, hmi⟩ := id hv
  obtain ⟨v, w1, c1, s1, fs, w2, c2, s2, e1, e2, e3, iv, b1, b2, -⟩ := h
  obtain ⟨r, rfl⟩ := hi _ _ _ _ e1
  refine ⟨w2, c1 + c2, s1 + s2, l5, l6, ?_, iv, b1, b2⟩
  simp (disch := first | exact nl_i | exact nl_r | exact nl_0 | exact nl_n | exact nl_x | exact kd_r | exact kd_n | exact kd_x | exact kd_o | exact cats0 | exact cats1 | exact cats2 | exact cats3 | exact cats4 | exact nr_i | exact nr_l | exact nr_z0 | exact nr_z1 | exact ft_i | exact ft_l | omega | rfl | assumption | (refine i_ne0 ?_ ?_ ?_ <;> omega) | (refine j_ne0 ?_ ?_ ?_ <;> omega) | (refine i_new ?_ ?_ <;> omega)) only [q_L_law_3129, q_L_law_3130, q_L_law_3133, q_L_law_3134, q_L_law_3137, q_L_law_3140, q_L_law_3141, i_add, i_sub, i_mul, i_neg, i_lt, i_le, i_eq, i_tm, i_div, i_j, j_i, j_add, j_sub, j_mul, j_neg, j_lt, j_le, j_eq, j_div, c_lt, c_le, c_gt, c_ge, c_eq, i_nat, rz_k, Nat.add_zero, Nat.zero_add, Nat.add_assoc, Nat.reduceAdd, if_true, if_false, vk_eq hy, e1, vk_eq e2, e3]
theorem c_checksum {i : Nat} (hv : v_inv w) (h : rz_agv X d 150 264 w) (hi : ∀ v w1 c1 s1, rz_ex X (d + 30) 150 [.ref 0] w = some (.inl (some v), w1, c1, s1) → ∃ r : Int64, v = .long r) : rz_way X d 3115 i w := by
  intro l5 l6 nc ns
  obtain ⟨kp, tl, kd, ty, cl, th, hy, hm, hs, ht, hp, hq, hmi⟩ := id hv
  obtain ⟨v, w1, c1, s1, fs, w2, c2, s2, e1, e2, e3, iv, b1, b2, -⟩ := h
  obtain ⟨r, rfl⟩ := hi _ _ _ _ e1
  refine ⟨w2, c1 + c2, s1 + s2, l5, l6, ?_, iv, b1, b2⟩
  simp (disch := first | exact nl_i | exact nl_r | exact nl_0 | exact nl_n | exact nl_x | exact kd_r | exact kd_n | exact kd_x | exact kd_o | exact cats0 | exact cats1 | exact cats2 | exact cats3 | exact cats4 | exact nr_i | exact nr_l | exact nr_z0 | exact nr_z1 | exact ft_i | exact ft_l | omega | rfl | assumption | (refine i_ne0 ?_ ?_ ?_ <;> omega) | (refine j_ne0 ?_ ?_ ?_ <;> omega) | (refine i_new ?_ ?_ <;> omega)) only [q_L_law_3115, q_L_law_3116, q_L_law_3119, q_L_law_3120, q_L_law_3123, q_L_law_3124, q_L_law_3127, q_L_law_3128, i_add, i_sub, i_mul, i_neg, i_lt, i_le, i_eq, i_tm, i_div, i_j, j_i, j_add, j_sub, j_mul, j_neg, j_lt, j_le, j_eq, j_div, c_lt, c_le, c_gt, c_ge, c_eq, i_nat, rz_k, Nat.add_zero, Nat.zero_add, Nat.add_assoc, Nat.reduceAdd, if_true, if_false, vk_eq hy, e1, vk_eq e2, e3]
/-- a char as the reference reads it -/
theorem i_c {c : Int} (h1 : 0 ≤ c) (h2 : c ≤ 65535) : ((Int32.ofInt c).toUInt32 % 65536).toInt32 = Int32.ofInt c := by
  obtain ⟨n, rfl⟩ := Int.eq_ofNat_of_zero_le h1
  apply Int32.toBitVec_inj.1
  apply BitVec.eq_of_toNat_eq
  simp [Int32.toBitVec_ofInt, BitVec.toNat_ofInt]
  omega
theorem nr_c {c : Int} (h1 : 0 ≤ c) (h2 : c ≤ 65535) : narrow .char (.int (Int32.ofInt c)) = .int (Int32.ofInt c) := by
  have := nc_of h1 h2
  unfold vp_nar at this
  revert this
  cases h : narrow .char (.int (Int32.ofInt c)) with
  | int y => intro this; rw [show y = Int32.ofInt c from this]
  | _ => exact absurd h (by simp [narrow])
/-- signAt -/
theorem ag_signAt {k : Int} (hk : -2147483648 ≤ k ∧ k ≤ 2147483647) (hv : v_inv w) : rz_ag X d 125 219 false [.int (Int32.ofInt k)] ["java/lang/IndexOutOfBoundsException"] w := by
  obtain ⟨kp, tl, kd, ty, cl, th, hy, hm, hs, ht, hp, hq, hmi⟩ := id hv
  obtain ⟨sg, sg2, g12, g13, g42, htl, hsg⟩ := id ht
  by_cases hc : 0 ≤ k ∧ k < tl
  · obtain ⟨c, hc2, f1, f2⟩ := hsg k.toNat (by omega)
    have nch := nr_c hc2.1 hc2.2
    refine ag_ret0 (r := Int32.ofInt c) (c1 := 0) (s1 := 0) hv hm ?_ (fun h => by cases h) ?_
    · have e97 : rz_ex X (d + 28) 97 [.ref 12, .int (Int32.ofInt k)] w = some (.inl (some (.int (Int32.ofInt c))), w, 0, 0) := by
        simp (disch := first | exact nl_i | exact nl_r | exact nl_0 | exact nl_n | exact nl_x | exact kd_r | exact kd_n | exact kd_x | exact kd_o | exact cats0 | exact cats1 | exact cats2 | exact cats3 | exact cats4 | exact nr_i | exact nr_l | exact nr_z0 | exact nr_z1 | exact ft_i | exact ft_l | omega | rfl | assumption | (refine i_ne0 ?_ ?_ ?_ <;> omega) | (refine j_ne0 ?_ ?_ ?_ <;> omega) | (refine i_new ?_ ?_ <;> omega)) only [n_X9_sign, q_X9_sign_0, q_X9_sign_1, q_X9_sign_4, q_X9_sign_5, q_X9_sign_7, q_X9_sign_10, q_X9_sign_11, q_X9_sign_14, q_X9_sign_15, q_X9_sign_16, q_X9_sign_19, q_X9_sign_20, i_add, i_sub, i_mul, i_neg, i_lt, i_le, i_eq, i_tm, i_div, i_j, j_i, j_add, j_sub, j_mul, j_neg, j_lt, j_le, j_eq, j_div, c_lt, c_le, c_gt, c_ge, c_eq, i_nat, rz_k, Nat.add_zero, Nat.zero_add, Nat.add_assoc, Nat.reduceAdd, if_true, if_false, gf_eq g12, List.getElem?_cons_zero, List.getElem?_cons_succ, ac_eq g13, f1]
        rw [if_neg (by omega), if_neg (by omega)]
      simp (disch := first | exact nl_i | exact nl_r | exact nl_0 | exact nl_n | exact nl_x | exact kd_r | exact kd_n | exact kd_x | exact kd_o | exact cats0 | exact cats1 | exact cats2 | exact cats3 | exact cats4 | exact nr_i | exact nr_l | exact nr_z0 | exact nr_z1 | exact ft_i | exact ft_l | omega | rfl | assumption | (refine i_ne0 ?_ ?_ ?_ <;> omega) | (refine j_ne0 ?_ ?_ ?_ <;> omega) | (refine i_new ?_ ?_ <;> omega)) only [n_X10_signAt, q_X10_signAt_0, q_X10_signAt_1, q_X10_signAt_4, q_X10_signAt_5, q_X10_signAt_6, q_X10_signAt_9, q_X10_signAt_12, q_X10_signAt_15, q_X10_signAt_25, q_X10_signAt_26, q_X10_signAt_29, q_X10_signAt_30, q_X10_signAt_33, i_add, i_sub, i_mul, i_neg, i_lt, i_le, i_eq, i_tm, i_div, i_j, j_i, j_add, j_sub, j_mul, j_neg, j_lt, j_le, j_eq, j_div, c_lt, c_le, c_gt, c_ge, c_eq, i_nat, rz_k, Nat.add_zero, Nat.zero_add, Nat.add_assoc, Nat.reduceAdd, if_true, if_false, gf_eq hy, gf_eq g12, vk_eq g12, List.getElem?_cons_zero, List.getElem?_cons_succ, e97]
      rw [if_neg (by omega), if_pos (by omega)]
    · intro wr hf hm hv'
      refine ⟨[], 0, 0, ?_, by omega, by omega⟩
      have n1 := x_no1 (X := X) (d := d + 28) (k := 1) hm
      have hm1 := v_mo (t := 0) hm
      have hf1 : rz_fr [48, 32] w (wr.set 32 (rz_mo kp tl kd ty cl 0)) := fr_trans (fr_sub hf (by decide)) (fr_set (by decide))
      have k42 : v_ia _ 42 60 sg2 := fr_get hf1 (by decide) g42
      simp (disch := first | exact nl_i | exact nl_r | exact nl_0 | exact nl_n | exact nl_x | exact kd_r | exact kd_n | exact kd_x | exact kd_o | exact cats0 | exact cats1 | exact cats2 | exact cats3 | exact cats4 | exact nr_i | exact nr_l | exact nr_z0 | exact nr_z1 | exact ft_i | exact ft_l | omega | rfl | assumption | (refine i_ne0 ?_ ?_ ?_ <;> omega) | (refine j_ne0 ?_ ?_ ?_ <;> omega) | (refine i_new ?_ ?_ <;> omega)) only [n_X11_signAt, q_X11_signAt_0, q_X11_signAt_1, q_X11_signAt_2, q_X11_signAt_3, q_X11_signAt_4, q_X11_signAt_7, q_X11_signAt_8, q_X11_signAt_9, q_X11_signAt_12, q_X11_signAt_13, q_X11_signAt_16, q_X11_signAt_19, q_X11_signAt_21, q_X11_signAt_24, q_X11_signAt_25, q_X11_signAt_28, q_X11_signAt_29, q_X11_signAt_29x, q_X11_signAt_30, q_X11_signAt_31, i_add, i_sub, i_mul, i_neg, i_lt, i_le, i_eq, i_tm, i_div, i_j, j_i, j_add, j_sub, j_mul, j_neg, j_lt, j_le, j_eq, j_div, c_lt, c_le, c_gt, c_ge, c_eq, i_nat, rz_k, Nat.add_zero, Nat.zero_add, Nat.add_assoc, Nat.reduceAdd, if_true, if_false, gf_eq hm, vk_eq hm, List.getElem?_cons_zero, List.getElem?_cons_succ, x_in, if_pos (show 0 ≤ k ∧ k ≤ tl - 1 by omega), n1, gf_eq hm1, ai_eq k42, f2, i_c, List.append_nil]
  · refine ag_thr0 (c1 := 1) (s1 := 6) 0 rfl hv hm ?_ ?_
    · simp (disch := first | exact nl_i | exact nl_r | exact nl_0 | exact nl_n | exact nl_x | exact kd_r | exact kd_n | exact kd_x | exact kd_o | exact cats0 | exact cats1 | exact cats2 | exact cats3 | exact cats4 | exact nr_i | exact nr_l | exact nr_z0 | exact nr_z1 | exact ft_i | exact ft_l | omega | rfl | assumption | (refine i_ne0 ?_ ?_ ?_ <;> omega) | (refine j_ne0 ?_ ?_ ?_ <;> omega) | (refine i_new ?_ ?_ <;> omega)) only [n_X10_signAt, q_X10_signAt_0, q_X10_signAt_1, q_X10_signAt_4, q_X10_signAt_5, q_X10_signAt_6, q_X10_signAt_9, q_X10_signAt_12, q_X10_signAt_15, q_X10_signAt_25, q_X10_signAt_26, q_X10_signAt_29, q_X10_signAt_30, q_X10_signAt_33, n_X9_sign, q_X9_sign_0, q_X9_sign_1, q_X9_sign_4, q_X9_sign_5, q_X9_sign_7, q_X9_sign_10, q_X9_sign_11, q_X9_sign_14, q_X9_sign_15, q_X9_sign_16, q_X9_sign_19, q_X9_sign_20, i_add, i_sub, i_mul, i_neg, i_lt, i_le, i_eq, i_tm, i_div, i_j, j_i, j_add, j_sub, j_mul, j_neg, j_lt, j_le, j_eq, j_div, c_lt, c_le, c_gt, c_ge, c_eq, i_nat, rz_k, Nat.add_zero, Nat.zero_add, Nat.add_assoc, Nat.reduceAdd, if_true, if_false, gf_eq hy, gf_eq g12, List.getElem?_cons_zero, List.getElem?_cons_succ]
      split
      · rfl
      · rw [if_neg (by omega)]
    · rintro wr hm rfl
      refine ⟨Int32.ofInt 32, [], 0, 0, ?_, by omega, by omega⟩
      have n1 := x_no0 (X := X) (d := d + 28) (k := 1) hm
      have n32 := nr_c (c := 32) (by omega) (by omega)
      simp (disch := first | exact nl_i | exact nl_r | exact nl_0 | exact nl_n | exact nl_x | exact kd_r | exact kd_n | exact kd_x | exact kd_o | exact cats0 | exact cats1 | exact cats2 | exact cats3 | exact cats4 | exact nr_i | exact nr_l | exact nr_z0 | exact nr_z1 | exact ft_i | exact ft_l | omega | rfl | assumption | (refine i_ne0 ?_ ?_ ?_ <;> omega) | (refine j_ne0 ?_ ?_ ?_ <;> omega) | (refine i_new ?_ ?_ <;> omega)) only [n_X11_signAt, q_X11_signAt_0, q_X11_signAt_1, q_X11_signAt_2, q_X11_signAt_3, q_X11_signAt_4, q_X11_signAt_7, q_X11_signAt_8, q_X11_signAt_9, q_X11_signAt_12, q_X11_signAt_13, q_X11_signAt_16, q_X11_signAt_19, q_X11_signAt_21, q_X11_signAt_24, q_X11_signAt_25, q_X11_signAt_28, q_X11_signAt_29, q_X11_signAt_29x, q_X11_signAt_30, q_X11_signAt_31, i_add, i_sub, i_mul, i_neg, i_lt, i_le, i_eq, i_tm, i_div, i_j, j_i, j_add, j_sub, j_mul, j_neg, j_lt, j_le, j_eq, j_div, c_lt, c_le, c_gt, c_ge, c_eq, i_nat, rz_k, Nat.add_zero, Nat.zero_add, Nat.add_assoc, Nat.reduceAdd, if_true, if_false, gf_eq hm, vk_eq hm, List.getElem?_cons_zero, List.getElem?_cons_succ, x_in, if_neg (show ¬ (0 ≤ k ∧ k ≤ tl - 1) by omega), n1, List.append_nil, Int.reduceEq]
      all_goals rfl
end RZSP
