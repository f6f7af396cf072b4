/-! part 81: level 2: grown, both -/
section RZGS
variable {X : rz_X} {d : Nat} {w : rz_W} {nc ns : Nat} {kp tl kd ty cl th : Int}
theorem ag_grown {t : Int} (ht1 : -2147483648 ≤ t ∧ t ≤ 2147483647) (hv : v_inv w) : rz_ag X d 139 244 false [.int (Int32.ofInt t)] ["java/lang/IllegalStateException", "java/lang/IllegalArgumentException"] w := by
  obtain ⟨kp, tl, kd, ty, cl, th, hy, hm, hs, ht, hp, hq, hmi⟩ := id hv
  obtain ⟨n, x, y, P, Q, R, S, M, O, LL, U, pa, pb, pc, rfl, hn, hcp, g18, g44, g45, hRS, hr, g24, g25, g19, g20, g21, g22, g23, hcl⟩ := v_poly_cp hq
  rcases hcl with rfl | ⟨rfl, hn3, hok, htr⟩
  · refine ag_thr0 (c1 := 1) (s1 := 6) 0 rfl hv hm ?_ ?_
    · simp (disch := first | exact nl_i | exact nl_r | exact nl_0 | exact nl_n | exact nl_x | exact kd_r | exact kd_n | exact kd_x | exact kd_o | exact cats0 | exact cats1 | exact cats2 | exact cats3 | exact cats4 | exact nr_i | exact nr_l | exact nr_z0 | exact nr_z1 | exact ft_i | exact ft_l | omega | rfl | assumption | (refine i_ne0 ?_ ?_ ?_ <;> omega) | (refine j_ne0 ?_ ?_ ?_ <;> omega) | (refine i_new ?_ ?_ <;> omega) | (refine bl_t ?_; with_unfolding_all rfl) | exact ft_z0 | exact ft_z1) only [n_X10_grown, q_X10_grown_0, q_X10_grown_1, q_X10_grown_4, q_X10_grown_5, q_X10_grown_6, q_X10_grown_9, q_X10_grown_12, q_X10_grown_13, q_X10_grown_16, q_X10_grown_19, q_X10_grown_20, q_X10_grown_21, q_X10_grown_22, q_X10_grown_23, q_X10_grown_24, q_X10_grown_27, q_X10_grown_30, q_X10_grown_31, q_X10_grown_32, q_X10_grown_33, q_X10_grown_34, q_X10_grown_35, q_X10_grown_36, q_X10_grown_39, q_X10_grown_40, q_X10_grown_43, q_X10_grown_44, q_X10_grown_45, q_X10_grown_46, q_X10_grown_47, q_X10_grown_48, q_X10_grown_51, q_X10_grown_52, q_X10_grown_53, q_X10_grown_56, q_X10_grown_57, q_X10_grown_60, q_X10_grown_61, q_X10_grown_62, q_X10_grown_63, q_X10_grown_66, i_add, i_sub, i_mul, i_neg, i_lt, i_le, i_eq, i_tm, i_div, i_j, j_i, j_add, j_sub, j_mul, j_neg, j_lt, j_le, j_eq, j_div, c_lt, c_le, c_gt, c_ge, c_eq, i_nat, rz_k, Nat.add_zero, Nat.zero_add, Nat.add_assoc, Nat.reduceAdd, if_true, if_false, vk_eq hy, x_closed0 hy g18 rfl]
      rfl
    · rintro wr hm rfl
      refine ⟨Int32.ofInt 0, [], 0, 0, ?_, by omega, by omega⟩
      have y1 := x_no0 (X := X) (d := d + 28) (k := 1) hm
      simp (disch := first | exact nl_i | exact nl_r | exact nl_0 | exact nl_n | exact nl_x | exact kd_r | exact kd_n | exact kd_x | exact kd_o | exact cats0 | exact cats1 | exact cats2 | exact cats3 | exact cats4 | exact nr_i | exact nr_l | exact nr_z0 | exact nr_z1 | exact ft_i | exact ft_l | omega | rfl | assumption | (refine i_ne0 ?_ ?_ ?_ <;> omega) | (refine j_ne0 ?_ ?_ ?_ <;> omega) | (refine i_new ?_ ?_ <;> omega) | (refine bl_t ?_; with_unfolding_all rfl) | exact ft_z0 | exact ft_z1) only [q_X11_grown_0, q_X11_grown_1, q_X11_grown_2, q_X11_grown_5, q_X11_grown_6, q_X11_grown_9, q_X11_grown_12, q_X11_grown_13, q_X11_grown_14, q_X11_grown_15, q_X11_grown_17, q_X11_grown_20, q_X11_grown_21, q_X11_grown_24, q_X11_grown_27, q_X11_grown_28, q_X11_grown_29, n_X11_grown, i_add, i_sub, i_mul, i_neg, i_lt, i_le, i_eq, i_tm, i_div, i_j, j_i, j_add, j_sub, j_mul, j_neg, j_lt, j_le, j_eq, j_div, c_lt, c_le, c_gt, c_ge, c_eq, i_nat, rz_k, Nat.add_zero, Nat.zero_add, Nat.add_assoc, Nat.reduceAdd, if_true, if_false, gf_eq hm, List.getElem?_cons_zero, List.getElem?_cons_succ, y1, vk_eq hm, List.append_nil, Int.reduceEq, not_false_eq_true]
      all_goals rfl
  have hcl1 := x_closed1 (X := X) (d := d + 27) hy g18 rfl
  by_cases hsr : 1 ≤ t ∧ t ≤ 1000000000
  case neg =>
    refine ag_thr0 (c1 := 1) (s1 := 6) 1 rfl hv hm ?_ ?_
    · simp (disch := first | exact nl_i | exact nl_r | exact nl_0 | exact nl_n | exact nl_x | exact kd_r | exact kd_n | exact kd_x | exact kd_o | exact cats0 | exact cats1 | exact cats2 | exact cats3 | exact cats4 | exact nr_i | exact nr_l | exact nr_z0 | exact nr_z1 | exact ft_i | exact ft_l | omega | rfl | assumption | (refine i_ne0 ?_ ?_ ?_ <;> omega) | (refine j_ne0 ?_ ?_ ?_ <;> omega) | (refine i_new ?_ ?_ <;> omega) | (refine bl_t ?_; with_unfolding_all rfl) | exact ft_z0 | exact ft_z1) only [n_X10_grown, q_X10_grown_0, q_X10_grown_1, q_X10_grown_4, q_X10_grown_5, q_X10_grown_6, q_X10_grown_9, q_X10_grown_12, q_X10_grown_13, q_X10_grown_16, q_X10_grown_19, q_X10_grown_20, q_X10_grown_21, q_X10_grown_22, q_X10_grown_23, q_X10_grown_24, q_X10_grown_27, q_X10_grown_30, q_X10_grown_31, q_X10_grown_32, q_X10_grown_33, q_X10_grown_34, q_X10_grown_35, q_X10_grown_36, q_X10_grown_39, q_X10_grown_40, q_X10_grown_43, q_X10_grown_44, q_X10_grown_45, q_X10_grown_46, q_X10_grown_47, q_X10_grown_48, q_X10_grown_51, q_X10_grown_52, q_X10_grown_53, q_X10_grown_56, q_X10_grown_57, q_X10_grown_60, q_X10_grown_61, q_X10_grown_62, q_X10_grown_63, q_X10_grown_66, i_add, i_sub, i_mul, i_neg, i_lt, i_le, i_eq, i_tm, i_div, i_j, j_i, j_add, j_sub, j_mul, j_neg, j_lt, j_le, j_eq, j_div, c_lt, c_le, c_gt, c_ge, c_eq, i_nat, rz_k, Nat.add_zero, Nat.zero_add, Nat.add_assoc, Nat.reduceAdd, if_true, if_false, vk_eq hy, hcl1, x_range, if_neg hsr]
      rfl
    · rintro wr hm rfl
      refine ⟨Int32.ofInt 0, [], 0, 0, ?_, by omega, by omega⟩
      have y1 := x_no1 (X := X) (d := d + 28) (k := 1) hm
      have hm1 := v_mo (t := 0) hm
      have y2 := x_no0 (X := X) (d := d + 28) (k := 2) hm1
      rw [mo_mo] at y2
      simp (disch := first | exact nl_i | exact nl_r | exact nl_0 | exact nl_n | exact nl_x | exact kd_r | exact kd_n | exact kd_x | exact kd_o | exact cats0 | exact cats1 | exact cats2 | exact cats3 | exact cats4 | exact nr_i | exact nr_l | exact nr_z0 | exact nr_z1 | exact ft_i | exact ft_l | omega | rfl | assumption | (refine i_ne0 ?_ ?_ ?_ <;> omega) | (refine j_ne0 ?_ ?_ ?_ <;> omega) | (refine i_new ?_ ?_ <;> omega) | (refine bl_t ?_; with_unfolding_all rfl) | exact ft_z0 | exact ft_z1) only [q_X11_grown_0, q_X11_grown_1, q_X11_grown_2, q_X11_grown_5, q_X11_grown_6, q_X11_grown_9, q_X11_grown_12, q_X11_grown_13, q_X11_grown_14, q_X11_grown_15, q_X11_grown_17, q_X11_grown_20, q_X11_grown_21, q_X11_grown_24, q_X11_grown_27, q_X11_grown_28, q_X11_grown_29, n_X11_grown, i_add, i_sub, i_mul, i_neg, i_lt, i_le, i_eq, i_tm, i_div, i_j, j_i, j_add, j_sub, j_mul, j_neg, j_lt, j_le, j_eq, j_div, c_lt, c_le, c_gt, c_ge, c_eq, i_nat, rz_k, Nat.add_zero, Nat.zero_add, Nat.add_assoc, Nat.reduceAdd, if_true, if_false, gf_eq hm, List.getElem?_cons_zero, List.getElem?_cons_succ, y1, vk_eq hm, vk_eq hm1, x_in, if_neg hsr, y2, List.append_nil, Int.reduceEq, not_false_eq_true, not_true_eq_false]
      all_goals rfl
  obtain ⟨q, rfl⟩ := Int.eq_ofNat_of_zero_le (show 0 ≤ t by omega)
  have hxt := x_twice (X := X) (d := d + 25) hcp
  have hxr := x_rim (X := X) (d := d + 25) hcp
  have hab := z_area_b (n := n) hr n
  have hab2 : -9600 ≤ zp_area x y n ∧ zp_area x y n ≤ 9600 := by unfold zp_area; omega
  have hrb : 0 ≤ zp_rim x y n ∧ zp_rim x y n ≤ 480 := by have := z_rim_b (n := n) hr n; unfold zp_rim; omega
  have hpar := z_par (x := x) (y := y) (n := n)
  have hrm : ∃ B : Nat, zp_rim x y n = B := ⟨(zp_rim x y n).toNat, by omega⟩
  obtain ⟨B, hB⟩ := hrm
  generalize hAe : (zp_area x y n).natAbs = A at hxt
  have hA9 : A ≤ 9600 := by omega
  have hB9 : B ≤ 480 := by omega
  have hAB : (A + B) % 2 = 0 := by omega
  -- what the class asks for
  have q1 : (q : Int).tdiv 2 = ((q / 2 : Nat) : Int) := z_tdn q 2
  have q2 : (q : Int) - ((q / 2 : Nat) : Int) * 2 = ((q % 2 : Nat) : Int) := z_dm2 (n := q) (a := 2)
  have hAq := Nat.mul_le_mul hA9 (show q ≤ 1000000000 by omega)
  generalize hsm : A * q + B = sm at *
  have q3 : (A : Int) * (q : Int) + (B : Int) = (sm : Int) := by rw [← hsm, Int.natCast_add, Int.natCast_mul]
  have hsm2 : sm * q = A * (q * q) + B * q := by rw [← hsm, Nat.add_mul, Nat.mul_assoc]
  obtain ⟨one, other, N, hN, hb1, hb2, hMN, hcls⟩ : ∃ one other N : Nat, N = one * other + 1 ∧ one ≤ 100000000000000 ∧ other ≤ 1000000000 ∧ 2 * N = A * (q * q) + B * q + 2 ∧ ∀ (w' : rz_W) (r : Int32), rz_ex X (d + 28) 100 [.ref 12, .long (Int64.ofInt one), .long (Int64.ofInt other)] w = some (.inl (some (.int r)), w', 0, 0) → rz_ex X (d + 29) 139 [.ref 0, .int (Int32.ofInt q)] w = some (.inl (some (.int r)), w', 0, 0) := by
    obtain ⟨sg, sg2, g12, g13, g42, htl, hsg⟩ := id ht
    by_cases hev : q % 2 = 0
    · refine ⟨sm, q / 2, sm * (q / 2) + 1, rfl, by omega, by omega, ?_, ?_⟩
      · rw [← hsm2]
        have : sm * q = 2 * (sm * (q / 2)) := by
          rw [Nat.mul_left_comm]
          congr 1
          omega
        omega
      · intro w' r e
        have q2' : (q : Int) - ((q / 2 : Nat) : Int) * 2 = 0 := by omega
        have hqh : ((q / 2 : Nat) : Int) ≤ 1000000000 := by omega
        have hqh0 : 0 ≤ ((q / 2 : Nat) : Int) := by omega
        generalize q / 2 = qh at *
        simp (disch := first | exact nl_i | exact nl_r | exact nl_0 | exact nl_n | exact nl_x | exact kd_r | exact kd_n | exact kd_x | exact kd_o | exact cats0 | exact cats1 | exact cats2 | exact cats3 | exact cats4 | exact nr_i | exact nr_l | exact nr_z0 | exact nr_z1 | exact ft_i | exact ft_l | omega | rfl | assumption | (refine i_ne0 ?_ ?_ ?_ <;> omega) | (refine j_ne0 ?_ ?_ ?_ <;> omega) | (refine i_new ?_ ?_ <;> omega) | (refine bl_t ?_; with_unfolding_all rfl) | exact ft_z0 | exact ft_z1) only [n_X10_grown, q_X10_grown_0, q_X10_grown_1, q_X10_grown_4, q_X10_grown_5, q_X10_grown_6, q_X10_grown_9, q_X10_grown_12, q_X10_grown_13, q_X10_grown_16, q_X10_grown_19, q_X10_grown_20, q_X10_grown_21, q_X10_grown_22, q_X10_grown_23, q_X10_grown_24, q_X10_grown_27, q_X10_grown_30, q_X10_grown_31, q_X10_grown_32, q_X10_grown_33, q_X10_grown_34, q_X10_grown_35, q_X10_grown_36, q_X10_grown_39, q_X10_grown_40, q_X10_grown_43, q_X10_grown_44, q_X10_grown_45, q_X10_grown_46, q_X10_grown_47, q_X10_grown_48, q_X10_grown_51, q_X10_grown_52, q_X10_grown_53, q_X10_grown_56, q_X10_grown_57, q_X10_grown_60, q_X10_grown_61, q_X10_grown_62, q_X10_grown_63, q_X10_grown_66, i_add, i_sub, i_mul, i_neg, i_lt, i_le, i_eq, i_tm, i_div, i_j, j_i, j_add, j_sub, j_mul, j_neg, j_lt, j_le, j_eq, j_div, c_lt, c_le, c_gt, c_ge, c_eq, i_nat, rz_k, Nat.add_zero, Nat.zero_add, Nat.add_assoc, Nat.reduceAdd, if_true, if_false, vk_eq hy, hcl1, x_range, if_pos hsr, gf_eq hy, vk_eq g18, vk_eq g12, List.getElem?_cons_zero, List.getElem?_cons_succ, hxt, hxr, hB, q1, q2', q3, e, not_true_eq_false]
    · have hodd : q % 2 = 1 := by omega
      have hse : sm % 2 = 0 := by
        have := z_m2 (A : Int) (q : Int)
        omega
      refine ⟨sm / 2, q, sm / 2 * q + 1, rfl, by omega, by omega, ?_, ?_⟩
      · rw [← hsm2]
        have : 2 * (sm / 2 * q) = sm * q := by
          rw [← Nat.mul_assoc]
          congr 1
          omega
        omega
      · intro w' r e
        have q2' : (q : Int) - ((q / 2 : Nat) : Int) * 2 = 1 := by omega
        have q4 : (sm : Int).tdiv 2 = ((sm / 2 : Nat) : Int) := z_tdn sm 2
        generalize q / 2 = qh at *
        generalize sm / 2 = sh at *
        simp (disch := first | exact nl_i | exact nl_r | exact nl_0 | exact nl_n | exact nl_x | exact kd_r | exact kd_n | exact kd_x | exact kd_o | exact cats0 | exact cats1 | exact cats2 | exact cats3 | exact cats4 | exact nr_i | exact nr_l | exact nr_z0 | exact nr_z1 | exact ft_i | exact ft_l | omega | rfl | assumption | (refine i_ne0 ?_ ?_ ?_ <;> omega) | (refine j_ne0 ?_ ?_ ?_ <;> omega) | (refine i_new ?_ ?_ <;> omega) | (refine bl_t ?_; with_unfolding_all rfl) | exact ft_z0 | exact ft_z1) only [n_X10_grown, q_X10_grown_0, q_X10_grown_1, q_X10_grown_4, q_X10_grown_5, q_X10_grown_6, q_X10_grown_9, q_X10_grown_12, q_X10_grown_13, q_X10_grown_16, q_X10_grown_19, q_X10_grown_20, q_X10_grown_21, q_X10_grown_22, q_X10_grown_23, q_X10_grown_24, q_X10_grown_27, q_X10_grown_30, q_X10_grown_31, q_X10_grown_32, q_X10_grown_33, q_X10_grown_34, q_X10_grown_35, q_X10_grown_36, q_X10_grown_39, q_X10_grown_40, q_X10_grown_43, q_X10_grown_44, q_X10_grown_45, q_X10_grown_46, q_X10_grown_47, q_X10_grown_48, q_X10_grown_51, q_X10_grown_52, q_X10_grown_53, q_X10_grown_56, q_X10_grown_57, q_X10_grown_60, q_X10_grown_61, q_X10_grown_62, q_X10_grown_63, q_X10_grown_66, i_add, i_sub, i_mul, i_neg, i_lt, i_le, i_eq, i_tm, i_div, i_j, j_i, j_add, j_sub, j_mul, j_neg, j_lt, j_le, j_eq, j_div, c_lt, c_le, c_gt, c_ge, c_eq, i_nat, rz_k, Nat.add_zero, Nat.zero_add, Nat.add_assoc, Nat.reduceAdd, if_true, if_false, vk_eq hy, hcl1, x_range, if_pos hsr, gf_eq hy, vk_eq g18, vk_eq g12, List.getElem?_cons_zero, List.getElem?_cons_succ, hxt, hxr, hB, q1, q2', q3, q4, e, Int.reduceEq, not_false_eq_true]
  -- the reference up to the text
  have hpre : ∀ wr, rz_fr [48, 12, 13] w wr → v_model wr kp tl kd n 1 th → ∃ wz, rz_fr [32] wr wz ∧ v_rt wz [] kp kd n 1 0 ∧ rz_ex X (d + 30) 244 [.ref 32, .int (Int32.ofInt q)] wr = rz_G X (d + 29) mz_X11_grown 125 [some (.ref 32), some (.int (Int32.ofInt q)), some (.long (Int64.ofInt A)), none, some (.long (Int64.ofInt (q * q : Nat))), none, some (.long (Int64.ofInt (N % 1000000000 : Nat))), none, some (.long (Int64.ofInt (N / 1000000000 : Nat))), none] [] wz 0 0 := by
    intro wr hf hmr
    obtain ⟨sg, sg2, g12, g13, g42, htl, hsg⟩ := id ht
    have y1 := x_no1 (X := X) (d := d + 28) (k := 1) hmr
    have hm1 := v_mo (t := 0) hmr
    have y2 := x_no1 (X := X) (d := d + 28) (k := 2) hm1
    rw [mo_mo] at y2
    generalize hwq : wr.set 32 (rz_mo kp tl kd n 1 0) = wq at *
    have frq : rz_fr [32] wr wq := by rw [← hwq]; exact fr_set (by decide)
    have fwq : rz_fr [48, 12, 13, 32] w wq := fr_trans (fr_sub hf (by decide)) (fr_sub frq (by decide))
    have hrp : v_rp wq x y n := ⟨_, _, _, _, _, R, S, hm1, fr_get fwq (by decide) g44, fr_get fwq (by decide) g45, hn, hr, hRS⟩
    have hya := y_area (X := X) (d := d + 27) hrp
    have hyr := y_rim (X := X) (d := d + 26) hrp
    have habs := x_abs (X := X) (d := d + 28) (w := wq) (a := zp_area x y n) (by omega) (by omega)
    rw [hAe] at habs
    generalize hwz : wq.set 32 (rz_mo kp 0 kd n 1 0) = wz
    have e4 : rz_pf wq 32 11 11 .int (.int (Int32.ofInt 0)) = fun K => K wz := by
      funext K
      rw [← hwz]
      exact pf_eq hm1 rfl rfl rfl
    have fqz : rz_fr [32] wq wz := by rw [← hwz]; exact fr_set (by decide)
    have hmz : v_model wz kp 0 kd n 1 0 := by rw [← hwz]; exact w_eq (w_lt hm1)
    refine ⟨wz, fr_trans frq fqz, ⟨hmz, sg2, fr_get fqz (by decide) (fr_get fwq (by decide) g42), fun k c h => by cases h⟩, ?_⟩
    have hqq := Nat.mul_le_mul (show q ≤ 1000000000 by omega) (show q ≤ 1000000000 by omega)
    have hBq := Nat.mul_le_mul hB9 (show q ≤ 1000000000 by omega)
    have r1 : (q : Int) * (q : Int) = ((q * q : Nat) : Int) := (Int.natCast_mul _ _).symm
    generalize hsq : q * q = sq at *
    have r2 : (sq : Int).tdiv 1000000000 = ((sq / 1000000000 : Nat) : Int) := z_tdn sq 1000000000
    have r3 : (sq : Int) - ((sq / 1000000000 : Nat) : Int) * 1000000000 = ((sq % 1000000000 : Nat) : Int) := z_dm2 (n := sq) (a := 1000000000)
    have hsdm := Nat.div_add_mod sq 1000000000
    have hAsq : A * sq = 1000000000 * (A * (sq / 1000000000)) + A * (sq % 1000000000) := by
      rw [Nat.mul_left_comm, ← Nat.mul_add, hsdm]
    have hsml : sq % 1000000000 < 1000000000 := Nat.mod_lt _ (by omega)
    have k1 := Nat.mul_le_mul hA9 (show sq % 1000000000 ≤ 1000000000 by omega)
    have k2 := Nat.mul_le_mul hA9 (show sq / 1000000000 ≤ 1000000000 by omega)
    generalize sq % 1000000000 = sm1 at *
    generalize sq / 1000000000 = sd1 at *
    generalize hlo0 : A * sm1 + B * q + 2 = lo0 at *
    have r4 : (A : Int) * (sm1 : Int) + (B : Int) * (q : Int) + 2 = (lo0 : Int) := by
      rw [← hlo0, Int.natCast_add, Int.natCast_add, Int.natCast_mul, Int.natCast_mul]
      rfl
    have r5 : (lo0 : Int).tdiv 1000000000 = ((lo0 / 1000000000 : Nat) : Int) := z_tdn lo0 1000000000
    have r7 : (lo0 : Int) - ((lo0 / 1000000000 : Nat) : Int) * 1000000000 = ((lo0 % 1000000000 : Nat) : Int) := z_dm2 (n := lo0) (a := 1000000000)
    generalize hAs : A * sd1 = asd at *
    have r6 : (A : Int) * (sd1 : Int) + ((lo0 / 1000000000 : Nat) : Int) = ((asd + lo0 / 1000000000 : Nat) : Int) := by
      rw [Int.natCast_add, ← hAs, Int.natCast_mul]
    generalize hhi : asd + lo0 / 1000000000 = hi0 at *
    have r8 : (hi0 : Int).tdiv 2 = ((hi0 / 2 : Nat) : Int) := z_tdn hi0 2
    have r9 : (hi0 : Int) - ((hi0 / 2 : Nat) : Int) * 2 = ((hi0 % 2 : Nat) : Int) := z_dm2 (n := hi0) (a := 2)
    have r10 : (((lo0 % 1000000000 : Nat) : Int) + ((hi0 % 2 : Nat) : Int) * 1000000000).tdiv 2 = ((N % 1000000000 : Nat) : Int) := by
      have e : ((lo0 % 1000000000 : Nat) : Int) + ((hi0 % 2 : Nat) : Int) * 1000000000 = ((lo0 % 1000000000 + hi0 % 2 * 1000000000 : Nat) : Int) := by omega
      rw [e]
      refine (z_tdn _ 2).trans ?_
      congr 1
      omega
    have r11 : hi0 / 2 = N / 1000000000 := by omega
    rw [r11] at r8 r9
    have hb3 : lo0 % 1000000000 < 1000000000 := Nat.mod_lt _ (by omega)
    have hb4 : N / 1000000000 ≤ 100000000000000 := by omega
    have hb5 : N % 1000000000 < 1000000000 := Nat.mod_lt _ (by omega)
    have hb6 : hi0 % 2 < 2 := Nat.mod_lt _ (by omega)
    have hb7 : lo0 / 1000000000 ≤ lo0 := Nat.div_le_self _ _
    have hb8 : hi0 ≤ 100000000000000 := by omega
    have hb9 : lo0 ≤ 100000000000000 := by omega
    clear hcls hMN hpar hab
    generalize lo0 % 1000000000 = l1 at *
    generalize lo0 / 1000000000 = l0d at *
    generalize hi0 % 2 = hb at *
    generalize N / 1000000000 = nh at *
    generalize N % 1000000000 = nl at *
    simp (disch := first | exact nl_i | exact nl_r | exact nl_0 | exact nl_n | exact nl_x | exact kd_r | exact kd_n | exact kd_x | exact kd_o | exact cats0 | exact cats1 | exact cats2 | exact cats3 | exact cats4 | exact nr_i | exact nr_l | exact nr_z0 | exact nr_z1 | exact ft_i | exact ft_l | omega | rfl | assumption | (refine i_ne0 ?_ ?_ ?_ <;> omega) | (refine j_ne0 ?_ ?_ ?_ <;> omega) | (refine i_new ?_ ?_ <;> omega) | (refine bl_t ?_; with_unfolding_all rfl) | exact ft_z0 | exact ft_z1) only [q_X11_grown_0, q_X11_grown_1, q_X11_grown_2, q_X11_grown_5, q_X11_grown_6, q_X11_grown_9, q_X11_grown_12, q_X11_grown_13, q_X11_grown_14, q_X11_grown_15, q_X11_grown_17, q_X11_grown_20, q_X11_grown_21, q_X11_grown_24, q_X11_grown_27, q_X11_grown_28, q_X11_grown_29, q_X11_grown_30, q_X11_grown_33, q_X11_grown_36, q_X11_grown_37, q_X11_grown_38, q_X11_grown_39, q_X11_grown_40, q_X11_grown_41, q_X11_grown_42, q_X11_grown_43, q_X11_grown_45, q_X11_grown_46, q_X11_grown_48, q_X11_grown_51, q_X11_grown_52, q_X11_grown_53, q_X11_grown_54, q_X11_grown_57, q_X11_grown_58, q_X11_grown_59, q_X11_grown_60, q_X11_grown_61, q_X11_grown_62, q_X11_grown_65, q_X11_grown_66, q_X11_grown_68, q_X11_grown_69, q_X11_grown_71, q_X11_grown_74, q_X11_grown_75, q_X11_grown_76, q_X11_grown_78, q_X11_grown_81, q_X11_grown_82, q_X11_grown_83, q_X11_grown_85, q_X11_grown_87, q_X11_grown_90, q_X11_grown_91, q_X11_grown_93, q_X11_grown_95, q_X11_grown_97, q_X11_grown_100, q_X11_grown_101, q_X11_grown_104, q_X11_grown_105, q_X11_grown_106, q_X11_grown_109, q_X11_grown_110, q_X11_grown_112, q_X11_grown_114, q_X11_grown_117, q_X11_grown_118, q_X11_grown_120, q_X11_grown_121, q_X11_grown_122, n_X11_grown, i_add, i_sub, i_mul, i_neg, i_lt, i_le, i_eq, i_tm, i_div, i_j, j_i, j_add, j_sub, j_mul, j_neg, j_lt, j_le, j_eq, j_div, c_lt, c_le, c_gt, c_ge, c_eq, i_nat, rz_k, Nat.add_zero, Nat.zero_add, Nat.add_assoc, Nat.reduceAdd, if_true, if_false, gf_eq hmr, List.getElem?_cons_zero, List.getElem?_cons_succ, y1, y2, vk_eq hmr, vk_eq hm1, x_in, if_pos hsr, hya, hyr, hB, habs, r1, r2, r3, r4, r5, r6, r7, r8, r9, r10, e4, Int.reduceEq, not_false_eq_true, not_true_eq_false]
  by_cases hs : N < 1000000000
  · obtain ⟨L, hL⟩ := zf_len_ex N
    have hL9 := len_b hL (B := 9) (by omega) (by omega)
    obtain ⟨w1, e1, f1, r1⟩ := x_bpo1 (X := X) (d := d + 24) hN hb1 hb2 hs hL ht
    refine ag_txt (S1 := []) (c1 := 0) (s1 := 0) (w1 := w1) (T := zds L N) ⟨hy, hm, ‹v_slots w kp›, ht, hp, hq, hmi⟩ (hcls _ _ e1) f1 (by simp) (v_misc_fr f1 (by decide) hmi) r1 ⟨by rw [zds_len]; omega, fun c hc => by have := zds_c hc; omega⟩ ?_
    intro wr hf hmr
    obtain ⟨wz, fz, hrt, e2⟩ := hpre wr hf hmr
    obtain ⟨w2, e5, f5, r5⟩ := y_addsNumber (X := X) L N 1 (d + 29) wz [] (by omega) hL.1 hL.2.1 (by omega) (by omega) (by have := hL.1; omega) (by
      rcases hL.2.2 with h | h
      · exact .inl h
      · exact .inr (.inr h)) (by omega) (by simp; omega) hrt
    rw [List.nil_append] at r5
    refine ⟨w2, 0, 0, ?_, fr_trans (fr_sub fz (by decide)) f5, r5, by omega, by omega⟩
    obtain ⟨m5, -⟩ := r5
    obtain ⟨mz, -⟩ := hrt
    rw [e2, Nat.div_eq_of_lt hs, Nat.mod_eq_of_lt hs, q_X11_grown_125]
    simp (disch := first | exact nl_i | exact nl_r | exact nl_0 | exact nl_n | exact nl_x | exact kd_r | exact kd_n | exact kd_x | exact kd_o | exact cats0 | exact cats1 | exact cats2 | exact cats3 | exact cats4 | exact nr_i | exact nr_l | exact nr_z0 | exact nr_z1 | exact ft_i | exact ft_l | omega | rfl | assumption | (refine i_ne0 ?_ ?_ ?_ <;> omega) | (refine j_ne0 ?_ ?_ ?_ <;> omega) | (refine i_new ?_ ?_ <;> omega) | (refine bl_t ?_; with_unfolding_all rfl) | exact ft_z0 | exact ft_z1) only [q_X11_grown_127, q_X11_grown_128, q_X11_grown_129, q_X11_grown_132, q_X11_grown_133, q_X11_grown_135, q_X11_grown_136, q_X11_grown_139, q_X11_grown_140, q_X11_grown_142, q_X11_grown_144, q_X11_grown_147, q_X11_grown_150, q_X11_grown_151, q_X11_grown_153, q_X11_grown_154, q_X11_grown_157, q_X11_grown_158, q_X11_grown_161, i_add, i_sub, i_mul, i_neg, i_lt, i_le, i_eq, i_tm, i_div, i_j, j_i, j_add, j_sub, j_mul, j_neg, j_lt, j_le, j_eq, j_div, c_lt, c_le, c_gt, c_ge, c_eq, i_nat, rz_k, Nat.add_zero, Nat.zero_add, Nat.add_assoc, Nat.reduceAdd, if_true, if_false, vk_eq mz, e5, gf_eq m5, List.getElem?_cons_zero, List.getElem?_cons_succ, Int.natCast_zero, Int.le_refl, if_true]
  · obtain ⟨L, hL⟩ := zf_len_ex (N / 1000000000)
    have hqq := Nat.mul_le_mul (show q ≤ 1000000000 by omega) (show q ≤ 1000000000 by omega)
    have hAqq := Nat.mul_le_mul hA9 hqq
    have hBq := Nat.mul_le_mul hB9 (show q ≤ 1000000000 by omega)
    have hL18 := len_b hL (B := 18) (by omega) (by omega)
    obtain ⟨w1, e1, f1, r1⟩ := x_bpo2 (X := X) (d := d + 24) hN hb1 hb2 (by omega) hL ht
    refine ag_txt (S1 := []) (c1 := 0) (s1 := 0) (w1 := w1) (T := zds L (N / 1000000000) ++ zds 9 (N % 1000000000)) ⟨hy, hm, ‹v_slots w kp›, ht, hp, hq, hmi⟩ (hcls _ _ e1) f1 (by simp) (v_misc_fr f1 (by decide) hmi) r1 ⟨by rw [List.length_append, zds_len, zds_len]; omega, fun c hc => by
      rcases List.mem_append.mp hc with h | h
      · have := zds_c h; omega
      · have := zds_c h; omega⟩ ?_
    intro wr hf hmr
    obtain ⟨wz, fz, hrt, e2⟩ := hpre wr hf hmr
    obtain ⟨w2, e5, f5, r5⟩ := y_addsNumber (X := X) L (N / 1000000000) 1 (d + 29) wz [] (by omega) hL.1 hL.2.1 (by omega) (by omega) (by have := hL.1; omega) (by
      rcases hL.2.2 with h | h
      · exact .inl h
      · exact .inr (.inr h)) (by omega) (by simp; omega) hrt
    rw [List.nil_append] at r5
    obtain ⟨w3, e6, f6, r6⟩ := y_addsNumber (X := X) 9 (N % 1000000000) 9 (d + 29) w2 _ (by omega) (by omega) (by omega) (by omega) (by omega) (by omega) (.inr (.inl rfl)) (by omega) (by rw [zds_len]; omega) r5
    refine ⟨w3, 0, 0, ?_, fr_trans (fr_sub fz (by decide)) (fr_trans f5 f6), r6, by omega, by omega⟩
    obtain ⟨m5, -⟩ := r5
    obtain ⟨m6, -⟩ := r6
    obtain ⟨mz, -⟩ := hrt
    have hpos : ¬ ((N / 1000000000 : Nat) : Int) ≤ 0 := by omega
    have hbh : N / 1000000000 ≤ 9000000000000000000 := by omega
    have hbl : N % 1000000000 ≤ 1000000000 := by omega
    rw [e2, q_X11_grown_125]
    generalize N / 1000000000 = nh at *
    generalize N % 1000000000 = nl at *
    simp (disch := first | exact nl_i | exact nl_r | exact nl_0 | exact nl_n | exact nl_x | exact kd_r | exact kd_n | exact kd_x | exact kd_o | exact cats0 | exact cats1 | exact cats2 | exact cats3 | exact cats4 | exact nr_i | exact nr_l | exact nr_z0 | exact nr_z1 | exact ft_i | exact ft_l | omega | rfl | assumption | (refine i_ne0 ?_ ?_ ?_ <;> omega) | (refine j_ne0 ?_ ?_ ?_ <;> omega) | (refine i_new ?_ ?_ <;> omega) | (refine bl_t ?_; with_unfolding_all rfl) | exact ft_z0 | exact ft_z1) only [q_X11_grown_127, q_X11_grown_128, q_X11_grown_129, q_X11_grown_132, q_X11_grown_133, q_X11_grown_135, q_X11_grown_136, q_X11_grown_139, q_X11_grown_140, q_X11_grown_142, q_X11_grown_144, q_X11_grown_147, q_X11_grown_150, q_X11_grown_151, q_X11_grown_153, q_X11_grown_154, q_X11_grown_157, q_X11_grown_158, q_X11_grown_161, i_add, i_sub, i_mul, i_neg, i_lt, i_le, i_eq, i_tm, i_div, i_j, j_i, j_add, j_sub, j_mul, j_neg, j_lt, j_le, j_eq, j_div, c_lt, c_le, c_gt, c_ge, c_eq, i_nat, rz_k, Nat.add_zero, Nat.zero_add, Nat.add_assoc, Nat.reduceAdd, if_true, if_false, vk_eq mz, e5, vk_eq m5, e6, gf_eq m6, List.getElem?_cons_zero, List.getElem?_cons_succ, if_neg hpos]
end RZGS
