/-! part 97v: level 2: triangleAt, of a polygon that is cut into all its triangles -/
section RZWU
variable {X : rz_X} {d : Nat} {w w1 : rz_W} {nc ns : Nat} {x y : Nat → Int} {n : Nat} {kp tl kd ty cl th : Int}
theorem y_tri {i k : Nat} {t : Nat × Nat × Nat} (h : v_rp w x y n) (h3 : 3 ≤ n) (hk : k ≤ 2) (hl : (zp_tri x y n).length = n - 2) (ht : (zp_tri x y n)[i]? = some t) (hi : i ≤ 100) : ∃ l : rz_W, rz_G X (d + 2) mz_X11_triangleAt 50 [some (.ref 32), some (.int (Int32.ofInt (i : Int))), some (.int (Int32.ofInt (k : Int))), none, none, none, none, none, none] [] w nc ns = some (.inl (some (.int (Int32.ofInt ((zt_pick t k : Nat) : Int)))), w ++ l, nc + 1, ns + 12) := by
  obtain ⟨kp, tl, kd, cl, th, R, S, hm, h44, h45, hn, hr, he⟩ := id h
  have hq32 : w.length ≠ 32 := by have := w_lt hm; omega
  have hq44 : w.length ≠ 44 := by have := w_lt h44; omega
  have hq45 : w.length ≠ 45 := by have := w_lt h45; omega
  have hq : w.length ∉ [32, 44, 45] := by
    intro c
    rcases List.mem_cons.mp c with c | c
    · exact hq32 c
    · rcases List.mem_cons.mp c with c | c
      · exact hq44 c
      · exact hq45 (List.mem_singleton.mp c)
  have fa : rz_fr [] w (w ++ [.inl (.int, 12, .inl fun _ => 0)]) := fr_app
  have hAa : v_ia (w ++ [.inl (.int, 12, .inl fun _ => 0)]) w.length 12 (fun _ => 0) := w_new
  have hma : v_model (w ++ [.inl (.int, 12, .inl fun _ => 0)]) kp tl kd n cl th := fr_get fa (by decide) hm
  obtain ⟨w1, F1, e1, f1, a1, a2⟩ := l_tfill (X := X) (d := d + 2) (nc := nc + 1) (ns := ns + 12) (q := w.length) (i := Int32.ofInt (i : Int)) (k := Int32.ofInt (k : Int)) hn n (w ++ [.inl (.int, 12, .inl fun _ => 0)]) 0 (fun _ => 0) none none none none (by omega) hma hq32 hAa (fun e he => by omega)
  have hne : ∀ c, c ∈ [32, 44, 45] → c ∉ [w.length] := fun c hc hc2 => hq (List.mem_singleton.mp hc2 ▸ hc)
  have hrp1 : v_rp w1 x y n := ⟨kp, tl, kd, cl, th, R, S, fr_get f1 (hne _ (by decide)) (fr_get fa (by decide) hm), fr_get f1 (hne _ (by decide)) (fr_get fa (by decide) h44), fr_get f1 (hne _ (by decide)) (fr_get fa (by decide) h45), hn, hr, he⟩
  have hV : v_l w1 w.length (List.range n) := by
    refine ⟨F1, a1, fun c e hc => ?_⟩
    have hcn := (List.getElem?_eq_some_iff.mp hc).1
    rw [List.length_range] at hcn
    rw [List.getElem?_range hcn] at hc
    rw [← Option.some.inj hc]
    exact a2 c hcn
  unfold zp_tri at hl ht
  obtain ⟨w2, e2, f2⟩ := l_tround (X := X) (d := d) (nc := nc + 1) (ns := ns + 12) (q := w.length) (k := k) (x := x) (y := y) (n := n) hk hq (n - 3) w1 0 i (List.range n) t none none (by rw [List.length_range]; omega) hrp1 hV (by rw [List.length_range]; exact hn) (fun e he => List.mem_range.mp he) (by omega) ht (by omega)
  have ff : rz_fr [] w w2 := by
    refine ⟨Nat.le_trans fa.1 (Nat.le_trans f1.1 f2.1), fun q hq2 _ => ?_⟩
    have hql : q ∉ [w.length] := fun c => by
      have := List.mem_singleton.mp c
      omega
    have hl1 : q < (w ++ [.inl (.int, 12, .inl fun _ => 0)] : rz_W).length := by
      rw [List.length_append]
      omega
    rw [f2.2 q (Nat.lt_of_lt_of_le hl1 f1.1) hql, f1.2 q hl1 hql, fa.2 q hq2 (by simp)]
  have hw2 : ∃ l, w2 = w ++ l := by
    refine ⟨w2.drop w.length, ?_⟩
    refine List.ext_getElem? (fun q => ?_)
    by_cases hq2 : q < w.length
    · rw [ff.2 q hq2 (by simp), List.getElem?_append_left hq2]
    · rw [List.getElem?_append_right (by omega), List.getElem?_drop, show w.length + (q - w.length) = q by omega]
  obtain ⟨l, hl2⟩ := hw2
  refine ⟨l, ?_⟩
  rw [← hl2, ← e2]
  have yA := y_area (X := X) (d := d) hrp1
  obtain ⟨kp1, tl1, kd1, cl1, th1, R1, S1, hm1, -⟩ := id hrp1
  have h50 : rz_G X (d + 2) mz_X11_triangleAt 50 [some (.ref 32), some (.int (Int32.ofInt (i : Int))), some (.int (Int32.ofInt (k : Int))), none, none, none, none, none, none] [] w nc ns = rz_G X (d + 2) mz_X11_triangleAt 58 [some (.ref 32), some (.int (Int32.ofInt (i : Int))), some (.int (Int32.ofInt (k : Int))), some (.ref w.length), some (.int (Int32.ofInt ((0 : Nat) : Int))), none, none, none, none] [] (w ++ [.inl (.int, 12, .inl fun _ => 0)]) (nc + 1) (ns + 12) := by
    simp (disch := first | exact nl_i | exact nl_r | exact nl_0 | exact nl_n | exact nl_x | exact kd_r | exact kd_n | exact kd_x | exact kd_o | exact cats0 | exact cats1 | exact cats2 | exact cats3 | exact cats4 | exact nr_i | exact nr_l | exact nr_z0 | exact nr_z1 | exact ft_i | exact ft_l | omega | rfl | assumption | (refine i_ne0 ?_ ?_ ?_ <;> omega) | (refine j_ne0 ?_ ?_ ?_ <;> omega) | (refine i_new ?_ ?_ <;> omega) | (refine bl_t ?_; with_unfolding_all rfl) | exact ft_z0 | exact ft_z1) only [q_X11_triangleAt_50, q_X11_triangleAt_52, q_X11_triangleAt_54, q_X11_triangleAt_55, q_X11_triangleAt_56, i_add, i_sub, i_mul, i_neg, i_lt, i_le, i_eq, i_tm, i_div, i_j, j_i, j_add, j_sub, j_mul, j_neg, j_lt, j_le, j_eq, j_div, c_lt, c_le, c_gt, c_ge, c_eq, i_nat, rz_k, Nat.add_zero, Nat.zero_add, Nat.add_assoc, Nat.reduceAdd, if_true, if_false, i_nat, Int.reduceToNat]
    rfl
  rw [h50, e1]
  simp (disch := first | exact nl_i | exact nl_r | exact nl_0 | exact nl_n | exact nl_x | exact kd_r | exact kd_n | exact kd_x | exact kd_o | exact cats0 | exact cats1 | exact cats2 | exact cats3 | exact cats4 | exact nr_i | exact nr_l | exact nr_z0 | exact nr_z1 | exact ft_i | exact ft_l | omega | rfl | assumption | (refine i_ne0 ?_ ?_ ?_ <;> omega) | (refine j_ne0 ?_ ?_ ?_ <;> omega) | (refine i_new ?_ ?_ <;> omega) | (refine bl_t ?_; with_unfolding_all rfl) | exact ft_z0 | exact ft_z1) only [q_X11_triangleAt_79, q_X11_triangleAt_80, q_X11_triangleAt_83, q_X11_triangleAt_85, q_X11_triangleAt_86, q_X11_triangleAt_89, q_X11_triangleAt_91, q_X11_triangleAt_92, i_add, i_sub, i_mul, i_neg, i_lt, i_le, i_eq, i_tm, i_div, i_j, j_i, j_add, j_sub, j_mul, j_neg, j_lt, j_le, j_eq, j_div, c_lt, c_le, c_gt, c_ge, c_eq, i_nat, rz_k, Nat.add_zero, Nat.zero_add, Nat.add_assoc, Nat.reduceAdd, if_true, if_false, vk_eq hm1, gf_eq hm1, List.getElem?_cons_zero, List.getElem?_cons_succ, yA, List.length_range, Nat.zero_add]
  rfl
theorem ag_triangleAt_of (hT : ∀ (x y : Nat → Int) (n : Nat), 3 ≤ n → n ≤ 12 → (∀ k, (-20 ≤ x k ∧ x k ≤ 20) ∧ (-20 ≤ y k ∧ y k ≤ 20)) → zp_ok x y n → (zp_tri x y n).length = n - 2) {i k : Int} (hi : -2147483648 ≤ i ∧ i ≤ 2147483647) (hk : -2147483648 ≤ k ∧ k ≤ 2147483647) (hv : v_inv w) : rz_ag X d 140 246 false [.int (Int32.ofInt i), .int (Int32.ofInt k)] ["java/lang/IllegalStateException", "java/util/NoSuchElementException"] w := by
  obtain ⟨kp, tl, kd, ty, cl, th, hy, hm, hs, ht, hp, hq, hmi⟩ := id hv
  obtain ⟨n, x, y, P, Q, R, S, M, O, L, U, pa, pb, pc, rfl, hn, hcp, g18, g44, g45, hRS, hr, g24, g25, g19, g20, g21, g22, g23, hcl⟩ := v_poly_cp hq
  rcases hcl with rfl | ⟨rfl, hn3, hok, htr⟩
  · refine ag_thr0 (c1 := 1) (s1 := 6) 0 rfl hv hm ?_ ?_
    · simp (disch := first | exact nl_i | exact nl_r | exact nl_0 | exact nl_n | exact nl_x | exact kd_r | exact kd_n | exact kd_x | exact kd_o | exact cats0 | exact cats1 | exact cats2 | exact cats3 | exact cats4 | exact nr_i | exact nr_l | exact nr_z0 | exact nr_z1 | exact ft_i | exact ft_l | omega | rfl | assumption | (refine i_ne0 ?_ ?_ ?_ <;> omega) | (refine j_ne0 ?_ ?_ ?_ <;> omega) | (refine i_new ?_ ?_ <;> omega) | (refine bl_t ?_; with_unfolding_all rfl) | exact ft_z0 | exact ft_z1) only [↓reduceIte, n_X10_triangleAt, q_X10_triangleAt_0, q_X10_triangleAt_1, i_add, i_sub, i_mul, i_neg, i_lt, i_le, i_eq, i_tm, i_div, i_j, j_i, j_add, j_sub, j_mul, j_neg, j_lt, j_le, j_eq, j_div, c_lt, c_le, c_gt, c_ge, c_eq, i_nat, rz_k, Nat.add_zero, Nat.zero_add, Nat.add_assoc, Nat.reduceAdd, if_true, if_false, vk_eq hy, x_closed0 hy g18 rfl]
      rfl
    · rintro wr hm rfl
      refine ⟨Int32.ofInt 0, [], 0, 0, ?_, by omega, by omega⟩
      have y1 := x_no0 (X := X) (d := d + 28) (k := 1) hm
      simp (disch := first | exact nl_i | exact nl_r | exact nl_0 | exact nl_n | exact nl_x | exact kd_r | exact kd_n | exact kd_x | exact kd_o | exact cats0 | exact cats1 | exact cats2 | exact cats3 | exact cats4 | exact nr_i | exact nr_l | exact nr_z0 | exact nr_z1 | exact ft_i | exact ft_l | omega | rfl | assumption | (refine i_ne0 ?_ ?_ ?_ <;> omega) | (refine j_ne0 ?_ ?_ ?_ <;> omega) | (refine i_new ?_ ?_ <;> omega) | (refine bl_t ?_; with_unfolding_all rfl) | exact ft_z0 | exact ft_z1) only [↓reduceIte, n_X11_triangleAt, q_X11_triangleAt_0, q_X11_triangleAt_1, q_X11_triangleAt_2, q_X11_triangleAt_5, q_X11_triangleAt_6, q_X11_triangleAt_9, q_X11_triangleAt_48, q_X11_triangleAt_49, i_add, i_sub, i_mul, i_neg, i_lt, i_le, i_eq, i_tm, i_div, i_j, j_i, j_add, j_sub, j_mul, j_neg, j_lt, j_le, j_eq, j_div, c_lt, c_le, c_gt, c_ge, c_eq, i_nat, rz_k, Nat.add_zero, Nat.zero_add, Nat.add_assoc, Nat.reduceAdd, if_true, if_false, gf_eq hm, List.getElem?_cons_zero, List.getElem?_cons_succ, y1, vk_eq hm, List.append_nil, Int.reduceEq, not_false_eq_true]
      all_goals rfl
  have hl := hT x y n hn3 hn hr hok
  by_cases hin : (0 ≤ i ∧ i ≤ (n : Int) - 3) ∧ (0 ≤ k ∧ k ≤ 2)
  case neg =>
    refine ag_thr0 (c1 := 1) (s1 := 6) 1 rfl hv hm ?_ ?_
    · by_cases c1 : i < 0
      · simp (disch := first | exact nl_i | exact nl_r | exact nl_0 | exact nl_n | exact nl_x | exact kd_r | exact kd_n | exact kd_x | exact kd_o | exact cats0 | exact cats1 | exact cats2 | exact cats3 | exact cats4 | exact nr_i | exact nr_l | exact nr_z0 | exact nr_z1 | exact ft_i | exact ft_l | omega | rfl | assumption | (refine i_ne0 ?_ ?_ ?_ <;> omega) | (refine j_ne0 ?_ ?_ ?_ <;> omega) | (refine i_new ?_ ?_ <;> omega) | (refine bl_t ?_; with_unfolding_all rfl) | exact ft_z0 | exact ft_z1) only [↓reduceIte, n_X10_triangleAt, q_X10_triangleAt_0, q_X10_triangleAt_1, q_X10_triangleAt_4, q_X10_triangleAt_5, q_X10_triangleAt_8, q_X10_triangleAt_9, q_X10_triangleAt_10, q_X10_triangleAt_13, q_X10_triangleAt_16, q_X10_triangleAt_17, q_X10_triangleAt_18, q_X10_triangleAt_21, q_X10_triangleAt_22, q_X10_triangleAt_25, q_X10_triangleAt_26, q_X10_triangleAt_27, q_X10_triangleAt_30, i_add, i_sub, i_mul, i_neg, i_lt, i_le, i_eq, i_tm, i_div, i_j, j_i, j_add, j_sub, j_mul, j_neg, j_lt, j_le, j_eq, j_div, c_lt, c_le, c_gt, c_ge, c_eq, i_nat, rz_k, Nat.add_zero, Nat.zero_add, Nat.add_assoc, Nat.reduceAdd, if_true, if_false, vk_eq hy, x_closed1 hy g18 rfl, eq_true c1]
      by_cases c2 : (n : Int) - 2 ≤ i
      · simp (disch := first | exact nl_i | exact nl_r | exact nl_0 | exact nl_n | exact nl_x | exact kd_r | exact kd_n | exact kd_x | exact kd_o | exact cats0 | exact cats1 | exact cats2 | exact cats3 | exact cats4 | exact nr_i | exact nr_l | exact nr_z0 | exact nr_z1 | exact ft_i | exact ft_l | omega | rfl | assumption | (refine i_ne0 ?_ ?_ ?_ <;> omega) | (refine j_ne0 ?_ ?_ ?_ <;> omega) | (refine i_new ?_ ?_ <;> omega) | (refine bl_t ?_; with_unfolding_all rfl) | exact ft_z0 | exact ft_z1) only [↓reduceIte, n_X10_triangleAt, q_X10_triangleAt_0, q_X10_triangleAt_1, q_X10_triangleAt_4, q_X10_triangleAt_5, q_X10_triangleAt_8, q_X10_triangleAt_9, q_X10_triangleAt_10, q_X10_triangleAt_13, q_X10_triangleAt_16, q_X10_triangleAt_17, q_X10_triangleAt_18, q_X10_triangleAt_21, q_X10_triangleAt_22, q_X10_triangleAt_25, q_X10_triangleAt_26, q_X10_triangleAt_27, q_X10_triangleAt_30, i_add, i_sub, i_mul, i_neg, i_lt, i_le, i_eq, i_tm, i_div, i_j, j_i, j_add, j_sub, j_mul, j_neg, j_lt, j_le, j_eq, j_div, c_lt, c_le, c_gt, c_ge, c_eq, i_nat, rz_k, Nat.add_zero, Nat.zero_add, Nat.add_assoc, Nat.reduceAdd, if_true, if_false, vk_eq hy, x_closed1 hy g18 rfl, eq_false c1, gf_eq hy, gf_eq g18, List.getElem?_cons_zero, List.getElem?_cons_succ, eq_true c2]
      by_cases c3 : k < 0
      · simp (disch := first | exact nl_i | exact nl_r | exact nl_0 | exact nl_n | exact nl_x | exact kd_r | exact kd_n | exact kd_x | exact kd_o | exact cats0 | exact cats1 | exact cats2 | exact cats3 | exact cats4 | exact nr_i | exact nr_l | exact nr_z0 | exact nr_z1 | exact ft_i | exact ft_l | omega | rfl | assumption | (refine i_ne0 ?_ ?_ ?_ <;> omega) | (refine j_ne0 ?_ ?_ ?_ <;> omega) | (refine i_new ?_ ?_ <;> omega) | (refine bl_t ?_; with_unfolding_all rfl) | exact ft_z0 | exact ft_z1) only [↓reduceIte, n_X10_triangleAt, q_X10_triangleAt_0, q_X10_triangleAt_1, q_X10_triangleAt_4, q_X10_triangleAt_5, q_X10_triangleAt_8, q_X10_triangleAt_9, q_X10_triangleAt_10, q_X10_triangleAt_13, q_X10_triangleAt_16, q_X10_triangleAt_17, q_X10_triangleAt_18, q_X10_triangleAt_21, q_X10_triangleAt_22, q_X10_triangleAt_25, q_X10_triangleAt_26, q_X10_triangleAt_27, q_X10_triangleAt_30, i_add, i_sub, i_mul, i_neg, i_lt, i_le, i_eq, i_tm, i_div, i_j, j_i, j_add, j_sub, j_mul, j_neg, j_lt, j_le, j_eq, j_div, c_lt, c_le, c_gt, c_ge, c_eq, i_nat, rz_k, Nat.add_zero, Nat.zero_add, Nat.add_assoc, Nat.reduceAdd, if_true, if_false, vk_eq hy, x_closed1 hy g18 rfl, eq_false c1, gf_eq hy, gf_eq g18, List.getElem?_cons_zero, List.getElem?_cons_succ, eq_false c2, eq_true c3]
      simp (disch := first | exact nl_i | exact nl_r | exact nl_0 | exact nl_n | exact nl_x | exact kd_r | exact kd_n | exact kd_x | exact kd_o | exact cats0 | exact cats1 | exact cats2 | exact cats3 | exact cats4 | exact nr_i | exact nr_l | exact nr_z0 | exact nr_z1 | exact ft_i | exact ft_l | omega | rfl | assumption | (refine i_ne0 ?_ ?_ ?_ <;> omega) | (refine j_ne0 ?_ ?_ ?_ <;> omega) | (refine i_new ?_ ?_ <;> omega) | (refine bl_t ?_; with_unfolding_all rfl) | exact ft_z0 | exact ft_z1) only [↓reduceIte, n_X10_triangleAt, q_X10_triangleAt_0, q_X10_triangleAt_1, q_X10_triangleAt_4, q_X10_triangleAt_5, q_X10_triangleAt_8, q_X10_triangleAt_9, q_X10_triangleAt_10, q_X10_triangleAt_13, q_X10_triangleAt_16, q_X10_triangleAt_17, q_X10_triangleAt_18, q_X10_triangleAt_21, q_X10_triangleAt_22, q_X10_triangleAt_25, q_X10_triangleAt_26, q_X10_triangleAt_27, q_X10_triangleAt_30, i_add, i_sub, i_mul, i_neg, i_lt, i_le, i_eq, i_tm, i_div, i_j, j_i, j_add, j_sub, j_mul, j_neg, j_lt, j_le, j_eq, j_div, c_lt, c_le, c_gt, c_ge, c_eq, i_nat, rz_k, Nat.add_zero, Nat.zero_add, Nat.add_assoc, Nat.reduceAdd, if_true, if_false, vk_eq hy, x_closed1 hy g18 rfl, eq_false c1, gf_eq hy, gf_eq g18, List.getElem?_cons_zero, List.getElem?_cons_succ, eq_false c2, eq_false c3, eq_false (show ¬ k ≤ 2 by omega)]
    · rintro wr hm rfl
      refine ⟨Int32.ofInt 0, [], 0, 0, ?_, by omega, by omega⟩
      have y1 := x_no1 (X := X) (d := d + 28) (k := 1) hm
      have hm1 := v_mo (t := 0) hm
      have y2 := x_no0 (X := X) (d := d + 28) (k := 2) hm1
      rw [mo_mo] at y2
      have j1 := x_in (X := X) (d := d + 28) (w := wr.set 32 (rz_mo kp tl kd n 1 0)) (a := i) (b := 0) (c := (n : Int) - 3) (by omega) (by omega) (by omega) (by omega) (by omega) (by omega)
      have j2 := x_in (X := X) (d := d + 28) (w := wr.set 32 (rz_mo kp tl kd n 1 0)) (a := k) (b := 0) (c := 2) (by omega) (by omega) (by omega) (by omega) (by omega) (by omega)
      by_cases c1 : 0 ≤ i ∧ i ≤ (n : Int) - 3
      · have c2 : ¬ (0 ≤ k ∧ k ≤ 2) := fun c => hin ⟨c1, c⟩
        rw [if_pos c1] at j1
        rw [if_neg c2] at j2
        simp (disch := first | exact nl_i | exact nl_r | exact nl_0 | exact nl_n | exact nl_x | exact kd_r | exact kd_n | exact kd_x | exact kd_o | exact cats0 | exact cats1 | exact cats2 | exact cats3 | exact cats4 | exact nr_i | exact nr_l | exact nr_z0 | exact nr_z1 | exact ft_i | exact ft_l | omega | rfl | assumption | (refine i_ne0 ?_ ?_ ?_ <;> omega) | (refine j_ne0 ?_ ?_ ?_ <;> omega) | (refine i_new ?_ ?_ <;> omega) | (refine bl_t ?_; with_unfolding_all rfl) | exact ft_z0 | exact ft_z1) only [↓reduceIte, n_X11_triangleAt, q_X11_triangleAt_0, q_X11_triangleAt_1, q_X11_triangleAt_2, q_X11_triangleAt_5, q_X11_triangleAt_6, q_X11_triangleAt_9, q_X11_triangleAt_12, q_X11_triangleAt_13, q_X11_triangleAt_14, q_X11_triangleAt_15, q_X11_triangleAt_16, q_X11_triangleAt_19, q_X11_triangleAt_20, q_X11_triangleAt_21, q_X11_triangleAt_24, q_X11_triangleAt_27, q_X11_triangleAt_28, q_X11_triangleAt_29, q_X11_triangleAt_30, q_X11_triangleAt_33, q_X11_triangleAt_36, q_X11_triangleAt_37, q_X11_triangleAt_40, q_X11_triangleAt_41, q_X11_triangleAt_42, q_X11_triangleAt_45, q_X11_triangleAt_48, q_X11_triangleAt_49, i_add, i_sub, i_mul, i_neg, i_lt, i_le, i_eq, i_tm, i_div, i_j, j_i, j_add, j_sub, j_mul, j_neg, j_lt, j_le, j_eq, j_div, c_lt, c_le, c_gt, c_ge, c_eq, i_nat, rz_k, Nat.add_zero, Nat.zero_add, Nat.add_assoc, Nat.reduceAdd, if_true, if_false, gf_eq hm, List.getElem?_cons_zero, List.getElem?_cons_succ, y1, y2, j1, j2, vk_eq hm, vk_eq hm1, gf_eq hm1, List.append_nil, Int.reduceEq, not_true_eq_false, not_false_eq_true]
        all_goals rfl
      · rw [if_neg c1] at j1
        simp (disch := first | exact nl_i | exact nl_r | exact nl_0 | exact nl_n | exact nl_x | exact kd_r | exact kd_n | exact kd_x | exact kd_o | exact cats0 | exact cats1 | exact cats2 | exact cats3 | exact cats4 | exact nr_i | exact nr_l | exact nr_z0 | exact nr_z1 | exact ft_i | exact ft_l | omega | rfl | assumption | (refine i_ne0 ?_ ?_ ?_ <;> omega) | (refine j_ne0 ?_ ?_ ?_ <;> omega) | (refine i_new ?_ ?_ <;> omega) | (refine bl_t ?_; with_unfolding_all rfl) | exact ft_z0 | exact ft_z1) only [↓reduceIte, n_X11_triangleAt, q_X11_triangleAt_0, q_X11_triangleAt_1, q_X11_triangleAt_2, q_X11_triangleAt_5, q_X11_triangleAt_6, q_X11_triangleAt_9, q_X11_triangleAt_12, q_X11_triangleAt_13, q_X11_triangleAt_14, q_X11_triangleAt_15, q_X11_triangleAt_16, q_X11_triangleAt_19, q_X11_triangleAt_20, q_X11_triangleAt_21, q_X11_triangleAt_24, q_X11_triangleAt_27, q_X11_triangleAt_28, q_X11_triangleAt_29, q_X11_triangleAt_30, q_X11_triangleAt_33, q_X11_triangleAt_36, q_X11_triangleAt_37, q_X11_triangleAt_40, q_X11_triangleAt_41, q_X11_triangleAt_42, q_X11_triangleAt_45, q_X11_triangleAt_48, q_X11_triangleAt_49, i_add, i_sub, i_mul, i_neg, i_lt, i_le, i_eq, i_tm, i_div, i_j, j_i, j_add, j_sub, j_mul, j_neg, j_lt, j_le, j_eq, j_div, c_lt, c_le, c_gt, c_ge, c_eq, i_nat, rz_k, Nat.add_zero, Nat.zero_add, Nat.add_assoc, Nat.reduceAdd, if_true, if_false, gf_eq hm, List.getElem?_cons_zero, List.getElem?_cons_succ, y1, y2, j1, vk_eq hm, vk_eq hm1, gf_eq hm1, List.append_nil, Int.reduceEq, not_true_eq_false, not_false_eq_true]
        all_goals rfl
  obtain ⟨⟨i1, i2⟩, k1, k2⟩ := hin
  obtain ⟨i, rfl⟩ := Int.eq_ofNat_of_zero_le i1
  obtain ⟨k, rfl⟩ := Int.eq_ofNat_of_zero_le k1
  have hil : i < (zp_tri x y n).length := by omega
  have hget : (zp_tri x y n)[i]? = some (zp_tri x y n)[i] := List.getElem?_eq_getElem hil
  generalize (zp_tri x y n)[i] = t at *
  have hC := htr i t hget
  have hU : U (3 * i + k) = Int32.ofInt ((zt_pick t k : Nat) : Int) := by
    unfold zt_pick
    rcases (show k = 0 ∨ k = 1 ∨ k = 2 by omega) with rfl | rfl | rfl
    · exact hC.1
    · exact hC.2.1
    · exact hC.2.2
  refine ag_ret0 (r := Int32.ofInt ((zt_pick t k : Nat) : Int)) (c1 := 0) (s1 := 0) hv hm ?_ (fun h => by cases h) ?_
  · simp (disch := first | exact nl_i | exact nl_r | exact nl_0 | exact nl_n | exact nl_x | exact kd_r | exact kd_n | exact kd_x | exact kd_o | exact cats0 | exact cats1 | exact cats2 | exact cats3 | exact cats4 | exact nr_i | exact nr_l | exact nr_z0 | exact nr_z1 | exact ft_i | exact ft_l | omega | rfl | assumption | (refine i_ne0 ?_ ?_ ?_ <;> omega) | (refine j_ne0 ?_ ?_ ?_ <;> omega) | (refine i_new ?_ ?_ <;> omega) | (refine bl_t ?_; with_unfolding_all rfl) | exact ft_z0 | exact ft_z1) only [↓reduceIte, n_X10_triangleAt, q_X10_triangleAt_0, q_X10_triangleAt_1, q_X10_triangleAt_4, q_X10_triangleAt_5, q_X10_triangleAt_8, q_X10_triangleAt_9, q_X10_triangleAt_10, q_X10_triangleAt_13, q_X10_triangleAt_16, q_X10_triangleAt_17, q_X10_triangleAt_18, q_X10_triangleAt_21, q_X10_triangleAt_22, q_X10_triangleAt_25, q_X10_triangleAt_26, q_X10_triangleAt_27, q_X10_triangleAt_30, q_X10_triangleAt_41, q_X10_triangleAt_42, q_X10_triangleAt_45, q_X10_triangleAt_48, q_X10_triangleAt_49, q_X10_triangleAt_50, q_X10_triangleAt_53, n_X2_cornerOf, q_X2_cornerOf_0, q_X2_cornerOf_1, q_X2_cornerOf_2, q_X2_cornerOf_3, q_X2_cornerOf_4, q_X2_cornerOf_5, q_X2_cornerOf_6, q_X2_cornerOf_7, q_X2_cornerOf_10, q_X2_cornerOf_11, q_X2_cornerOf_12, q_X2_cornerOf_15, q_X2_cornerOf_15x, q_X2_cornerOf_16, q_X2_cornerOf_19, q_X2_cornerOf_20, q_X2_cornerOf_23, q_X2_cornerOf_24, q_X2_cornerOf_24x, q_X2_cornerOf_25, q_X2_cornerOf_28, q_X2_cornerOf_29, i_add, i_sub, i_mul, i_neg, i_lt, i_le, i_eq, i_tm, i_div, i_j, j_i, j_add, j_sub, j_mul, j_neg, j_lt, j_le, j_eq, j_div, c_lt, c_le, c_gt, c_ge, c_eq, i_nat, rz_k, Nat.add_zero, Nat.zero_add, Nat.add_assoc, Nat.reduceAdd, if_true, if_false, vk_eq hy, x_closed1 hy g18 rfl, eq_false (show ¬ (i : Int) < 0 by omega), gf_eq hy, gf_eq g18, vk_eq g19, gf_eq g19, List.getElem?_cons_zero, List.getElem?_cons_succ, eq_false (show ¬ (n : Int) - 2 ≤ (i : Int) by omega), eq_false (show ¬ (k : Int) < 0 by omega), eq_true (show (k : Int) ≤ 2 by omega), eq_false (show ¬ 3 * (i : Int) + (k : Int) < 0 by omega), ln_eq g21, eq_false (show ¬ ((36 : Nat) : Int) ≤ 3 * (i : Int) + (k : Int) by omega), ai_eq g21, show (3 * (i : Int) + (k : Int)).toNat = 3 * i + k by omega, hU]
  · intro wr hf hmr hv'
    have y1 := x_no1 (X := X) (d := d + 28) (k := 1) hmr
    have hm1 := v_mo (t := 0) hmr
    have hf1 : rz_fr [48, 32] w (wr.set 32 (rz_mo kp tl kd n 1 0)) := fr_trans (fr_sub hf (by decide)) (fr_set (by decide))
    have hrp : v_rp (wr.set 32 (rz_mo kp tl kd n 1 0)) x y n := ⟨_, _, _, _, _, R, S, hm1, fr_get hf1 (by decide) g44, fr_get hf1 (by decide) g45, hn, hr, hRS⟩
    have y2 := x_no1 (X := X) (d := d + 28) (k := 2) hm1
    rw [mo_mo] at y2
    have j1 := x_in (X := X) (d := d + 28) (w := wr.set 32 (rz_mo kp tl kd n 1 0)) (a := (i : Int)) (b := 0) (c := (n : Int) - 3) (by omega) (by omega) (by omega) (by omega) (by omega) (by omega)
    have j2 := x_in (X := X) (d := d + 28) (w := wr.set 32 (rz_mo kp tl kd n 1 0)) (a := (k : Int)) (b := 0) (c := 2) (by omega) (by omega) (by omega) (by omega) (by omega) (by omega)
    rw [if_pos ⟨by omega, by omega⟩] at j1 j2
    obtain ⟨l, el⟩ := y_tri (X := X) (d := d + 27) (nc := 0) (ns := 0) hrp hn3 (show k ≤ 2 by omega) hl hget (by omega)
    refine ⟨l, 0 + 1, 0 + 12, ?_, by omega, by omega⟩
    rw [← el]
    simp (disch := first | exact nl_i | exact nl_r | exact nl_0 | exact nl_n | exact nl_x | exact kd_r | exact kd_n | exact kd_x | exact kd_o | exact cats0 | exact cats1 | exact cats2 | exact cats3 | exact cats4 | exact nr_i | exact nr_l | exact nr_z0 | exact nr_z1 | exact ft_i | exact ft_l | omega | rfl | assumption | (refine i_ne0 ?_ ?_ ?_ <;> omega) | (refine j_ne0 ?_ ?_ ?_ <;> omega) | (refine i_new ?_ ?_ <;> omega) | (refine bl_t ?_; with_unfolding_all rfl) | exact ft_z0 | exact ft_z1) only [↓reduceIte, n_X11_triangleAt, q_X11_triangleAt_0, q_X11_triangleAt_1, q_X11_triangleAt_2, q_X11_triangleAt_5, q_X11_triangleAt_6, q_X11_triangleAt_9, q_X11_triangleAt_12, q_X11_triangleAt_13, q_X11_triangleAt_14, q_X11_triangleAt_15, q_X11_triangleAt_16, q_X11_triangleAt_19, q_X11_triangleAt_20, q_X11_triangleAt_21, q_X11_triangleAt_24, q_X11_triangleAt_27, q_X11_triangleAt_28, q_X11_triangleAt_29, q_X11_triangleAt_30, q_X11_triangleAt_33, q_X11_triangleAt_36, q_X11_triangleAt_37, q_X11_triangleAt_40, q_X11_triangleAt_41, q_X11_triangleAt_42, q_X11_triangleAt_45, q_X11_triangleAt_48, q_X11_triangleAt_49, i_add, i_sub, i_mul, i_neg, i_lt, i_le, i_eq, i_tm, i_div, i_j, j_i, j_add, j_sub, j_mul, j_neg, j_lt, j_le, j_eq, j_div, c_lt, c_le, c_gt, c_ge, c_eq, i_nat, rz_k, Nat.add_zero, Nat.zero_add, Nat.add_assoc, Nat.reduceAdd, if_true, if_false, gf_eq hmr, List.getElem?_cons_zero, List.getElem?_cons_succ, y1, y2, j1, j2, vk_eq hmr, vk_eq hm1, gf_eq hm1, Int.reduceEq, not_true_eq_false, not_false_eq_true]
end RZWU
