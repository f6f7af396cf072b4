/-! part 97y3: level 2: tiles, of polygons of at most 1600 squares -/
section RZWZ
variable {X : rz_X} {d : Nat} {w w1 : rz_W} {nc ns : Nat} {x y : Nat → Int} {n : Nat} {kp tl kd ty cl th : Int}
/-- the reference, from its look at the sides on -/
theorem y_tiles {fa fb fc : Nat → Int64} {A B C s : Int} (h : v_rp w x y n) (hm : v_model w kp tl kd n 1 0) (h3 : 3 ≤ n) (hup : ∀ k, k < n → zt_upb x y n k = true) (ga : v_la w 34 8 fa) (gb : v_la w 35 8 fb) (gc : v_la w 36 8 fc) (h1 : 0 ≤ s) (h2 : s ≤ 7) (ea : fa s.toNat = Int64.ofInt A) (eb : fb s.toNat = Int64.ofInt B) (ec : fc s.toNat = Int64.ofInt C) (hr : 1 ≤ A ∧ 0 ≤ B ∧ B < C ∧ A * C ≤ 1000000) {l3 l4 : Option Value} : ∃ (b : Bool) (w' : rz_W) (c2 s2 : Nat), rz_G X (d + 3) mz_X11_tiles 116 [some (.ref 32), some (.int (Int32.ofInt s)), some (.int (Int32.ofInt 1)), l3, l4, none, none, none] [] w 0 0 = some (.inl (some (.int (Int32.ofInt (zb b)))), w', c2, s2) ∧ rz_fr [] w w' ∧ c2 ≤ 1 ∧ s2 ≤ 1700 ∧ (b = true ↔ ((zp_area x y n).natAbs : Int) = 2 * (A * C) ∧ zj_D (zj_s x y n) (zj_c A B C) 40 0) := by
  have hA : A ≤ 1000000 := Int.le_trans (by have := Int.mul_le_mul_of_nonneg_left (show (1 : Int) ≤ C by omega) (show 0 ≤ A by omega); omega) hr.2.2.2
  have hC : C ≤ 1000000 := Int.le_trans (by have := Int.mul_le_mul_of_nonneg_right (show (1 : Int) ≤ A by omega) (show 0 ≤ C by omega); omega) hr.2.2.2
  have hAC : 0 ≤ A * C := Int.mul_nonneg (by omega) (by omega)
  have yA := y_area (X := X) (d := d + 1) h
  obtain ⟨kp0, tl0, kd0, cl0, th0, R, S, hm0, h44, h45, hn, hrg, he⟩ := id h
  have hzA := z_area_b (x := x) (y := y) (n := n) hrg n
  have hAb : -9600 ≤ zp_area x y n ∧ zp_area x y n ≤ 9600 := by unfold zp_area; omega
  have habs := x_abs (X := X) (d := d + 2) (w := w) (a := zp_area x y n) (by omega) (by omega)
  have hSb : (zp_area x y n).natAbs ≤ 9600 := by omega
  generalize (zp_area x y n).natAbs = W at *
  have hassoc : 2 * A * C = 2 * (A * C) := Int.mul_assoc 2 A C
  by_cases hS : (W : Int) = 2 * (A * C)
  · have hq32 : w.length ≠ 32 := by have := w_lt hm; omega
    have hq44 : w.length ≠ 44 := by have := w_lt h44; omega
    have hq45 : w.length ≠ 45 := by have := w_lt h45; omega
    have hq : w.length ∉ [32, 44, 45] := by
      intro c
      rcases List.mem_cons.mp c with c | c
      · exact hq32 c
      · rcases List.mem_cons.mp c with c | c
        · exact hq44 c
        · exact hq45 (List.mem_singleton.mp c)
    have fa0 : rz_fr [] w (w ++ [.inl (.int, 1700, .inl fun _ => 0)]) := fr_app
    have hrp1 : v_rp (w ++ [.inl (.int, 1700, .inl fun _ => 0)]) x y n := ⟨_, _, _, _, _, R, S, fr_get fa0 (by decide) hm0, fr_get fa0 (by decide) h44, fr_get fa0 (by decide) h45, hn, hrg, he⟩
    have hAa : v_ia (w ++ [.inl (.int, 1700, .inl fun _ => 0)]) w.length 1700 (fun _ => 0) := w_new
    have hV0 : v_sq (w ++ [.inl (.int, 1700, .inl fun _ => 0)]) w.length (zj_L (zj_s x y n) (40 * 0)) := ⟨_, hAa, fun k e hk => by cases hk⟩
    obtain ⟨w2, l6', f2, ⟨F, hV, hF⟩, e2⟩ := l_yfall (X := X) (d := d) (nc := 1) (ns := 1700) (s := Int32.ofInt s) (up := Int32.ofInt 1) (q := w.length) (l7 := none) hup h3 hq 40 0 _ none (by omega) hrp1 hV0
    have hlen := zj_L_len (sq := zj_s x y n) 1600
    have hmem := zj_mem (sq := zj_s x y n) 1600
    have ff : rz_fr [] w w2 := by
      refine ⟨Nat.le_trans fa0.1 f2.1, fun q hq2 _ => ?_⟩
      have hql : q ∉ [w.length] := fun c => by
        have := List.mem_singleton.mp c
        omega
      have hl1 : q < (w ++ [.inl (.int, 1700, .inl fun _ => 0)] : rz_W).length := by
        rw [List.length_append]
        omega
      rw [f2.2 q hl1 hql, fa0.2 q hq2 (by simp)]
    have hDP := zj_DP (A := A) (B := B) (C := C) (sq := zj_s x y n) hr.1 (show 1 ≤ C by omega)
    obtain ⟨b, e3, hb⟩ := l_prout (X := X) (d := d + 2) (nc := 1) (ns := 1700) (up := Int32.ofInt 1) (L := zj_L (zj_s x y n) 1600) (fr_get ff (by decide) hm) (fr_get ff (by decide) ga) (fr_get ff (by decide) gb) (fr_get ff (by decide) gc) h1 h2 ea eb ec ⟨hr.1, hA⟩ ⟨hr.2.1, by omega⟩ ⟨by omega, hC⟩ hV hF hlen (fun e he => by
      obtain ⟨t, t1, -, t3⟩ := (hmem e).mp he
      omega) (zj_L (zj_s x y n) 1600).length 0 true none (by omega)
    refine ⟨b, w2, 1, 1700, ?_, ff, Nat.le_refl _, Nat.le_refl _, hb.trans ⟨fun H => ⟨hS, hDP.mpr (fun i e c f k1 k2 k3 => H.2 i e c f (Nat.zero_le _) k1 k2 k3)⟩, fun H => ⟨rfl, fun i e c f _ k1 k2 k3 => hDP.mp H.2 i e c f k1 k2 k3⟩⟩⟩
    have e0 : rz_G X (d + 3) mz_X11_tiles 116 [some (.ref 32), some (.int (Int32.ofInt s)), some (.int (Int32.ofInt 1)), l3, l4, none, none, none] [] w 0 0 = rz_G X (d + 3) mz_X11_tiles 160 [some (.ref 32), some (.int (Int32.ofInt s)), some (.int (Int32.ofInt 1)), some (.ref w.length), some (.int (Int32.ofInt ((zj_L (zj_s x y n) (40 * 0)).length : Int))), some (.int (Int32.ofInt (-20 + ((0 : Nat) : Int)))), none, none] [] (w ++ [.inl (.int, 1700, .inl fun _ => 0)]) 1 1700 := by
      simp (disch := first | exact nl_i | exact nl_r | exact nl_0 | exact nl_n | exact nl_x | exact kd_r | exact kd_n | exact kd_x | exact kd_o | exact cats0 | exact cats1 | exact cats2 | exact cats3 | exact cats4 | exact nr_i | exact nr_l | exact nr_z0 | exact nr_z1 | exact ft_i | exact ft_l | omega | rfl | assumption | (refine i_ne0 ?_ ?_ ?_ <;> omega) | (refine j_ne0 ?_ ?_ ?_ <;> omega) | (refine i_new ?_ ?_ <;> omega) | (refine bl_t ?_; with_unfolding_all rfl) | exact ft_z0 | exact ft_z1) only [↓reduceIte, q_X11_tiles_116, q_X11_tiles_119, q_X11_tiles_120, q_X11_tiles_123, q_X11_tiles_124, q_X11_tiles_125, q_X11_tiles_126, q_X11_tiles_127, q_X11_tiles_130, q_X11_tiles_131, q_X11_tiles_132, q_X11_tiles_133, q_X11_tiles_134, q_X11_tiles_137, q_X11_tiles_140, q_X11_tiles_141, q_X11_tiles_142, q_X11_tiles_145, q_X11_tiles_146, q_X11_tiles_147, q_X11_tiles_150, q_X11_tiles_152, q_X11_tiles_153, q_X11_tiles_154, q_X11_tiles_156, q_X11_tiles_158, i_add, i_sub, i_mul, i_neg, i_lt, i_le, i_eq, i_tm, i_div, i_j, j_i, j_add, j_sub, j_mul, j_neg, j_lt, j_le, j_eq, j_div, c_lt, c_le, c_gt, c_ge, c_eq, i_nat, rz_k, Nat.add_zero, Nat.zero_add, Nat.add_assoc, Nat.reduceAdd, if_true, if_false, gf_eq hm, vk_eq hm, List.getElem?_cons_zero, List.getElem?_cons_succ, al_eq ga, al_eq gc, ea, ec, hassoc, yA, habs, eq_true (show 2 * (A * C) = (W : Int) by omega), i_nat, Int.reduceToNat]
      rfl
    rw [e0, e2, ← e3]
    simp (disch := first | exact nl_i | exact nl_r | exact nl_0 | exact nl_n | exact nl_x | exact kd_r | exact kd_n | exact kd_x | exact kd_o | exact cats0 | exact cats1 | exact cats2 | exact cats3 | exact cats4 | exact nr_i | exact nr_l | exact nr_z0 | exact nr_z1 | exact ft_i | exact ft_l | omega | rfl | assumption | (refine i_ne0 ?_ ?_ ?_ <;> omega) | (refine j_ne0 ?_ ?_ ?_ <;> omega) | (refine i_new ?_ ?_ <;> omega) | (refine bl_t ?_; with_unfolding_all rfl) | exact ft_z0 | exact ft_z1) only [q_X11_tiles_236, q_X11_tiles_237, q_X11_tiles_239, q_X11_tiles_240, i_add, i_sub, i_mul, i_neg, i_lt, i_le, i_eq, i_tm, i_div, i_j, j_i, j_add, j_sub, j_mul, j_neg, j_lt, j_le, j_eq, j_div, c_lt, c_le, c_gt, c_ge, c_eq, i_nat, rz_k, Nat.add_zero, Nat.zero_add, Nat.add_assoc, Nat.reduceAdd, if_true, if_false, zb_t]
    rfl
  · refine ⟨false, w, 0, 0, ?_, fr_refl, by omega, by omega, ⟨fun c => (by cases c), fun c => absurd c.1 hS⟩⟩
    simp (disch := first | exact nl_i | exact nl_r | exact nl_0 | exact nl_n | exact nl_x | exact kd_r | exact kd_n | exact kd_x | exact kd_o | exact cats0 | exact cats1 | exact cats2 | exact cats3 | exact cats4 | exact nr_i | exact nr_l | exact nr_z0 | exact nr_z1 | exact ft_i | exact ft_l | omega | rfl | assumption | (refine i_ne0 ?_ ?_ ?_ <;> omega) | (refine j_ne0 ?_ ?_ ?_ <;> omega) | (refine i_new ?_ ?_ <;> omega) | (refine bl_t ?_; with_unfolding_all rfl) | exact ft_z0 | exact ft_z1) only [↓reduceIte, q_X11_tiles_116, q_X11_tiles_119, q_X11_tiles_120, q_X11_tiles_123, q_X11_tiles_124, q_X11_tiles_125, q_X11_tiles_126, q_X11_tiles_127, q_X11_tiles_130, q_X11_tiles_131, q_X11_tiles_132, q_X11_tiles_133, q_X11_tiles_134, q_X11_tiles_137, q_X11_tiles_140, q_X11_tiles_141, q_X11_tiles_142, q_X11_tiles_145, q_X11_tiles_146, i_add, i_sub, i_mul, i_neg, i_lt, i_le, i_eq, i_tm, i_div, i_j, j_i, j_add, j_sub, j_mul, j_neg, j_lt, j_le, j_eq, j_div, c_lt, c_le, c_gt, c_ge, c_eq, i_nat, rz_k, Nat.add_zero, Nat.zero_add, Nat.add_assoc, Nat.reduceAdd, if_true, if_false, gf_eq hm, vk_eq hm, List.getElem?_cons_zero, List.getElem?_cons_succ, al_eq ga, al_eq gc, ea, ec, hassoc, yA, habs, eq_false (show ¬ 2 * (A * C) = (W : Int) by omega), zb_f]
theorem ag_tiles_of (hB : ∀ (x y : Nat → Int) (n : Nat), 3 ≤ n → n ≤ 12 → (∀ k, (-20 ≤ x k ∧ x k ≤ 20) ∧ (-20 ≤ y k ∧ y k ≤ 20)) → zp_ok x y n → ((zp_area x y n).natAbs : Int) ≤ 3200) {s : Int} (hs1 : -2147483648 ≤ s ∧ s ≤ 2147483647) (hv : v_inv w) : rz_ag X d 141 247 true [.int (Int32.ofInt s)] ["java/lang/IndexOutOfBoundsException", "java/lang/IllegalStateException", "java/util/NoSuchElementException", "java/lang/UnsupportedOperationException"] w := by
  obtain ⟨kp, tl, kd, ty, cl, th, hy, hm, hs, ht, hp, hq, hmi⟩ := id hv
  obtain ⟨G, KG, H, KH, KS, KT, A, B, C, KA, KB, KC, ⟨g1, g2, g3, g33, g34, g35, g36, g37, g38, g39, g40, g41⟩, hk, hS, hK⟩ := id hs
  by_cases hc : 0 ≤ s ∧ s ≤ 7
  case neg =>
    refine ag_thr0 (c1 := 1) (s1 := 6) 0 rfl hv hm ?_ ?_
    · simp (disch := first | exact nl_i | exact nl_r | exact nl_0 | exact nl_n | exact nl_x | exact kd_r | exact kd_n | exact kd_x | exact kd_o | exact cats0 | exact cats1 | exact cats2 | exact cats3 | exact cats4 | exact nr_i | exact nr_l | exact nr_z0 | exact nr_z1 | exact ft_i | exact ft_l | omega | rfl | assumption | (refine i_ne0 ?_ ?_ ?_ <;> omega) | (refine j_ne0 ?_ ?_ ?_ <;> omega) | (refine i_new ?_ ?_ <;> omega) | (refine bl_t ?_; with_unfolding_all rfl) | exact ft_z0 | exact ft_z1) only [↓reduceIte, n_X10_tiles, q_X10_tiles_0, q_X10_tiles_1, i_add, i_sub, i_mul, i_neg, i_lt, i_le, i_eq, i_tm, i_div, i_j, j_i, j_add, j_sub, j_mul, j_neg, j_lt, j_le, j_eq, j_div, c_lt, c_le, c_gt, c_ge, c_eq, i_nat, rz_k, Nat.add_zero, Nat.zero_add, Nat.add_assoc, Nat.reduceAdd, if_true, if_false, x_slot, eq_false hc]
      rfl
    · rintro wr hm rfl
      refine ⟨Int32.ofInt 0, [], 0, 0, ?_, by omega, by omega⟩
      have y1 := x_no0 (X := X) (d := d + 28) (k := 1) hm
      have ys := y_isSlot (X := X) (d := d + 27) (w := wr) hs1.1 hs1.2
      rw [if_neg hc] at ys
      simp (disch := first | exact nl_i | exact nl_r | exact nl_0 | exact nl_n | exact nl_x | exact kd_r | exact kd_n | exact kd_x | exact kd_o | exact cats0 | exact cats1 | exact cats2 | exact cats3 | exact cats4 | exact nr_i | exact nr_l | exact nr_z0 | exact nr_z1 | exact ft_i | exact ft_l | omega | rfl | assumption | (refine i_ne0 ?_ ?_ ?_ <;> omega) | (refine j_ne0 ?_ ?_ ?_ <;> omega) | (refine i_new ?_ ?_ <;> omega) | (refine bl_t ?_; with_unfolding_all rfl) | exact ft_z0 | exact ft_z1) only [↓reduceIte, n_X11_tiles, q_X11_tiles_0, q_X11_tiles_1, q_X11_tiles_2, q_X11_tiles_5, q_X11_tiles_6, q_X11_tiles_9, q_X11_tiles_38, q_X11_tiles_39, i_add, i_sub, i_mul, i_neg, i_lt, i_le, i_eq, i_tm, i_div, i_j, j_i, j_add, j_sub, j_mul, j_neg, j_lt, j_le, j_eq, j_div, c_lt, c_le, c_gt, c_ge, c_eq, i_nat, rz_k, Nat.add_zero, Nat.zero_add, Nat.add_assoc, Nat.reduceAdd, if_true, if_false, ys, y1, vk_eq hm, List.append_nil, Int.reduceEq, not_false_eq_true]
      all_goals rfl
  obtain ⟨n, x, y, P, Q, R, S, M, O, L, U, pa, pb, pc, rfl, hn, hcp, g18, g44, g45, hRS, hr, g24, g25, g19, g20, g21, g22, g23, hcl⟩ := v_poly_cp hq
  rcases hcl with rfl | ⟨rfl, hn3, hok, htr⟩
  · refine ag_thr0 (c1 := 1) (s1 := 6) 1 rfl hv hm ?_ ?_
    · simp (disch := first | exact nl_i | exact nl_r | exact nl_0 | exact nl_n | exact nl_x | exact kd_r | exact kd_n | exact kd_x | exact kd_o | exact cats0 | exact cats1 | exact cats2 | exact cats3 | exact cats4 | exact nr_i | exact nr_l | exact nr_z0 | exact nr_z1 | exact ft_i | exact ft_l | omega | rfl | assumption | (refine i_ne0 ?_ ?_ ?_ <;> omega) | (refine j_ne0 ?_ ?_ ?_ <;> omega) | (refine i_new ?_ ?_ <;> omega) | (refine bl_t ?_; with_unfolding_all rfl) | exact ft_z0 | exact ft_z1) only [↓reduceIte, n_X10_tiles, q_X10_tiles_0, q_X10_tiles_1, q_X10_tiles_4, q_X10_tiles_5, i_add, i_sub, i_mul, i_neg, i_lt, i_le, i_eq, i_tm, i_div, i_j, j_i, j_add, j_sub, j_mul, j_neg, j_lt, j_le, j_eq, j_div, c_lt, c_le, c_gt, c_ge, c_eq, i_nat, rz_k, Nat.add_zero, Nat.zero_add, Nat.add_assoc, Nat.reduceAdd, if_true, if_false, x_slot, eq_true hc, vk_eq hy, x_closed0 hy g18 rfl]
      rfl
    · rintro wr hm rfl
      refine ⟨Int32.ofInt 0, [], 0, 0, ?_, by omega, by omega⟩
      have y1 := x_no1 (X := X) (d := d + 28) (k := 1) hm
      have hm1 := v_mo (t := 0) hm
      have y2 := x_no0 (X := X) (d := d + 28) (k := 2) hm1
      rw [mo_mo] at y2
      have ys := y_isSlot (X := X) (d := d + 27) (w := wr) hs1.1 hs1.2
      rw [if_pos hc] at ys
      simp (disch := first | exact nl_i | exact nl_r | exact nl_0 | exact nl_n | exact nl_x | exact kd_r | exact kd_n | exact kd_x | exact kd_o | exact cats0 | exact cats1 | exact cats2 | exact cats3 | exact cats4 | exact nr_i | exact nr_l | exact nr_z0 | exact nr_z1 | exact ft_i | exact ft_l | omega | rfl | assumption | (refine i_ne0 ?_ ?_ ?_ <;> omega) | (refine j_ne0 ?_ ?_ ?_ <;> omega) | (refine i_new ?_ ?_ <;> omega) | (refine bl_t ?_; with_unfolding_all rfl) | exact ft_z0 | exact ft_z1) only [↓reduceIte, n_X11_tiles, q_X11_tiles_0, q_X11_tiles_1, q_X11_tiles_2, q_X11_tiles_5, q_X11_tiles_6, q_X11_tiles_9, q_X11_tiles_12, q_X11_tiles_13, q_X11_tiles_14, q_X11_tiles_17, q_X11_tiles_18, q_X11_tiles_21, q_X11_tiles_38, q_X11_tiles_39, i_add, i_sub, i_mul, i_neg, i_lt, i_le, i_eq, i_tm, i_div, i_j, j_i, j_add, j_sub, j_mul, j_neg, j_lt, j_le, j_eq, j_div, c_lt, c_le, c_gt, c_ge, c_eq, i_nat, rz_k, Nat.add_zero, Nat.zero_add, Nat.add_assoc, Nat.reduceAdd, if_true, if_false, ys, y1, y2, vk_eq hm, vk_eq hm1, gf_eq hm1, List.getElem?_cons_zero, List.getElem?_cons_succ, List.append_nil, Int.reduceEq, not_true_eq_false, not_false_eq_true]
      all_goals rfl
  have hi := hS s.toNat (by omega)
  have hgr := x_gridIn (X := X) (d := d + 27) hy g1 hc.1 hc.2
  cases hg : G s.toNat with
  | none =>
    rw [hg] at hi hgr
    refine ag_thr0 (c1 := 1) (s1 := 6) 2 rfl hv hm ?_ ?_
    · simp (disch := first | exact nl_i | exact nl_r | exact nl_0 | exact nl_n | exact nl_x | exact kd_r | exact kd_n | exact kd_x | exact kd_o | exact cats0 | exact cats1 | exact cats2 | exact cats3 | exact cats4 | exact nr_i | exact nr_l | exact nr_z0 | exact nr_z1 | exact ft_i | exact ft_l | omega | rfl | assumption | (refine i_ne0 ?_ ?_ ?_ <;> omega) | (refine j_ne0 ?_ ?_ ?_ <;> omega) | (refine i_new ?_ ?_ <;> omega) | (refine bl_t ?_; with_unfolding_all rfl) | exact ft_z0 | exact ft_z1) only [↓reduceIte, n_X10_tiles, q_X10_tiles_0, q_X10_tiles_1, q_X10_tiles_4, q_X10_tiles_5, q_X10_tiles_8, q_X10_tiles_9, q_X10_tiles_10, i_add, i_sub, i_mul, i_neg, i_lt, i_le, i_eq, i_tm, i_div, i_j, j_i, j_add, j_sub, j_mul, j_neg, j_lt, j_le, j_eq, j_div, c_lt, c_le, c_gt, c_ge, c_eq, i_nat, rz_k, Nat.add_zero, Nat.zero_add, Nat.add_assoc, Nat.reduceAdd, if_true, if_false, x_slot, eq_true hc, vk_eq hy, x_closed1 hy g18 rfl, hgr]
      rfl
    · rintro wr hm rfl
      refine ⟨Int32.ofInt 0, [], 0, 0, ?_, by omega, by omega⟩
      have y1 := x_no1 (X := X) (d := d + 28) (k := 1) hm
      have hm1 := v_mo (t := 0) hm
      have y2 := x_no1 (X := X) (d := d + 28) (k := 2) hm1
      have y3 := x_no0 (X := X) (d := d + 28) (k := 3) hm1
      rw [mo_mo] at y2 y3
      have hH1 : v_za (wr.set 32 (rz_mo kp tl kd n 1 0)) 33 8 H := fr_get (fr_set (S := [32]) (by decide)) (by decide) g33
      have hi' : H s.toNat = Int32.ofInt 0 := hi
      have ys := y_isSlot (X := X) (d := d + 27) (w := wr) hs1.1 hs1.2
      rw [if_pos hc] at ys
      simp (disch := first | exact nl_i | exact nl_r | exact nl_0 | exact nl_n | exact nl_x | exact kd_r | exact kd_n | exact kd_x | exact kd_o | exact cats0 | exact cats1 | exact cats2 | exact cats3 | exact cats4 | exact nr_i | exact nr_l | exact nr_z0 | exact nr_z1 | exact ft_i | exact ft_l | omega | rfl | assumption | (refine i_ne0 ?_ ?_ ?_ <;> omega) | (refine j_ne0 ?_ ?_ ?_ <;> omega) | (refine i_new ?_ ?_ <;> omega) | (refine bl_t ?_; with_unfolding_all rfl) | exact ft_z0 | exact ft_z1) only [↓reduceIte, n_X11_tiles, q_X11_tiles_0, q_X11_tiles_1, q_X11_tiles_2, q_X11_tiles_5, q_X11_tiles_6, q_X11_tiles_9, q_X11_tiles_12, q_X11_tiles_13, q_X11_tiles_14, q_X11_tiles_17, q_X11_tiles_18, q_X11_tiles_21, q_X11_tiles_24, q_X11_tiles_25, q_X11_tiles_26, q_X11_tiles_29, q_X11_tiles_30, q_X11_tiles_31, q_X11_tiles_32, q_X11_tiles_35, q_X11_tiles_38, q_X11_tiles_39, i_add, i_sub, i_mul, i_neg, i_lt, i_le, i_eq, i_tm, i_div, i_j, j_i, j_add, j_sub, j_mul, j_neg, j_lt, j_le, j_eq, j_div, c_lt, c_le, c_gt, c_ge, c_eq, i_nat, rz_k, Nat.add_zero, Nat.zero_add, Nat.add_assoc, Nat.reduceAdd, if_true, if_false, ys, y1, y2, y3, vk_eq hm, vk_eq hm1, gf_eq hm1, List.getElem?_cons_zero, List.getElem?_cons_succ, az_eq hH1, hi', List.append_nil, Int.reduceEq, not_true_eq_false, not_false_eq_true]
      all_goals rfl
  | some g =>
    rw [hg] at hi hgr
    obtain ⟨hh, hg49, a, b, c, hrr, ho, ea, eb, ec⟩ := hi
    obtain ⟨ub, xu, hub⟩ := x_upr (X := X) (d := d + 26) hcp
    have hs40 : ∀ wr : rz_W, v_model wr kp tl kd n 1 th → v_za wr 33 8 H → rz_ex X (d + 30) 247 [.ref 32, .int (Int32.ofInt s)] wr = rz_G X (d + 29) mz_X11_tiles 44 [some (.ref 32), some (.int (Int32.ofInt s)), some (.int (Int32.ofInt (zb true))), some (.int (Int32.ofInt ((0 : Nat) : Int))), none, none, none, none] [] (wr.set 32 (rz_mo kp tl kd n 1 0)) 0 0 := by
      intro wr hm g33
      have y1 := x_no1 (X := X) (d := d + 28) (k := 1) hm
      have hm1 := v_mo (t := 0) hm
      have y2 := x_no1 (X := X) (d := d + 28) (k := 2) hm1
      have y3 := x_no1 (X := X) (d := d + 28) (k := 3) hm1
      rw [mo_mo] at y2 y3
      have hH1 : v_za (wr.set 32 (rz_mo kp tl kd n 1 0)) 33 8 H := fr_get (fr_set (S := [32]) (by decide)) (by decide) g33
      have ys := y_isSlot (X := X) (d := d + 27) (w := wr) hs1.1 hs1.2
      rw [if_pos hc] at ys
      simp (disch := first | exact nl_i | exact nl_r | exact nl_0 | exact nl_n | exact nl_x | exact kd_r | exact kd_n | exact kd_x | exact kd_o | exact cats0 | exact cats1 | exact cats2 | exact cats3 | exact cats4 | exact nr_i | exact nr_l | exact nr_z0 | exact nr_z1 | exact ft_i | exact ft_l | omega | rfl | assumption | (refine i_ne0 ?_ ?_ ?_ <;> omega) | (refine j_ne0 ?_ ?_ ?_ <;> omega) | (refine i_new ?_ ?_ <;> omega) | (refine bl_t ?_; with_unfolding_all rfl) | exact ft_z0 | exact ft_z1) only [↓reduceIte, n_X11_tiles, q_X11_tiles_0, q_X11_tiles_1, q_X11_tiles_2, q_X11_tiles_5, q_X11_tiles_6, q_X11_tiles_9, q_X11_tiles_12, q_X11_tiles_13, q_X11_tiles_14, q_X11_tiles_17, q_X11_tiles_18, q_X11_tiles_21, q_X11_tiles_24, q_X11_tiles_25, q_X11_tiles_26, q_X11_tiles_29, q_X11_tiles_30, q_X11_tiles_31, q_X11_tiles_32, q_X11_tiles_35, q_X11_tiles_38, q_X11_tiles_39, q_X11_tiles_40, q_X11_tiles_41, q_X11_tiles_42, q_X11_tiles_43, i_add, i_sub, i_mul, i_neg, i_lt, i_le, i_eq, i_tm, i_div, i_j, j_i, j_add, j_sub, j_mul, j_neg, j_lt, j_le, j_eq, j_div, c_lt, c_le, c_gt, c_ge, c_eq, i_nat, rz_k, Nat.add_zero, Nat.zero_add, Nat.add_assoc, Nat.reduceAdd, if_true, if_false, ys, y1, y2, y3, vk_eq hm, vk_eq hm1, gf_eq hm1, List.getElem?_cons_zero, List.getElem?_cons_succ, az_eq hH1, hh, Int.reduceEq, not_true_eq_false, not_false_eq_true, zb_t]
      rfl
    cases ub
    · rw [zb_f] at xu
      have hnu : ¬ ∀ k, k < n → zt_upb x y n k = true := fun c => by have := hub.mpr c; cases this
      refine ag_thr0 (c1 := 1) (s1 := 6) 3 rfl hv hm ?_ ?_
      · simp (disch := first | exact nl_i | exact nl_r | exact nl_0 | exact nl_n | exact nl_x | exact kd_r | exact kd_n | exact kd_x | exact kd_o | exact cats0 | exact cats1 | exact cats2 | exact cats3 | exact cats4 | exact nr_i | exact nr_l | exact nr_z0 | exact nr_z1 | exact ft_i | exact ft_l | omega | rfl | assumption | (refine i_ne0 ?_ ?_ ?_ <;> omega) | (refine j_ne0 ?_ ?_ ?_ <;> omega) | (refine i_new ?_ ?_ <;> omega) | (refine bl_t ?_; with_unfolding_all rfl) | exact ft_z0 | exact ft_z1) only [↓reduceIte, n_X10_tiles, q_X10_tiles_0, q_X10_tiles_1, q_X10_tiles_4, q_X10_tiles_5, q_X10_tiles_8, q_X10_tiles_9, q_X10_tiles_10, q_X10_tiles_13, q_X10_tiles_14, q_X10_tiles_15, q_X10_tiles_18, q_X10_tiles_21, q_X10_tiles_24, i_add, i_sub, i_mul, i_neg, i_lt, i_le, i_eq, i_tm, i_div, i_j, j_i, j_add, j_sub, j_mul, j_neg, j_lt, j_le, j_eq, j_div, c_lt, c_le, c_gt, c_ge, c_eq, i_nat, rz_k, Nat.add_zero, Nat.zero_add, Nat.add_assoc, Nat.reduceAdd, if_true, if_false, x_slot, eq_true hc, vk_eq hy, gf_eq hy, vk_eq g18, List.getElem?_cons_zero, List.getElem?_cons_succ, x_closed1 hy g18 rfl, hgr, xu, not_true_eq_false]
      · rintro wr hm rfl
        refine ⟨Int32.ofInt 0, [], 0, 0, ?_, by omega, by omega⟩
        have hm1 := v_mo (t := 0) hm
        have hf1 : rz_fr [32] wr (wr.set 32 (rz_mo kp tl kd n 1 0)) := fr_set (by decide)
        have hrp : v_rp (wr.set 32 (rz_mo kp tl kd n 1 0)) x y n := ⟨_, _, _, _, _, R, S, hm1, fr_get hf1 (by decide) g44, fr_get hf1 (by decide) g45, hn, hr, hRS⟩
        obtain ⟨b', l3', l4', e, hb⟩ := l_yup (X := X) (d := d + 27) (nc := 0) (ns := 0) (s := Int32.ofInt s) hrp n 0 true none none none none (by omega)
        have : b' = false := by
          cases b'
          · rfl
          · exact absurd (fun k hk => (hb.mp rfl).2 k (Nat.zero_le _) hk) hnu
        rw [this] at e
        have y4 := x_no0 (X := X) (d := d + 28) (k := 4) hm1
        rw [mo_mo] at y4
        rw [hs40 wr hm g33, e, zb_f]
        simp (disch := first | exact nl_i | exact nl_r | exact nl_0 | exact nl_n | exact nl_x | exact kd_r | exact kd_n | exact kd_x | exact kd_o | exact cats0 | exact cats1 | exact cats2 | exact cats3 | exact cats4 | exact nr_i | exact nr_l | exact nr_z0 | exact nr_z1 | exact ft_i | exact ft_l | omega | rfl | assumption | (refine i_ne0 ?_ ?_ ?_ <;> omega) | (refine j_ne0 ?_ ?_ ?_ <;> omega) | (refine i_new ?_ ?_ <;> omega) | (refine bl_t ?_; with_unfolding_all rfl) | exact ft_z0 | exact ft_z1) only [↓reduceIte, q_X11_tiles_107, q_X11_tiles_108, q_X11_tiles_109, q_X11_tiles_110, q_X11_tiles_113, q_X11_tiles_116, q_X11_tiles_119, q_X11_tiles_120, q_X11_tiles_123, q_X11_tiles_124, q_X11_tiles_125, q_X11_tiles_126, q_X11_tiles_127, q_X11_tiles_130, q_X11_tiles_131, q_X11_tiles_132, q_X11_tiles_133, q_X11_tiles_134, q_X11_tiles_137, q_X11_tiles_140, q_X11_tiles_141, q_X11_tiles_142, q_X11_tiles_145, q_X11_tiles_146, i_add, i_sub, i_mul, i_neg, i_lt, i_le, i_eq, i_tm, i_div, i_j, j_i, j_add, j_sub, j_mul, j_neg, j_lt, j_le, j_eq, j_div, c_lt, c_le, c_gt, c_ge, c_eq, i_nat, rz_k, Nat.add_zero, Nat.zero_add, Nat.add_assoc, Nat.reduceAdd, if_true, if_false, y4, vk_eq hm1, List.append_nil, Int.reduceEq, not_true_eq_false, not_false_eq_true]
        all_goals rfl
    · rw [zb_t] at xu
      have hup := hub.mp rfl
      obtain ⟨b, w1, M', f1, h24, e1, hb⟩ := x_fills (X := X) (d := d + 24) hrr (hB x y n hn3 hn hr hok) hg49 hcp ho g24
      have hmw1 : v_model w1 kp tl kd n 1 th := fr_get f1 (by decide) hm
      have hv1 : v_inv w1 := by
        refine ⟨kp, tl, kd, n, 1, th, fr_get f1 (by decide) hy, hmw1, v_slots_fr f1 (by decide) hs, v_text_fr f1 (by decide) (by decide) (by decide) ht, v_purse_fr f1 (by decide) hp, ?_, v_misc_fr f1 (by decide) hmi⟩
        obtain ⟨cl0, a0, P0, Q0, h18, h22, h23, -, -, he0⟩ := id hcp
        refine ⟨x, y, P0, Q0, R, S, M', O, L, U, pa, pb, pc, ⟨fr_get f1 (by decide) g18, fr_get f1 (by decide) g19, fr_get f1 (by decide) g20, fr_get f1 (by decide) g21, fr_get f1 (by decide) h22, fr_get f1 (by decide) h23, h24, fr_get f1 (by decide) g25, fr_get f1 (by decide) g44, fr_get f1 (by decide) g45⟩, ⟨by omega, by omega⟩, fun k => ⟨hr k, fun hk => ⟨(he0 k (by omega)).1, (he0 k (by omega)).2, (hRS k (by omega)).1, (hRS k (by omega)).2⟩⟩, .inr ⟨rfl, by omega, hok, htr⟩⟩
      refine ag_retv (S2 := []) (r := Int32.ofInt (zb b)) (c1 := 0) (s1 := 0) hv1 hmw1 ?_ (fun q h => by cases h) ?_ ?_
      · cases b <;> simp (disch := first | exact nl_i | exact nl_r | exact nl_0 | exact nl_n | exact nl_x | exact kd_r | exact kd_n | exact kd_x | exact kd_o | exact cats0 | exact cats1 | exact cats2 | exact cats3 | exact cats4 | exact nr_i | exact nr_l | exact nr_z0 | exact nr_z1 | exact ft_i | exact ft_l | omega | rfl | assumption | (refine i_ne0 ?_ ?_ ?_ <;> omega) | (refine j_ne0 ?_ ?_ ?_ <;> omega) | (refine i_new ?_ ?_ <;> omega) | (refine bl_t ?_; with_unfolding_all rfl) | exact ft_z0 | exact ft_z1) only [↓reduceIte, n_X10_tiles, q_X10_tiles_0, q_X10_tiles_1, q_X10_tiles_4, q_X10_tiles_5, q_X10_tiles_8, q_X10_tiles_9, q_X10_tiles_10, q_X10_tiles_13, q_X10_tiles_14, q_X10_tiles_15, q_X10_tiles_18, q_X10_tiles_21, q_X10_tiles_24, q_X10_tiles_35, q_X10_tiles_36, q_X10_tiles_39, q_X10_tiles_40, q_X10_tiles_43, i_add, i_sub, i_mul, i_neg, i_lt, i_le, i_eq, i_tm, i_div, i_j, j_i, j_add, j_sub, j_mul, j_neg, j_lt, j_le, j_eq, j_div, c_lt, c_le, c_gt, c_ge, c_eq, i_nat, rz_k, Nat.add_zero, Nat.zero_add, Nat.add_assoc, Nat.reduceAdd, if_true, if_false, x_slot, eq_true hc, vk_eq hy, gf_eq hy, vk_eq g18, List.getElem?_cons_zero, List.getElem?_cons_succ, x_closed1 hy g18 rfl, hgr, xu, Int.reduceEq, not_false_eq_true, e1, zb_t, zb_f]
      · intro _
        cases b
        · exact .inl rfl
        · exact .inr rfl
      · intro wr hf hmr hvr
        have fw : rz_fr [24, 48] w wr := fr_trans (fr_sub f1 (by decide)) (fr_sub hf (by decide))
        have hm1 := v_mo (t := 0) hmr
        have hf1 : rz_fr [24, 48, 32] w (wr.set 32 (rz_mo kp tl kd n 1 0)) := fr_trans (fr_sub fw (by decide)) (fr_set (by decide))
        have hrp : v_rp (wr.set 32 (rz_mo kp tl kd n 1 0)) x y n := ⟨_, _, _, _, _, R, S, hm1, fr_get hf1 (by decide) g44, fr_get hf1 (by decide) g45, hn, hr, hRS⟩
        obtain ⟨b', l3', l4', e, hb'⟩ := l_yup (X := X) (d := d + 27) (nc := 0) (ns := 0) (s := Int32.ofInt s) hrp n 0 true none none none none (by omega)
        have hbt : b' = true := hb'.mpr ⟨rfl, fun k _ hk => hup k hk⟩
        rw [hbt] at e
        have y4 := x_no1 (X := X) (d := d + 28) (k := 4) hm1
        rw [mo_mo] at y4
        obtain ⟨b2, w2, c2, s2, e2, f2, hc2, hs2, hb2⟩ := y_tiles (X := X) (d := d + 26) (s := s) (l3 := l3') (l4 := l4') hrp hm1 hn3 hup (fr_get hf1 (by decide) g34) (fr_get hf1 (by decide) g35) (fr_get hf1 (by decide) g36) hc.1 hc.2 ea eb ec hrr
        have hbb : b2 = b := Bool.eq_iff_iff.mpr (hb2.trans hb.symm)
        rw [hbb] at e2
        have ff : rz_fr [32] wr w2 := fr_trans (fr_set (by decide)) (fr_sub f2 (by decide))
        refine ⟨w2, c2, s2, ?_, ff, fr_get f2 (by decide) hm1, v_misc_fr (S := [32]) ff (by decide) (v_inv_misc hvr), by omega, by omega⟩
        rw [hs40 wr hmr (fr_get fw (by decide) g33), e, ← e2, zb_t]
        simp (disch := first | exact nl_i | exact nl_r | exact nl_0 | exact nl_n | exact nl_x | exact kd_r | exact kd_n | exact kd_x | exact kd_o | exact cats0 | exact cats1 | exact cats2 | exact cats3 | exact cats4 | exact nr_i | exact nr_l | exact nr_z0 | exact nr_z1 | exact ft_i | exact ft_l | omega | rfl | assumption | (refine i_ne0 ?_ ?_ ?_ <;> omega) | (refine j_ne0 ?_ ?_ ?_ <;> omega) | (refine i_new ?_ ?_ <;> omega) | (refine bl_t ?_; with_unfolding_all rfl) | exact ft_z0 | exact ft_z1) only [↓reduceIte, q_X11_tiles_107, q_X11_tiles_108, q_X11_tiles_109, q_X11_tiles_110, q_X11_tiles_113, i_add, i_sub, i_mul, i_neg, i_lt, i_le, i_eq, i_tm, i_div, i_j, j_i, j_add, j_sub, j_mul, j_neg, j_lt, j_le, j_eq, j_div, c_lt, c_le, c_gt, c_ge, c_eq, i_nat, rz_k, Nat.add_zero, Nat.zero_add, Nat.add_assoc, Nat.reduceAdd, if_true, if_false, y4, vk_eq hm1, Int.reduceEq, not_true_eq_false, not_false_eq_true]
end RZWZ
