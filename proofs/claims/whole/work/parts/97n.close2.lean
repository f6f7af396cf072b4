/-! part 97n: level 2: close: the reference's sides, the same as the class's -/
section RZWM
variable {X : rz_X} {d : Nat} {w w1 : rz_W} {nc ns : Nat} {x y : Nat → Int} {n : Nat} {kp tl kd ty cl th : Int}
theorem zc_k {p u q v a b : Int} (h : p * v - q * u = 0) (hs : 0 < p * q + u * v) : (0 < a * u - b * p ↔ 0 < a * v - b * q) := by
  have e : (a * u - b * p) * (q * q + v * v) = (a * v - b * q) * (p * q + u * v) - (p * v - q * u) * (a * q + b * v) := by grind
  rw [h, Int.zero_mul, Int.sub_zero] at e
  have hq : 0 < q * q + v * v := by
    have a1 := zr_sqn q
    have a2 := zr_sqn v
    rcases Int.lt_or_le 0 (q * q + v * v) with h1 | h1
    · exact h1
    · have q0 := zr_sq (show q * q ≤ 0 by omega)
      have v0 := zr_sq (show v * v ≤ 0 by omega)
      rw [q0, v0, Int.mul_zero, Int.mul_zero] at hs
      omega
  generalize a * u - b * p = A at *
  generalize a * v - b * q = B at *
  constructor
  · intro hA
    have h1 := Int.mul_pos hA hq
    rcases Int.lt_or_le 0 B with h2 | h2
    · exact h2
    · have := Int.mul_nonpos_of_nonpos_of_nonneg h2 (Int.le_of_lt hs)
      omega
  · intro hB
    have h1 := Int.mul_pos hB hs
    rcases Int.lt_or_le 0 A with h2 | h2
    · exact h2
    · have := Int.mul_nonpos_of_nonpos_of_nonneg h2 (Int.le_of_lt hq)
      omega
theorem zc_off {i k : Nat} (h : zc_on x y n i k = false) (h0 : zp_turn x y i (zp_nx n i) k = 0) : 0 < (x i - x k) * (x (zp_nx n i) - x k) + (y i - y k) * (y (zp_nx n i) - y k) := by
  have h1 := of_decide_eq_false h
  have e : (x i - x k) * (y (zp_nx n i) - y k) - (x (zp_nx n i) - x k) * (y i - y k) = 0 := by
    rw [← h0]
    unfold zp_turn
    grind
  have ha := zw_along e
  rcases Int.lt_or_le 0 ((x i - x k) * (x (zp_nx n i) - x k) + (y i - y k) * (y (zp_nx n i) - y k)) with h2 | h2
  · exact h2
  · exfalso
    obtain ⟨a1, a2⟩ := ha.mp h2
    exact h1 ⟨h0, ⟨by omega, by omega⟩, ⟨by omega, by omega⟩⟩
theorem zc_cross {i j : Nat} (n1 : zc_on x y n i j = false) (n2 : zc_on x y n i (zp_nx n j) = false) (n3 : zc_on x y n j i = false) (n4 : zc_on x y n j (zp_nx n i) = false) : (¬ (0 < zp_turn x y i (zp_nx n i) j ↔ 0 < zp_turn x y i (zp_nx n i) (zp_nx n j)) ∧ ¬ (0 < zp_turn x y j (zp_nx n j) i ↔ 0 < zp_turn x y j (zp_nx n j) (zp_nx n i))) ↔ (zc_crs x y n i j (zp_nx n j) && zc_crs x y n j i (zp_nx n i)) = true := by
  have m1 := zc_off n1
  have m2 := zc_off n2
  have m3 := zc_off n3
  have m4 := zc_off n4
  rw [Bool.and_eq_true, zc_crs_iff, zc_crs_iff]
  unfold zp_crs
  have c1 : zp_turn x y i (zp_nx n i) j = 0 → (0 < zp_turn x y j (zp_nx n j) i ↔ 0 < zp_turn x y j (zp_nx n j) (zp_nx n i)) := by
    intro h0
    have h := zc_k (a := x (zp_nx n j) - x j) (b := y (zp_nx n j) - y j) (p := x i - x j) (u := y i - y j) (q := x (zp_nx n i) - x j) (v := y (zp_nx n i) - y j) (by rw [← h0]; unfold zp_turn; grind) (m1 h0)
    have e1 : zp_turn x y j (zp_nx n j) i = (x (zp_nx n j) - x j) * (y i - y j) - (y (zp_nx n j) - y j) * (x i - x j) := rfl
    have e2 : zp_turn x y j (zp_nx n j) (zp_nx n i) = (x (zp_nx n j) - x j) * (y (zp_nx n i) - y j) - (y (zp_nx n j) - y j) * (x (zp_nx n i) - x j) := rfl
    rw [e1, e2]
    exact h
  have c2 : zp_turn x y i (zp_nx n i) (zp_nx n j) = 0 → (0 < zp_turn x y j (zp_nx n j) i ↔ 0 < zp_turn x y j (zp_nx n j) (zp_nx n i)) := by
    intro h0
    have h := zc_k (a := x (zp_nx n j) - x j) (b := y (zp_nx n j) - y j) (p := x i - x (zp_nx n j)) (u := y i - y (zp_nx n j)) (q := x (zp_nx n i) - x (zp_nx n j)) (v := y (zp_nx n i) - y (zp_nx n j)) (by rw [← h0]; unfold zp_turn; grind) (m2 h0)
    have e1 : zp_turn x y j (zp_nx n j) i = (x (zp_nx n j) - x j) * (y i - y (zp_nx n j)) - (y (zp_nx n j) - y j) * (x i - x (zp_nx n j)) := by unfold zp_turn; grind
    have e2 : zp_turn x y j (zp_nx n j) (zp_nx n i) = (x (zp_nx n j) - x j) * (y (zp_nx n i) - y (zp_nx n j)) - (y (zp_nx n j) - y j) * (x (zp_nx n i) - x (zp_nx n j)) := by unfold zp_turn; grind
    rw [e1, e2]
    exact h
  have c3 : zp_turn x y j (zp_nx n j) i = 0 → (0 < zp_turn x y i (zp_nx n i) j ↔ 0 < zp_turn x y i (zp_nx n i) (zp_nx n j)) := by
    intro h0
    have h := zc_k (a := x (zp_nx n i) - x i) (b := y (zp_nx n i) - y i) (p := x j - x i) (u := y j - y i) (q := x (zp_nx n j) - x i) (v := y (zp_nx n j) - y i) (by rw [← h0]; unfold zp_turn; grind) (m3 h0)
    have e1 : zp_turn x y i (zp_nx n i) j = (x (zp_nx n i) - x i) * (y j - y i) - (y (zp_nx n i) - y i) * (x j - x i) := rfl
    have e2 : zp_turn x y i (zp_nx n i) (zp_nx n j) = (x (zp_nx n i) - x i) * (y (zp_nx n j) - y i) - (y (zp_nx n i) - y i) * (x (zp_nx n j) - x i) := rfl
    rw [e1, e2]
    exact h
  have c4 : zp_turn x y j (zp_nx n j) (zp_nx n i) = 0 → (0 < zp_turn x y i (zp_nx n i) j ↔ 0 < zp_turn x y i (zp_nx n i) (zp_nx n j)) := by
    intro h0
    have h := zc_k (a := x (zp_nx n i) - x i) (b := y (zp_nx n i) - y i) (p := x j - x (zp_nx n i)) (u := y j - y (zp_nx n i)) (q := x (zp_nx n j) - x (zp_nx n i)) (v := y (zp_nx n j) - y (zp_nx n i)) (by rw [← h0]; unfold zp_turn; grind) (m4 h0)
    have e1 : zp_turn x y i (zp_nx n i) j = (x (zp_nx n i) - x i) * (y j - y (zp_nx n i)) - (y (zp_nx n i) - y i) * (x j - x (zp_nx n i)) := by unfold zp_turn; grind
    have e2 : zp_turn x y i (zp_nx n i) (zp_nx n j) = (x (zp_nx n i) - x i) * (y (zp_nx n j) - y (zp_nx n i)) - (y (zp_nx n i) - y i) * (x (zp_nx n j) - x (zp_nx n i)) := by unfold zp_turn; grind
    rw [e1, e2]
    exact h
  clear m1 m2 m3 m4 n1 n2 n3 n4
  generalize zp_turn x y i (zp_nx n i) j = T1 at *
  generalize zp_turn x y i (zp_nx n i) (zp_nx n j) = T2 at *
  generalize zp_turn x y j (zp_nx n j) i = T3 at *
  generalize zp_turn x y j (zp_nx n j) (zp_nx n i) = T4 at *
  omega
theorem zc_ons (i k : Nat) : zw_ons x y n (x k) (y k) 1 i = zc_on x y n i k := by
  unfold zw_ons zc_on zp_turn
  refine decide_eq_decide.mpr ?_
  have e : (1 * x i - x k) * (1 * y (zp_nx n i) - y k) - (1 * x (zp_nx n i) - x k) * (1 * y i - y k) = (x (zp_nx n i) - x i) * (y k - y i) - (y (zp_nx n i) - y i) * (x k - x i) := by grind
  show ((1 * x i - x k) * (1 * y (zp_nx n i) - y k) - (1 * x (zp_nx n i) - x k) * (1 * y i - y k) = 0 ∧ _) ↔ _
  rw [e]
  constructor
  · rintro ⟨h1, h2, h3⟩
    exact ⟨h1, ⟨by omega, by omega⟩, ⟨by omega, by omega⟩⟩
  · rintro ⟨h1, h2, h3⟩
    exact ⟨h1, ⟨by omega, by omega⟩, ⟨by omega, by omega⟩⟩
theorem y_meets (h : v_rp w x y n) {i j : Nat} (hi : i < n) (hj : j < n) : rz_ex X (d + 3) 233 [.ref 32, .int (Int32.ofInt (i : Int)), .int (Int32.ofInt (j : Int))] w = some (.inl (some (.int (Int32.ofInt (zb (zc_meet x y n i j))))), w, 0, 0) := by
  have hni := nx_lt hi
  have hnj := nx_lt hj
  have k1 := y_nx (X := X) (d := d + 1) h hi
  have k2 := y_nx (X := X) (d := d + 1) h hj
  have t1 := y_pturn (X := X) (d := d + 1) h hi hni hj
  have t2 := y_pturn (X := X) (d := d + 1) h hi hni hnj
  have t3 := y_pturn (X := X) (d := d + 1) h hj hnj hi
  have t4 := y_pturn (X := X) (d := d + 1) h hj hnj hni
  obtain ⟨kp, tl, kd, cl, th, R, S, hm, h44, h45, hn, hr, he⟩ := id h
  have o1 := y_pon (X := X) (d := d) h hi (hr j).1 (hr j).2
  have o2 := y_pon (X := X) (d := d) h hi (hr (zp_nx n j)).1 (hr (zp_nx n j)).2
  have o3 := y_pon (X := X) (d := d) h hj (hr i).1 (hr i).2
  have o4 := y_pon (X := X) (d := d) h hj (hr (zp_nx n i)).1 (hr (zp_nx n i)).2
  have r1 := he i hi
  have r2 := he j hj
  have r3 := he _ hni
  have r4 := he _ hnj
  have b1 := hr i
  have b2 := hr j
  have b3 := hr (zp_nx n i)
  have b4 := hr (zp_nx n j)
  have bt1 := z_turn_b hr i (zp_nx n i) j
  have bt2 := z_turn_b hr i (zp_nx n i) (zp_nx n j)
  have bt3 := z_turn_b hr j (zp_nx n j) i
  have bt4 := z_turn_b hr j (zp_nx n j) (zp_nx n i)
  rw [zc_ons] at o1 o2 o3 o4
  have hc := @zc_cross x y n i j
  unfold zc_meet
  generalize zc_on x y n i j = p1 at *
  generalize zc_on x y n i (zp_nx n j) = p2 at *
  generalize zc_on x y n j i = p3 at *
  generalize zc_on x y n j (zp_nx n i) = p4 at *
  generalize (zc_crs x y n i j (zp_nx n j) && zc_crs x y n j i (zp_nx n i)) = C at *
  cases p1
  · cases p2
    · cases p3
      · cases p4
        · have hc := hc rfl rfl rfl rfl
          generalize zp_turn x y i (zp_nx n i) j = T1 at *
          generalize zp_turn x y i (zp_nx n i) (zp_nx n j) = T2 at *
          generalize zp_turn x y j (zp_nx n j) i = T3 at *
          generalize zp_turn x y j (zp_nx n j) (zp_nx n i) = T4 at *
          have hpre : rz_ex X (d + 3) 233 [.ref 32, .int (Int32.ofInt (i : Int)), .int (Int32.ofInt (j : Int))] w = rz_G X (d + 2) mz_X11_doMeet 105 [some (.ref 32), some (.int (Int32.ofInt (i : Int))), some (.int (Int32.ofInt (j : Int))), some (.int (Int32.ofInt ((zp_nx n i : Nat) : Int))), some (.int (Int32.ofInt ((zp_nx n j : Nat) : Int))), none] [] w 0 0 := by
            simp (disch := first | exact nl_i | exact nl_r | exact nl_0 | exact nl_n | exact nl_x | exact kd_r | exact kd_n | exact kd_x | exact kd_o | exact cats0 | exact cats1 | exact cats2 | exact cats3 | exact cats4 | exact nr_i | exact nr_l | exact nr_z0 | exact nr_z1 | exact ft_i | exact ft_l | omega | rfl | assumption | (refine i_ne0 ?_ ?_ ?_ <;> omega) | (refine j_ne0 ?_ ?_ ?_ <;> omega) | (refine i_new ?_ ?_ <;> omega) | (refine bl_t ?_; with_unfolding_all rfl) | exact ft_z0 | exact ft_z1) only [↓reduceIte, n_X11_doMeet, q_X11_doMeet_0, q_X11_doMeet_1, q_X11_doMeet_2, q_X11_doMeet_5, q_X11_doMeet_6, q_X11_doMeet_7, q_X11_doMeet_8, q_X11_doMeet_11, q_X11_doMeet_13, q_X11_doMeet_14, q_X11_doMeet_15, q_X11_doMeet_16, q_X11_doMeet_19, q_X11_doMeet_20, q_X11_doMeet_20x, q_X11_doMeet_21, q_X11_doMeet_22, q_X11_doMeet_23, q_X11_doMeet_26, q_X11_doMeet_27, q_X11_doMeet_27x, q_X11_doMeet_28, q_X11_doMeet_29, q_X11_doMeet_32, q_X11_doMeet_35, q_X11_doMeet_36, q_X11_doMeet_37, q_X11_doMeet_38, q_X11_doMeet_41, q_X11_doMeet_43, q_X11_doMeet_43x, q_X11_doMeet_44, q_X11_doMeet_45, q_X11_doMeet_46, q_X11_doMeet_49, q_X11_doMeet_51, q_X11_doMeet_51x, q_X11_doMeet_52, q_X11_doMeet_53, q_X11_doMeet_56, q_X11_doMeet_59, q_X11_doMeet_60, q_X11_doMeet_61, q_X11_doMeet_62, q_X11_doMeet_65, q_X11_doMeet_66, q_X11_doMeet_66x, q_X11_doMeet_67, q_X11_doMeet_68, q_X11_doMeet_69, q_X11_doMeet_72, q_X11_doMeet_73, q_X11_doMeet_73x, q_X11_doMeet_74, q_X11_doMeet_75, q_X11_doMeet_78, q_X11_doMeet_81, q_X11_doMeet_82, q_X11_doMeet_83, q_X11_doMeet_84, q_X11_doMeet_87, q_X11_doMeet_88, q_X11_doMeet_88x, q_X11_doMeet_89, q_X11_doMeet_90, q_X11_doMeet_91, q_X11_doMeet_94, q_X11_doMeet_95, q_X11_doMeet_95x, q_X11_doMeet_96, q_X11_doMeet_97, q_X11_doMeet_100, q_X11_doMeet_103, q_X11_doMeet_104, i_add, i_sub, i_mul, i_neg, i_lt, i_le, i_eq, i_tm, i_div, i_j, j_i, j_add, j_sub, j_mul, j_neg, j_lt, j_le, j_eq, j_div, c_lt, c_le, c_gt, c_ge, c_eq, i_nat, rz_k, Nat.add_zero, Nat.zero_add, Nat.add_assoc, Nat.reduceAdd, if_true, if_false, vk_eq hm, gf_eq hm, List.getElem?_cons_zero, List.getElem?_cons_succ, ai_eq h44, ai_eq h45, Int.toNat_natCast, r1, r2, r3, r4, k1, k2, o1, o2, o3, o4, zb_f, not_true_eq_false]
          rw [hpre]
          rw [Bool.or_false, Bool.or_false, Bool.or_false, Bool.false_or]
          by_cases a1 : T1 ≤ 0 <;> by_cases a2 : T2 ≤ 0
          · have hC : C = false := by
              cases C
              · rfl
              · have := hc.mpr rfl
                omega
            rw [hC, zb_f]
            simp (disch := first | exact nl_i | exact nl_r | exact nl_0 | exact nl_n | exact nl_x | exact kd_r | exact kd_n | exact kd_x | exact kd_o | exact cats0 | exact cats1 | exact cats2 | exact cats3 | exact cats4 | exact nr_i | exact nr_l | exact nr_z0 | exact nr_z1 | exact ft_i | exact ft_l | omega | rfl | assumption | (refine i_ne0 ?_ ?_ ?_ <;> omega) | (refine j_ne0 ?_ ?_ ?_ <;> omega) | (refine i_new ?_ ?_ <;> omega) | (refine bl_t ?_; with_unfolding_all rfl) | exact ft_z0 | exact ft_z1) only [↓reduceIte, q_X11_doMeet_105, q_X11_doMeet_106, q_X11_doMeet_107, q_X11_doMeet_108, q_X11_doMeet_109, q_X11_doMeet_112, q_X11_doMeet_115, q_X11_doMeet_116, q_X11_doMeet_119, q_X11_doMeet_120, q_X11_doMeet_121, q_X11_doMeet_122, q_X11_doMeet_123, q_X11_doMeet_125, q_X11_doMeet_128, q_X11_doMeet_131, q_X11_doMeet_132, q_X11_doMeet_135, q_X11_doMeet_136, q_X11_doMeet_139, q_X11_doMeet_140, q_X11_doMeet_143, q_X11_doMeet_144, q_X11_doMeet_146, q_X11_doMeet_148, q_X11_doMeet_151, q_X11_doMeet_152, q_X11_doMeet_153, q_X11_doMeet_155, q_X11_doMeet_156, q_X11_doMeet_159, q_X11_doMeet_162, q_X11_doMeet_163, q_X11_doMeet_166, q_X11_doMeet_167, q_X11_doMeet_168, q_X11_doMeet_169, q_X11_doMeet_171, q_X11_doMeet_172, q_X11_doMeet_175, q_X11_doMeet_178, q_X11_doMeet_179, q_X11_doMeet_182, q_X11_doMeet_183, q_X11_doMeet_186, q_X11_doMeet_187, q_X11_doMeet_190, q_X11_doMeet_191, i_add, i_sub, i_mul, i_neg, i_lt, i_le, i_eq, i_tm, i_div, i_j, j_i, j_add, j_sub, j_mul, j_neg, j_lt, j_le, j_eq, j_div, c_lt, c_le, c_gt, c_ge, c_eq, i_nat, rz_k, Nat.add_zero, Nat.zero_add, Nat.add_assoc, Nat.reduceAdd, if_true, if_false, vk_eq hm, t1, t2, eq_true a1, eq_true a2, Int.reduceEq, not_true_eq_false, not_false_eq_true]
          · by_cases a3 : T3 ≤ 0 <;> by_cases a4 : T4 ≤ 0
            · have hC : C = false := by
                cases C
                · rfl
                · have := hc.mpr rfl
                  omega
              rw [hC, zb_f]
              simp (disch := first | exact nl_i | exact nl_r | exact nl_0 | exact nl_n | exact nl_x | exact kd_r | exact kd_n | exact kd_x | exact kd_o | exact cats0 | exact cats1 | exact cats2 | exact cats3 | exact cats4 | exact nr_i | exact nr_l | exact nr_z0 | exact nr_z1 | exact ft_i | exact ft_l | omega | rfl | assumption | (refine i_ne0 ?_ ?_ ?_ <;> omega) | (refine j_ne0 ?_ ?_ ?_ <;> omega) | (refine i_new ?_ ?_ <;> omega) | (refine bl_t ?_; with_unfolding_all rfl) | exact ft_z0 | exact ft_z1) only [↓reduceIte, q_X11_doMeet_105, q_X11_doMeet_106, q_X11_doMeet_107, q_X11_doMeet_108, q_X11_doMeet_109, q_X11_doMeet_112, q_X11_doMeet_115, q_X11_doMeet_116, q_X11_doMeet_119, q_X11_doMeet_120, q_X11_doMeet_121, q_X11_doMeet_122, q_X11_doMeet_123, q_X11_doMeet_125, q_X11_doMeet_128, q_X11_doMeet_131, q_X11_doMeet_132, q_X11_doMeet_135, q_X11_doMeet_136, q_X11_doMeet_139, q_X11_doMeet_140, q_X11_doMeet_143, q_X11_doMeet_144, q_X11_doMeet_146, q_X11_doMeet_148, q_X11_doMeet_151, q_X11_doMeet_152, q_X11_doMeet_153, q_X11_doMeet_155, q_X11_doMeet_156, q_X11_doMeet_159, q_X11_doMeet_162, q_X11_doMeet_163, q_X11_doMeet_166, q_X11_doMeet_167, q_X11_doMeet_168, q_X11_doMeet_169, q_X11_doMeet_171, q_X11_doMeet_172, q_X11_doMeet_175, q_X11_doMeet_178, q_X11_doMeet_179, q_X11_doMeet_182, q_X11_doMeet_183, q_X11_doMeet_186, q_X11_doMeet_187, q_X11_doMeet_190, q_X11_doMeet_191, i_add, i_sub, i_mul, i_neg, i_lt, i_le, i_eq, i_tm, i_div, i_j, j_i, j_add, j_sub, j_mul, j_neg, j_lt, j_le, j_eq, j_div, c_lt, c_le, c_gt, c_ge, c_eq, i_nat, rz_k, Nat.add_zero, Nat.zero_add, Nat.add_assoc, Nat.reduceAdd, if_true, if_false, vk_eq hm, t1, t2, t3, t4, eq_true a1, eq_false a2, eq_true a3, eq_true a4, Int.reduceEq, not_true_eq_false, not_false_eq_true]
            · rw [hc.mp (by omega), zb_t]
              simp (disch := first | exact nl_i | exact nl_r | exact nl_0 | exact nl_n | exact nl_x | exact kd_r | exact kd_n | exact kd_x | exact kd_o | exact cats0 | exact cats1 | exact cats2 | exact cats3 | exact cats4 | exact nr_i | exact nr_l | exact nr_z0 | exact nr_z1 | exact ft_i | exact ft_l | omega | rfl | assumption | (refine i_ne0 ?_ ?_ ?_ <;> omega) | (refine j_ne0 ?_ ?_ ?_ <;> omega) | (refine i_new ?_ ?_ <;> omega) | (refine bl_t ?_; with_unfolding_all rfl) | exact ft_z0 | exact ft_z1) only [↓reduceIte, q_X11_doMeet_105, q_X11_doMeet_106, q_X11_doMeet_107, q_X11_doMeet_108, q_X11_doMeet_109, q_X11_doMeet_112, q_X11_doMeet_115, q_X11_doMeet_116, q_X11_doMeet_119, q_X11_doMeet_120, q_X11_doMeet_121, q_X11_doMeet_122, q_X11_doMeet_123, q_X11_doMeet_125, q_X11_doMeet_128, q_X11_doMeet_131, q_X11_doMeet_132, q_X11_doMeet_135, q_X11_doMeet_136, q_X11_doMeet_139, q_X11_doMeet_140, q_X11_doMeet_143, q_X11_doMeet_144, q_X11_doMeet_146, q_X11_doMeet_148, q_X11_doMeet_151, q_X11_doMeet_152, q_X11_doMeet_153, q_X11_doMeet_155, q_X11_doMeet_156, q_X11_doMeet_159, q_X11_doMeet_162, q_X11_doMeet_163, q_X11_doMeet_166, q_X11_doMeet_167, q_X11_doMeet_168, q_X11_doMeet_169, q_X11_doMeet_171, q_X11_doMeet_172, q_X11_doMeet_175, q_X11_doMeet_178, q_X11_doMeet_179, q_X11_doMeet_182, q_X11_doMeet_183, q_X11_doMeet_186, q_X11_doMeet_187, q_X11_doMeet_190, q_X11_doMeet_191, i_add, i_sub, i_mul, i_neg, i_lt, i_le, i_eq, i_tm, i_div, i_j, j_i, j_add, j_sub, j_mul, j_neg, j_lt, j_le, j_eq, j_div, c_lt, c_le, c_gt, c_ge, c_eq, i_nat, rz_k, Nat.add_zero, Nat.zero_add, Nat.add_assoc, Nat.reduceAdd, if_true, if_false, vk_eq hm, t1, t2, t3, t4, eq_true a1, eq_false a2, eq_true a3, eq_false a4, Int.reduceEq, not_true_eq_false, not_false_eq_true]
            · rw [hc.mp (by omega), zb_t]
              simp (disch := first | exact nl_i | exact nl_r | exact nl_0 | exact nl_n | exact nl_x | exact kd_r | exact kd_n | exact kd_x | exact kd_o | exact cats0 | exact cats1 | exact cats2 | exact cats3 | exact cats4 | exact nr_i | exact nr_l | exact nr_z0 | exact nr_z1 | exact ft_i | exact ft_l | omega | rfl | assumption | (refine i_ne0 ?_ ?_ ?_ <;> omega) | (refine j_ne0 ?_ ?_ ?_ <;> omega) | (refine i_new ?_ ?_ <;> omega) | (refine bl_t ?_; with_unfolding_all rfl) | exact ft_z0 | exact ft_z1) only [↓reduceIte, q_X11_doMeet_105, q_X11_doMeet_106, q_X11_doMeet_107, q_X11_doMeet_108, q_X11_doMeet_109, q_X11_doMeet_112, q_X11_doMeet_115, q_X11_doMeet_116, q_X11_doMeet_119, q_X11_doMeet_120, q_X11_doMeet_121, q_X11_doMeet_122, q_X11_doMeet_123, q_X11_doMeet_125, q_X11_doMeet_128, q_X11_doMeet_131, q_X11_doMeet_132, q_X11_doMeet_135, q_X11_doMeet_136, q_X11_doMeet_139, q_X11_doMeet_140, q_X11_doMeet_143, q_X11_doMeet_144, q_X11_doMeet_146, q_X11_doMeet_148, q_X11_doMeet_151, q_X11_doMeet_152, q_X11_doMeet_153, q_X11_doMeet_155, q_X11_doMeet_156, q_X11_doMeet_159, q_X11_doMeet_162, q_X11_doMeet_163, q_X11_doMeet_166, q_X11_doMeet_167, q_X11_doMeet_168, q_X11_doMeet_169, q_X11_doMeet_171, q_X11_doMeet_172, q_X11_doMeet_175, q_X11_doMeet_178, q_X11_doMeet_179, q_X11_doMeet_182, q_X11_doMeet_183, q_X11_doMeet_186, q_X11_doMeet_187, q_X11_doMeet_190, q_X11_doMeet_191, i_add, i_sub, i_mul, i_neg, i_lt, i_le, i_eq, i_tm, i_div, i_j, j_i, j_add, j_sub, j_mul, j_neg, j_lt, j_le, j_eq, j_div, c_lt, c_le, c_gt, c_ge, c_eq, i_nat, rz_k, Nat.add_zero, Nat.zero_add, Nat.add_assoc, Nat.reduceAdd, if_true, if_false, vk_eq hm, t1, t2, t3, t4, eq_true a1, eq_false a2, eq_false a3, eq_true a4, Int.reduceEq, not_true_eq_false, not_false_eq_true]
            · have hC : C = false := by
                cases C
                · rfl
                · have := hc.mpr rfl
                  omega
              rw [hC, zb_f]
              simp (disch := first | exact nl_i | exact nl_r | exact nl_0 | exact nl_n | exact nl_x | exact kd_r | exact kd_n | exact kd_x | exact kd_o | exact cats0 | exact cats1 | exact cats2 | exact cats3 | exact cats4 | exact nr_i | exact nr_l | exact nr_z0 | exact nr_z1 | exact ft_i | exact ft_l | omega | rfl | assumption | (refine i_ne0 ?_ ?_ ?_ <;> omega) | (refine j_ne0 ?_ ?_ ?_ <;> omega) | (refine i_new ?_ ?_ <;> omega) | (refine bl_t ?_; with_unfolding_all rfl) | exact ft_z0 | exact ft_z1) only [↓reduceIte, q_X11_doMeet_105, q_X11_doMeet_106, q_X11_doMeet_107, q_X11_doMeet_108, q_X11_doMeet_109, q_X11_doMeet_112, q_X11_doMeet_115, q_X11_doMeet_116, q_X11_doMeet_119, q_X11_doMeet_120, q_X11_doMeet_121, q_X11_doMeet_122, q_X11_doMeet_123, q_X11_doMeet_125, q_X11_doMeet_128, q_X11_doMeet_131, q_X11_doMeet_132, q_X11_doMeet_135, q_X11_doMeet_136, q_X11_doMeet_139, q_X11_doMeet_140, q_X11_doMeet_143, q_X11_doMeet_144, q_X11_doMeet_146, q_X11_doMeet_148, q_X11_doMeet_151, q_X11_doMeet_152, q_X11_doMeet_153, q_X11_doMeet_155, q_X11_doMeet_156, q_X11_doMeet_159, q_X11_doMeet_162, q_X11_doMeet_163, q_X11_doMeet_166, q_X11_doMeet_167, q_X11_doMeet_168, q_X11_doMeet_169, q_X11_doMeet_171, q_X11_doMeet_172, q_X11_doMeet_175, q_X11_doMeet_178, q_X11_doMeet_179, q_X11_doMeet_182, q_X11_doMeet_183, q_X11_doMeet_186, q_X11_doMeet_187, q_X11_doMeet_190, q_X11_doMeet_191, i_add, i_sub, i_mul, i_neg, i_lt, i_le, i_eq, i_tm, i_div, i_j, j_i, j_add, j_sub, j_mul, j_neg, j_lt, j_le, j_eq, j_div, c_lt, c_le, c_gt, c_ge, c_eq, i_nat, rz_k, Nat.add_zero, Nat.zero_add, Nat.add_assoc, Nat.reduceAdd, if_true, if_false, vk_eq hm, t1, t2, t3, t4, eq_true a1, eq_false a2, eq_false a3, eq_false a4, Int.reduceEq, not_true_eq_false, not_false_eq_true]
          · by_cases a3 : T3 ≤ 0 <;> by_cases a4 : T4 ≤ 0
            · have hC : C = false := by
                cases C
                · rfl
                · have := hc.mpr rfl
                  omega
              rw [hC, zb_f]
              simp (disch := first | exact nl_i | exact nl_r | exact nl_0 | exact nl_n | exact nl_x | exact kd_r | exact kd_n | exact kd_x | exact kd_o | exact cats0 | exact cats1 | exact cats2 | exact cats3 | exact cats4 | exact nr_i | exact nr_l | exact nr_z0 | exact nr_z1 | exact ft_i | exact ft_l | omega | rfl | assumption | (refine i_ne0 ?_ ?_ ?_ <;> omega) | (refine j_ne0 ?_ ?_ ?_ <;> omega) | (refine i_new ?_ ?_ <;> omega) | (refine bl_t ?_; with_unfolding_all rfl) | exact ft_z0 | exact ft_z1) only [↓reduceIte, q_X11_doMeet_105, q_X11_doMeet_106, q_X11_doMeet_107, q_X11_doMeet_108, q_X11_doMeet_109, q_X11_doMeet_112, q_X11_doMeet_115, q_X11_doMeet_116, q_X11_doMeet_119, q_X11_doMeet_120, q_X11_doMeet_121, q_X11_doMeet_122, q_X11_doMeet_123, q_X11_doMeet_125, q_X11_doMeet_128, q_X11_doMeet_131, q_X11_doMeet_132, q_X11_doMeet_135, q_X11_doMeet_136, q_X11_doMeet_139, q_X11_doMeet_140, q_X11_doMeet_143, q_X11_doMeet_144, q_X11_doMeet_146, q_X11_doMeet_148, q_X11_doMeet_151, q_X11_doMeet_152, q_X11_doMeet_153, q_X11_doMeet_155, q_X11_doMeet_156, q_X11_doMeet_159, q_X11_doMeet_162, q_X11_doMeet_163, q_X11_doMeet_166, q_X11_doMeet_167, q_X11_doMeet_168, q_X11_doMeet_169, q_X11_doMeet_171, q_X11_doMeet_172, q_X11_doMeet_175, q_X11_doMeet_178, q_X11_doMeet_179, q_X11_doMeet_182, q_X11_doMeet_183, q_X11_doMeet_186, q_X11_doMeet_187, q_X11_doMeet_190, q_X11_doMeet_191, i_add, i_sub, i_mul, i_neg, i_lt, i_le, i_eq, i_tm, i_div, i_j, j_i, j_add, j_sub, j_mul, j_neg, j_lt, j_le, j_eq, j_div, c_lt, c_le, c_gt, c_ge, c_eq, i_nat, rz_k, Nat.add_zero, Nat.zero_add, Nat.add_assoc, Nat.reduceAdd, if_true, if_false, vk_eq hm, t1, t2, t3, t4, eq_false a1, eq_true a2, eq_true a3, eq_true a4, Int.reduceEq, not_true_eq_false, not_false_eq_true]
            · rw [hc.mp (by omega), zb_t]
              simp (disch := first | exact nl_i | exact nl_r | exact nl_0 | exact nl_n | exact nl_x | exact kd_r | exact kd_n | exact kd_x | exact kd_o | exact cats0 | exact cats1 | exact cats2 | exact cats3 | exact cats4 | exact nr_i | exact nr_l | exact nr_z0 | exact nr_z1 | exact ft_i | exact ft_l | omega | rfl | assumption | (refine i_ne0 ?_ ?_ ?_ <;> omega) | (refine j_ne0 ?_ ?_ ?_ <;> omega) | (refine i_new ?_ ?_ <;> omega) | (refine bl_t ?_; with_unfolding_all rfl) | exact ft_z0 | exact ft_z1) only [↓reduceIte, q_X11_doMeet_105, q_X11_doMeet_106, q_X11_doMeet_107, q_X11_doMeet_108, q_X11_doMeet_109, q_X11_doMeet_112, q_X11_doMeet_115, q_X11_doMeet_116, q_X11_doMeet_119, q_X11_doMeet_120, q_X11_doMeet_121, q_X11_doMeet_122, q_X11_doMeet_123, q_X11_doMeet_125, q_X11_doMeet_128, q_X11_doMeet_131, q_X11_doMeet_132, q_X11_doMeet_135, q_X11_doMeet_136, q_X11_doMeet_139, q_X11_doMeet_140, q_X11_doMeet_143, q_X11_doMeet_144, q_X11_doMeet_146, q_X11_doMeet_148, q_X11_doMeet_151, q_X11_doMeet_152, q_X11_doMeet_153, q_X11_doMeet_155, q_X11_doMeet_156, q_X11_doMeet_159, q_X11_doMeet_162, q_X11_doMeet_163, q_X11_doMeet_166, q_X11_doMeet_167, q_X11_doMeet_168, q_X11_doMeet_169, q_X11_doMeet_171, q_X11_doMeet_172, q_X11_doMeet_175, q_X11_doMeet_178, q_X11_doMeet_179, q_X11_doMeet_182, q_X11_doMeet_183, q_X11_doMeet_186, q_X11_doMeet_187, q_X11_doMeet_190, q_X11_doMeet_191, i_add, i_sub, i_mul, i_neg, i_lt, i_le, i_eq, i_tm, i_div, i_j, j_i, j_add, j_sub, j_mul, j_neg, j_lt, j_le, j_eq, j_div, c_lt, c_le, c_gt, c_ge, c_eq, i_nat, rz_k, Nat.add_zero, Nat.zero_add, Nat.add_assoc, Nat.reduceAdd, if_true, if_false, vk_eq hm, t1, t2, t3, t4, eq_false a1, eq_true a2, eq_true a3, eq_false a4, Int.reduceEq, not_true_eq_false, not_false_eq_true]
            · rw [hc.mp (by omega), zb_t]
              simp (disch := first | exact nl_i | exact nl_r | exact nl_0 | exact nl_n | exact nl_x | exact kd_r | exact kd_n | exact kd_x | exact kd_o | exact cats0 | exact cats1 | exact cats2 | exact cats3 | exact cats4 | exact nr_i | exact nr_l | exact nr_z0 | exact nr_z1 | exact ft_i | exact ft_l | omega | rfl | assumption | (refine i_ne0 ?_ ?_ ?_ <;> omega) | (refine j_ne0 ?_ ?_ ?_ <;> omega) | (refine i_new ?_ ?_ <;> omega) | (refine bl_t ?_; with_unfolding_all rfl) | exact ft_z0 | exact ft_z1) only [↓reduceIte, q_X11_doMeet_105, q_X11_doMeet_106, q_X11_doMeet_107, q_X11_doMeet_108, q_X11_doMeet_109, q_X11_doMeet_112, q_X11_doMeet_115, q_X11_doMeet_116, q_X11_doMeet_119, q_X11_doMeet_120, q_X11_doMeet_121, q_X11_doMeet_122, q_X11_doMeet_123, q_X11_doMeet_125, q_X11_doMeet_128, q_X11_doMeet_131, q_X11_doMeet_132, q_X11_doMeet_135, q_X11_doMeet_136, q_X11_doMeet_139, q_X11_doMeet_140, q_X11_doMeet_143, q_X11_doMeet_144, q_X11_doMeet_146, q_X11_doMeet_148, q_X11_doMeet_151, q_X11_doMeet_152, q_X11_doMeet_153, q_X11_doMeet_155, q_X11_doMeet_156, q_X11_doMeet_159, q_X11_doMeet_162, q_X11_doMeet_163, q_X11_doMeet_166, q_X11_doMeet_167, q_X11_doMeet_168, q_X11_doMeet_169, q_X11_doMeet_171, q_X11_doMeet_172, q_X11_doMeet_175, q_X11_doMeet_178, q_X11_doMeet_179, q_X11_doMeet_182, q_X11_doMeet_183, q_X11_doMeet_186, q_X11_doMeet_187, q_X11_doMeet_190, q_X11_doMeet_191, i_add, i_sub, i_mul, i_neg, i_lt, i_le, i_eq, i_tm, i_div, i_j, j_i, j_add, j_sub, j_mul, j_neg, j_lt, j_le, j_eq, j_div, c_lt, c_le, c_gt, c_ge, c_eq, i_nat, rz_k, Nat.add_zero, Nat.zero_add, Nat.add_assoc, Nat.reduceAdd, if_true, if_false, vk_eq hm, t1, t2, t3, t4, eq_false a1, eq_true a2, eq_false a3, eq_true a4, Int.reduceEq, not_true_eq_false, not_false_eq_true]
            · have hC : C = false := by
                cases C
                · rfl
                · have := hc.mpr rfl
                  omega
              rw [hC, zb_f]
              simp (disch := first | exact nl_i | exact nl_r | exact nl_0 | exact nl_n | exact nl_x | exact kd_r | exact kd_n | exact kd_x | exact kd_o | exact cats0 | exact cats1 | exact cats2 | exact cats3 | exact cats4 | exact nr_i | exact nr_l | exact nr_z0 | exact nr_z1 | exact ft_i | exact ft_l | omega | rfl | assumption | (refine i_ne0 ?_ ?_ ?_ <;> omega) | (refine j_ne0 ?_ ?_ ?_ <;> omega) | (refine i_new ?_ ?_ <;> omega) | (refine bl_t ?_; with_unfolding_all rfl) | exact ft_z0 | exact ft_z1) only [↓reduceIte, q_X11_doMeet_105, q_X11_doMeet_106, q_X11_doMeet_107, q_X11_doMeet_108, q_X11_doMeet_109, q_X11_doMeet_112, q_X11_doMeet_115, q_X11_doMeet_116, q_X11_doMeet_119, q_X11_doMeet_120, q_X11_doMeet_121, q_X11_doMeet_122, q_X11_doMeet_123, q_X11_doMeet_125, q_X11_doMeet_128, q_X11_doMeet_131, q_X11_doMeet_132, q_X11_doMeet_135, q_X11_doMeet_136, q_X11_doMeet_139, q_X11_doMeet_140, q_X11_doMeet_143, q_X11_doMeet_144, q_X11_doMeet_146, q_X11_doMeet_148, q_X11_doMeet_151, q_X11_doMeet_152, q_X11_doMeet_153, q_X11_doMeet_155, q_X11_doMeet_156, q_X11_doMeet_159, q_X11_doMeet_162, q_X11_doMeet_163, q_X11_doMeet_166, q_X11_doMeet_167, q_X11_doMeet_168, q_X11_doMeet_169, q_X11_doMeet_171, q_X11_doMeet_172, q_X11_doMeet_175, q_X11_doMeet_178, q_X11_doMeet_179, q_X11_doMeet_182, q_X11_doMeet_183, q_X11_doMeet_186, q_X11_doMeet_187, q_X11_doMeet_190, q_X11_doMeet_191, i_add, i_sub, i_mul, i_neg, i_lt, i_le, i_eq, i_tm, i_div, i_j, j_i, j_add, j_sub, j_mul, j_neg, j_lt, j_le, j_eq, j_div, c_lt, c_le, c_gt, c_ge, c_eq, i_nat, rz_k, Nat.add_zero, Nat.zero_add, Nat.add_assoc, Nat.reduceAdd, if_true, if_false, vk_eq hm, t1, t2, t3, t4, eq_false a1, eq_true a2, eq_false a3, eq_false a4, Int.reduceEq, not_true_eq_false, not_false_eq_true]
          · have hC : C = false := by
              cases C
              · rfl
              · have := hc.mpr rfl
                omega
            rw [hC, zb_f]
            simp (disch := first | exact nl_i | exact nl_r | exact nl_0 | exact nl_n | exact nl_x | exact kd_r | exact kd_n | exact kd_x | exact kd_o | exact cats0 | exact cats1 | exact cats2 | exact cats3 | exact cats4 | exact nr_i | exact nr_l | exact nr_z0 | exact nr_z1 | exact ft_i | exact ft_l | omega | rfl | assumption | (refine i_ne0 ?_ ?_ ?_ <;> omega) | (refine j_ne0 ?_ ?_ ?_ <;> omega) | (refine i_new ?_ ?_ <;> omega) | (refine bl_t ?_; with_unfolding_all rfl) | exact ft_z0 | exact ft_z1) only [↓reduceIte, q_X11_doMeet_105, q_X11_doMeet_106, q_X11_doMeet_107, q_X11_doMeet_108, q_X11_doMeet_109, q_X11_doMeet_112, q_X11_doMeet_115, q_X11_doMeet_116, q_X11_doMeet_119, q_X11_doMeet_120, q_X11_doMeet_121, q_X11_doMeet_122, q_X11_doMeet_123, q_X11_doMeet_125, q_X11_doMeet_128, q_X11_doMeet_131, q_X11_doMeet_132, q_X11_doMeet_135, q_X11_doMeet_136, q_X11_doMeet_139, q_X11_doMeet_140, q_X11_doMeet_143, q_X11_doMeet_144, q_X11_doMeet_146, q_X11_doMeet_148, q_X11_doMeet_151, q_X11_doMeet_152, q_X11_doMeet_153, q_X11_doMeet_155, q_X11_doMeet_156, q_X11_doMeet_159, q_X11_doMeet_162, q_X11_doMeet_163, q_X11_doMeet_166, q_X11_doMeet_167, q_X11_doMeet_168, q_X11_doMeet_169, q_X11_doMeet_171, q_X11_doMeet_172, q_X11_doMeet_175, q_X11_doMeet_178, q_X11_doMeet_179, q_X11_doMeet_182, q_X11_doMeet_183, q_X11_doMeet_186, q_X11_doMeet_187, q_X11_doMeet_190, q_X11_doMeet_191, i_add, i_sub, i_mul, i_neg, i_lt, i_le, i_eq, i_tm, i_div, i_j, j_i, j_add, j_sub, j_mul, j_neg, j_lt, j_le, j_eq, j_div, c_lt, c_le, c_gt, c_ge, c_eq, i_nat, rz_k, Nat.add_zero, Nat.zero_add, Nat.add_assoc, Nat.reduceAdd, if_true, if_false, vk_eq hm, t1, t2, eq_false a1, eq_false a2, Int.reduceEq, not_true_eq_false, not_false_eq_true]
        · simp (disch := first | exact nl_i | exact nl_r | exact nl_0 | exact nl_n | exact nl_x | exact kd_r | exact kd_n | exact kd_x | exact kd_o | exact cats0 | exact cats1 | exact cats2 | exact cats3 | exact cats4 | exact nr_i | exact nr_l | exact nr_z0 | exact nr_z1 | exact ft_i | exact ft_l | omega | rfl | assumption | (refine i_ne0 ?_ ?_ ?_ <;> omega) | (refine j_ne0 ?_ ?_ ?_ <;> omega) | (refine i_new ?_ ?_ <;> omega) | (refine bl_t ?_; with_unfolding_all rfl) | exact ft_z0 | exact ft_z1) only [↓reduceIte, n_X11_doMeet, q_X11_doMeet_0, q_X11_doMeet_1, q_X11_doMeet_2, q_X11_doMeet_5, q_X11_doMeet_6, q_X11_doMeet_7, q_X11_doMeet_8, q_X11_doMeet_11, q_X11_doMeet_13, q_X11_doMeet_14, q_X11_doMeet_15, q_X11_doMeet_16, q_X11_doMeet_19, q_X11_doMeet_20, q_X11_doMeet_20x, q_X11_doMeet_21, q_X11_doMeet_22, q_X11_doMeet_23, q_X11_doMeet_26, q_X11_doMeet_27, q_X11_doMeet_27x, q_X11_doMeet_28, q_X11_doMeet_29, q_X11_doMeet_32, q_X11_doMeet_35, q_X11_doMeet_36, q_X11_doMeet_37, q_X11_doMeet_38, q_X11_doMeet_41, q_X11_doMeet_43, q_X11_doMeet_43x, q_X11_doMeet_44, q_X11_doMeet_45, q_X11_doMeet_46, q_X11_doMeet_49, q_X11_doMeet_51, q_X11_doMeet_51x, q_X11_doMeet_52, q_X11_doMeet_53, q_X11_doMeet_56, q_X11_doMeet_59, q_X11_doMeet_60, q_X11_doMeet_61, q_X11_doMeet_62, q_X11_doMeet_65, q_X11_doMeet_66, q_X11_doMeet_66x, q_X11_doMeet_67, q_X11_doMeet_68, q_X11_doMeet_69, q_X11_doMeet_72, q_X11_doMeet_73, q_X11_doMeet_73x, q_X11_doMeet_74, q_X11_doMeet_75, q_X11_doMeet_78, q_X11_doMeet_81, q_X11_doMeet_82, q_X11_doMeet_83, q_X11_doMeet_84, q_X11_doMeet_87, q_X11_doMeet_88, q_X11_doMeet_88x, q_X11_doMeet_89, q_X11_doMeet_90, q_X11_doMeet_91, q_X11_doMeet_94, q_X11_doMeet_95, q_X11_doMeet_95x, q_X11_doMeet_96, q_X11_doMeet_97, q_X11_doMeet_100, q_X11_doMeet_103, q_X11_doMeet_104, i_add, i_sub, i_mul, i_neg, i_lt, i_le, i_eq, i_tm, i_div, i_j, j_i, j_add, j_sub, j_mul, j_neg, j_lt, j_le, j_eq, j_div, c_lt, c_le, c_gt, c_ge, c_eq, i_nat, rz_k, Nat.add_zero, Nat.zero_add, Nat.add_assoc, Nat.reduceAdd, if_true, if_false, vk_eq hm, gf_eq hm, List.getElem?_cons_zero, List.getElem?_cons_succ, ai_eq h44, ai_eq h45, Int.toNat_natCast, r1, r2, r3, r4, k1, k2, o1, o2, o3, o4, zb_f, zb_t, Bool.or_true, Bool.true_or, Bool.or_false, Int.reduceEq, not_true_eq_false, not_false_eq_true]
      · simp (disch := first | exact nl_i | exact nl_r | exact nl_0 | exact nl_n | exact nl_x | exact kd_r | exact kd_n | exact kd_x | exact kd_o | exact cats0 | exact cats1 | exact cats2 | exact cats3 | exact cats4 | exact nr_i | exact nr_l | exact nr_z0 | exact nr_z1 | exact ft_i | exact ft_l | omega | rfl | assumption | (refine i_ne0 ?_ ?_ ?_ <;> omega) | (refine j_ne0 ?_ ?_ ?_ <;> omega) | (refine i_new ?_ ?_ <;> omega) | (refine bl_t ?_; with_unfolding_all rfl) | exact ft_z0 | exact ft_z1) only [↓reduceIte, n_X11_doMeet, q_X11_doMeet_0, q_X11_doMeet_1, q_X11_doMeet_2, q_X11_doMeet_5, q_X11_doMeet_6, q_X11_doMeet_7, q_X11_doMeet_8, q_X11_doMeet_11, q_X11_doMeet_13, q_X11_doMeet_14, q_X11_doMeet_15, q_X11_doMeet_16, q_X11_doMeet_19, q_X11_doMeet_20, q_X11_doMeet_20x, q_X11_doMeet_21, q_X11_doMeet_22, q_X11_doMeet_23, q_X11_doMeet_26, q_X11_doMeet_27, q_X11_doMeet_27x, q_X11_doMeet_28, q_X11_doMeet_29, q_X11_doMeet_32, q_X11_doMeet_35, q_X11_doMeet_36, q_X11_doMeet_37, q_X11_doMeet_38, q_X11_doMeet_41, q_X11_doMeet_43, q_X11_doMeet_43x, q_X11_doMeet_44, q_X11_doMeet_45, q_X11_doMeet_46, q_X11_doMeet_49, q_X11_doMeet_51, q_X11_doMeet_51x, q_X11_doMeet_52, q_X11_doMeet_53, q_X11_doMeet_56, q_X11_doMeet_59, q_X11_doMeet_60, q_X11_doMeet_61, q_X11_doMeet_62, q_X11_doMeet_65, q_X11_doMeet_66, q_X11_doMeet_66x, q_X11_doMeet_67, q_X11_doMeet_68, q_X11_doMeet_69, q_X11_doMeet_72, q_X11_doMeet_73, q_X11_doMeet_73x, q_X11_doMeet_74, q_X11_doMeet_75, q_X11_doMeet_78, q_X11_doMeet_81, q_X11_doMeet_82, q_X11_doMeet_83, q_X11_doMeet_84, q_X11_doMeet_87, q_X11_doMeet_88, q_X11_doMeet_88x, q_X11_doMeet_89, q_X11_doMeet_90, q_X11_doMeet_91, q_X11_doMeet_94, q_X11_doMeet_95, q_X11_doMeet_95x, q_X11_doMeet_96, q_X11_doMeet_97, q_X11_doMeet_100, q_X11_doMeet_103, q_X11_doMeet_104, i_add, i_sub, i_mul, i_neg, i_lt, i_le, i_eq, i_tm, i_div, i_j, j_i, j_add, j_sub, j_mul, j_neg, j_lt, j_le, j_eq, j_div, c_lt, c_le, c_gt, c_ge, c_eq, i_nat, rz_k, Nat.add_zero, Nat.zero_add, Nat.add_assoc, Nat.reduceAdd, if_true, if_false, vk_eq hm, gf_eq hm, List.getElem?_cons_zero, List.getElem?_cons_succ, ai_eq h44, ai_eq h45, Int.toNat_natCast, r1, r2, r3, r4, k1, k2, o1, o2, o3, zb_f, zb_t, Bool.or_true, Bool.true_or, Bool.or_false, Int.reduceEq, not_true_eq_false, not_false_eq_true]
    · simp (disch := first | exact nl_i | exact nl_r | exact nl_0 | exact nl_n | exact nl_x | exact kd_r | exact kd_n | exact kd_x | exact kd_o | exact cats0 | exact cats1 | exact cats2 | exact cats3 | exact cats4 | exact nr_i | exact nr_l | exact nr_z0 | exact nr_z1 | exact ft_i | exact ft_l | omega | rfl | assumption | (refine i_ne0 ?_ ?_ ?_ <;> omega) | (refine j_ne0 ?_ ?_ ?_ <;> omega) | (refine i_new ?_ ?_ <;> omega) | (refine bl_t ?_; with_unfolding_all rfl) | exact ft_z0 | exact ft_z1) only [↓reduceIte, n_X11_doMeet, q_X11_doMeet_0, q_X11_doMeet_1, q_X11_doMeet_2, q_X11_doMeet_5, q_X11_doMeet_6, q_X11_doMeet_7, q_X11_doMeet_8, q_X11_doMeet_11, q_X11_doMeet_13, q_X11_doMeet_14, q_X11_doMeet_15, q_X11_doMeet_16, q_X11_doMeet_19, q_X11_doMeet_20, q_X11_doMeet_20x, q_X11_doMeet_21, q_X11_doMeet_22, q_X11_doMeet_23, q_X11_doMeet_26, q_X11_doMeet_27, q_X11_doMeet_27x, q_X11_doMeet_28, q_X11_doMeet_29, q_X11_doMeet_32, q_X11_doMeet_35, q_X11_doMeet_36, q_X11_doMeet_37, q_X11_doMeet_38, q_X11_doMeet_41, q_X11_doMeet_43, q_X11_doMeet_43x, q_X11_doMeet_44, q_X11_doMeet_45, q_X11_doMeet_46, q_X11_doMeet_49, q_X11_doMeet_51, q_X11_doMeet_51x, q_X11_doMeet_52, q_X11_doMeet_53, q_X11_doMeet_56, q_X11_doMeet_59, q_X11_doMeet_60, q_X11_doMeet_61, q_X11_doMeet_62, q_X11_doMeet_65, q_X11_doMeet_66, q_X11_doMeet_66x, q_X11_doMeet_67, q_X11_doMeet_68, q_X11_doMeet_69, q_X11_doMeet_72, q_X11_doMeet_73, q_X11_doMeet_73x, q_X11_doMeet_74, q_X11_doMeet_75, q_X11_doMeet_78, q_X11_doMeet_81, q_X11_doMeet_82, q_X11_doMeet_83, q_X11_doMeet_84, q_X11_doMeet_87, q_X11_doMeet_88, q_X11_doMeet_88x, q_X11_doMeet_89, q_X11_doMeet_90, q_X11_doMeet_91, q_X11_doMeet_94, q_X11_doMeet_95, q_X11_doMeet_95x, q_X11_doMeet_96, q_X11_doMeet_97, q_X11_doMeet_100, q_X11_doMeet_103, q_X11_doMeet_104, i_add, i_sub, i_mul, i_neg, i_lt, i_le, i_eq, i_tm, i_div, i_j, j_i, j_add, j_sub, j_mul, j_neg, j_lt, j_le, j_eq, j_div, c_lt, c_le, c_gt, c_ge, c_eq, i_nat, rz_k, Nat.add_zero, Nat.zero_add, Nat.add_assoc, Nat.reduceAdd, if_true, if_false, vk_eq hm, gf_eq hm, List.getElem?_cons_zero, List.getElem?_cons_succ, ai_eq h44, ai_eq h45, Int.toNat_natCast, r1, r2, r3, r4, k1, k2, o1, o2, zb_f, zb_t, Bool.or_true, Bool.true_or, Bool.or_false, Int.reduceEq, not_true_eq_false, not_false_eq_true]
  · simp (disch := first | exact nl_i | exact nl_r | exact nl_0 | exact nl_n | exact nl_x | exact kd_r | exact kd_n | exact kd_x | exact kd_o | exact cats0 | exact cats1 | exact cats2 | exact cats3 | exact cats4 | exact nr_i | exact nr_l | exact nr_z0 | exact nr_z1 | exact ft_i | exact ft_l | omega | rfl | assumption | (refine i_ne0 ?_ ?_ ?_ <;> omega) | (refine j_ne0 ?_ ?_ ?_ <;> omega) | (refine i_new ?_ ?_ <;> omega) | (refine bl_t ?_; with_unfolding_all rfl) | exact ft_z0 | exact ft_z1) only [↓reduceIte, n_X11_doMeet, q_X11_doMeet_0, q_X11_doMeet_1, q_X11_doMeet_2, q_X11_doMeet_5, q_X11_doMeet_6, q_X11_doMeet_7, q_X11_doMeet_8, q_X11_doMeet_11, q_X11_doMeet_13, q_X11_doMeet_14, q_X11_doMeet_15, q_X11_doMeet_16, q_X11_doMeet_19, q_X11_doMeet_20, q_X11_doMeet_20x, q_X11_doMeet_21, q_X11_doMeet_22, q_X11_doMeet_23, q_X11_doMeet_26, q_X11_doMeet_27, q_X11_doMeet_27x, q_X11_doMeet_28, q_X11_doMeet_29, q_X11_doMeet_32, q_X11_doMeet_35, q_X11_doMeet_36, q_X11_doMeet_37, q_X11_doMeet_38, q_X11_doMeet_41, q_X11_doMeet_43, q_X11_doMeet_43x, q_X11_doMeet_44, q_X11_doMeet_45, q_X11_doMeet_46, q_X11_doMeet_49, q_X11_doMeet_51, q_X11_doMeet_51x, q_X11_doMeet_52, q_X11_doMeet_53, q_X11_doMeet_56, q_X11_doMeet_59, q_X11_doMeet_60, q_X11_doMeet_61, q_X11_doMeet_62, q_X11_doMeet_65, q_X11_doMeet_66, q_X11_doMeet_66x, q_X11_doMeet_67, q_X11_doMeet_68, q_X11_doMeet_69, q_X11_doMeet_72, q_X11_doMeet_73, q_X11_doMeet_73x, q_X11_doMeet_74, q_X11_doMeet_75, q_X11_doMeet_78, q_X11_doMeet_81, q_X11_doMeet_82, q_X11_doMeet_83, q_X11_doMeet_84, q_X11_doMeet_87, q_X11_doMeet_88, q_X11_doMeet_88x, q_X11_doMeet_89, q_X11_doMeet_90, q_X11_doMeet_91, q_X11_doMeet_94, q_X11_doMeet_95, q_X11_doMeet_95x, q_X11_doMeet_96, q_X11_doMeet_97, q_X11_doMeet_100, q_X11_doMeet_103, q_X11_doMeet_104, i_add, i_sub, i_mul, i_neg, i_lt, i_le, i_eq, i_tm, i_div, i_j, j_i, j_add, j_sub, j_mul, j_neg, j_lt, j_le, j_eq, j_div, c_lt, c_le, c_gt, c_ge, c_eq, i_nat, rz_k, Nat.add_zero, Nat.zero_add, Nat.add_assoc, Nat.reduceAdd, if_true, if_false, vk_eq hm, gf_eq hm, List.getElem?_cons_zero, List.getElem?_cons_succ, ai_eq h44, ai_eq h45, Int.toNat_natCast, r1, r2, r3, r4, k1, k2, o1, zb_f, zb_t, Bool.or_true, Bool.true_or, Bool.or_false, Int.reduceEq, not_true_eq_false, not_false_eq_true]
end RZWM
