/-! part 57: level 2: Euclid's way with two steps at once, in the class and in the reference -/
section RZEU
theorem z_step {x y u v : Int} {B : Nat} (hu : u ≠ 0) (hQ : v.natAbs * x.natAbs + y.natAbs * u.natAbs ≤ B) : (x - x.tdiv u * u).natAbs = x.natAbs % u.natAbs ∧ Int.gcd u (x - x.tdiv u * u) = Int.gcd x u ∧ (y - x.tdiv u * v).natAbs * u.natAbs + v.natAbs * (x - x.tdiv u * u).natAbs ≤ B ∧ (y - x.tdiv u * v).natAbs ≤ B ∧ u * (y - x.tdiv u * v) - v * (x - x.tdiv u * u) = -(x * v - y * u) := by
  have e1 : x - x.tdiv u * u = x.tmod u := i_tm
  have e2 : (x.tmod u).natAbs = x.natAbs % u.natAbs := Int.natAbs_tmod _ _
  have hub : 0 < u.natAbs := by omega
  have e3 : (x.tdiv u).natAbs = x.natAbs / u.natAbs := Int.natAbs_tdiv _ _
  have key : (y - x.tdiv u * v).natAbs * u.natAbs + v.natAbs * (x - x.tdiv u * u).natAbs ≤ B := by
    rw [e1, e2]
    have h1 : (y - x.tdiv u * v).natAbs ≤ y.natAbs + x.natAbs / u.natAbs * v.natAbs := by
      have := Int.natAbs_mul (x.tdiv u) v
      rw [e3] at this
      omega
    have h2 := Nat.mul_le_mul_right u.natAbs h1
    have h3 := Nat.div_add_mod x.natAbs u.natAbs
    generalize x.natAbs / u.natAbs = q at *
    generalize x.natAbs % u.natAbs = r at *
    rw [← h3, Nat.mul_add] at hQ
    rw [Nat.add_mul] at h2
    have h4 : q * v.natAbs * u.natAbs = v.natAbs * (u.natAbs * q) := by
      rw [Nat.mul_comm q, Nat.mul_assoc, Nat.mul_comm q]
    omega
  refine ⟨by rw [e1, e2], ?_, key, ?_, ?_⟩
  · rw [e1]
    unfold Int.gcd
    rw [e2]
    exact z_gcd_step (by omega)
  · have := Nat.mul_le_mul_left (y - x.tdiv u * v).natAbs (show 1 ≤ u.natAbs from hub)
    omega
  · rw [Int.mul_sub, Int.mul_sub]
    have e5 : u * (x.tdiv u * v) = v * (x.tdiv u * u) := by rw [Int.mul_comm, Int.mul_assoc, Int.mul_comm (x.tdiv u), Int.mul_assoc, Int.mul_comm u]
    rw [Int.mul_comm u y, Int.mul_comm v x]
    omega
theorem l_eu (n : Nat) : ∀ (x y u v : Int) (B : Nat), u.natAbs ≤ x.natAbs → x.natAbs ≤ 2000000 → x.natAbs * u.natAbs < 2 ^ n → v.natAbs * x.natAbs + y.natAbs * u.natAbs ≤ B → y.natAbs ≤ B → v.natAbs ≤ B → ∃ gx gy gv : Int, gx.natAbs = Int.gcd x u ∧ (gx * gv).natAbs = (x * v - y * u).natAbs ∧ gy.natAbs ≤ B ∧ gv.natAbs ≤ B ∧ (∀ (X : rz_X) (d : Nat) (w : rz_W) (nc ns : Nat) (b : Int64) (i : Int) (l11 l12 l13 l14 l15 l16 : Option Value), 0 ≤ i → i + n ≤ 999 → rz_nl l12 = true → rz_nl l14 = true → ∃ (j : Int32) (m11 m12 m13 m14 m15 m16 : Option Value), rz_G X d mz_X3_generated 3 [some (.long (Int64.ofInt x)), none, some (.long (Int64.ofInt y)), none, some (.long (Int64.ofInt u)), none, some (.long (Int64.ofInt v)), none, some (.long b), none, some (.int (Int32.ofInt i)), l11, l12, l13, l14, l15, l16] [] w nc ns = rz_G X d mz_X3_generated 62 [some (.long (Int64.ofInt gx)), none, some (.long (Int64.ofInt gy)), none, some (.long (Int64.ofInt 0)), none, some (.long (Int64.ofInt gv)), none, some (.long b), none, some (.int j), m11, m12, m13, m14, m15, m16] [] w nc ns) ∧ (∀ (X : rz_X) (d : Nat) (w : rz_W) (nc ns : Nat) (a b c e : Int64) (l16 l17 l18 l19 l20 l21 : Option Value), rz_nl l17 = true → rz_nl l19 = true → ∃ (m16 m17 m18 m19 m20 m21 : Option Value), rz_G X d mz_X11_highOf 14 [some (.long a), none, some (.long b), none, some (.long c), none, some (.long e), none, some (.long (Int64.ofInt x)), none, some (.long (Int64.ofInt u)), none, some (.long (Int64.ofInt y)), none, some (.long (Int64.ofInt v)), none, l16, l17, l18, l19, l20, l21] [] w nc ns = rz_G X d mz_X11_highOf 67 [some (.long a), none, some (.long b), none, some (.long c), none, some (.long e), none, some (.long (Int64.ofInt gx)), none, some (.long (Int64.ofInt 0)), none, some (.long (Int64.ofInt gy)), none, some (.long (Int64.ofInt gv)), none, m16, m17, m18, m19, m20, m21] [] w nc ns) := by
  have hend : ∀ (x y v : Int) (B : Nat), x.natAbs ≤ 2000000 → y.natAbs ≤ B → v.natAbs ≤ B → ∃ gx gy gv : Int, gx.natAbs = Int.gcd x 0 ∧ (gx * gv).natAbs = (x * v - y * 0).natAbs ∧ gy.natAbs ≤ B ∧ gv.natAbs ≤ B ∧ (∀ (X : rz_X) (d : Nat) (w : rz_W) (nc ns : Nat) (b : Int64) (i : Int) (l11 l12 l13 l14 l15 l16 : Option Value), 0 ≤ i → i ≤ 999 → rz_nl l12 = true → rz_nl l14 = true → ∃ (j : Int32) (m11 m12 m13 m14 m15 m16 : Option Value), rz_G X d mz_X3_generated 3 [some (.long (Int64.ofInt x)), none, some (.long (Int64.ofInt y)), none, some (.long (Int64.ofInt 0)), none, some (.long (Int64.ofInt v)), none, some (.long b), none, some (.int (Int32.ofInt i)), l11, l12, l13, l14, l15, l16] [] w nc ns = rz_G X d mz_X3_generated 62 [some (.long (Int64.ofInt gx)), none, some (.long (Int64.ofInt gy)), none, some (.long (Int64.ofInt 0)), none, some (.long (Int64.ofInt gv)), none, some (.long b), none, some (.int j), m11, m12, m13, m14, m15, m16] [] w nc ns) ∧ (∀ (X : rz_X) (d : Nat) (w : rz_W) (nc ns : Nat) (a b c e : Int64) (l16 l17 l18 l19 l20 l21 : Option Value), rz_nl l17 = true → rz_nl l19 = true → ∃ (m16 m17 m18 m19 m20 m21 : Option Value), rz_G X d mz_X11_highOf 14 [some (.long a), none, some (.long b), none, some (.long c), none, some (.long e), none, some (.long (Int64.ofInt x)), none, some (.long (Int64.ofInt 0)), none, some (.long (Int64.ofInt y)), none, some (.long (Int64.ofInt v)), none, l16, l17, l18, l19, l20, l21] [] w nc ns = rz_G X d mz_X11_highOf 67 [some (.long a), none, some (.long b), none, some (.long c), none, some (.long e), none, some (.long (Int64.ofInt gx)), none, some (.long (Int64.ofInt 0)), none, some (.long (Int64.ofInt gy)), none, some (.long (Int64.ofInt gv)), none, m16, m17, m18, m19, m20, m21] [] w nc ns) := by
    intro x y v B hx hy hv
    refine ⟨x, y, v, by rw [Int.gcd_zero], by rw [Int.mul_zero, Int.sub_zero], hy, hv, ?_, ?_⟩
    · intro X d w nc ns b i l11 l12 l13 l14 l15 l16 h1 h2 _ _
      refine ⟨Int32.ofInt i, l11, l12, l13, l14, l15, l16, ?_⟩
      rw [q_X3_generated_3]
      simp (disch := first | exact nl_i | exact nl_r | exact nl_0 | exact nl_n | exact nl_x | exact kd_r | exact kd_n | exact kd_x | exact kd_o | exact cats0 | exact cats1 | exact cats2 | exact cats3 | exact cats4 | exact nr_i | exact nr_l | exact nr_z0 | exact nr_z1 | exact ft_i | exact ft_l | omega | rfl | assumption | (refine i_ne0 ?_ ?_ ?_ <;> omega) | (refine j_ne0 ?_ ?_ ?_ <;> omega) | (refine i_new ?_ ?_ <;> omega) | (refine bl_t ?_; with_unfolding_all rfl) | exact ft_z0 | exact ft_z1) only [q_X3_generated_5, q_X3_generated_8, q_X3_generated_11, q_X3_generated_13, q_X3_generated_14, q_X3_generated_15, i_add, i_sub, i_mul, i_neg, i_lt, i_le, i_eq, i_tm, i_div, i_j, j_i, j_add, j_sub, j_mul, j_neg, j_lt, j_le, j_eq, j_div, c_lt, c_le, c_gt, c_ge, c_eq, i_nat, rz_k, Nat.add_zero, Nat.zero_add, Nat.add_assoc, Nat.reduceAdd, if_true, if_false]
      rw [if_neg (by omega)]
    · intro X d w nc ns a b c e l16 l17 l18 l19 l20 l21 _ _
      refine ⟨l16, l17, l18, l19, l20, l21, ?_⟩
      rw [q_X11_highOf_14]
      simp (disch := first | exact nl_i | exact nl_r | exact nl_0 | exact nl_n | exact nl_x | exact kd_r | exact kd_n | exact kd_x | exact kd_o | exact cats0 | exact cats1 | exact cats2 | exact cats3 | exact cats4 | exact nr_i | exact nr_l | exact nr_z0 | exact nr_z1 | exact ft_i | exact ft_l | omega | rfl | assumption | (refine i_ne0 ?_ ?_ ?_ <;> omega) | (refine j_ne0 ?_ ?_ ?_ <;> omega) | (refine i_new ?_ ?_ <;> omega) | (refine bl_t ?_; with_unfolding_all rfl) | exact ft_z0 | exact ft_z1) only [q_X11_highOf_16, q_X11_highOf_17, q_X11_highOf_18, i_add, i_sub, i_mul, i_neg, i_lt, i_le, i_eq, i_tm, i_div, i_j, j_i, j_add, j_sub, j_mul, j_neg, j_lt, j_le, j_eq, j_div, c_lt, c_le, c_gt, c_ge, c_eq, i_nat, rz_k, Nat.add_zero, Nat.zero_add, Nat.add_assoc, Nat.reduceAdd, if_true, if_false]
  induction n with
  | zero =>
    intro x y u v B h1 h2 h3 h4 h5 h6
    have hu0 : u = 0 := by
      by_cases h : u = 0
      · exact h
      · have : 1 * 1 ≤ x.natAbs * u.natAbs := Nat.mul_le_mul (by omega) (by omega)
        omega
    subst hu0
    obtain ⟨gx, gy, gv, r1, r2, r3, r4, r5, r6⟩ := hend x y v B h2 h5 h6
    exact ⟨gx, gy, gv, r1, r2, r3, r4, fun X d w nc ns b i l11 l12 l13 l14 l15 l16 k1 k2 k3 k4 => r5 X d w nc ns b i l11 l12 l13 l14 l15 l16 k1 (by omega) k3 k4, r6⟩
  | succ n ih =>
    intro x y u v B h1 h2 h3 h4 h5 h6
    by_cases hu : u = 0
    · subst hu
      obtain ⟨gx, gy, gv, r1, r2, r3, r4, r5, r6⟩ := hend x y v B h2 h5 h6
      exact ⟨gx, gy, gv, r1, r2, r3, r4, fun X d w nc ns b i l11 l12 l13 l14 l15 l16 k1 k2 k3 k4 => r5 X d w nc ns b i l11 l12 l13 l14 l15 l16 k1 (by omega) k3 k4, r6⟩
    · obtain ⟨s1, s2, s3, s4, s5⟩ := z_step hu h4
      have s6 : (x.natAbs % u.natAbs) < u.natAbs := Nat.mod_lt _ (by omega)
      have s7 : u.natAbs * (x.natAbs % u.natAbs) < 2 ^ n := z_halve (by omega) h1 h3
      obtain ⟨gx, gy, gv, r1, r2, r3, r4, r5, r6⟩ := ih u v (x - x.tdiv u * u) (y - x.tdiv u * v) B (by omega) (by omega) (by rw [s1]; exact s7) s3 h6 s4
      have g1 : -2000000 ≤ x ∧ x ≤ 2000000 := by omega
      have g2 : -2000000 ≤ u ∧ u ≤ 2000000 := by omega
      refine ⟨gx, gy, gv, r1.trans s2, r2.trans (by rw [s5, Int.natAbs_neg]), r3, r4, ?_, ?_⟩
      all_goals clear h1 h2 h3 h4 h5 h6 s1 s2 s3 s4 s5 s6 s7 r1 r2 r3 r4 ih hend
      · intro X d w nc ns b i l11 l12 l13 l14 l15 l16 k1 k2 k3 k4
        obtain ⟨j, m11, m12, m13, m14, m15, m16, e⟩ := r5 X d w nc ns b (i + 1) (some (.long (Int64.ofInt (x.tdiv u)))) none (some (.long (Int64.ofInt (x - x.tdiv u * u)))) none (some (.long (Int64.ofInt (y - x.tdiv u * v)))) none (by omega) (by omega) rfl rfl
        refine ⟨j, m11, m12, m13, m14, m15, m16, ?_⟩
        rw [← e, q_X3_generated_3]
        simp (disch := first | exact nl_i | exact nl_r | exact nl_0 | exact nl_n | exact nl_x | exact kd_r | exact kd_n | exact kd_x | exact kd_o | exact cats0 | exact cats1 | exact cats2 | exact cats3 | exact cats4 | exact nr_i | exact nr_l | exact nr_z0 | exact nr_z1 | exact ft_i | exact ft_l | omega | rfl | assumption | (refine i_ne0 ?_ ?_ ?_ <;> omega) | (refine j_ne0 ?_ ?_ ?_ <;> omega) | (refine i_new ?_ ?_ <;> omega) | (refine bl_t ?_; with_unfolding_all rfl) | exact ft_z0 | exact ft_z1) only [n_X3_generated, q_X3_generated_5, q_X3_generated_8, q_X3_generated_11, q_X3_generated_13, q_X3_generated_14, q_X3_generated_15, q_X3_generated_18, q_X3_generated_19, q_X3_generated_21, q_X3_generated_22, q_X3_generated_24, q_X3_generated_25, q_X3_generated_27, q_X3_generated_29, q_X3_generated_30, q_X3_generated_31, q_X3_generated_33, q_X3_generated_34, q_X3_generated_36, q_X3_generated_38, q_X3_generated_39, q_X3_generated_40, q_X3_generated_42, q_X3_generated_44, q_X3_generated_45, q_X3_generated_47, q_X3_generated_48, q_X3_generated_50, q_X3_generated_52, q_X3_generated_54, q_X3_generated_56, q_X3_generated_59, q_X3_generated_71, q_X3_generated_72, q_X3_generated_73, q_X3_generated_74, q_X3_generated_77, q_X3_generated_79, q_X3_generated_80, q_X3_generated_81, q_X3_generated_84, q_X3_generated_85, q_X3_generated_85n, q_X3_generated_86, q_X3_generated_87, q_X3_generated_88, q_X3_generated_89, q_X3_generated_92, q_X3_generated_93, q_X3_generated_94, q_X3_generated_97, q_X3_generated_98, q_X3_generated_100, q_X3_generated_103, q_X3_generated_103r, q_X3_generated_104, q_X3_generated_105, q_X3_generated_108, q_X3_generated_109, q_X3_generated_111, q_X3_generated_113, q_X3_generated_116, q_X3_generated_117, q_X3_generated_119, q_X3_generated_120, q_X3_generated_123, q_X3_generated_123n, j_add, j_sub, j_mul, j_neg, j_div, j_eq, c_eq, i_le, i_lt, i_add]
        rw [if_neg (by omega), if_neg (by omega)]
      · intro X d w nc ns a b c e l16 l17 l18 l19 l20 l21 k1 k2
        obtain ⟨m16, m17, m18, m19, m20, m21, e'⟩ := r6 X d w nc ns a b c e (some (.long (Int64.ofInt (x.tdiv u)))) none (some (.long (Int64.ofInt (x - x.tdiv u * u)))) none (some (.long (Int64.ofInt (y - x.tdiv u * v)))) none rfl rfl
        refine ⟨m16, m17, m18, m19, m20, m21, ?_⟩
        rw [← e', q_X11_highOf_14]
        simp (disch := first | exact nl_i | exact nl_r | exact nl_0 | exact nl_n | exact nl_x | exact kd_r | exact kd_n | exact kd_x | exact kd_o | exact cats0 | exact cats1 | exact cats2 | exact cats3 | exact cats4 | exact nr_i | exact nr_l | exact nr_z0 | exact nr_z1 | exact ft_i | exact ft_l | omega | rfl | assumption | (refine i_ne0 ?_ ?_ ?_ <;> omega) | (refine j_ne0 ?_ ?_ ?_ <;> omega) | (refine i_new ?_ ?_ <;> omega) | (refine bl_t ?_; with_unfolding_all rfl) | exact ft_z0 | exact ft_z1) only [n_X11_highOf, q_X11_highOf_0, q_X11_highOf_1, q_X11_highOf_3, q_X11_highOf_5, q_X11_highOf_7, q_X11_highOf_8, q_X11_highOf_10, q_X11_highOf_12, q_X11_highOf_16, q_X11_highOf_17, q_X11_highOf_18, q_X11_highOf_21, q_X11_highOf_23, q_X11_highOf_25, q_X11_highOf_26, q_X11_highOf_28, q_X11_highOf_30, q_X11_highOf_32, q_X11_highOf_34, q_X11_highOf_35, q_X11_highOf_36, q_X11_highOf_38, q_X11_highOf_40, q_X11_highOf_42, q_X11_highOf_44, q_X11_highOf_45, q_X11_highOf_46, q_X11_highOf_48, q_X11_highOf_50, q_X11_highOf_52, q_X11_highOf_54, q_X11_highOf_56, q_X11_highOf_58, q_X11_highOf_60, q_X11_highOf_62, q_X11_highOf_64, q_X11_highOf_69, q_X11_highOf_70, q_X11_highOf_71, q_X11_highOf_74, q_X11_highOf_76, q_X11_highOf_77, q_X11_highOf_80, q_X11_highOf_82, j_add, j_sub, j_mul, j_neg, j_div, j_eq, c_eq]
        rw [if_neg (by omega)]
end RZEU
