/-! part 97zc02: level 2: isSound: the indexes of two grids agree -/
section RZIB
variable {X : rz_X} {d : Nat} {w : rz_W} {nc ns : Nat}
theorem x_agree {g g' : Nat} {a b c a' b' c' : Int} (ho : v_ob w g 3 [.int (Int32.ofInt a), .int (Int32.ofInt b), .int (Int32.ofInt c)]) (ho' : v_ob w g' 3 [.int (Int32.ofInt a'), .int (Int32.ofInt b'), .int (Int32.ofInt c')]) (hr : 1 ≤ a ∧ 0 ≤ b ∧ b < c ∧ a * c ≤ 1000000) (hr' : 1 ≤ a' ∧ 0 ≤ b' ∧ b' < c' ∧ a' * c' ≤ 1000000) : ∃ (l : rz_W) (c1 s1 : Nat), rz_ex X (d + 5) 169 [.ref g, .ref g'] w = some (.inl (some (.int (Int32.ofInt 1))), w ++ l, c1, s1) ∧ c1 ≤ 2 ∧ s1 ≤ 6 := by
  obtain ⟨r1, r2, r3, r4⟩ := hr
  obtain ⟨r1', r2', r3', r4'⟩ := hr'
  have q1 := z_ac r1 (by omega) r4
  have q2 := z_ac r1' (by omega) r4'
  have m1 := Nat.mul_le_mul (show b'.natAbs ≤ 1000000 by omega) (show a.natAbs ≤ 1000000 by omega)
  have m2 := Nat.mul_le_mul (show b.natAbs ≤ 1000000 by omega) (show a'.natAbs ≤ 1000000 by omega)
  obtain ⟨h, gv, u1, u2, u3, uL, u4⟩ := z_genx a b a' b' 2000000000000 (by omega) (by omega) (by omega) (by omega) (by omega) (by omega)
  have hA := z_gcd_le (b := a') r1
  have hA' := z_gcd_le (b := a) r1'
  rw [Int.gcd_comm] at hA'
  have hC := z_gcd_le (b := c') (show 1 ≤ c by omega)
  have kC := x_gcd (X := X) (d := d + 1) (w := w) (a := c) (b := c') (by omega) (by omega) (by omega) (by omega)
  have u4 := u4 X d w (Int.gcd c c') (by omega)
  obtain ⟨k1', hk1⟩ := Int.gcd_dvd_left a a'
  obtain ⟨k2', hk2⟩ := Int.gcd_dvd_right a a'
  obtain ⟨m1', hm1⟩ := Int.gcd_dvd_left c c'
  obtain ⟨m2', hm2⟩ := Int.gcd_dvd_right c c'
  generalize hgA : Int.gcd a a' = gA at *
  generalize hgC : Int.gcd c c' = gC at *
  have pk : ∀ {x g k : Int}, 1 ≤ x → 1 ≤ g → x = g * k → 1 ≤ k ∧ k ≤ x := by
    intro x g k h1 h2 h3
    have hk : 1 ≤ k := by
      rcases Int.lt_or_le k 1 with h | h
      · have := Int.mul_nonneg (show 0 ≤ g by omega) (show 0 ≤ -k by omega)
        rw [Int.mul_neg] at this
        omega
      · exact h
    have := Int.mul_le_mul_of_nonneg_right h2 (show 0 ≤ k by omega)
    exact ⟨hk, by omega⟩
  have b1 := pk r1 (by omega) hk1
  have b2 := pk r1' (by omega) hk2
  have b3 := pk (show 1 ≤ c by omega) (by omega) hm1
  have b4 := pk (show 1 ≤ c' by omega) (by omega) hm2
  obtain ⟨k1, rfl⟩ := Int.eq_ofNat_of_zero_le (show 0 ≤ k1' by omega)
  obtain ⟨k2, rfl⟩ := Int.eq_ofNat_of_zero_le (show 0 ≤ k2' by omega)
  obtain ⟨m1, rfl⟩ := Int.eq_ofNat_of_zero_le (show 0 ≤ m1' by omega)
  obtain ⟨m2, rfl⟩ := Int.eq_ofNat_of_zero_le (show 0 ≤ m2' by omega)
  have hlost : ((k2 : Int) * b - (k1 : Int) * b').natAbs = gv.natAbs := by
    have e1 : (a * b' - b * a').natAbs = gA * ((k2 : Int) * b - (k1 : Int) * b').natAbs := by
      have : a * b' - b * a' = (gA : Int) * -((k2 : Int) * b - (k1 : Int) * b') := by
        rw [Int.mul_neg, Int.mul_sub, ← Int.mul_assoc, ← Int.mul_assoc, ← hk1, ← hk2, Int.mul_comm b a']
        omega
      rw [this, Int.natAbs_mul, Int.natAbs_neg]
      rfl
    exact (Nat.eq_of_mul_eq_mul_left (by omega) (u3.trans e1)).symm
  have hcc : Int.gcd (gC : Int) ((k2 : Int) * b - (k1 : Int) * b') = Int.gcd gv (gC : Int) := by
    unfold Int.gcd
    rw [hlost, Nat.gcd_comm]
  have hcb := z_gcd_le (b := gv) (show (1 : Int) ≤ gC by omega)
  rw [Int.gcd_comm] at hcb
  have he1 : ((Int.gcd gv (gC : Int) : Nat) : Int) ∣ gv := Int.gcd_dvd_left gv gC
  have he2 : Int.gcd gv (gC : Int) ∣ gC := by
    have := Int.gcd_dvd_right gv (gC : Int)
    exact Int.natCast_dvd_natCast.mp this
  generalize hK : gC / Int.gcd gC ((k2 : Int) * b - (k1 : Int) * b') = K at *
  obtain ⟨p1, p2, p3, p4, p5, p6, p7⟩ := z_meetN (b := b) (b' := b') (show 1 ≤ gA by omega) (show 1 ≤ gC by omega) (show 1 ≤ k1 by omega) (show 1 ≤ k2 by omega) hk1 hk2 hm1 hm2 hK
  clear p6 p7
  have hKe : K * Int.gcd gv (gC : Int) = gC := by
    rw [← hK, hcc]; exact Nat.div_mul_cancel he2
  generalize hgE : Int.gcd gv (gC : Int) = e at *
  rw [if_neg (by omega)] at u4
  have hm0 := Int.emod_nonneg h (show (e : Int) ≠ 0 by omega)
  have hm1' := Int.emod_lt_of_pos h (show 0 < (e : Int) by omega)
  have hae : (gA : Int) * (e : Int) ≤ 1000000 := by
    have e1 := Int.mul_le_mul hA.2 (show (e : Int) ≤ c by omega) (by omega) (by omega)
    omega
  -- both are parts of the joined one
  obtain ⟨al, be, ga, de, L1, L2, L3, L4⟩ := uL
  have hal : al = k1 := by
    have : (gA : Int) * al = gA * k1 := by rw [← hk1, L1]; exact Int.mul_comm _ _
    exact Int.eq_of_mul_eq_mul_left (by omega) this
  have hga : ga = k2 := by
    have : (gA : Int) * ga = gA * k2 := by rw [← hk2, L3]; exact Int.mul_comm _ _
    exact Int.eq_of_mul_eq_mul_left (by omega) this
  obtain ⟨gq, hgq⟩ := he1
  have hdm := Int.emod_add_mul_ediv h e
  have ece : (e : Int) ∣ c := Int.dvd_trans (Int.natCast_dvd_natCast.mpr he2) ⟨m1, hm1⟩
  have ece' : (e : Int) ∣ c' := Int.dvd_trans (Int.natCast_dvd_natCast.mpr he2) ⟨m2, hm2⟩
  have t1 : a.tdiv (gA : Int) = k1 := by rw [hk1]; exact Int.mul_tdiv_cancel_left _ (by omega)
  have t2 : a'.tdiv (gA : Int) = k2 := by rw [hk2]; exact Int.mul_tdiv_cancel_left _ (by omega)
  have z0 : ∀ x : Int, (0 : Int).tmod x = 0 := fun x => Int.zero_tmod x
  have z1 : ∀ x : Int, (0 : Int).tdiv x = 0 := fun x => Int.zero_tdiv x
  have part1 : zf_part a b c gA (h % e) e := by
    refine ⟨⟨z_tmd.mpr ⟨k1, hk1⟩, z_tmd.mpr ?_⟩, z0 _, z_tmd.mpr ?_⟩
    · rw [t1]
      refine ⟨k1 * (h / e) + be * gq, ?_⟩
      rw [L2, hal]
      have : h % (e : Int) = h - e * (h / e) := by omega
      rw [this, hgq]; grind
    · rw [z1, Int.zero_mul, Int.sub_zero]; exact ece
  have part2 : zf_part a' b' c' gA (h % e) e := by
    refine ⟨⟨z_tmd.mpr ⟨k2, hk2⟩, z_tmd.mpr ?_⟩, z0 _, z_tmd.mpr ?_⟩
    · rw [t2]
      refine ⟨k2 * (h / e) + de * gq, ?_⟩
      rw [L4, hga]
      have : h % (e : Int) = h - e * (h / e) := by omega
      rw [this, hgq]; grind
    · rw [z1, Int.zero_mul, Int.sub_zero]; exact ece'
  -- the meet
  have hcn : c = ((gC * m1 : Nat) : Int) := by rw [Int.natCast_mul]; exact hm1
  have hcn' : c' = ((gC * m2 : Nat) : Int) := by rw [Int.natCast_mul]; exact hm2
  obtain ⟨t, t2', ⟨y1, y2, y3⟩, ⟨y4, y5, y6⟩, y7, y8, y9⟩ := z_meetY (c := gC * m1) (c' := gC * m2) (g := gC) (show 1 ≤ gC by omega) (show 1 ≤ m1 by omega) (show 1 ≤ m2 by omega) rfl rfl (by rw [← hcn, ← hcn']; exact hgC) p5
  rw [← hcn] at y2 y3 y4 y5 y6 y7 y8 y9
  rw [← hcn'] at y1 y2 y3 y5 y6 y7 y9
  have hW1 : 1 ≤ (k1 : Int) * a' := by
    have := Int.mul_le_mul_of_nonneg_right (show 1 ≤ (k1 : Int) by omega) (show 0 ≤ a' by omega)
    omega
  have hW2 := z_nmul (a := (k1 : Int)) (b := a') (M := 1000000) (N := 1000000) (by omega) (by omega)
  have hH1 : 1 ≤ (m1 : Int) * c' := by
    have := Int.mul_le_mul_of_nonneg_right (show 1 ≤ (m1 : Int) by omega) (show 0 ≤ c' by omega)
    omega
  have hH2 := z_nmul (a := (m1 : Int)) (b := c') (M := 1000000) (N := 1000000) (by omega) (by omega)
  have hX1 : 1 ≤ (K : Int) * ((k1 : Int) * a') := by
    have := Int.mul_le_mul_of_nonneg_right (show 1 ≤ (K : Int) by omega) (show 0 ≤ (k1 : Int) * a' by omega)
    omega
  have hX2 := z_nmul (a := (K : Int)) (b := (k1 : Int) * a') (M := 1000000) (N := 1000000000000) (by omega) (by omega)
  have hfin : (K : Int) * ((k1 : Int) * a') * ((m1 : Int) * c') * ((gA : Int) * (e : Int)) = (a * c) * (a' * c') := by
    have eK : (K : Int) * (e : Int) = gC := by rw [← hKe]; push_cast; rfl
    have : (K : Int) * ((k1 : Int) * a') * ((m1 : Int) * c') * ((gA : Int) * (e : Int)) = ((gA : Int) * k1) * ((K * e) * m1) * (a' * c') := by grind
    rw [this, eK, ← hk1, ← hm1]
  have hfb : (a * c) * (a' * c') ≤ 1000000000000 := by
    have h0 : 0 ≤ a * c := Int.mul_nonneg (by omega) (by omega)
    have h1 : 0 ≤ a' * c' := Int.mul_nonneg (by omega) (by omega)
    have := Int.mul_le_mul r4 r4' h1 (by omega)
    omega
  have hidx0 : 1 ≤ (gA : Int) * (e : Int) := by
    have := Int.mul_le_mul_of_nonneg_right (show 1 ≤ (gA : Int) by omega) (show 0 ≤ (e : Int) by omega)
    omega
  have hP0 := Int.mul_le_mul hX1 hH1 (by omega) (by omega)
  have hP : (K : Int) * ((k1 : Int) * a') * ((m1 : Int) * c') ≤ 1000000000000 := by
    have := Int.mul_le_mul_of_nonneg_left hidx0 (show 0 ≤ (K : Int) * ((k1 : Int) * a') * ((m1 : Int) * c') by omega)
    omega
  have kw := fun w ho ho' => x_meetWidth (X := X) (d := d) (w := w) (g := g) (g' := g') (b := b) (b' := b') (c := c) (c' := c') ho ho' ⟨r1, q1.1⟩ ⟨r1', q2.1⟩ ⟨r2, by omega⟩ ⟨r2', by omega⟩ ⟨by omega, q1.2⟩ ⟨by omega, q2.2⟩ hgA hgC hk1 hk2 (by omega) (by omega)
  have kh := fun w ho ho' => x_meetHeight (X := X) (d := d) (w := w) (g := g) (g' := g') (a := a) (b := b) (a' := a') (b' := b') ho ho' ⟨by omega, q1.2⟩ ⟨by omega, q2.2⟩ hgC hm1
  rw [hK] at kw
  have hxa' : a' ∣ (K : Int) * ((k1 : Int) * a') := by rw [← Int.mul_assoc]; exact Int.dvd_mul_left _ _
  have hxa : a ∣ (K : Int) * ((k1 : Int) * a') := by
    refine ⟨(K : Int) * k2, ?_⟩
    rw [hk2]
    conv => rhs; rw [hk1]
    grind
  have hxc : c ∣ (m1 : Int) * c' := by
    refine ⟨m2, ?_⟩
    rw [hm2]
    conv => rhs; rw [hm1]
    grind
  have hxc' : c' ∣ (m1 : Int) * c' := Int.dvd_mul_left _ _
  generalize hwd : (K : Int) * ((k1 : Int) * a') = wd at *
  generalize hhg : (m1 : Int) * c' = hg' at *
  rw [← p3] at y2 y3 y5 y6 y7 y8 y9
  rw [← p4] at y2 y3 y5 y6 y7
  have hjo : rz_ex X (d + 4) 26 [.ref g, .ref g'] w = some (.inl (some (.ref w.length)), w ++ [.inr (3, [.int (Int32.ofInt gA), .int (Int32.ofInt (h % e)), .int (Int32.ofInt e)])], 1, 3) := by
    simp (disch := first | exact nl_i | exact nl_r | exact nl_0 | exact nl_n | exact nl_x | exact kd_r | exact kd_n | exact kd_x | exact kd_o | exact cats0 | exact cats1 | exact cats2 | exact cats3 | exact cats4 | exact nr_i | exact nr_l | exact nr_z0 | exact nr_z1 | exact ft_i | exact ft_l | omega | rfl | assumption | (refine i_ne0 ?_ ?_ ?_ <;> omega) | (refine j_ne0 ?_ ?_ ?_ <;> omega) | (refine i_new ?_ ?_ <;> omega) | (refine bl_t ?_; with_unfolding_all rfl) | exact ft_z0 | exact ft_z1) only [n_X3_joinOf, q_X3_joinOf_0, q_X3_joinOf_1, q_X3_joinOf_4, q_X3_joinOf_5, q_X3_joinOf_6, q_X3_joinOf_9, q_X3_joinOf_10, q_X3_joinOf_11, q_X3_joinOf_14, q_X3_joinOf_15, q_X3_joinOf_16, q_X3_joinOf_19, q_X3_joinOf_20, q_X3_joinOf_21, q_X3_joinOf_24, q_X3_joinOf_25, q_X3_joinOf_26, q_X3_joinOf_29, q_X3_joinOf_30, q_X3_joinOf_33, q_X3_joinOf_36, q_X3_joinOf_36n, i_add, i_sub, i_mul, i_neg, i_lt, i_le, i_eq, i_tm, i_div, i_j, j_i, j_add, j_sub, j_mul, j_neg, j_lt, j_le, j_eq, j_div, c_lt, c_le, c_gt, c_ge, c_eq, i_nat, rz_k, Nat.add_zero, Nat.zero_add, Nat.add_assoc, Nat.reduceAdd, if_true, if_false, gf_eq ho, gf_eq ho', List.getElem?_cons_zero, List.getElem?_cons_succ, kC, u4]
  generalize hJ : w ++ [.inr (3, [.int (Int32.ofInt gA), .int (Int32.ofInt (h % e)), .int (Int32.ofInt e)])] = w1 at *
  have f1 : rz_fr [] w w1 := by rw [← hJ]; exact fr_app
  have oj : v_ob w1 w.length 3 [.int (Int32.ofInt gA), .int (Int32.ofInt (h % e)), .int (Int32.ofInt e)] := by rw [← hJ]; unfold v_ob; exact w_new
  have o1 : v_ob w1 g 3 _ := fr_get f1 (by simp) ho
  have o1' : v_ob w1 g' 3 _ := fr_get f1 (by simp) ho'
  have pa1 := (x_partOf (X := X) (d := d + 2) o1 oj ⟨r1, q1.1⟩ ⟨r2, by omega⟩ ⟨by omega, q1.2⟩ ⟨by omega, by omega⟩ ⟨hm0, by omega⟩ ⟨by omega, by omega⟩).1 part1
  have pa2 := (x_partOf (X := X) (d := d + 2) o1' oj ⟨r1', q2.1⟩ ⟨r2', by omega⟩ ⟨by omega, q2.2⟩ ⟨by omega, by omega⟩ ⟨hm0, by omega⟩ ⟨by omega, by omega⟩).1 part2
  have xi := fun w ho => x_index (X := X) (d := d + 3) (w := w) (g := g) (A := a) (B := b) (C := c) ho
  have xi' := fun w ho => x_index (X := X) (d := d + 3) (w := w) (g := g') (A := a') (B := b') (C := c') ho
  have xj := fun w0 ho => x_index (X := X) (d := d + 3) (w := w0) (g := w.length) (A := (gA : Int)) (B := h % e) (C := (e : Int)) ho
  have hmi : rz_ex X (d + 4) 29 [.ref g, .ref g'] w1 = some (.inl (some (.long (Int64.ofInt (wd * hg')))), w1, 0, 0) := by
    simp (disch := first | exact nl_i | exact nl_r | exact nl_0 | exact nl_n | exact nl_x | exact kd_r | exact kd_n | exact kd_x | exact kd_o | exact cats0 | exact cats1 | exact cats2 | exact cats3 | exact cats4 | exact nr_i | exact nr_l | exact nr_z0 | exact nr_z1 | exact ft_i | exact ft_l | omega | rfl | assumption | (refine i_ne0 ?_ ?_ ?_ <;> omega) | (refine j_ne0 ?_ ?_ ?_ <;> omega) | (refine i_new ?_ ?_ <;> omega) | (refine bl_t ?_; with_unfolding_all rfl) | exact ft_z0 | exact ft_z1) only [n_X3_meetIndex, q_X3_meetIndex_0, q_X3_meetIndex_1, q_X3_meetIndex_2, q_X3_meetIndex_5, q_X3_meetIndex_6, q_X3_meetIndex_7, q_X3_meetIndex_10, q_X3_meetIndex_11, i_add, i_sub, i_mul, i_neg, i_lt, i_le, i_eq, i_tm, i_div, i_j, j_i, j_add, j_sub, j_mul, j_neg, j_lt, j_le, j_eq, j_div, c_lt, c_le, c_gt, c_ge, c_eq, i_nat, rz_k, Nat.add_zero, Nat.zero_add, Nat.add_assoc, Nat.reduceAdd, if_true, if_false, vk_eq o1, vk_eq o1', kw w1 o1 o1', kh w1 o1 o1']
  have hac0 : 0 ≤ a * c := Int.mul_nonneg (by omega) (by omega)
  have hac0' : 0 ≤ a' * c' := Int.mul_nonneg (by omega) (by omega)
  have hwh : 1 ≤ wd * hg' := by omega
  have hprod : wd * hg' * ((gA : Int) * (e : Int)) = a * c * (a' * c') := hfin
  have hpr0 : 0 ≤ wd * hg' * ((gA : Int) * (e : Int)) := Int.mul_nonneg (by omega) (by omega)
  by_cases big : 1000000 < wd * hg'
  · refine ⟨[.inr (3, [.int (Int32.ofInt gA), .int (Int32.ofInt (h % e)), .int (Int32.ofInt e)])], 1, 3, ?_, by omega, by omega⟩
    rw [hJ]
    have x1 := xi w1 o1
    have x2 := xi' w1 o1'
    have x3 := xj w1 oj
    generalize wd * hg' = mt at *
    generalize (gA : Int) * (e : Int) = ij at *
    generalize a * c = i1 at *
    generalize a' * c' = i2 at *
    clear p3 p4 p5 y1 y2 y3 y4 y5 y6 y7 y8 y9 pk
    simp (disch := first | exact nl_i | exact nl_r | exact nl_0 | exact nl_n | exact nl_x | exact kd_r | exact kd_n | exact kd_x | exact kd_o | exact cats0 | exact cats1 | exact cats2 | exact cats3 | exact cats4 | exact nr_i | exact nr_l | exact nr_z0 | exact nr_z1 | exact ft_i | exact ft_l | omega | rfl | assumption | (refine i_ne0 ?_ ?_ ?_ <;> omega) | (refine j_ne0 ?_ ?_ ?_ <;> omega) | (refine i_new ?_ ?_ <;> omega) | (refine bl_t ?_; with_unfolding_all rfl) | exact ft_z0 | exact ft_z1) only [↓reduceIte, n_X10_indexesAgree, q_X10_indexesAgree_0, q_X10_indexesAgree_1, q_X10_indexesAgree_2, q_X10_indexesAgree_5, q_X10_indexesAgree_6, q_X10_indexesAgree_7n, q_X10_indexesAgree_7, q_X10_indexesAgree_10, q_X10_indexesAgree_11, q_X10_indexesAgree_12, q_X10_indexesAgree_15, q_X10_indexesAgree_18, q_X10_indexesAgree_19, q_X10_indexesAgree_20, q_X10_indexesAgree_23, q_X10_indexesAgree_26, q_X10_indexesAgree_27, q_X10_indexesAgree_28, q_X10_indexesAgree_29, q_X10_indexesAgree_30, q_X10_indexesAgree_33, q_X10_indexesAgree_34, q_X10_indexesAgree_35, q_X10_indexesAgree_38, q_X10_indexesAgree_39, q_X10_indexesAgree_42, q_X10_indexesAgree_43, q_X10_indexesAgree_44, q_X10_indexesAgree_47, q_X10_indexesAgree_49, q_X10_indexesAgree_51n, q_X10_indexesAgree_51, q_X10_indexesAgree_54, q_X10_indexesAgree_56, q_X10_indexesAgree_59, q_X10_indexesAgree_60, q_X10_indexesAgree_61, q_X10_indexesAgree_62, q_X10_indexesAgree_65, q_X10_indexesAgree_67, q_X10_indexesAgree_68, q_X10_indexesAgree_71, q_X10_indexesAgree_74, q_X10_indexesAgree_76, q_X10_indexesAgree_77, q_X10_indexesAgree_80, q_X10_indexesAgree_83, q_X10_indexesAgree_84, q_X10_indexesAgree_85, q_X10_indexesAgree_86, q_X10_indexesAgree_87, q_X10_indexesAgree_90, q_X10_indexesAgree_91, q_X10_indexesAgree_92, q_X10_indexesAgree_93, q_X10_indexesAgree_96, q_X10_indexesAgree_97, q_X10_indexesAgree_98, q_X10_indexesAgree_101, q_X10_indexesAgree_102, q_X10_indexesAgree_103, q_X10_indexesAgree_104, q_X10_indexesAgree_107, q_X10_indexesAgree_108, q_X10_indexesAgree_111, q_X10_indexesAgree_112, i_add, i_sub, i_mul, i_neg, i_lt, i_le, i_eq, i_tm, i_div, i_j, j_i, j_add, j_sub, j_mul, j_neg, j_lt, j_le, j_eq, j_div, c_lt, c_le, c_gt, c_ge, c_eq, i_nat, rz_k, Nat.add_zero, Nat.zero_add, Nat.add_assoc, Nat.reduceAdd, if_true, if_false, vk_eq ho, vk_eq ho', vk_eq o1, vk_eq o1', vk_eq oj, hjo, pa1, pa2, hmi, x1, x2, x3, Int.reduceEq, not_true_eq_false, not_false_eq_true, eq_true (show 1000000 < mt by omega), hprod]
  · have hacb := z_ac hX1 hH1 (by omega)
    have hz : 0 ≤ wd.tdiv a * b % c ∧ wd.tdiv a * b % c ≤ 1000000 := by
      have := Int.emod_nonneg (wd.tdiv a * b) (show c ≠ 0 by omega)
      have := Int.emod_lt_of_pos (wd.tdiv a * b) (show 0 < c by omega)
      omega
    have hmo : rz_ex X (d + 4) 30 [.ref g, .ref g'] w1 = some (.inl (some (.ref w1.length)), w1 ++ [.inr (3, [.int (Int32.ofInt wd), .int (Int32.ofInt (wd.tdiv a * b % c + c * (t : Int))), .int (Int32.ofInt hg')])], 1, 3) := by
      rcases Int.lt_or_le c c' with hcc | hcc
      · have := x_meetOf2 (X := X) (d := d) (t := t2') o1 o1' ⟨r1, q1.1⟩ ⟨r1', q2.1⟩ ⟨r2, by omega⟩ ⟨r2', by omega⟩ ⟨by omega, q1.2⟩ ⟨by omega, q2.2⟩ (kw w1 o1 o1') (kh w1 o1 o1') ⟨by omega, hacb.1⟩ hcc y4 y5 y6
        rw [y7] at this
        exact this
      · exact x_meetOf1 (X := X) (d := d) (t := t) o1 o1' ⟨r1, q1.1⟩ ⟨r1', q2.1⟩ ⟨r2, by omega⟩ ⟨r2', by omega⟩ ⟨by omega, q1.2⟩ ⟨by omega, q2.2⟩ (kw w1 o1 o1') (kh w1 o1 o1') ⟨by omega, hacb.1⟩ hcc y1 y2 y3
    have pm1 : zf_part wd (wd.tdiv a * b % c + c * (t : Int)) hg' a b c := by
      refine ⟨⟨z_tmd.mpr hxa, z_tmd.mpr ?_⟩, z0 _, z_tmd.mpr ?_⟩
      · have hd := Int.emod_add_mul_ediv (wd.tdiv a * b) c
        refine ⟨(t : Int) - wd.tdiv a * b / c, ?_⟩
        have : wd.tdiv a * b % c = wd.tdiv a * b - c * (wd.tdiv a * b / c) := by omega
        rw [this]; grind
      · rw [z1, Int.zero_mul, Int.sub_zero]; exact hxc
    have pm2 : zf_part wd (wd.tdiv a * b % c + c * (t : Int)) hg' a' b' c' := by
      refine ⟨⟨z_tmd.mpr hxa', z_tmd.mpr y2⟩, z0 _, z_tmd.mpr ?_⟩
      rw [z1, Int.zero_mul, Int.sub_zero]; exact hxc'
    clear p3 p4 p5 y1 y2 y3 y4 y5 y6 y7 pk
    generalize hyy : wd.tdiv a * b % c + c * (t : Int) = yy at *
    generalize hM : w1 ++ [.inr (3, [.int (Int32.ofInt wd), .int (Int32.ofInt yy), .int (Int32.ofInt hg')])] = w2 at *
    have f2 : rz_fr [] w1 w2 := by rw [← hM]; exact fr_app
    have om : v_ob w2 w1.length 3 [.int (Int32.ofInt wd), .int (Int32.ofInt yy), .int (Int32.ofInt hg')] := by rw [← hM]; unfold v_ob; exact w_new
    have o2 : v_ob w2 g 3 _ := fr_get f2 (by simp) o1
    have o2' : v_ob w2 g' 3 _ := fr_get f2 (by simp) o1'
    have oj2 : v_ob w2 w.length 3 _ := fr_get f2 (by simp) oj
    have pb1 := (x_partOf (X := X) (d := d + 2) om o2 ⟨by omega, hacb.1⟩ ⟨by omega, by omega⟩ ⟨by omega, hacb.2⟩ ⟨r1, q1.1⟩ ⟨r2, by omega⟩ ⟨by omega, q1.2⟩).1 pm1
    have pb2 := (x_partOf (X := X) (d := d + 2) om o2' ⟨by omega, hacb.1⟩ ⟨by omega, by omega⟩ ⟨by omega, hacb.2⟩ ⟨r1', q2.1⟩ ⟨r2', by omega⟩ ⟨by omega, q2.2⟩).1 pm2
    have xm := x_index (X := X) (d := d + 3) om
    refine ⟨[.inr (3, [.int (Int32.ofInt gA), .int (Int32.ofInt (h % e)), .int (Int32.ofInt e)]), .inr (3, [.int (Int32.ofInt wd), .int (Int32.ofInt yy), .int (Int32.ofInt hg')])], 2, 6, ?_, by omega, by omega⟩
    have ew : w ++ [.inr (3, [.int (Int32.ofInt gA), .int (Int32.ofInt (h % e)), .int (Int32.ofInt e)]), .inr (3, [.int (Int32.ofInt wd), .int (Int32.ofInt yy), .int (Int32.ofInt hg')])] = w2 := by
      rw [← hM, ← hJ, List.append_assoc]; rfl
    rw [ew]
    have x1 := xi w2 o2
    have x2 := xi' w2 o2'
    have x3 := xj w2 oj2
    generalize wd * hg' = mt at *
    generalize (gA : Int) * (e : Int) = ij at *
    generalize a * c = i1 at *
    generalize a' * c' = i2 at *
    simp (disch := first | exact nl_i | exact nl_r | exact nl_0 | exact nl_n | exact nl_x | exact kd_r | exact kd_n | exact kd_x | exact kd_o | exact cats0 | exact cats1 | exact cats2 | exact cats3 | exact cats4 | exact nr_i | exact nr_l | exact nr_z0 | exact nr_z1 | exact ft_i | exact ft_l | omega | rfl | assumption | (refine i_ne0 ?_ ?_ ?_ <;> omega) | (refine j_ne0 ?_ ?_ ?_ <;> omega) | (refine i_new ?_ ?_ <;> omega) | (refine bl_t ?_; with_unfolding_all rfl) | exact ft_z0 | exact ft_z1) only [↓reduceIte, n_X10_indexesAgree, q_X10_indexesAgree_0, q_X10_indexesAgree_1, q_X10_indexesAgree_2, q_X10_indexesAgree_5, q_X10_indexesAgree_6, q_X10_indexesAgree_7n, q_X10_indexesAgree_7, q_X10_indexesAgree_10, q_X10_indexesAgree_11, q_X10_indexesAgree_12, q_X10_indexesAgree_15, q_X10_indexesAgree_18, q_X10_indexesAgree_19, q_X10_indexesAgree_20, q_X10_indexesAgree_23, q_X10_indexesAgree_26, q_X10_indexesAgree_27, q_X10_indexesAgree_28, q_X10_indexesAgree_29, q_X10_indexesAgree_30, q_X10_indexesAgree_33, q_X10_indexesAgree_34, q_X10_indexesAgree_35, q_X10_indexesAgree_38, q_X10_indexesAgree_39, q_X10_indexesAgree_42, q_X10_indexesAgree_43, q_X10_indexesAgree_44, q_X10_indexesAgree_47, q_X10_indexesAgree_49, q_X10_indexesAgree_51n, q_X10_indexesAgree_51, q_X10_indexesAgree_54, q_X10_indexesAgree_56, q_X10_indexesAgree_59, q_X10_indexesAgree_60, q_X10_indexesAgree_61, q_X10_indexesAgree_62, q_X10_indexesAgree_65, q_X10_indexesAgree_67, q_X10_indexesAgree_68, q_X10_indexesAgree_71, q_X10_indexesAgree_74, q_X10_indexesAgree_76, q_X10_indexesAgree_77, q_X10_indexesAgree_80, q_X10_indexesAgree_83, q_X10_indexesAgree_84, q_X10_indexesAgree_85, q_X10_indexesAgree_86, q_X10_indexesAgree_87, q_X10_indexesAgree_90, q_X10_indexesAgree_91, q_X10_indexesAgree_92, q_X10_indexesAgree_93, q_X10_indexesAgree_96, q_X10_indexesAgree_97, q_X10_indexesAgree_98, q_X10_indexesAgree_101, q_X10_indexesAgree_102, q_X10_indexesAgree_103, q_X10_indexesAgree_104, q_X10_indexesAgree_107, q_X10_indexesAgree_108, q_X10_indexesAgree_111, q_X10_indexesAgree_112, i_add, i_sub, i_mul, i_neg, i_lt, i_le, i_eq, i_tm, i_div, i_j, j_i, j_add, j_sub, j_mul, j_neg, j_lt, j_le, j_eq, j_div, c_lt, c_le, c_gt, c_ge, c_eq, i_nat, rz_k, Nat.add_zero, Nat.zero_add, Nat.add_assoc, Nat.reduceAdd, if_true, if_false, vk_eq ho, vk_eq ho', vk_eq o1, vk_eq o1', vk_eq oj, vk_eq o2, vk_eq o2', vk_eq oj2, vk_eq om, hjo, pa1, pa2, pb1, pb2, hmi, hmo, x1, x2, x3, xm, Int.reduceEq, not_true_eq_false, not_false_eq_true, eq_false (show ¬ 1000000 < mt by omega), hprod]
end RZIB
