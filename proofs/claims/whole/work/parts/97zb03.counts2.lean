/-! part 97zb03: level 2: isSound: the counts agree -/
section RZCP
variable {X : rz_X} {d : Nat} {w w1 : rz_W} {nc ns : Nat} {x y : Nat → Int} {n : Nat}
def v_rs (cl : Int32) (w : rz_W) : Prop := ∃ (nn a : Int32) (O : Nat → Int32), v_ob w 18 6 [.int nn, .int cl, .ref 19, .ref 22, .ref 23, .ref 24, .ref 25, .int a] ∧ v_ia w 25 12 O
theorem v_ro_rs {cl : Int32} {w : rz_W} {l : List Nat} (h : v_ro cl w l) : v_rs cl w := by
  obtain ⟨nn, O, h1, h2, -⟩ := h
  exact ⟨nn, _, O, h1, h2⟩
def zl_all (x y : Nat → Int) (n : Nat) (t c x0 y0 : Int) (wd k : Nat) : Int := zp_sum (fun j => zl_row x y n t c x0 (y0 + (j : Int)) wd) k
theorem zl_all_b {t c x0 y0 : Int} {wd : Nat} (k : Nat) : 0 ≤ zl_all x y n t c x0 y0 wd k ∧ zl_all x y n t c x0 y0 wd k ≤ k * wd := by
  induction k with
  | zero => exact ⟨Int.le_refl _, by rw [show ((0 : Nat) : Int) * (wd : Int) = 0 by simp]; exact Int.le_refl _⟩
  | succ k ih =>
    have h := zl_row_b (x := x) (y := y) (n := n) (t := t) (c := c) (x0 := x0) (Y := y0 + (k : Int)) wd
    unfold zl_all at ih ⊢
    unfold zp_sum
    rw [show (((k + 1 : Nat) : Int) * (wd : Int)) = (k : Int) * wd + wd by push_cast; grind]
    omega
theorem zl_all_c {t c x0 y0 : Int} {wd k : Nat} (h1 : wd ≤ 200) (h2 : k ≤ 200) : 0 ≤ zl_all x y n t c x0 y0 wd k ∧ zl_all x y n t c x0 y0 wd k ≤ 40000 := by
  have h := zl_all_b (x := x) (y := y) (n := n) (t := t) (c := c) (x0 := x0) (y0 := y0) (wd := wd) k
  have : (k : Int) * (wd : Int) ≤ 200 * 200 := Int.mul_le_mul (by omega) (by omega) (by omega) (by omega)
  omega
theorem l_caall {t x0 y0 x1 tp : Int} {clv : Int32} (h0 : -100 ≤ x0 ∧ x0 ≤ 100) (hy0 : -100 ≤ y0) (ht : 1 ≤ t ∧ t ≤ 3) {wd hg : Nat} (hwd : x1 = x0 + (wd : Int) - 1) (hw2 : wd ≤ 200) (hhg : tp = y0 + (hg : Int) - 1) (hh2 : hg ≤ 200) (htp : tp ≤ 99) (m : Nat) : ∀ (w : rz_W) (j : Nat) (l8 l9 : Option Value), rz_nl l8 = true → j + m = hg → v_cp w x y n → v_rs clv w → ∃ (w' : rz_W) (l8' l9' : Option Value), rz_G X (d + 3) mz_X6_countsAgree 52 [some (.ref 18), some (.int (Int32.ofInt t)), some (.int (Int32.ofInt (zl_all x y n t 119 x0 y0 wd j))), some (.int (Int32.ofInt (zl_all x y n t 114 x0 y0 wd j))), some (.int (Int32.ofInt x0)), some (.int (Int32.ofInt x1)), some (.int (Int32.ofInt tp)), some (.int (Int32.ofInt (y0 + (j : Int)))), l8, l9] [] w nc ns = rz_G X (d + 3) mz_X6_countsAgree 133 [some (.ref 18), some (.int (Int32.ofInt t)), some (.int (Int32.ofInt (zl_all x y n t 119 x0 y0 wd hg))), some (.int (Int32.ofInt (zl_all x y n t 114 x0 y0 wd hg))), some (.int (Int32.ofInt x0)), some (.int (Int32.ofInt x1)), some (.int (Int32.ofInt tp)), some (.int (Int32.ofInt (y0 + (hg : Int)))), l8', l9'] [] w' nc ns ∧ rz_fr [18, 25] w w' ∧ v_cp w' x y n ∧ v_rs clv w' := by
  induction m with
  | zero =>
    intro w j l8 l9 hl8 hj hc hr
    obtain rfl : j = hg := by omega
    refine ⟨w, l8, l9, ?_, fr_refl, hc, hr⟩
    rw [q_X6_countsAgree_52]
    simp (disch := first | exact nl_i | exact nl_r | exact nl_0 | exact nl_n | exact nl_x | exact kd_r | exact kd_n | exact kd_x | exact kd_o | exact cats0 | exact cats1 | exact cats2 | exact cats3 | exact cats4 | exact nr_i | exact nr_l | exact nr_z0 | exact nr_z1 | exact ft_i | exact ft_l | omega | rfl | assumption | (refine i_ne0 ?_ ?_ ?_ <;> omega) | (refine j_ne0 ?_ ?_ ?_ <;> omega) | (refine i_new ?_ ?_ <;> omega) | (refine bl_t ?_; with_unfolding_all rfl) | exact ft_z0 | exact ft_z1) only [↓reduceIte, q_X6_countsAgree_54, q_X6_countsAgree_56, q_X6_countsAgree_59, q_X6_countsAgree_60, q_X6_countsAgree_62, q_X6_countsAgree_63, q_X6_countsAgree_64, q_X6_countsAgree_67, q_X6_countsAgree_69, i_add, i_sub, i_mul, i_neg, i_lt, i_le, i_eq, i_tm, i_div, i_j, j_i, j_add, j_sub, j_mul, j_neg, j_lt, j_le, j_eq, j_div, c_lt, c_le, c_gt, c_ge, c_eq, i_nat, rz_k, Nat.add_zero, Nat.zero_add, Nat.add_assoc, Nat.reduceAdd, if_true, if_false, eq_true (show tp < y0 + (j : Int) by omega)]
  | succ m ih =>
    intro w j l8 l9 hl8 hj hc hr
    obtain ⟨nn, a, O, h18, h25⟩ := id hr
    obtain ⟨w1, e, f, hc1, hro⟩ := x_fsides (X := X) (d := d) (Y := y0 + (j : Int)) (t := t) (by omega) ht hc h18 h25
    have hr1 := v_ro_rs hro
    obtain ⟨nn1, a1, O1, h18', h25'⟩ := id hr1
    have ba := zl_all_c (x := x) (y := y) (n := n) (t := t) (c := 119) (x0 := x0) (y0 := y0) (wd := wd) (k := j) hw2 (by omega)
    have bb := zl_all_c (x := x) (y := y) (n := n) (t := t) (c := 114) (x0 := x0) (y0 := y0) (wd := wd) (k := j) hw2 (by omega)
    obtain ⟨l9', e2⟩ := l_carow (X := X) (d := d) (nc := nc) (ns := ns) (x1 := x1) (tp := tp) (I := zl_all x y n t 119 x0 y0 wd j) (R := zl_all x y n t 114 x0 y0 wd j) h0 (Y := y0 + (j : Int)) (by omega) ht (by omega) (by omega) hc1 hro hwd hw2 wd 0 l9 (by omega)
    obtain ⟨w2, l8'', l9'', e3, f3, hc3, hr3⟩ := ih w1 (j + 1) (some (.int (Int32.ofInt (x0 + (wd : Int))))) l9' rfl (by omega) hc1 hr1
    refine ⟨w2, l8'', l9'', ?_, fr_trans f f3, hc3, hr3⟩
    rw [← e3, q_X6_countsAgree_52]
    have e0 : zl_row x y n t 119 x0 (y0 + (j : Int)) 0 = 0 := rfl
    have e0' : zl_row x y n t 114 x0 (y0 + (j : Int)) 0 = 0 := rfl
    rw [e0, e0', Int.add_zero, Int.add_zero, show x0 + ((0 : Nat) : Int) = x0 by simp] at e2
    simp (disch := first | exact nl_i | exact nl_r | exact nl_0 | exact nl_n | exact nl_x | exact kd_r | exact kd_n | exact kd_x | exact kd_o | exact cats0 | exact cats1 | exact cats2 | exact cats3 | exact cats4 | exact nr_i | exact nr_l | exact nr_z0 | exact nr_z1 | exact ft_i | exact ft_l | omega | rfl | assumption | (refine i_ne0 ?_ ?_ ?_ <;> omega) | (refine j_ne0 ?_ ?_ ?_ <;> omega) | (refine i_new ?_ ?_ <;> omega) | (refine bl_t ?_; with_unfolding_all rfl) | exact ft_z0 | exact ft_z1) only [↓reduceIte, q_X6_countsAgree_54, q_X6_countsAgree_56, q_X6_countsAgree_59, q_X6_countsAgree_60, q_X6_countsAgree_62, q_X6_countsAgree_63, q_X6_countsAgree_64, q_X6_countsAgree_67, q_X6_countsAgree_69, i_add, i_sub, i_mul, i_neg, i_lt, i_le, i_eq, i_tm, i_div, i_j, j_i, j_add, j_sub, j_mul, j_neg, j_lt, j_le, j_eq, j_div, c_lt, c_le, c_gt, c_ge, c_eq, i_nat, rz_k, Nat.add_zero, Nat.zero_add, Nat.add_assoc, Nat.reduceAdd, if_true, if_false, eq_false (show ¬ tp < y0 + (j : Int) by omega), vk_eq h18, e]
    rw [e2]
    simp (disch := first | exact nl_i | exact nl_r | exact nl_0 | exact nl_n | exact nl_x | exact kd_r | exact kd_n | exact kd_x | exact kd_o | exact cats0 | exact cats1 | exact cats2 | exact cats3 | exact cats4 | exact nr_i | exact nr_l | exact nr_z0 | exact nr_z1 | exact ft_i | exact ft_l | omega | rfl | assumption | (refine i_ne0 ?_ ?_ ?_ <;> omega) | (refine j_ne0 ?_ ?_ ?_ <;> omega) | (refine i_new ?_ ?_ <;> omega) | (refine bl_t ?_; with_unfolding_all rfl) | exact ft_z0 | exact ft_z1) only [↓reduceIte, q_X6_countsAgree_127, q_X6_countsAgree_130, i_add, i_sub, i_mul, i_neg, i_lt, i_le, i_eq, i_tm, i_div, i_j, j_i, j_add, j_sub, j_mul, j_neg, j_lt, j_le, j_eq, j_div, c_lt, c_le, c_gt, c_ge, c_eq, i_nat, rz_k, Nat.add_zero, Nat.zero_add, Nat.add_assoc, Nat.reduceAdd, if_true, if_false]
    have ek : y0 + ((j + 1 : Nat) : Int) = y0 + (j : Int) + 1 := by omega
    have es : ∀ c, zl_all x y n t c x0 y0 wd (j + 1) = zl_all x y n t c x0 y0 wd j + zl_row x y n t c x0 (y0 + (j : Int)) wd := fun _ => rfl
    rw [ek, es, es]
/-- Pick, as the class counts it -/
theorem x_counts {t : Nat} {clv : Int32} (ht : 1 ≤ t ∧ t ≤ 3) (hc : v_cp w x y n) (h3 : 3 ≤ n) (hok : zp_ok x y n) (hr : v_rs clv w) : ∃ w', rz_ex X (d + 4) 76 [.ref 18, .int (Int32.ofInt (t : Int))] w = some (.inl (some (.int (Int32.ofInt 1))), w', 0, 0) ∧ rz_fr [18, 25] w w' ∧ v_cp w' x y n ∧ v_rs clv w' := by
  obtain ⟨cl, a, P, Q, h18, h22, h23, hn, hxy, he⟩ := id hc
  have hx : ∀ k, -20 ≤ x k ∧ x k ≤ 20 := fun k => (hxy k).1
  have hy : ∀ k, -20 ≤ y k ∧ y k ≤ 20 := fun k => (hxy k).2
  have x1 := x_leastX (X := X) (d := d + 1) hc h22 (fun k hk => (he k hk).1) hx
  have x2 := x_greatX (X := X) (d := d + 1) hc h22 (fun k hk => (he k hk).1) hx
  have x3 := x_leastX (X := X) (d := d + 1) hc h23 (fun k hk => (he k hk).2) hy
  have x4 := x_greatX (X := X) (d := d + 1) hc h23 (fun k hk => (he k hk).2) hy
  have b1 := zl_mn_b hx n
  have b2 := zl_mx_b hx n
  have b3 := zl_mn_b hy n
  have b4 := zl_mx_b hy n
  have le1 : zl_mn x n ≤ zl_mx x n := by have := b1.2 0 (by omega); have := b2.2 0 (by omega); omega
  have le2 : zl_mn y n ≤ zl_mx y n := by have := b3.2 0 (by omega); have := b4.2 0 (by omega); omega
  have tb : ∀ {a : Int}, -20 ≤ a → a ≤ 20 → -60 ≤ (t : Int) * a ∧ (t : Int) * a ≤ 60 := by
    intro a h1 h2
    have := Int.mul_le_mul_of_nonneg_left h1 (show (0 : Int) ≤ t by omega)
    have := Int.mul_le_mul_of_nonneg_left h2 (show (0 : Int) ≤ t by omega)
    omega
  have t1 := tb b1.1.1 b1.1.2
  have t2 := tb b2.1.1 b2.1.2
  have t3 := tb b3.1.1 b3.1.2
  have t4 := tb b4.1.1 b4.1.2
  have m1 := Int.mul_le_mul_of_nonneg_left le1 (show (0 : Int) ≤ t by omega)
  have m2 := Int.mul_le_mul_of_nonneg_left le2 (show (0 : Int) ≤ t by omega)
  -- the sums
  have hmul : ∀ {a b : Int}, a ≤ b → (t : Int) * a ≤ (t : Int) * b := fun h => Int.mul_le_mul_of_nonneg_left h (by omega)
  obtain ⟨p1, p2⟩ := gm_pick_t (t := t) (by omega) h3 hxy hok
  have hout := fun {Xx Y : Int} => gm_outside (x := x) (y := y) (n := n) (t := t) (by omega) h3 hok (a := (t : Int) * zl_mn x n) (b := (t : Int) * zl_mx x n) (c := (t : Int) * zl_mn y n) (e := (t : Int) * zl_mx y n) (fun i hi => ⟨hmul (b1.2 i hi), hmul (b2.2 i hi)⟩) (fun i hi => ⟨hmul (b3.2 i hi), hmul (b4.2 i hi)⟩) (Xx := Xx) (Y := Y)
  have tb20 : ((20 * t : Nat) : Int) = 20 * (t : Int) := by push_cast; rfl
  have lo : ∀ {a : Int}, -20 ≤ a → -((20 * t : Nat) : Int) ≤ (t : Int) * a := by
    intro a h
    have := Int.mul_le_mul_of_nonneg_left h (show (0 : Int) ≤ t by omega)
    rw [tb20]; omega
  have hi : ∀ {a : Int}, a ≤ 20 → (t : Int) * a ≤ ((20 * t : Nat) : Int) := by
    intro a h
    have := Int.mul_le_mul_of_nonneg_left h (show (0 : Int) ≤ t by omega)
    rw [tb20]; omega
  rw [gm_frame (a := (t : Int) * zl_mn x n) (b := (t : Int) * zl_mx x n) (c := (t : Int) * zl_mn y n) (e := (t : Int) * zl_mx y n) (lo b1.1.1) (by omega) (hi b2.1.2) (lo b3.1.1) (by omega) (hi b4.1.2) (fun z hz => if_neg (hout hz).2)] at p1
  rw [gm_frame (a := (t : Int) * zl_mn x n) (b := (t : Int) * zl_mx x n) (c := (t : Int) * zl_mn y n) (e := (t : Int) * zl_mx y n) (lo b1.1.1) (by omega) (hi b2.1.2) (lo b3.1.1) (by omega) (hi b4.1.2) (fun z hz => if_neg (hout hz).1)] at p2
  have p1' : zl_all x y n t 114 ((t : Int) * zl_mn x n) ((t : Int) * zl_mn y n) ((t : Int) * zl_mx x n + 1 - (t : Int) * zl_mn x n).toNat ((t : Int) * zl_mx y n + 1 - (t : Int) * zl_mn y n).toNat = t * zp_rim x y n := p1
  have p2' : 2 * zl_all x y n t 119 ((t : Int) * zl_mn x n) ((t : Int) * zl_mn y n) ((t : Int) * zl_mx x n + 1 - (t : Int) * zl_mn x n).toNat ((t : Int) * zl_mx y n + 1 - (t : Int) * zl_mn y n).toNat + t * zp_rim x y n = t * t * ((zp_area x y n).natAbs : Int) + 2 := p2
  have hzA := z_area_b (x := x) (y := y) (n := n) hxy n
  have hAb : -9600 ≤ zp_area x y n ∧ zp_area x y n ≤ 9600 := by unfold zp_area; omega
  have hrb := z_rim_b (x := x) (y := y) (n := n) hxy n
  have hrb2 : 0 ≤ zp_rim x y n ∧ zp_rim x y n ≤ 480 := by unfold zp_rim; omega
  clear p1 p2 hout
  have ca := zl_all_c (x := x) (y := y) (n := n) (t := t) (c := 119) (x0 := (t : Int) * zl_mn x n) (y0 := (t : Int) * zl_mn y n) (wd := ((t : Int) * zl_mx x n + 1 - (t : Int) * zl_mn x n).toNat) (k := ((t : Int) * zl_mx y n + 1 - (t : Int) * zl_mn y n).toNat) (by omega) (by omega)
  have cb := zl_all_c (x := x) (y := y) (n := n) (t := t) (c := 114) (x0 := (t : Int) * zl_mn x n) (y0 := (t : Int) * zl_mn y n) (wd := ((t : Int) * zl_mx x n + 1 - (t : Int) * zl_mn x n).toNat) (k := ((t : Int) * zl_mx y n + 1 - (t : Int) * zl_mn y n).toNat) (by omega) (by omega)
  obtain ⟨w', l8', l9', e, f, hc', hr'⟩ := l_caall (X := X) (d := d) (nc := 0) (ns := 0) (x := x) (y := y) (n := n) (t := (t : Int)) (x0 := (t : Int) * zl_mn x n) (y0 := (t : Int) * zl_mn y n) (x1 := (t : Int) * zl_mx x n) (tp := (t : Int) * zl_mx y n) (clv := clv) (by omega) (by omega) (by omega) (wd := ((t : Int) * zl_mx x n + 1 - (t : Int) * zl_mn x n).toNat) (hg := ((t : Int) * zl_mx y n + 1 - (t : Int) * zl_mn y n).toNat) (by omega) (by omega) (by omega) (by omega) (by omega) ((t : Int) * zl_mx y n + 1 - (t : Int) * zl_mn y n).toNat w 0 none none rfl (by omega) hc hr
  have xt := x_twice (X := X) (d := d) hc'
  have xr := x_rim (X := X) (d := d) hc'
  obtain ⟨cl2, a2, P2, Q2, h18', -⟩ := id hc'
  refine ⟨w', ?_, f, hc', hr'⟩
  have z1 : zl_all x y n t 119 ((t : Int) * zl_mn x n) ((t : Int) * zl_mn y n) ((t : Int) * zl_mx x n + 1 - (t : Int) * zl_mn x n).toNat 0 = 0 := rfl
  have z2 : zl_all x y n t 114 ((t : Int) * zl_mn x n) ((t : Int) * zl_mn y n) ((t : Int) * zl_mx x n + 1 - (t : Int) * zl_mn x n).toNat 0 = 0 := rfl
  rw [z1, z2, show (t : Int) * zl_mn y n + ((0 : Nat) : Int) = (t : Int) * zl_mn y n by simp] at e
  simp (disch := first | exact nl_i | exact nl_r | exact nl_0 | exact nl_n | exact nl_x | exact kd_r | exact kd_n | exact kd_x | exact kd_o | exact cats0 | exact cats1 | exact cats2 | exact cats3 | exact cats4 | exact nr_i | exact nr_l | exact nr_z0 | exact nr_z1 | exact ft_i | exact ft_l | omega | rfl | assumption | (refine i_ne0 ?_ ?_ ?_ <;> omega) | (refine j_ne0 ?_ ?_ ?_ <;> omega) | (refine i_new ?_ ?_ <;> omega) | (refine bl_t ?_; with_unfolding_all rfl) | exact ft_z0 | exact ft_z1) only [↓reduceIte, n_X6_countsAgree, q_X6_countsAgree_0, q_X6_countsAgree_1, q_X6_countsAgree_2, q_X6_countsAgree_3, q_X6_countsAgree_4, q_X6_countsAgree_5, q_X6_countsAgree_6, q_X6_countsAgree_7, q_X6_countsAgree_10, q_X6_countsAgree_13, q_X6_countsAgree_14, q_X6_countsAgree_16, q_X6_countsAgree_17, q_X6_countsAgree_18, q_X6_countsAgree_19, q_X6_countsAgree_22, q_X6_countsAgree_25, q_X6_countsAgree_26, q_X6_countsAgree_28, q_X6_countsAgree_29, q_X6_countsAgree_30, q_X6_countsAgree_31, q_X6_countsAgree_34, q_X6_countsAgree_37, q_X6_countsAgree_38, q_X6_countsAgree_40, q_X6_countsAgree_41, q_X6_countsAgree_42, q_X6_countsAgree_43, q_X6_countsAgree_46, q_X6_countsAgree_49, q_X6_countsAgree_50, i_add, i_sub, i_mul, i_neg, i_lt, i_le, i_eq, i_tm, i_div, i_j, j_i, j_add, j_sub, j_mul, j_neg, j_lt, j_le, j_eq, j_div, c_lt, c_le, c_gt, c_ge, c_eq, i_nat, rz_k, Nat.add_zero, Nat.zero_add, Nat.add_assoc, Nat.reduceAdd, if_true, if_false, vk_eq h18, gf_eq h18, List.getElem?_cons_zero, List.getElem?_cons_succ, x1, x2, x3, x4]
  rw [e]
  generalize zl_all x y n t 119 ((t : Int) * zl_mn x n) ((t : Int) * zl_mn y n) ((t : Int) * zl_mx x n + 1 - (t : Int) * zl_mn x n).toNat ((t : Int) * zl_mx y n + 1 - (t : Int) * zl_mn y n).toNat = I at *
  generalize zl_all x y n t 114 ((t : Int) * zl_mn x n) ((t : Int) * zl_mn y n) ((t : Int) * zl_mx x n + 1 - (t : Int) * zl_mn x n).toNat ((t : Int) * zl_mx y n + 1 - (t : Int) * zl_mn y n).toNat = R at *
  generalize zp_rim x y n = rm at *
  have hA1 : ((zp_area x y n).natAbs : Int) * (t : Int) * (t : Int) = t * t * ((zp_area x y n).natAbs : Int) := by grind
  have hA0 : 0 ≤ ((zp_area x y n).natAbs : Int) ∧ ((zp_area x y n).natAbs : Int) ≤ 9600 := by omega
  generalize ((zp_area x y n).natAbs : Int) = A at *
  have hA2 : 0 ≤ A * (t : Int) ∧ A * (t : Int) ≤ 30000 := ⟨Int.mul_nonneg hA0.1 (by omega), by have := Int.mul_le_mul hA0.2 (show (t : Int) ≤ 3 by omega) (by omega) (by omega); omega⟩
  have hr2 : rm * (t : Int) = t * rm := Int.mul_comm _ _
  have hr3 : 0 ≤ t * rm ∧ t * rm ≤ 1440 := ⟨Int.mul_nonneg (by omega) hrb2.1, by have := Int.mul_le_mul (show (t : Int) ≤ 3 by omega) hrb2.2 (by omega) (by omega); omega⟩
  have c1 : A * (t : Int) * (t : Int) = 2 * I + R - 2 := by omega
  have c2 : 2 * (I + R) = A * (t : Int) * (t : Int) + rm * (t : Int) + 2 := by omega
  simp (disch := first | exact nl_i | exact nl_r | exact nl_0 | exact nl_n | exact nl_x | exact kd_r | exact kd_n | exact kd_x | exact kd_o | exact cats0 | exact cats1 | exact cats2 | exact cats3 | exact cats4 | exact nr_i | exact nr_l | exact nr_z0 | exact nr_z1 | exact ft_i | exact ft_l | omega | rfl | assumption | (refine i_ne0 ?_ ?_ ?_ <;> omega) | (refine j_ne0 ?_ ?_ ?_ <;> omega) | (refine i_new ?_ ?_ <;> omega) | (refine bl_t ?_; with_unfolding_all rfl) | exact ft_z0 | exact ft_z1) only [↓reduceIte, q_X6_countsAgree_133, q_X6_countsAgree_134, q_X6_countsAgree_137, q_X6_countsAgree_139, q_X6_countsAgree_141, q_X6_countsAgree_142, q_X6_countsAgree_143, q_X6_countsAgree_144, q_X6_countsAgree_145, q_X6_countsAgree_146, q_X6_countsAgree_147, q_X6_countsAgree_148, q_X6_countsAgree_149, q_X6_countsAgree_150, q_X6_countsAgree_151, q_X6_countsAgree_152, q_X6_countsAgree_155, q_X6_countsAgree_156, q_X6_countsAgree_157, q_X6_countsAgree_158, q_X6_countsAgree_159, q_X6_countsAgree_160, q_X6_countsAgree_162, q_X6_countsAgree_163, q_X6_countsAgree_164, q_X6_countsAgree_165, q_X6_countsAgree_166, q_X6_countsAgree_167, q_X6_countsAgree_170, q_X6_countsAgree_171, q_X6_countsAgree_172, q_X6_countsAgree_173, q_X6_countsAgree_174, q_X6_countsAgree_175, q_X6_countsAgree_178, q_X6_countsAgree_179, q_X6_countsAgree_182, q_X6_countsAgree_183, i_add, i_sub, i_mul, i_neg, i_lt, i_le, i_eq, i_tm, i_div, i_j, j_i, j_add, j_sub, j_mul, j_neg, j_lt, j_le, j_eq, j_div, c_lt, c_le, c_gt, c_ge, c_eq, i_nat, rz_k, Nat.add_zero, Nat.zero_add, Nat.add_assoc, Nat.reduceAdd, if_true, if_false, vk_eq h18', xt, xr]
  rw [if_neg (fun h => h c1), if_neg (fun h => h c2)]
end RZCP
