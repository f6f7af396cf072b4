/-! part 97zb02: level 2: isSound: the polygon's places are counted -/
section RZCO
variable {X : rz_X} {d : Nat} {w w1 : rz_W} {nc ns : Nat} {x y : Nat → Int} {n : Nat}
def zl_mn (f : Nat → Int) : Nat → Int
  | 0 => 20
  | k + 1 => min (zl_mn f k) (f k)
def zl_mx (f : Nat → Int) : Nat → Int
  | 0 => -20
  | k + 1 => max (zl_mx f k) (f k)
theorem zl_mn_b {f : Nat → Int} (hf : ∀ k, -20 ≤ f k ∧ f k ≤ 20) : ∀ k, (-20 ≤ zl_mn f k ∧ zl_mn f k ≤ 20) ∧ ∀ i, i < k → zl_mn f k ≤ f i := by
  intro k
  induction k with
  | zero => exact ⟨by unfold zl_mn; omega, fun i hi => by omega⟩
  | succ k ih =>
    have h := hf k
    unfold zl_mn
    refine ⟨by omega, fun i hi => ?_⟩
    by_cases e : i = k
    · subst e; omega
    · have := ih.2 i (by omega); omega
theorem zl_mx_b {f : Nat → Int} (hf : ∀ k, -20 ≤ f k ∧ f k ≤ 20) : ∀ k, (-20 ≤ zl_mx f k ∧ zl_mx f k ≤ 20) ∧ ∀ i, i < k → f i ≤ zl_mx f k := by
  intro k
  induction k with
  | zero => exact ⟨by unfold zl_mx; omega, fun i hi => by omega⟩
  | succ k ih =>
    have h := hf k
    unfold zl_mx
    refine ⟨by omega, fun i hi => ?_⟩
    by_cases e : i = k
    · subst e; omega
    · have := ih.2 i (by omega); omega
theorem l_least {q : Nat} {f : Nat → Int} {F : Nat → Int32} (h : v_cp w x y n) (hq : v_ia w q 12 F) (hF : ∀ k, k < n → F k = Int32.ofInt (f k)) (hf : ∀ k, -20 ≤ f k ∧ f k ≤ 20) (m : Nat) : ∀ i, i + m = n → rz_G X (d + 1) mz_X6_least 5 [some (.ref 18), some (.ref q), some (.int (Int32.ofInt (zl_mn f i))), some (.int (Int32.ofInt (i : Int)))] [] w nc ns = some (.inl (some (.int (Int32.ofInt (zl_mn f n)))), w, nc, ns) := by
  obtain ⟨cl, a, P, Q, h18, h22, h23, hn, hr, he⟩ := id h
  induction m with
  | zero =>
    intro i hi
    obtain rfl : i = n := by omega
    rw [q_X6_least_5]
    simp (disch := first | exact nl_i | exact nl_r | exact nl_0 | exact nl_n | exact nl_x | exact kd_r | exact kd_n | exact kd_x | exact kd_o | exact cats0 | exact cats1 | exact cats2 | exact cats3 | exact cats4 | exact nr_i | exact nr_l | exact nr_z0 | exact nr_z1 | exact ft_i | exact ft_l | omega | rfl | assumption | (refine i_ne0 ?_ ?_ ?_ <;> omega) | (refine j_ne0 ?_ ?_ ?_ <;> omega) | (refine i_new ?_ ?_ <;> omega) | (refine bl_t ?_; with_unfolding_all rfl) | exact ft_z0 | exact ft_z1) only [↓reduceIte, n_X6_least, q_X6_least_0, q_X6_least_2, q_X6_least_3, q_X6_least_4, q_X6_least_6, q_X6_least_7, q_X6_least_10, q_X6_least_13, q_X6_least_14, q_X6_least_15, q_X6_least_15x, q_X6_least_16, q_X6_least_19, q_X6_least_20, q_X6_least_21, q_X6_least_22, q_X6_least_22x, q_X6_least_23, q_X6_least_26, q_X6_least_27, q_X6_least_30, q_X6_least_33, q_X6_least_34, i_add, i_sub, i_mul, i_neg, i_lt, i_le, i_eq, i_tm, i_div, i_j, j_i, j_add, j_sub, j_mul, j_neg, j_lt, j_le, j_eq, j_div, c_lt, c_le, c_gt, c_ge, c_eq, i_nat, rz_k, Nat.add_zero, Nat.zero_add, Nat.add_assoc, Nat.reduceAdd, if_true, if_false, gf_eq h18, List.getElem?_cons_zero, List.getElem?_cons_succ]
    rw [if_pos (by omega)]
  | succ m ih =>
    intro i hi
    have hb := (zl_mn_b hf i).1
    have h2 := hf i
    have e := x_min (X := X) (d := d) (w := w) (a := zl_mn f i) (b := f i) (by omega) (by omega) (by omega) (by omega)
    rw [← ih (i + 1) (by omega), q_X6_least_5]
    simp (disch := first | exact nl_i | exact nl_r | exact nl_0 | exact nl_n | exact nl_x | exact kd_r | exact kd_n | exact kd_x | exact kd_o | exact cats0 | exact cats1 | exact cats2 | exact cats3 | exact cats4 | exact nr_i | exact nr_l | exact nr_z0 | exact nr_z1 | exact ft_i | exact ft_l | omega | rfl | assumption | (refine i_ne0 ?_ ?_ ?_ <;> omega) | (refine j_ne0 ?_ ?_ ?_ <;> omega) | (refine i_new ?_ ?_ <;> omega) | (refine bl_t ?_; with_unfolding_all rfl) | exact ft_z0 | exact ft_z1) only [↓reduceIte, n_X6_least, q_X6_least_0, q_X6_least_2, q_X6_least_3, q_X6_least_4, q_X6_least_6, q_X6_least_7, q_X6_least_10, q_X6_least_13, q_X6_least_14, q_X6_least_15, q_X6_least_15x, q_X6_least_16, q_X6_least_19, q_X6_least_20, q_X6_least_21, q_X6_least_22, q_X6_least_22x, q_X6_least_23, q_X6_least_26, q_X6_least_27, q_X6_least_30, q_X6_least_33, q_X6_least_34, i_add, i_sub, i_mul, i_neg, i_lt, i_le, i_eq, i_tm, i_div, i_j, j_i, j_add, j_sub, j_mul, j_neg, j_lt, j_le, j_eq, j_div, c_lt, c_le, c_gt, c_ge, c_eq, i_nat, rz_k, Nat.add_zero, Nat.zero_add, Nat.add_assoc, Nat.reduceAdd, if_true, if_false, gf_eq h18, List.getElem?_cons_zero, List.getElem?_cons_succ, eq_false (show ¬ (n : Int) ≤ (i : Int) by omega), ln_eq hq, ai_eq hq, Int.toNat_natCast, hF i (show i < n by omega), e, eq_false (show ¬ ((12 : Nat) : Int) ≤ (i : Int) by omega)]
    rfl
theorem x_leastX {q : Nat} {f : Nat → Int} {F : Nat → Int32} (h : v_cp w x y n) (hq : v_ia w q 12 F) (hF : ∀ k, k < n → F k = Int32.ofInt (f k)) (hf : ∀ k, -20 ≤ f k ∧ f k ≤ 20) : rz_ex X (d + 2) 74 [.ref 18, .ref q] w = some (.inl (some (.int (Int32.ofInt (zl_mn f n)))), w, 0, 0) := by
  simp (disch := first | exact nl_i | exact nl_r | exact nl_0 | exact nl_n | exact nl_x | exact kd_r | exact kd_n | exact kd_x | exact kd_o | exact cats0 | exact cats1 | exact cats2 | exact cats3 | exact cats4 | exact nr_i | exact nr_l | exact nr_z0 | exact nr_z1 | exact ft_i | exact ft_l | omega | rfl | assumption | (refine i_ne0 ?_ ?_ ?_ <;> omega) | (refine j_ne0 ?_ ?_ ?_ <;> omega) | (refine i_new ?_ ?_ <;> omega) | (refine bl_t ?_; with_unfolding_all rfl) | exact ft_z0 | exact ft_z1) only [n_X6_least, q_X6_least_0, q_X6_least_2, q_X6_least_3, q_X6_least_4]
  exact l_least h hq hF hf n 0 (by omega)
theorem l_greatest {q : Nat} {f : Nat → Int} {F : Nat → Int32} (h : v_cp w x y n) (hq : v_ia w q 12 F) (hF : ∀ k, k < n → F k = Int32.ofInt (f k)) (hf : ∀ k, -20 ≤ f k ∧ f k ≤ 20) (m : Nat) : ∀ i, i + m = n → rz_G X (d + 1) mz_X6_greatest 5 [some (.ref 18), some (.ref q), some (.int (Int32.ofInt (zl_mx f i))), some (.int (Int32.ofInt (i : Int)))] [] w nc ns = some (.inl (some (.int (Int32.ofInt (zl_mx f n)))), w, nc, ns) := by
  obtain ⟨cl, a, P, Q, h18, h22, h23, hn, hr, he⟩ := id h
  induction m with
  | zero =>
    intro i hi
    obtain rfl : i = n := by omega
    rw [q_X6_greatest_5]
    simp (disch := first | exact nl_i | exact nl_r | exact nl_0 | exact nl_n | exact nl_x | exact kd_r | exact kd_n | exact kd_x | exact kd_o | exact cats0 | exact cats1 | exact cats2 | exact cats3 | exact cats4 | exact nr_i | exact nr_l | exact nr_z0 | exact nr_z1 | exact ft_i | exact ft_l | omega | rfl | assumption | (refine i_ne0 ?_ ?_ ?_ <;> omega) | (refine j_ne0 ?_ ?_ ?_ <;> omega) | (refine i_new ?_ ?_ <;> omega) | (refine bl_t ?_; with_unfolding_all rfl) | exact ft_z0 | exact ft_z1) only [↓reduceIte, n_X6_greatest, q_X6_greatest_0, q_X6_greatest_2, q_X6_greatest_3, q_X6_greatest_4, q_X6_greatest_6, q_X6_greatest_7, q_X6_greatest_10, q_X6_greatest_13, q_X6_greatest_14, q_X6_greatest_15, q_X6_greatest_15x, q_X6_greatest_16, q_X6_greatest_19, q_X6_greatest_20, q_X6_greatest_21, q_X6_greatest_22, q_X6_greatest_22x, q_X6_greatest_23, q_X6_greatest_26, q_X6_greatest_27, q_X6_greatest_30, q_X6_greatest_33, q_X6_greatest_34, i_add, i_sub, i_mul, i_neg, i_lt, i_le, i_eq, i_tm, i_div, i_j, j_i, j_add, j_sub, j_mul, j_neg, j_lt, j_le, j_eq, j_div, c_lt, c_le, c_gt, c_ge, c_eq, i_nat, rz_k, Nat.add_zero, Nat.zero_add, Nat.add_assoc, Nat.reduceAdd, if_true, if_false, gf_eq h18, List.getElem?_cons_zero, List.getElem?_cons_succ]
    rw [if_pos (by omega)]
  | succ m ih =>
    intro i hi
    have hb := (zl_mx_b hf i).1
    have h2 := hf i
    have e := x_max (X := X) (d := d) (w := w) (a := zl_mx f i) (b := f i) (by omega) (by omega) (by omega) (by omega)
    rw [← ih (i + 1) (by omega), q_X6_greatest_5]
    simp (disch := first | exact nl_i | exact nl_r | exact nl_0 | exact nl_n | exact nl_x | exact kd_r | exact kd_n | exact kd_x | exact kd_o | exact cats0 | exact cats1 | exact cats2 | exact cats3 | exact cats4 | exact nr_i | exact nr_l | exact nr_z0 | exact nr_z1 | exact ft_i | exact ft_l | omega | rfl | assumption | (refine i_ne0 ?_ ?_ ?_ <;> omega) | (refine j_ne0 ?_ ?_ ?_ <;> omega) | (refine i_new ?_ ?_ <;> omega) | (refine bl_t ?_; with_unfolding_all rfl) | exact ft_z0 | exact ft_z1) only [↓reduceIte, n_X6_greatest, q_X6_greatest_0, q_X6_greatest_2, q_X6_greatest_3, q_X6_greatest_4, q_X6_greatest_6, q_X6_greatest_7, q_X6_greatest_10, q_X6_greatest_13, q_X6_greatest_14, q_X6_greatest_15, q_X6_greatest_15x, q_X6_greatest_16, q_X6_greatest_19, q_X6_greatest_20, q_X6_greatest_21, q_X6_greatest_22, q_X6_greatest_22x, q_X6_greatest_23, q_X6_greatest_26, q_X6_greatest_27, q_X6_greatest_30, q_X6_greatest_33, q_X6_greatest_34, i_add, i_sub, i_mul, i_neg, i_lt, i_le, i_eq, i_tm, i_div, i_j, j_i, j_add, j_sub, j_mul, j_neg, j_lt, j_le, j_eq, j_div, c_lt, c_le, c_gt, c_ge, c_eq, i_nat, rz_k, Nat.add_zero, Nat.zero_add, Nat.add_assoc, Nat.reduceAdd, if_true, if_false, gf_eq h18, List.getElem?_cons_zero, List.getElem?_cons_succ, eq_false (show ¬ (n : Int) ≤ (i : Int) by omega), ln_eq hq, ai_eq hq, Int.toNat_natCast, hF i (show i < n by omega), e, eq_false (show ¬ ((12 : Nat) : Int) ≤ (i : Int) by omega)]
    rfl
theorem x_greatX {q : Nat} {f : Nat → Int} {F : Nat → Int32} (h : v_cp w x y n) (hq : v_ia w q 12 F) (hF : ∀ k, k < n → F k = Int32.ofInt (f k)) (hf : ∀ k, -20 ≤ f k ∧ f k ≤ 20) : rz_ex X (d + 2) 75 [.ref 18, .ref q] w = some (.inl (some (.int (Int32.ofInt (zl_mx f n)))), w, 0, 0) := by
  simp (disch := first | exact nl_i | exact nl_r | exact nl_0 | exact nl_n | exact nl_x | exact kd_r | exact kd_n | exact kd_x | exact kd_o | exact cats0 | exact cats1 | exact cats2 | exact cats3 | exact cats4 | exact nr_i | exact nr_l | exact nr_z0 | exact nr_z1 | exact ft_i | exact ft_l | omega | rfl | assumption | (refine i_ne0 ?_ ?_ ?_ <;> omega) | (refine j_ne0 ?_ ?_ ?_ <;> omega) | (refine i_new ?_ ?_ <;> omega) | (refine bl_t ?_; with_unfolding_all rfl) | exact ft_z0 | exact ft_z1) only [n_X6_greatest, q_X6_greatest_0, q_X6_greatest_2, q_X6_greatest_3, q_X6_greatest_4]
  exact l_greatest h hq hF hf n 0 (by omega)
/-- a place of a row whose sides are found -/
theorem x_pir {Xx Y t : Int} {clv : Int32} (hX : -3000000000 ≤ Xx ∧ Xx ≤ 3000000000) (hY : -3000000000 ≤ Y ∧ Y ≤ 3000000000) (ht : 1 ≤ t ∧ t ≤ 3) (hc : v_cp w x y n) (hro : v_ro clv w (zw_l (fun i => decide (zw_nr y n Y t i)) n)) : rz_ex X (d + 3) 68 [.ref 18, .long (Int64.ofInt Xx), .long (Int64.ofInt Y), .int (Int32.ofInt t)] w = some (.inl (some (.int (Int32.ofInt (zw_v x y n Xx Y t)))), w, 0, 0) := by
  have hl := zw_l_len (fun i => decide (zw_nr y n Y t i)) n
  have hn : n ≤ 12 := by
    obtain ⟨_, _, _, _, _, _, _, hn, _⟩ := id hc
    exact hn
  have e2 := l_pir (X := X) (d := d) (nc := 0) (ns := 0) hX hY ht hc hro (by omega) (fun k hk => ⟨(hl.2 k hk).1, of_decide_eq_true (hl.2 k hk).2⟩) (zw_l (fun i => decide (zw_nr y n Y t i)) n).length 0 false none none none none none none none none none none none none (by omega)
  rw [List.drop_zero] at e2
  unfold zw_v
  rw [← e2]
  simp (disch := first | exact nl_i | exact nl_r | exact nl_0 | exact nl_n | exact nl_x | exact kd_r | exact kd_n | exact kd_x | exact kd_o | exact cats0 | exact cats1 | exact cats2 | exact cats3 | exact cats4 | exact nr_i | exact nr_l | exact nr_z0 | exact nr_z1 | exact ft_i | exact ft_l | omega | rfl | assumption | (refine i_ne0 ?_ ?_ ?_ <;> omega) | (refine j_ne0 ?_ ?_ ?_ <;> omega) | (refine i_new ?_ ?_ <;> omega) | (refine bl_t ?_; with_unfolding_all rfl) | exact ft_z0 | exact ft_z1) only [n_X6_placeInRow, q_X6_placeInRow_0, q_X6_placeInRow_1, q_X6_placeInRow_3, q_X6_placeInRow_4, i_add, i_sub, i_mul, i_neg, i_lt, i_le, i_eq, i_tm, i_div, i_j, j_i, j_add, j_sub, j_mul, j_neg, j_lt, j_le, j_eq, j_div, c_lt, c_le, c_gt, c_ge, c_eq, i_nat, rz_k, Nat.add_zero, Nat.zero_add, Nat.add_assoc, Nat.reduceAdd, if_true, if_false, zb_f]
  rfl
def zl_row (x y : Nat → Int) (n : Nat) (t c x0 Y : Int) (k : Nat) : Int := zp_sum (fun i => if zw_v x y n (x0 + (i : Int)) Y t = c then 1 else 0) k
theorem zl_row_b {t c x0 Y : Int} (k : Nat) : 0 ≤ zl_row x y n t c x0 Y k ∧ zl_row x y n t c x0 Y k ≤ k := by
  induction k with
  | zero => exact ⟨Int.le_refl _, Int.le_refl _⟩
  | succ k ih =>
    unfold zl_row at ih ⊢
    unfold zp_sum
    split <;> omega
theorem l_carow {t x0 Y I R x1 tp : Int} {clv : Int32} (h0 : -100 ≤ x0 ∧ x0 ≤ 100) (hY : -100 ≤ Y ∧ Y ≤ 100) (ht : 1 ≤ t ∧ t ≤ 3) (hI : 0 ≤ I ∧ I ≤ 1000000) (hR : 0 ≤ R ∧ R ≤ 1000000) (hc : v_cp w x y n) (hro : v_ro clv w (zw_l (fun i => decide (zw_nr y n Y t i)) n)) {wd : Nat} (hwd : x1 = x0 + (wd : Int) - 1) (hw2 : wd ≤ 200) (m : Nat) : ∀ (k : Nat) (l9 : Option Value), k + m = wd → ∃ l9' : Option Value, rz_G X (d + 3) mz_X6_countsAgree 71 [some (.ref 18), some (.int (Int32.ofInt t)), some (.int (Int32.ofInt (I + zl_row x y n t 119 x0 Y k))), some (.int (Int32.ofInt (R + zl_row x y n t 114 x0 Y k))), some (.int (Int32.ofInt x0)), some (.int (Int32.ofInt x1)), some (.int (Int32.ofInt tp)), some (.int (Int32.ofInt Y)), some (.int (Int32.ofInt (x0 + (k : Int)))), l9] [] w nc ns = rz_G X (d + 3) mz_X6_countsAgree 127 [some (.ref 18), some (.int (Int32.ofInt t)), some (.int (Int32.ofInt (I + zl_row x y n t 119 x0 Y wd))), some (.int (Int32.ofInt (R + zl_row x y n t 114 x0 Y wd))), some (.int (Int32.ofInt x0)), some (.int (Int32.ofInt x1)), some (.int (Int32.ofInt tp)), some (.int (Int32.ofInt Y)), some (.int (Int32.ofInt (x0 + (wd : Int)))), l9'] [] w nc ns := by
  obtain ⟨nn2, O, h18, h25, hO⟩ := id hro
  induction m with
  | zero =>
    intro k l9 hk
    obtain rfl : k = wd := by omega
    refine ⟨l9, ?_⟩
    rw [q_X6_countsAgree_71]
    simp (disch := first | exact nl_i | exact nl_r | exact nl_0 | exact nl_n | exact nl_x | exact kd_r | exact kd_n | exact kd_x | exact kd_o | exact cats0 | exact cats1 | exact cats2 | exact cats3 | exact cats4 | exact nr_i | exact nr_l | exact nr_z0 | exact nr_z1 | exact ft_i | exact ft_l | omega | rfl | assumption | (refine i_ne0 ?_ ?_ ?_ <;> omega) | (refine j_ne0 ?_ ?_ ?_ <;> omega) | (refine i_new ?_ ?_ <;> omega) | (refine bl_t ?_; with_unfolding_all rfl) | exact ft_z0 | exact ft_z1) only [↓reduceIte, q_X6_countsAgree_73, q_X6_countsAgree_75, q_X6_countsAgree_78, q_X6_countsAgree_79, q_X6_countsAgree_81, q_X6_countsAgree_82, q_X6_countsAgree_84, q_X6_countsAgree_85, q_X6_countsAgree_86, q_X6_countsAgree_89, q_X6_countsAgree_91, q_X6_countsAgree_92, q_X6_countsAgree_94, q_X6_countsAgree_96, q_X6_countsAgree_99, q_X6_countsAgree_100, q_X6_countsAgree_103, q_X6_countsAgree_104, q_X6_countsAgree_105, q_X6_countsAgree_106, q_X6_countsAgree_107, q_X6_countsAgree_109, q_X6_countsAgree_111, q_X6_countsAgree_114, q_X6_countsAgree_115, q_X6_countsAgree_118, q_X6_countsAgree_119, q_X6_countsAgree_120, q_X6_countsAgree_121, q_X6_countsAgree_124, i_add, i_sub, i_mul, i_neg, i_lt, i_le, i_eq, i_tm, i_div, i_j, j_i, j_add, j_sub, j_mul, j_neg, j_lt, j_le, j_eq, j_div, c_lt, c_le, c_gt, c_ge, c_eq, i_nat, rz_k, Nat.add_zero, Nat.zero_add, Nat.add_assoc, Nat.reduceAdd, if_true, if_false, eq_true (show x1 < x0 + (k : Int) by omega)]
  | succ m ih =>
    intro k l9 hk
    have e := x_pir (X := X) (d := d) (Xx := x0 + (k : Int)) (Y := Y) (by omega) (by omega) ht hc hro
    have hb := zw_v_c (x := x) (y := y) (n := n) (Xx := x0 + (k : Int)) (Y := Y) (t := t)
    have b1 := zl_row_b (x := x) (y := y) (n := n) (t := t) (c := 119) (x0 := x0) (Y := Y) k
    have b2 := zl_row_b (x := x) (y := y) (n := n) (t := t) (c := 114) (x0 := x0) (Y := Y) k
    obtain ⟨l9', ih1⟩ := ih (k + 1) (some (.int (Int32.ofInt (zw_v x y n (x0 + (k : Int)) Y t)))) (by omega)
    refine ⟨l9', ?_⟩
    rw [← ih1, q_X6_countsAgree_71]
    have ek : x0 + ((k + 1 : Nat) : Int) = x0 + (k : Int) + 1 := by omega
    have es : ∀ c, zl_row x y n t c x0 Y (k + 1) = zl_row x y n t c x0 Y k + (if zw_v x y n (x0 + (k : Int)) Y t = c then 1 else 0) := fun _ => rfl
    rw [ek, es, es]
    generalize zl_row x y n t 119 x0 Y k = a1 at *
    generalize zl_row x y n t 114 x0 Y k = a2 at *
    generalize zw_v x y n (x0 + (k : Int)) Y t = vv at *
    by_cases hv : vv = 119
    · rw [if_pos hv, if_neg (show ¬ vv = 114 by omega)]
      simp (disch := first | exact nl_i | exact nl_r | exact nl_0 | exact nl_n | exact nl_x | exact kd_r | exact kd_n | exact kd_x | exact kd_o | exact cats0 | exact cats1 | exact cats2 | exact cats3 | exact cats4 | exact nr_i | exact nr_l | exact nr_z0 | exact nr_z1 | exact ft_i | exact ft_l | omega | rfl | assumption | (refine i_ne0 ?_ ?_ ?_ <;> omega) | (refine j_ne0 ?_ ?_ ?_ <;> omega) | (refine i_new ?_ ?_ <;> omega) | (refine bl_t ?_; with_unfolding_all rfl) | exact ft_z0 | exact ft_z1) only [↓reduceIte, q_X6_countsAgree_73, q_X6_countsAgree_75, q_X6_countsAgree_78, q_X6_countsAgree_79, q_X6_countsAgree_81, q_X6_countsAgree_82, q_X6_countsAgree_84, q_X6_countsAgree_85, q_X6_countsAgree_86, q_X6_countsAgree_89, q_X6_countsAgree_91, q_X6_countsAgree_92, q_X6_countsAgree_94, q_X6_countsAgree_96, q_X6_countsAgree_99, q_X6_countsAgree_100, q_X6_countsAgree_103, q_X6_countsAgree_104, q_X6_countsAgree_105, q_X6_countsAgree_106, q_X6_countsAgree_107, q_X6_countsAgree_109, q_X6_countsAgree_111, q_X6_countsAgree_114, q_X6_countsAgree_115, q_X6_countsAgree_118, q_X6_countsAgree_119, q_X6_countsAgree_120, q_X6_countsAgree_121, q_X6_countsAgree_124, i_add, i_sub, i_mul, i_neg, i_lt, i_le, i_eq, i_tm, i_div, i_j, j_i, j_add, j_sub, j_mul, j_neg, j_lt, j_le, j_eq, j_div, c_lt, c_le, c_gt, c_ge, c_eq, i_nat, rz_k, Nat.add_zero, Nat.zero_add, Nat.add_assoc, Nat.reduceAdd, if_true, if_false, vk_eq h18, eq_false (show ¬ x1 < x0 + (k : Int) by omega), e, hv, not_true_eq_false, eq_false (show ¬ (119 : Int) = 114 by omega), not_false_eq_true, Int.add_assoc, Int.add_zero]
    · by_cases hv2 : vv = 114
      · rw [if_neg hv, if_pos hv2]
        simp (disch := first | exact nl_i | exact nl_r | exact nl_0 | exact nl_n | exact nl_x | exact kd_r | exact kd_n | exact kd_x | exact kd_o | exact cats0 | exact cats1 | exact cats2 | exact cats3 | exact cats4 | exact nr_i | exact nr_l | exact nr_z0 | exact nr_z1 | exact ft_i | exact ft_l | omega | rfl | assumption | (refine i_ne0 ?_ ?_ ?_ <;> omega) | (refine j_ne0 ?_ ?_ ?_ <;> omega) | (refine i_new ?_ ?_ <;> omega) | (refine bl_t ?_; with_unfolding_all rfl) | exact ft_z0 | exact ft_z1) only [↓reduceIte, q_X6_countsAgree_73, q_X6_countsAgree_75, q_X6_countsAgree_78, q_X6_countsAgree_79, q_X6_countsAgree_81, q_X6_countsAgree_82, q_X6_countsAgree_84, q_X6_countsAgree_85, q_X6_countsAgree_86, q_X6_countsAgree_89, q_X6_countsAgree_91, q_X6_countsAgree_92, q_X6_countsAgree_94, q_X6_countsAgree_96, q_X6_countsAgree_99, q_X6_countsAgree_100, q_X6_countsAgree_103, q_X6_countsAgree_104, q_X6_countsAgree_105, q_X6_countsAgree_106, q_X6_countsAgree_107, q_X6_countsAgree_109, q_X6_countsAgree_111, q_X6_countsAgree_114, q_X6_countsAgree_115, q_X6_countsAgree_118, q_X6_countsAgree_119, q_X6_countsAgree_120, q_X6_countsAgree_121, q_X6_countsAgree_124, i_add, i_sub, i_mul, i_neg, i_lt, i_le, i_eq, i_tm, i_div, i_j, j_i, j_add, j_sub, j_mul, j_neg, j_lt, j_le, j_eq, j_div, c_lt, c_le, c_gt, c_ge, c_eq, i_nat, rz_k, Nat.add_zero, Nat.zero_add, Nat.add_assoc, Nat.reduceAdd, if_true, if_false, vk_eq h18, eq_false (show ¬ x1 < x0 + (k : Int) by omega), e, hv2, not_true_eq_false, eq_false (show ¬ (114 : Int) = 119 by omega), not_false_eq_true, Int.add_assoc, Int.add_zero]
      · rw [if_neg hv, if_neg hv2]
        simp (disch := first | exact nl_i | exact nl_r | exact nl_0 | exact nl_n | exact nl_x | exact kd_r | exact kd_n | exact kd_x | exact kd_o | exact cats0 | exact cats1 | exact cats2 | exact cats3 | exact cats4 | exact nr_i | exact nr_l | exact nr_z0 | exact nr_z1 | exact ft_i | exact ft_l | omega | rfl | assumption | (refine i_ne0 ?_ ?_ ?_ <;> omega) | (refine j_ne0 ?_ ?_ ?_ <;> omega) | (refine i_new ?_ ?_ <;> omega) | (refine bl_t ?_; with_unfolding_all rfl) | exact ft_z0 | exact ft_z1) only [↓reduceIte, q_X6_countsAgree_73, q_X6_countsAgree_75, q_X6_countsAgree_78, q_X6_countsAgree_79, q_X6_countsAgree_81, q_X6_countsAgree_82, q_X6_countsAgree_84, q_X6_countsAgree_85, q_X6_countsAgree_86, q_X6_countsAgree_89, q_X6_countsAgree_91, q_X6_countsAgree_92, q_X6_countsAgree_94, q_X6_countsAgree_96, q_X6_countsAgree_99, q_X6_countsAgree_100, q_X6_countsAgree_103, q_X6_countsAgree_104, q_X6_countsAgree_105, q_X6_countsAgree_106, q_X6_countsAgree_107, q_X6_countsAgree_109, q_X6_countsAgree_111, q_X6_countsAgree_114, q_X6_countsAgree_115, q_X6_countsAgree_118, q_X6_countsAgree_119, q_X6_countsAgree_120, q_X6_countsAgree_121, q_X6_countsAgree_124, i_add, i_sub, i_mul, i_neg, i_lt, i_le, i_eq, i_tm, i_div, i_j, j_i, j_add, j_sub, j_mul, j_neg, j_lt, j_le, j_eq, j_div, c_lt, c_le, c_gt, c_ge, c_eq, i_nat, rz_k, Nat.add_zero, Nat.zero_add, Nat.add_assoc, Nat.reduceAdd, if_true, if_false, vk_eq h18, eq_false (show ¬ x1 < x0 + (k : Int) by omega), e, eq_false hv, eq_false hv2, not_false_eq_true, Int.add_assoc, Int.add_zero]
end RZCO
