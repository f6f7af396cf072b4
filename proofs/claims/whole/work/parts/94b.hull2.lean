/-! part 94b: level 2: hull: the class -/
section RZHV
variable {X : rz_X} {d : Nat} {w : rz_W} {nc ns : Nat} {kp tl kd ty cl th : Int}
def v_hu (w : rz_W) (L : Nat → Int) (l : List Nat) : Prop := ∃ F G : Nat → Int32, v_ob w 29 4 [.int (Int32.ofInt (l.length : Int)), .ref 30, .ref 31] ∧ v_ia w 30 201 F ∧ v_ia w 31 201 G ∧ zh_rep F G L l
theorem x_hx {n : Int32} {F : Nat → Int32} {i : Nat} (h29 : v_ob w 29 4 [.int n, .ref 30, .ref 31]) (h30 : v_ia w 30 201 F) (hi : i < 201) : rz_ex X (d + 1) 40 [.ref 29, .int (Int32.ofInt (i : Int))] w = some (.inl (some (.int (F i))), w, 0, 0) := by
  simp (disch := first | exact nl_i | exact nl_r | exact nl_0 | exact nl_n | exact nl_x | exact kd_r | exact kd_n | exact kd_x | exact kd_o | exact cats0 | exact cats1 | exact cats2 | exact cats3 | exact cats4 | exact nr_i | exact nr_l | exact nr_z0 | exact nr_z1 | exact ft_i | exact ft_l | omega | rfl | assumption | (refine i_ne0 ?_ ?_ ?_ <;> omega) | (refine j_ne0 ?_ ?_ ?_ <;> omega) | (refine i_new ?_ ?_ <;> omega) | (refine bl_t ?_; with_unfolding_all rfl) | exact ft_z0 | exact ft_z1) only [n_X4_xOf, q_X4_xOf_0, q_X4_xOf_1, q_X4_xOf_4, q_X4_xOf_5, q_X4_xOf_6, q_X4_xOf_9, q_X4_xOf_9x, q_X4_xOf_10, q_X4_xOf_13, q_X4_xOf_14, q_X4_xOf_17, q_X4_xOf_18, q_X4_xOf_18x, q_X4_xOf_19, q_X4_xOf_22, q_X4_xOf_23, i_add, i_sub, i_mul, i_neg, i_lt, i_le, i_eq, i_tm, i_div, i_j, j_i, j_add, j_sub, j_mul, j_neg, j_lt, j_le, j_eq, j_div, c_lt, c_le, c_gt, c_ge, c_eq, i_nat, rz_k, Nat.add_zero, Nat.zero_add, Nat.add_assoc, Nat.reduceAdd, if_true, if_false, gf_eq h29, List.getElem?_cons_zero, List.getElem?_cons_succ, ln_eq h30, ai_eq h30, Int.toNat_natCast, if_neg (show ¬ (i : Int) < 0 by omega), if_pos (show (i : Int) < ((201 : Nat) : Int) by omega), if_neg (show ¬ ((201 : Nat) : Int) ≤ (i : Int) by omega)]
theorem x_hy {n : Int32} {G : Nat → Int32} {i : Nat} (h29 : v_ob w 29 4 [.int n, .ref 30, .ref 31]) (h31 : v_ia w 31 201 G) (hi : i < 201) : rz_ex X (d + 1) 41 [.ref 29, .int (Int32.ofInt (i : Int))] w = some (.inl (some (.int (G i))), w, 0, 0) := by
  simp (disch := first | exact nl_i | exact nl_r | exact nl_0 | exact nl_n | exact nl_x | exact kd_r | exact kd_n | exact kd_x | exact kd_o | exact cats0 | exact cats1 | exact cats2 | exact cats3 | exact cats4 | exact nr_i | exact nr_l | exact nr_z0 | exact nr_z1 | exact ft_i | exact ft_l | omega | rfl | assumption | (refine i_ne0 ?_ ?_ ?_ <;> omega) | (refine j_ne0 ?_ ?_ ?_ <;> omega) | (refine i_new ?_ ?_ <;> omega) | (refine bl_t ?_; with_unfolding_all rfl) | exact ft_z0 | exact ft_z1) only [n_X4_yOf, q_X4_yOf_0, q_X4_yOf_1, q_X4_yOf_4, q_X4_yOf_5, q_X4_yOf_6, q_X4_yOf_9, q_X4_yOf_9x, q_X4_yOf_10, q_X4_yOf_13, q_X4_yOf_14, q_X4_yOf_17, q_X4_yOf_18, q_X4_yOf_18x, q_X4_yOf_19, q_X4_yOf_22, q_X4_yOf_23, i_add, i_sub, i_mul, i_neg, i_lt, i_le, i_eq, i_tm, i_div, i_j, j_i, j_add, j_sub, j_mul, j_neg, j_lt, j_le, j_eq, j_div, c_lt, c_le, c_gt, c_ge, c_eq, i_nat, rz_k, Nat.add_zero, Nat.zero_add, Nat.add_assoc, Nat.reduceAdd, if_true, if_false, gf_eq h29, List.getElem?_cons_zero, List.getElem?_cons_succ, ln_eq h31, ai_eq h31, Int.toNat_natCast, if_neg (show ¬ (i : Int) < 0 by omega), if_pos (show (i : Int) < ((201 : Nat) : Int) by omega), if_neg (show ¬ ((201 : Nat) : Int) ≤ (i : Int) by omega)]
theorem x_hturn {n : Int32} {F G : Nat → Int32} {L : Nat → Int} {i j a b x : Nat} {y : Int} (h29 : v_ob w 29 4 [.int n, .ref 30, .ref 31]) (h30 : v_ia w 30 201 F) (h31 : v_ia w 31 201 G) (hi : i < 201) (hj : j < 201) (fa : F i = Int32.ofInt (a : Int)) (ga : G i = Int32.ofInt (L a)) (fb : F j = Int32.ofInt (b : Int)) (gb : G j = Int32.ofInt (L b)) (hy : y = L x) : rz_ex X (d + 2) 42 [.ref 29, .int (Int32.ofInt (i : Int)), .int (Int32.ofInt (j : Int)), .int (Int32.ofInt (x : Int)), .int (Int32.ofInt y)] w = some (.inl (some (.int (Int32.ofInt (zh_T L a b x)))), w, 0, 0) := by
  have k1 := x_hx (X := X) (d := d) h29 h30 hi
  have k2 := x_hx (X := X) (d := d) h29 h30 hj
  have k3 := x_hy (X := X) (d := d) h29 h31 hi
  have k4 := x_hy (X := X) (d := d) h29 h31 hj
  simp (disch := first | exact nl_i | exact nl_r | exact nl_0 | exact nl_n | exact nl_x | exact kd_r | exact kd_n | exact kd_x | exact kd_o | exact cats0 | exact cats1 | exact cats2 | exact cats3 | exact cats4 | exact nr_i | exact nr_l | exact nr_z0 | exact nr_z1 | exact ft_i | exact ft_l | omega | rfl | assumption | (refine i_ne0 ?_ ?_ ?_ <;> omega) | (refine j_ne0 ?_ ?_ ?_ <;> omega) | (refine i_new ?_ ?_ <;> omega) | (refine bl_t ?_; with_unfolding_all rfl) | exact ft_z0 | exact ft_z1) only [n_X4_turn, q_X4_turn_0, q_X4_turn_1, q_X4_turn_2, q_X4_turn_5, q_X4_turn_6, q_X4_turn_7, q_X4_turn_10, q_X4_turn_11, q_X4_turn_13, q_X4_turn_14, q_X4_turn_15, q_X4_turn_18, q_X4_turn_19, q_X4_turn_20, q_X4_turn_21, q_X4_turn_22, q_X4_turn_25, q_X4_turn_26, q_X4_turn_27, q_X4_turn_30, q_X4_turn_31, q_X4_turn_32, q_X4_turn_33, q_X4_turn_34, q_X4_turn_37, q_X4_turn_38, q_X4_turn_39, q_X4_turn_40, i_add, i_sub, i_mul, i_neg, i_lt, i_le, i_eq, i_tm, i_div, i_j, j_i, j_add, j_sub, j_mul, j_neg, j_lt, j_le, j_eq, j_div, c_lt, c_le, c_gt, c_ge, c_eq, i_nat, rz_k, Nat.add_zero, Nat.zero_add, Nat.add_assoc, Nat.reduceAdd, if_true, if_false, vk_eq h29, k1, k2, k3, k4, fa, ga, fb, gb, hy]
  rfl
theorem x_hlow {p q x : Nat} (hp : 1 ≤ p ∧ p ≤ 200) (hq : 1 ≤ q ∧ q ≤ 200) (hx : x ≤ 200) : rz_ex X (d + 1) 38 [.int (Int32.ofInt (p : Int)), .int (Int32.ofInt (q : Int)), .int (Int32.ofInt (x : Int))] w = some (.inl (some (.int (Int32.ofInt (((p * x / q : Nat) : Int) + 1)))), w, 0, 0) := by
  have t : ((p : Int) * (x : Int)).tdiv (q : Int) = ((p * x / q : Nat) : Int) := by
    rw [← Int.natCast_mul]
    exact (Int.ofNat_tdiv _ _).symm
  have b := Nat.mul_le_mul hp.2 hx
  have b2 : (p : Int) * (x : Int) = ((p * x : Nat) : Int) := (Int.natCast_mul _ _).symm
  simp (disch := first | exact nl_i | exact nl_r | exact nl_0 | exact nl_n | exact nl_x | exact kd_r | exact kd_n | exact kd_x | exact kd_o | exact cats0 | exact cats1 | exact cats2 | exact cats3 | exact cats4 | exact nr_i | exact nr_l | exact nr_z0 | exact nr_z1 | exact ft_i | exact ft_l | omega | rfl | assumption | (refine i_ne0 ?_ ?_ ?_ <;> omega) | (refine j_ne0 ?_ ?_ ?_ <;> omega) | (refine i_new ?_ ?_ <;> omega) | (refine bl_t ?_; with_unfolding_all rfl) | exact ft_z0 | exact ft_z1) only [n_X4_lowest, q_X4_lowest_0, q_X4_lowest_1, q_X4_lowest_2, q_X4_lowest_5, q_X4_lowest_6, q_X4_lowest_9, q_X4_lowest_10, q_X4_lowest_11, q_X4_lowest_12, q_X4_lowest_13, q_X4_lowest_14, q_X4_lowest_15, q_X4_lowest_16, i_add, i_sub, i_mul, i_neg, i_lt, i_le, i_eq, i_tm, i_div, i_j, j_i, j_add, j_sub, j_mul, j_neg, j_lt, j_le, j_eq, j_div, c_lt, c_le, c_gt, c_ge, c_eq, i_nat, rz_k, Nat.add_zero, Nat.zero_add, Nat.add_assoc, Nat.reduceAdd, if_true, if_false, if_pos (show 1 ≤ (q : Int) by omega), t]
theorem y_hlow {p q x : Nat} (hp : 1 ≤ p ∧ p ≤ 200) (hq : 1 ≤ q ∧ q ≤ 200) (hx : x ≤ 200) : rz_ex X (d + 1) 258 [.int (Int32.ofInt (p : Int)), .int (Int32.ofInt (q : Int)), .int (Int32.ofInt (x : Int))] w = some (.inl (some (.int (Int32.ofInt (((p * x / q : Nat) : Int) + 1)))), w, 0, 0) := by
  have t : ((p : Int) * (x : Int)).tdiv (q : Int) = ((p * x / q : Nat) : Int) := by
    rw [← Int.natCast_mul]
    exact (Int.ofNat_tdiv _ _).symm
  have b := Nat.mul_le_mul hp.2 hx
  have b2 : (p : Int) * (x : Int) = ((p * x : Nat) : Int) := (Int.natCast_mul _ _).symm
  simp (disch := first | exact nl_i | exact nl_r | exact nl_0 | exact nl_n | exact nl_x | exact kd_r | exact kd_n | exact kd_x | exact kd_o | exact cats0 | exact cats1 | exact cats2 | exact cats3 | exact cats4 | exact nr_i | exact nr_l | exact nr_z0 | exact nr_z1 | exact ft_i | exact ft_l | omega | rfl | assumption | (refine i_ne0 ?_ ?_ ?_ <;> omega) | (refine j_ne0 ?_ ?_ ?_ <;> omega) | (refine i_new ?_ ?_ <;> omega) | (refine bl_t ?_; with_unfolding_all rfl) | exact ft_z0 | exact ft_z1) only [n_X11_lowest, q_X11_lowest_0, q_X11_lowest_1, q_X11_lowest_2, q_X11_lowest_3, q_X11_lowest_4, q_X11_lowest_5, q_X11_lowest_6, q_X11_lowest_7, i_add, i_sub, i_mul, i_neg, i_lt, i_le, i_eq, i_tm, i_div, i_j, j_i, j_add, j_sub, j_mul, j_neg, j_lt, j_le, j_eq, j_div, c_lt, c_le, c_gt, c_ge, c_eq, i_nat, rz_k, Nat.add_zero, Nat.zero_add, Nat.add_assoc, Nat.reduceAdd, if_true, if_false, t]
theorem z_T_bd {L : Nat → Int} {a b x : Nat} (ha : a ≤ 200) (hb : b ≤ 200) (hx : x ≤ 200) (h1 : 0 ≤ L a ∧ L a ≤ 300) (h2 : 0 ≤ L b ∧ L b ≤ 300) (h3 : 0 ≤ L x ∧ L x ≤ 300) : -200000 ≤ zh_T L a b x ∧ zh_T L a b x ≤ 200000 := by
  have n1 := z_nmul (a := (b : Int) - a) (b := L x - L a) (M := 200) (N := 300) (by omega) (by omega)
  have n2 := z_nmul (a := L b - L a) (b := (x : Int) - a) (M := 300) (N := 200) (by omega) (by omega)
  unfold zh_T
  omega
theorem l_hpop {L : Nat → Int} {p q : Int32} {x N : Nat} {y : Int} (hN : N ≤ 200) (hL : ∀ e, e ≤ N → 0 ≤ L e ∧ L e ≤ 300) (hx : x ≤ N) (hy : y = L x) (t : List Nat) : ∀ (w : rz_W) (b : Nat), (∀ e, e ∈ b :: t → e ≤ N) → t.length < 201 → v_hu w L (b :: t) → ∃ (w' : rz_W) (k : Int), rz_G X (d + 3) mz_X4_build 28 [some (.ref 29), some (.int p), some (.int q), some (.int (Int32.ofInt (x : Int))), some (.int (Int32.ofInt y)), some (.int (Int32.ofInt (t.length : Int)))] [] w nc ns = rz_G X (d + 3) mz_X4_build 68 [some (.ref 29), some (.int p), some (.int q), some (.int (Int32.ofInt (x : Int))), some (.int (Int32.ofInt y)), some (.int (Int32.ofInt k))] [] w' nc ns ∧ rz_fr [29, 30, 31] w w' ∧ v_hu w' L (zh_pop L x (b :: t)) := by
  induction t with
  | nil =>
    intro w b hb hl hu
    refine ⟨w, 0, ?_, fr_refl, hu⟩
    rw [q_X4_build_28]
    simp (disch := first | exact nl_i | exact nl_r | exact nl_0 | exact nl_n | exact nl_x | exact kd_r | exact kd_n | exact kd_x | exact kd_o | exact cats0 | exact cats1 | exact cats2 | exact cats3 | exact cats4 | exact nr_i | exact nr_l | exact nr_z0 | exact nr_z1 | exact ft_i | exact ft_l | omega | rfl | assumption | (refine i_ne0 ?_ ?_ ?_ <;> omega) | (refine j_ne0 ?_ ?_ ?_ <;> omega) | (refine i_new ?_ ?_ <;> omega) | (refine bl_t ?_; with_unfolding_all rfl) | exact ft_z0 | exact ft_z1) only [q_X4_build_30, i_add, i_sub, i_mul, i_neg, i_lt, i_le, i_eq, i_tm, i_div, i_j, j_i, j_add, j_sub, j_mul, j_neg, j_lt, j_le, j_eq, j_div, c_lt, c_le, c_gt, c_ge, c_eq, i_nat, rz_k, Nat.add_zero, Nat.zero_add, Nat.add_assoc, Nat.reduceAdd, if_true, if_false, List.length_nil, Int.ofNat_zero, if_pos (show (0 : Int) ≤ 0 by omega)]
  | cons a t ih =>
    intro w b hb hl hu
    obtain ⟨F, G, h29, h30, h31, hr⟩ := id hu
    have hlen : (a :: t).length = t.length + 1 := rfl
    have hlen2 : (b :: a :: t).length = t.length + 2 := rfl
    rw [hlen] at hl
    have b1 := hb b List.mem_cons_self
    have b2 := hb a (List.mem_cons_of_mem _ List.mem_cons_self)
    have hT := z_T_bd (L := L) (show a ≤ 200 by omega) (show b ≤ 200 by omega) (show x ≤ 200 by omega) (hL a b2) (hL b b1) (hL x hx)
    have kt := x_hturn (X := X) (d := d + 1) (L := L) (i := t.length) (j := t.length + 1) (x := x) h29 h30 h31 (by omega) (by omega) hr.2.2.1 hr.2.2.2.1 hr.1 hr.2.1 hy
    have e1 : (((t.length + 1 : Nat) : Int) - 1) = (t.length : Int) := by omega
    rw [hlen, q_X4_build_28]
    by_cases h : zh_T L a b x ≤ 0
    · have g29 : v_ob (w.set 29 (.inr (4, [.int (Int32.ofInt ((t.length + 1 : Nat) : Int)), .ref 30, .ref 31]))) 29 4 [.int (Int32.ofInt (((a :: t).length : Nat) : Int)), .ref 30, .ref 31] := w_eq (w_lt h29)
      have hu1 : v_hu (w.set 29 (.inr (4, [.int (Int32.ofInt ((t.length + 1 : Nat) : Int)), .ref 30, .ref 31]))) L (a :: t) := ⟨F, G, g29, (w_ne (by omega)).trans h30, (w_ne (by omega)).trans h31, hr.2.2⟩
      obtain ⟨w', k, e, f, r⟩ := ih _ a (fun e he => hb e (List.mem_cons_of_mem _ he)) (by omega) hu1
      refine ⟨w', k, ?_, fr_trans (fr_set (by decide)) f, ?_⟩
      · rw [← e]
        rw [hlen2] at h29
        have e2 : ((t.length + 2 : Nat) : Int) - 1 = ((t.length + 1 : Nat) : Int) := by omega
        have e3 : ((t.length + 1 : Nat) : Int) + -1 = (t.length : Int) := by omega
        simp (disch := first | exact nl_i | exact nl_r | exact nl_0 | exact nl_n | exact nl_x | exact kd_r | exact kd_n | exact kd_x | exact kd_o | exact cats0 | exact cats1 | exact cats2 | exact cats3 | exact cats4 | exact nr_i | exact nr_l | exact nr_z0 | exact nr_z1 | exact ft_i | exact ft_l | omega | rfl | assumption | (refine i_ne0 ?_ ?_ ?_ <;> omega) | (refine j_ne0 ?_ ?_ ?_ <;> omega) | (refine i_new ?_ ?_ <;> omega) | (refine bl_t ?_; with_unfolding_all rfl) | exact ft_z0 | exact ft_z1) only [q_X4_build_30, q_X4_build_33, q_X4_build_34, q_X4_build_36, q_X4_build_37, q_X4_build_38, q_X4_build_40, q_X4_build_41, q_X4_build_43, q_X4_build_46, q_X4_build_49, q_X4_build_52, q_X4_build_53, q_X4_build_53r, q_X4_build_54, q_X4_build_57, q_X4_build_58, q_X4_build_59, q_X4_build_62, q_X4_build_65, i_add, i_sub, i_mul, i_neg, i_lt, i_le, i_eq, i_tm, i_div, i_j, j_i, j_add, j_sub, j_mul, j_neg, j_lt, j_le, j_eq, j_div, c_lt, c_le, c_gt, c_ge, c_eq, i_nat, rz_k, Nat.add_zero, Nat.zero_add, Nat.add_assoc, Nat.reduceAdd, if_true, if_false, if_neg (show ¬ ((t.length + 1 : Nat) : Int) ≤ 0 by omega), e1, vk_eq h29, kt, if_pos h, gf_eq h29, List.getElem?_cons_zero, List.getElem?_cons_succ, e2, e3, pf_eq h29, List.set_cons_zero, List.set_cons_succ]
      · unfold zh_pop
        rw [if_pos h]
        exact r
    · refine ⟨w, ((t.length + 1 : Nat) : Int), ?_, fr_refl, ?_⟩
      · simp (disch := first | exact nl_i | exact nl_r | exact nl_0 | exact nl_n | exact nl_x | exact kd_r | exact kd_n | exact kd_x | exact kd_o | exact cats0 | exact cats1 | exact cats2 | exact cats3 | exact cats4 | exact nr_i | exact nr_l | exact nr_z0 | exact nr_z1 | exact ft_i | exact ft_l | omega | rfl | assumption | (refine i_ne0 ?_ ?_ ?_ <;> omega) | (refine j_ne0 ?_ ?_ ?_ <;> omega) | (refine i_new ?_ ?_ <;> omega) | (refine bl_t ?_; with_unfolding_all rfl) | exact ft_z0 | exact ft_z1) only [q_X4_build_30, q_X4_build_33, q_X4_build_34, q_X4_build_36, q_X4_build_37, q_X4_build_38, q_X4_build_40, q_X4_build_41, q_X4_build_43, q_X4_build_46, q_X4_build_49, q_X4_build_52, q_X4_build_53, q_X4_build_53r, q_X4_build_54, q_X4_build_57, q_X4_build_58, q_X4_build_59, q_X4_build_62, q_X4_build_65, i_add, i_sub, i_mul, i_neg, i_lt, i_le, i_eq, i_tm, i_div, i_j, j_i, j_add, j_sub, j_mul, j_neg, j_lt, j_le, j_eq, j_div, c_lt, c_le, c_gt, c_ge, c_eq, i_nat, rz_k, Nat.add_zero, Nat.zero_add, Nat.add_assoc, Nat.reduceAdd, if_true, if_false, if_neg (show ¬ ((t.length + 1 : Nat) : Int) ≤ 0 by omega), e1, vk_eq h29, kt, if_neg h]
      · unfold zh_pop
        rw [if_neg h]
        exact hu
theorem x_hadd {L : Nat → Int} {l : List Nat} {x : Nat} {y : Int} (hu : v_hu w L l) (hl : l.length < 201) (hy : y = L x) : ∃ w', rz_ex X (d + 1) 39 [.ref 29, .int (Int32.ofInt (x : Int)), .int (Int32.ofInt y)] w = some (.inl none, w', 0, 0) ∧ rz_fr [29, 30, 31] w w' ∧ v_hu w' L (x :: l) := by
  obtain ⟨F, G, h29, h30, h31, hr⟩ := hu
  have g29 : v_ob (w.set 30 (.inl (.int, 201, .inl (upd F l.length (Int32.ofInt (x : Int)))))) 29 4 [.int (Int32.ofInt (l.length : Int)), .ref 30, .ref 31] := (w_ne (by omega)).trans h29
  have g31 : v_ia (w.set 30 (.inl (.int, 201, .inl (upd F l.length (Int32.ofInt (x : Int)))))) 31 201 G := (w_ne (by omega)).trans h31
  have k29 : v_ob ((w.set 30 (.inl (.int, 201, .inl (upd F l.length (Int32.ofInt (x : Int)))))).set 31 (.inl (.int, 201, .inl (upd G l.length (Int32.ofInt y))))) 29 4 [.int (Int32.ofInt (l.length : Int)), .ref 30, .ref 31] := (w_ne (by omega)).trans g29
  refine ⟨((w.set 30 (.inl (.int, 201, .inl (upd F l.length (Int32.ofInt (x : Int)))))).set 31 (.inl (.int, 201, .inl (upd G l.length (Int32.ofInt y))))).set 29 (.inr (4, [.int (Int32.ofInt ((l.length : Int) + 1)), .ref 30, .ref 31])), ?_, fr_trans (fr_trans (fr_set (by decide)) (fr_set (by decide))) (fr_set (by decide)), ?_⟩
  · simp (disch := first | exact nl_i | exact nl_r | exact nl_0 | exact nl_n | exact nl_x | exact kd_r | exact kd_n | exact kd_x | exact kd_o | exact cats0 | exact cats1 | exact cats2 | exact cats3 | exact cats4 | exact nr_i | exact nr_l | exact nr_z0 | exact nr_z1 | exact ft_i | exact ft_l | omega | rfl | assumption | (refine i_ne0 ?_ ?_ ?_ <;> omega) | (refine j_ne0 ?_ ?_ ?_ <;> omega) | (refine i_new ?_ ?_ <;> omega) | (refine bl_t ?_; with_unfolding_all rfl) | exact ft_z0 | exact ft_z1) only [n_X4_add, q_X4_add_0, q_X4_add_1, q_X4_add_4, q_X4_add_7, q_X4_add_8, q_X4_add_11, q_X4_add_12, q_X4_add_15, q_X4_add_15x, q_X4_add_16, q_X4_add_19, q_X4_add_20, q_X4_add_23, q_X4_add_24, q_X4_add_27, q_X4_add_27x, q_X4_add_28, q_X4_add_31, q_X4_add_32, q_X4_add_35, q_X4_add_36, q_X4_add_39, q_X4_add_40, q_X4_add_41, q_X4_add_42, q_X4_add_45, q_X4_add_46, q_X4_add_49, q_X4_add_50, q_X4_add_51, q_X4_add_52, q_X4_add_52r, q_X4_add_53, q_X4_add_56, q_X4_add_57, q_X4_add_58, q_X4_add_61, i_add, i_sub, i_mul, i_neg, i_lt, i_le, i_eq, i_tm, i_div, i_j, j_i, j_add, j_sub, j_mul, j_neg, j_lt, j_le, j_eq, j_div, c_lt, c_le, c_gt, c_ge, c_eq, i_nat, rz_k, Nat.add_zero, Nat.zero_add, Nat.add_assoc, Nat.reduceAdd, if_true, if_false, gf_eq h29, List.getElem?_cons_zero, List.getElem?_cons_succ, if_neg (show ¬ (l.length : Int) < 0 by omega), ln_eq h30, ln_eq h31, if_neg (show ¬ ((201 : Nat) : Int) ≤ (l.length : Int) by omega), si_eq h30, Int.toNat_natCast, gf_eq g29, si_eq g31, gf_eq k29, pf_eq k29, List.set_cons_zero, List.set_cons_succ]
  · refine ⟨upd F l.length (Int32.ofInt (x : Int)), upd G l.length (Int32.ofInt y), ?_, ?_, ?_, ?_⟩
    · exact w_eq (w_lt k29)
    · exact (w_ne (by omega)).trans ((w_ne (by omega)).trans (w_eq (w_lt h30)))
    · exact (w_ne (by omega)).trans (w_eq (w_lt g31))
    · exact ⟨upd_eq, by rw [upd_eq, hy], zh_rep_cg l (fun i hi => ⟨upd_ne (by omega), upd_ne (by omega)⟩) hr⟩
theorem l_hb {L : Nat → Int} {p q : Nat} (hp : 1 ≤ p ∧ p ≤ 200) (hq : 1 ≤ q ∧ q ≤ 200) (hL : ∀ x, L x = ((p * x / q : Nat) : Int) + 1) (hLb : ∀ e, e ≤ q → 0 ≤ L e ∧ L e ≤ 300) (n : Nat) : ∀ (w : rz_W) (x : Nat) (l4 l5 : Option Value), rz_nl l4 = true → rz_nl l5 = true → x + n = q → v_hu w L (zh_b L x) → ∃ w', rz_G X (d + 3) mz_X4_build 7 [some (.ref 29), some (.int (Int32.ofInt (p : Int))), some (.int (Int32.ofInt (q : Int))), some (.int (Int32.ofInt ((x + 1 : Nat) : Int))), l4, l5] [] w nc ns = some (.inl none, w', nc, ns) ∧ rz_fr [29, 30, 31] w w' ∧ v_hu w' L (zh_b L q) := by
  induction n with
  | zero =>
    intro w x l4 l5 h4 h5 hx hu
    obtain rfl : x = q := by omega
    refine ⟨w, ?_, fr_refl, hu⟩
    rw [q_X4_build_7]
    simp (disch := first | exact nl_i | exact nl_r | exact nl_0 | exact nl_n | exact nl_x | exact kd_r | exact kd_n | exact kd_x | exact kd_o | exact cats0 | exact cats1 | exact cats2 | exact cats3 | exact cats4 | exact nr_i | exact nr_l | exact nr_z0 | exact nr_z1 | exact ft_i | exact ft_l | omega | rfl | assumption | (refine i_ne0 ?_ ?_ ?_ <;> omega) | (refine j_ne0 ?_ ?_ ?_ <;> omega) | (refine i_new ?_ ?_ <;> omega) | (refine bl_t ?_; with_unfolding_all rfl) | exact ft_z0 | exact ft_z1) only [q_X4_build_8, q_X4_build_9, q_X4_build_81, i_add, i_sub, i_mul, i_neg, i_lt, i_le, i_eq, i_tm, i_div, i_j, j_i, j_add, j_sub, j_mul, j_neg, j_lt, j_le, j_eq, j_div, c_lt, c_le, c_gt, c_ge, c_eq, i_nat, rz_k, Nat.add_zero, Nat.zero_add, Nat.add_assoc, Nat.reduceAdd, if_true, if_false, if_pos (show (x : Int) < ((x + 1 : Nat) : Int) by omega)]
  | succ n ih =>
    intro w x l4 l5 h4 h5 hx hu
    obtain ⟨⟨t, ht⟩, hc⟩ := zh_b_ch L x
    have hlen := zh_b_len (L := L) x
    have hu0 := hu
    rw [ht] at hu hlen
    have hl2 : t.length + 1 ≤ x + 1 := hlen.1
    obtain ⟨w1, k, e1, f1, hu1⟩ := l_hpop (X := X) (d := d) (nc := nc) (ns := ns) (p := Int32.ofInt (p : Int)) (q := Int32.ofInt (q : Int)) (x := x + 1) (y := ((p * (x + 1) / q : Nat) : Int) + 1) hq.2 hLb (by omega) (hL (x + 1)).symm t w x (fun e he => by have := hlen.2 e he; omega) (by omega) hu
    rw [← ht] at hu1
    have hpl := (zh_pop_len (L := L) (x := x + 1) (zh_b L x)).1
    have hbl := (zh_b_len (L := L) x).1
    obtain ⟨w2, e2, f2, hu2⟩ := x_hadd (X := X) (d := d + 2) (x := x + 1) (y := ((p * (x + 1) / q : Nat) : Int) + 1) hu1 (by omega) (hL (x + 1)).symm
    obtain ⟨w3, e3, f3, hu3⟩ := ih w2 (x + 1) (some (.int (Int32.ofInt (((p * (x + 1) / q : Nat) : Int) + 1)))) (some (.int (Int32.ofInt k))) nl_i nl_i (by omega) hu2
    refine ⟨w3, ?_, fr_trans f1 (fr_trans f2 f3), hu3⟩
    obtain ⟨F, G, h29, h30, h31, hr⟩ := id hu
    obtain ⟨F1, G1, g29, g30, g31, hr1⟩ := id hu1
    have kl := x_hlow (X := X) (d := d + 2) (w := w) hp hq (show x + 1 ≤ 200 by omega)
    have e4 : (((x :: t).length : Nat) : Int) - 1 = (t.length : Int) := by rw [List.length_cons]; omega
    rw [← e3, q_X4_build_7]
    simp (disch := first | exact nl_i | exact nl_r | exact nl_0 | exact nl_n | exact nl_x | exact kd_r | exact kd_n | exact kd_x | exact kd_o | exact cats0 | exact cats1 | exact cats2 | exact cats3 | exact cats4 | exact nr_i | exact nr_l | exact nr_z0 | exact nr_z1 | exact ft_i | exact ft_l | omega | rfl | assumption | (refine i_ne0 ?_ ?_ ?_ <;> omega) | (refine j_ne0 ?_ ?_ ?_ <;> omega) | (refine i_new ?_ ?_ <;> omega) | (refine bl_t ?_; with_unfolding_all rfl) | exact ft_z0 | exact ft_z1) only [q_X4_build_8, q_X4_build_9, q_X4_build_12, q_X4_build_13, q_X4_build_14, q_X4_build_15, q_X4_build_18, q_X4_build_20, q_X4_build_21, q_X4_build_24, q_X4_build_25, q_X4_build_26, i_add, i_sub, i_mul, i_neg, i_lt, i_le, i_eq, i_tm, i_div, i_j, j_i, j_add, j_sub, j_mul, j_neg, j_lt, j_le, j_eq, j_div, c_lt, c_le, c_gt, c_ge, c_eq, i_nat, rz_k, Nat.add_zero, Nat.zero_add, Nat.add_assoc, Nat.reduceAdd, if_true, if_false, if_neg (show ¬ (q : Int) < ((x + 1 : Nat) : Int) by omega), kl, gf_eq h29, List.getElem?_cons_zero, List.getElem?_cons_succ, e4]
    refine Eq.trans e1 ?_
    simp (disch := first | exact nl_i | exact nl_r | exact nl_0 | exact nl_n | exact nl_x | exact kd_r | exact kd_n | exact kd_x | exact kd_o | exact cats0 | exact cats1 | exact cats2 | exact cats3 | exact cats4 | exact nr_i | exact nr_l | exact nr_z0 | exact nr_z1 | exact ft_i | exact ft_l | omega | rfl | assumption | (refine i_ne0 ?_ ?_ ?_ <;> omega) | (refine j_ne0 ?_ ?_ ?_ <;> omega) | (refine i_new ?_ ?_ <;> omega) | (refine bl_t ?_; with_unfolding_all rfl) | exact ft_z0 | exact ft_z1) only [q_X4_build_68, q_X4_build_69, q_X4_build_70, q_X4_build_72, q_X4_build_75, q_X4_build_78, i_add, i_sub, i_mul, i_neg, i_lt, i_le, i_eq, i_tm, i_div, i_j, j_i, j_add, j_sub, j_mul, j_neg, j_lt, j_le, j_eq, j_div, c_lt, c_le, c_gt, c_ge, c_eq, i_nat, rz_k, Nat.add_zero, Nat.zero_add, Nat.add_assoc, Nat.reduceAdd, if_true, if_false, vk_eq g29, e2]
    rfl
theorem v_misc_hu {w' : rz_W} {S : List Nat} {n : Int32} {f g : Nat → Int32} (hv : v_misc w) (hf : rz_fr S w w') (hS : ∀ q, q ∈ S → q ∈ [29, 30, 31]) (h1 : v_ob w' 29 4 [.int n, .ref 30, .ref 31]) (h2 : v_ia w' 30 201 f) (h3 : v_ia w' 31 201 g) : v_misc w' := by
  obtain ⟨⟨a1, a2, a3, a4, a5, a6, a7, p1⟩, ⟨b1, b2, b3, b4, p2, p3, p4, p5⟩, ⟨c1, c2, c3, c4, c5, p6, p7, p8⟩, ⟨d1, d2, d3, q1, q2, q3⟩, -, ⟨f1, f2, p12, p13⟩, ⟨f3, p14⟩⟩ := hv
  have k : ∀ {q : Nat} {u : rz_E}, q ∉ [29, 30, 31] → w[q]? = some u → w'[q]? = some u := fun hq h => fr_get hf (fun c => hq (hS _ c)) h
  exact ⟨⟨a1, a2, a3, a4, a5, a6, a7, k (by decide) p1⟩, ⟨b1, b2, b3, b4, k (by decide) p2, k (by decide) p3, k (by decide) p4, k (by decide) p5⟩, ⟨c1, c2, c3, c4, c5, k (by decide) p6, k (by decide) p7, k (by decide) p8⟩, ⟨d1, d2, d3, k (by decide) q1, k (by decide) q2, k (by decide) q3⟩, ⟨n, f, g, h1, h2, h3⟩, ⟨f1, f2, k (by decide) p12, k (by decide) p13⟩, ⟨f3, k (by decide) p14⟩⟩
theorem x_hbuild {p q : Nat} (hp : 1 ≤ p ∧ p ≤ 200) (hq : 1 ≤ q ∧ q ≤ 200) (hv : v_misc w) : ∃ w', rz_ex X (d + 4) 37 [.ref 29, .int (Int32.ofInt (p : Int)), .int (Int32.ofInt (q : Int))] w = some (.inl none, w', 0, 0) ∧ rz_fr [29, 30, 31] w w' ∧ v_misc w' ∧ v_hu w' (fun x => ((p * x / q : Nat) : Int) + 1) (zh_b (fun x => ((p * x / q : Nat) : Int) + 1) q) := by
  obtain ⟨-, -, -, -, ⟨n0, F0, G0, h29, h30, h31⟩, -, -⟩ := id hv
  have hLb : ∀ e, e ≤ q → 0 ≤ ((p * e / q : Nat) : Int) + 1 ∧ ((p * e / q : Nat) : Int) + 1 ≤ 300 := by
    intro e he
    have h1 : p * e / q ≤ p := by
      have := Nat.div_le_div_right (c := q) (Nat.mul_le_mul_left p he)
      rw [Nat.mul_div_cancel _ (by omega)] at this
      exact this
    generalize p * e / q = z at *
    omega
  generalize hLL : (fun x => ((p * x / q : Nat) : Int) + 1) = L
  have hL : ∀ x, L x = ((p * x / q : Nat) : Int) + 1 := fun x => by rw [← hLL]
  have hLb : ∀ e, e ≤ q → 0 ≤ L e ∧ L e ≤ 300 := fun e he => by rw [hL]; exact hLb e he
  have g29 : v_ob (w.set 29 (.inr (4, [.int (Int32.ofInt 0), .ref 30, .ref 31]))) 29 4 [.int (Int32.ofInt (([] : List Nat).length : Int)), .ref 30, .ref 31] := w_eq (w_lt h29)
  have f0 : rz_fr [29, 30, 31] w (w.set 29 (.inr (4, [.int (Int32.ofInt 0), .ref 30, .ref 31]))) := fr_set (by decide)
  have hu0 : v_hu (w.set 29 (.inr (4, [.int (Int32.ofInt 0), .ref 30, .ref 31]))) L [] := ⟨F0, G0, g29, (w_ne (by omega)).trans h30, (w_ne (by omega)).trans h31, trivial⟩
  generalize hw0 : w.set 29 (.inr (4, [.int (Int32.ofInt 0), .ref 30, .ref 31])) = w0 at *
  have hl0 : L 0 = 1 := by rw [hL, Nat.mul_zero, Nat.zero_div]; rfl
  obtain ⟨w1, e1, f1, hu1⟩ := x_hadd (X := X) (d := d + 2) (x := 0) (y := 1) hu0 (by decide) hl0.symm
  obtain ⟨w2, e2, f2, hu2⟩ := l_hb (X := X) (d := d) (nc := 0) (ns := 0) hp hq hL hLb q w1 0 (some (.int (Int32.ofInt 1))) (some (.int (Int32.ofInt (-1)))) nl_i nl_i (by omega) hu1
  have kl := x_hlow (X := X) (d := d + 2) (w := w0) hp hq (show 0 ≤ 200 by omega)
  rw [Nat.mul_zero, Nat.zero_div] at kl
  have kl : rz_ex X (d + 3) 38 [.int (Int32.ofInt (p : Int)), .int (Int32.ofInt (q : Int)), .int (Int32.ofInt 0)] w0 = some (.inl (some (.int (Int32.ofInt 1))), w0, 0, 0) := kl
  have e1 : rz_ex X (d + 3) 39 [.ref 29, .int (Int32.ofInt 0), .int (Int32.ofInt 1)] w0 = some (.inl none, w1, 0, 0) := e1
  have f3 := fr_trans f0 (fr_trans f1 f2)
  refine ⟨w2, ?_, f3, ?_, hu2⟩
  · rw [← e2]
    simp (disch := first | exact nl_i | exact nl_r | exact nl_0 | exact nl_n | exact nl_x | exact kd_r | exact kd_n | exact kd_x | exact kd_o | exact cats0 | exact cats1 | exact cats2 | exact cats3 | exact cats4 | exact nr_i | exact nr_l | exact nr_z0 | exact nr_z1 | exact ft_i | exact ft_l | omega | rfl | assumption | (refine i_ne0 ?_ ?_ ?_ <;> omega) | (refine j_ne0 ?_ ?_ ?_ <;> omega) | (refine i_new ?_ ?_ <;> omega) | (refine bl_t ?_; with_unfolding_all rfl) | exact ft_z0 | exact ft_z1) only [n_X4_build, q_X4_build_0, q_X4_build_1, q_X4_build_2, q_X4_build_5, q_X4_build_6, i_add, i_sub, i_mul, i_neg, i_lt, i_le, i_eq, i_tm, i_div, i_j, j_i, j_add, j_sub, j_mul, j_neg, j_lt, j_le, j_eq, j_div, c_lt, c_le, c_gt, c_ge, c_eq, i_nat, rz_k, Nat.add_zero, Nat.zero_add, Nat.add_assoc, Nat.reduceAdd, if_true, if_false, pf_eq h29, List.set_cons_zero, hw0]
    rw [q_X4_build_7]
    simp (disch := first | exact nl_i | exact nl_r | exact nl_0 | exact nl_n | exact nl_x | exact kd_r | exact kd_n | exact kd_x | exact kd_o | exact cats0 | exact cats1 | exact cats2 | exact cats3 | exact cats4 | exact nr_i | exact nr_l | exact nr_z0 | exact nr_z1 | exact ft_i | exact ft_l | omega | rfl | assumption | (refine i_ne0 ?_ ?_ ?_ <;> omega) | (refine j_ne0 ?_ ?_ ?_ <;> omega) | (refine i_new ?_ ?_ <;> omega) | (refine bl_t ?_; with_unfolding_all rfl) | exact ft_z0 | exact ft_z1) only [q_X4_build_8, q_X4_build_9, q_X4_build_12, q_X4_build_13, q_X4_build_14, q_X4_build_15, q_X4_build_18, q_X4_build_20, q_X4_build_21, q_X4_build_24, q_X4_build_25, q_X4_build_26, q_X4_build_28, q_X4_build_30, q_X4_build_33, q_X4_build_34, q_X4_build_36, q_X4_build_37, q_X4_build_38, q_X4_build_40, q_X4_build_41, q_X4_build_43, q_X4_build_46, q_X4_build_49, q_X4_build_52, q_X4_build_53, q_X4_build_53r, q_X4_build_54, q_X4_build_57, q_X4_build_58, q_X4_build_59, q_X4_build_62, q_X4_build_65, q_X4_build_68, q_X4_build_69, q_X4_build_70, q_X4_build_72, q_X4_build_75, q_X4_build_78, i_add, i_sub, i_mul, i_neg, i_lt, i_le, i_eq, i_tm, i_div, i_j, j_i, j_add, j_sub, j_mul, j_neg, j_lt, j_le, j_eq, j_div, c_lt, c_le, c_gt, c_ge, c_eq, i_nat, rz_k, Nat.add_zero, Nat.zero_add, Nat.add_assoc, Nat.reduceAdd, if_true, if_false, if_neg (show ¬ (q : Int) < 0 by omega), kl, gf_eq g29, List.getElem?_cons_zero, List.getElem?_cons_succ, List.length_nil, Int.ofNat_zero, Int.reduceSub, if_pos (show (-1 : Int) ≤ 0 by omega), vk_eq g29, e1]
    rfl
  · obtain ⟨F, G, i29, i30, i31, hr⟩ := hu2
    exact v_misc_hu hv f3 (fun q h => h) i29 i30 i31
end RZHV
