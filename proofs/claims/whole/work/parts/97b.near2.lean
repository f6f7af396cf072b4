/-! part 97b: level 2: the nearest point: the class -/
section RZNY
variable {X : rz_X} {d : Nat} {w : rz_W} {nc ns : Nat} {kp tl kd ty cl th : Int} {f g h : Int64}
def zn_cell (c : Int × Int × Int × Int) (x y : Int) (f g : Int64) (b : Option (Int × Int)) : rz_E := match b with
  | none => (.inr (0, [.long (Int64.ofInt c.1), .long (Int64.ofInt c.2.1), .long (Int64.ofInt c.2.2.1), .long (Int64.ofInt c.2.2.2), .long f, .long g, .long (Int64.ofInt (-1))]))
  | some e => (.inr (0, [.long (Int64.ofInt c.1), .long (Int64.ofInt c.2.1), .long (Int64.ofInt c.2.2.1), .long (Int64.ofInt c.2.2.2), .long (Int64.ofInt (e.1 + x)), .long (Int64.ofInt (e.2 + y)), .long (Int64.ofInt (zr_N e.1 e.2))]))
theorem zn_bd {c : Int × Int × Int × Int} {e : Int × Int} {A m : Int} (hd : zn_d c = A ∨ zn_d c = -A) (hA : 0 < A) (hm : 1 ≤ m ∧ m ≤ 4) (hc : c.1.natAbs ≤ 1500000 ∧ c.2.1.natAbs ≤ 1500000 ∧ c.2.2.1.natAbs ≤ 1500000 ∧ c.2.2.2.natAbs ≤ 1500000) (hs : -(m * A) ≤ zn_s c e ∧ zn_s c e ≤ m * A) (ht : -(m * A) ≤ zn_t c e ∧ zn_t c e ≤ m * A) : e.1.natAbs ≤ 12000000 ∧ e.2.natAbs ≤ 12000000 := by
  have hmA : m * A ≤ 4 * A := Int.mul_le_mul_of_nonneg_right hm.2 (by omega)
  have e1 : zn_d c * e.1 = zn_s c e * c.1 + zn_t c e * c.2.2.1 := by unfold zn_d zn_s zn_t; grind
  have e2 : zn_d c * e.2 = zn_s c e * c.2.1 + zn_t c e * c.2.2.2 := by unfold zn_d zn_s zn_t; grind
  have key : ∀ {S T u v z : Int}, -(4 * A) ≤ S → S ≤ 4 * A → -(4 * A) ≤ T → T ≤ 4 * A → u.natAbs ≤ 1500000 → v.natAbs ≤ 1500000 → (A * z = S * u + T * v ∨ -A * z = S * u + T * v) → z.natAbs ≤ 12000000 := by
    intro S T u v z s1 s2 t1 t2 hu hv hz
    have bb : ∀ {S u : Int}, -(4 * A) ≤ S → S ≤ 4 * A → u.natAbs ≤ 1500000 → S * u ≤ 6000000 * A ∧ -(6000000 * A) ≤ S * u := by
      intro S u s1 s2 hu
      have u1 := Int.mul_nonneg (show 0 ≤ 4 * A - S by omega) (show 0 ≤ 1500000 + u by omega)
      have u2 := Int.mul_nonneg (show 0 ≤ 4 * A + S by omega) (show 0 ≤ 1500000 - u by omega)
      have u3 := Int.mul_nonneg (show 0 ≤ 4 * A - S by omega) (show 0 ≤ 1500000 - u by omega)
      have u4 := Int.mul_nonneg (show 0 ≤ 4 * A + S by omega) (show 0 ≤ 1500000 + u by omega)
      have e1 : (4 * A - S) * (1500000 + u) + (4 * A + S) * (1500000 - u) = 12000000 * A - 2 * (S * u) := by grind
      have e2 : (4 * A - S) * (1500000 - u) + (4 * A + S) * (1500000 + u) = 12000000 * A + 2 * (S * u) := by grind
      omega
    have b1 := bb s1 s2 hu
    have b2 := bb t1 t2 hv
    have b3 : A * z ≤ 12000000 * A ∧ -(12000000 * A) ≤ A * z := by
      rcases hz with hz | hz
      · omega
      · rw [Int.neg_mul] at hz; omega
    rcases Nat.lt_or_ge 12000000 z.natAbs with h | h
    · exfalso
      rcases Int.lt_or_le z 0 with h1 | h1
      · have := Int.mul_le_mul_of_nonneg_left (show z ≤ -12000001 by omega) (show 0 ≤ A by omega)
        omega
      · have := Int.mul_le_mul_of_nonneg_left (show 12000001 ≤ z by omega) (show 0 ≤ A by omega)
        omega
    · exact h
  have h1 : A * e.1 = zn_s c e * c.1 + zn_t c e * c.2.2.1 ∨ -A * e.1 = zn_s c e * c.1 + zn_t c e * c.2.2.1 := by
    rcases hd with hd | hd
    · rw [hd] at e1; exact .inl e1
    · rw [hd] at e1; exact .inr e1
  have h2 : A * e.2 = zn_s c e * c.2.1 + zn_t c e * c.2.2.2 ∨ -A * e.2 = zn_s c e * c.2.1 + zn_t c e * c.2.2.2 := by
    rcases hd with hd | hd
    · rw [hd] at e2; exact .inl e2
    · rw [hd] at e2; exact .inr e2
  exact ⟨key (by omega) (by omega) (by omega) (by omega) hc.1 hc.2.2.1 h1, key (by omega) (by omega) (by omega) (by omega) hc.2.1 hc.2.2.2 h2⟩
theorem x_cmp {c : Int × Int × Int × Int} {x y px py : Int} {b : Option (Int × Int)} (l4 : 4 < w.length) (hx : -2000 ≤ x ∧ x ≤ 2000) (hy : -2000 ≤ y ∧ y ≤ 2000) (he : (px - x).natAbs ≤ 12000000 ∧ (py - y).natAbs ≤ 12000000) (hb : ∀ e, b = some e → e.1.natAbs ≤ 12000000 ∧ e.2.natAbs ≤ 12000000) : rz_ex X (d + 1) 6 [.ref 4, .long (Int64.ofInt x), .long (Int64.ofInt y), .long (Int64.ofInt px), .long (Int64.ofInt py)] (w.set 4 (zn_cell c x y f g b)) = some (.inl none, w.set 4 (zn_cell c x y f g (zn_up (px - x, py - y) b)), 0, 0) := by
  have eN : ∀ a b : Int, a * a + b * b = zr_N a b := fun _ _ => rfl
  have b1 := zt_Nb (x := px - x) (y := py - y) (by omega) (by omega)
  cases b with
  | none =>
    unfold zn_up zn_cell
    dsimp only
    rw [Int.sub_add_cancel, Int.sub_add_cancel]
    simp (disch := first | exact nl_i | exact nl_r | exact nl_0 | exact nl_n | exact nl_x | exact kd_r | exact kd_n | exact kd_x | exact kd_o | exact cats0 | exact cats1 | exact cats2 | exact cats3 | exact cats4 | exact nr_i | exact nr_l | exact nr_z0 | exact nr_z1 | exact ft_i | exact ft_l | omega | rfl | assumption | (refine i_ne0 ?_ ?_ ?_ <;> omega) | (refine j_ne0 ?_ ?_ ?_ <;> omega) | (refine i_new ?_ ?_ <;> omega) | (refine bl_t ?_; with_unfolding_all rfl) | exact ft_z0 | exact ft_z1) only [n_X0_compare, q_X0_compare_0, q_X0_compare_2, q_X0_compare_3, q_X0_compare_4, q_X0_compare_6, q_X0_compare_7, q_X0_compare_8, q_X0_compare_9, q_X0_compare_11, q_X0_compare_12, q_X0_compare_13, q_X0_compare_15, q_X0_compare_16, q_X0_compare_17, q_X0_compare_18, q_X0_compare_19, q_X0_compare_21, q_X0_compare_22, q_X0_compare_25, q_X0_compare_26, q_X0_compare_27, q_X0_compare_30, q_X0_compare_32, q_X0_compare_33, q_X0_compare_36, q_X0_compare_37, q_X0_compare_40, q_X0_compare_41, q_X0_compare_44, q_X0_compare_45, q_X0_compare_47, q_X0_compare_49, q_X0_compare_52, q_X0_compare_54, q_X0_compare_55, q_X0_compare_58, q_X0_compare_59, q_X0_compare_62, q_X0_compare_64, q_X0_compare_65, q_X0_compare_68, q_X0_compare_69, q_X0_compare_72, q_X0_compare_74, q_X0_compare_75, q_X0_compare_78, q_X0_compare_79, q_X0_compare_82, q_X0_compare_84, q_X0_compare_85, q_X0_compare_88, q_X0_compare_89, q_X0_compare_92, q_X0_compare_93, q_X0_compare_96, q_X0_compare_97, q_X0_compare_99, q_X0_compare_101, q_X0_compare_104, q_X0_compare_105, q_X0_compare_107, q_X0_compare_110, q_X0_compare_111, q_X0_compare_113, q_X0_compare_116, q_X0_compare_117, q_X0_compare_119, q_X0_compare_122, i_add, i_sub, i_mul, i_neg, i_lt, i_le, i_eq, i_tm, i_div, i_j, j_i, j_add, j_sub, j_mul, j_neg, j_lt, j_le, j_eq, j_div, c_lt, c_le, c_gt, c_ge, c_eq, i_nat, rz_k, Nat.add_zero, Nat.zero_add, Nat.add_assoc, Nat.reduceAdd, if_true, if_false, not_true_eq_false, not_false_eq_true, eN, gf_self, List.getElem?_cons_zero, List.getElem?_cons_succ, if_pos (show (-1 : Int) < 0 by omega), if_pos (show ¬ (1 : Int) = 0 by omega), if_neg (show ¬ (1 : Int) = 0 by omega), pf_self, List.set_cons_zero, List.set_cons_succ]
  | some e =>
    obtain ⟨c1, c2⟩ := hb e rfl
    have b2 := zt_Nb (x := e.1) (y := e.2) (by omega) (by omega)
    unfold zn_up
    dsimp only
    by_cases a0 : zr_N (px - x) (py - y) < zr_N e.1 e.2
    · rw [if_pos (show zt_lt (px - x, py - y) e by unfold zt_lt; dsimp only; omega)]
      unfold zn_cell
      dsimp only
      rw [Int.sub_add_cancel, Int.sub_add_cancel]
      simp (disch := first | exact nl_i | exact nl_r | exact nl_0 | exact nl_n | exact nl_x | exact kd_r | exact kd_n | exact kd_x | exact kd_o | exact cats0 | exact cats1 | exact cats2 | exact cats3 | exact cats4 | exact nr_i | exact nr_l | exact nr_z0 | exact nr_z1 | exact ft_i | exact ft_l | omega | rfl | assumption | (refine i_ne0 ?_ ?_ ?_ <;> omega) | (refine j_ne0 ?_ ?_ ?_ <;> omega) | (refine i_new ?_ ?_ <;> omega) | (refine bl_t ?_; with_unfolding_all rfl) | exact ft_z0 | exact ft_z1) only [n_X0_compare, q_X0_compare_0, q_X0_compare_2, q_X0_compare_3, q_X0_compare_4, q_X0_compare_6, q_X0_compare_7, q_X0_compare_8, q_X0_compare_9, q_X0_compare_11, q_X0_compare_12, q_X0_compare_13, q_X0_compare_15, q_X0_compare_16, q_X0_compare_17, q_X0_compare_18, q_X0_compare_19, q_X0_compare_21, q_X0_compare_22, q_X0_compare_25, q_X0_compare_26, q_X0_compare_27, q_X0_compare_30, q_X0_compare_32, q_X0_compare_33, q_X0_compare_36, q_X0_compare_37, q_X0_compare_40, q_X0_compare_41, q_X0_compare_44, q_X0_compare_45, q_X0_compare_47, q_X0_compare_49, q_X0_compare_52, q_X0_compare_54, q_X0_compare_55, q_X0_compare_58, q_X0_compare_59, q_X0_compare_62, q_X0_compare_64, q_X0_compare_65, q_X0_compare_68, q_X0_compare_69, q_X0_compare_72, q_X0_compare_74, q_X0_compare_75, q_X0_compare_78, q_X0_compare_79, q_X0_compare_82, q_X0_compare_84, q_X0_compare_85, q_X0_compare_88, q_X0_compare_89, q_X0_compare_92, q_X0_compare_93, q_X0_compare_96, q_X0_compare_97, q_X0_compare_99, q_X0_compare_101, q_X0_compare_104, q_X0_compare_105, q_X0_compare_107, q_X0_compare_110, q_X0_compare_111, q_X0_compare_113, q_X0_compare_116, q_X0_compare_117, q_X0_compare_119, q_X0_compare_122, i_add, i_sub, i_mul, i_neg, i_lt, i_le, i_eq, i_tm, i_div, i_j, j_i, j_add, j_sub, j_mul, j_neg, j_lt, j_le, j_eq, j_div, c_lt, c_le, c_gt, c_ge, c_eq, i_nat, rz_k, Nat.add_zero, Nat.zero_add, Nat.add_assoc, Nat.reduceAdd, if_true, if_false, not_true_eq_false, not_false_eq_true, eN, gf_self, List.getElem?_cons_zero, List.getElem?_cons_succ, if_neg (show ¬ zr_N e.1 e.2 < 0 by omega), if_neg (show ¬ zr_N e.1 e.2 ≤ zr_N (px - x) (py - y) by omega), if_pos (show ¬ (1 : Int) = 0 by omega), if_neg (show ¬ (1 : Int) = 0 by omega), pf_self, List.set_cons_zero, List.set_cons_succ]
    · by_cases a1 : zr_N (px - x) (py - y) = zr_N e.1 e.2
      · by_cases a2 : px < e.1 + x
        · rw [if_pos (show zt_lt (px - x, py - y) e by unfold zt_lt; dsimp only; omega)]
          unfold zn_cell
          dsimp only
          rw [Int.sub_add_cancel, Int.sub_add_cancel]
          simp (disch := first | exact nl_i | exact nl_r | exact nl_0 | exact nl_n | exact nl_x | exact kd_r | exact kd_n | exact kd_x | exact kd_o | exact cats0 | exact cats1 | exact cats2 | exact cats3 | exact cats4 | exact nr_i | exact nr_l | exact nr_z0 | exact nr_z1 | exact ft_i | exact ft_l | omega | rfl | assumption | (refine i_ne0 ?_ ?_ ?_ <;> omega) | (refine j_ne0 ?_ ?_ ?_ <;> omega) | (refine i_new ?_ ?_ <;> omega) | (refine bl_t ?_; with_unfolding_all rfl) | exact ft_z0 | exact ft_z1) only [n_X0_compare, q_X0_compare_0, q_X0_compare_2, q_X0_compare_3, q_X0_compare_4, q_X0_compare_6, q_X0_compare_7, q_X0_compare_8, q_X0_compare_9, q_X0_compare_11, q_X0_compare_12, q_X0_compare_13, q_X0_compare_15, q_X0_compare_16, q_X0_compare_17, q_X0_compare_18, q_X0_compare_19, q_X0_compare_21, q_X0_compare_22, q_X0_compare_25, q_X0_compare_26, q_X0_compare_27, q_X0_compare_30, q_X0_compare_32, q_X0_compare_33, q_X0_compare_36, q_X0_compare_37, q_X0_compare_40, q_X0_compare_41, q_X0_compare_44, q_X0_compare_45, q_X0_compare_47, q_X0_compare_49, q_X0_compare_52, q_X0_compare_54, q_X0_compare_55, q_X0_compare_58, q_X0_compare_59, q_X0_compare_62, q_X0_compare_64, q_X0_compare_65, q_X0_compare_68, q_X0_compare_69, q_X0_compare_72, q_X0_compare_74, q_X0_compare_75, q_X0_compare_78, q_X0_compare_79, q_X0_compare_82, q_X0_compare_84, q_X0_compare_85, q_X0_compare_88, q_X0_compare_89, q_X0_compare_92, q_X0_compare_93, q_X0_compare_96, q_X0_compare_97, q_X0_compare_99, q_X0_compare_101, q_X0_compare_104, q_X0_compare_105, q_X0_compare_107, q_X0_compare_110, q_X0_compare_111, q_X0_compare_113, q_X0_compare_116, q_X0_compare_117, q_X0_compare_119, q_X0_compare_122, i_add, i_sub, i_mul, i_neg, i_lt, i_le, i_eq, i_tm, i_div, i_j, j_i, j_add, j_sub, j_mul, j_neg, j_lt, j_le, j_eq, j_div, c_lt, c_le, c_gt, c_ge, c_eq, i_nat, rz_k, Nat.add_zero, Nat.zero_add, Nat.add_assoc, Nat.reduceAdd, if_true, if_false, not_true_eq_false, not_false_eq_true, eN, gf_self, List.getElem?_cons_zero, List.getElem?_cons_succ, if_neg (show ¬ zr_N e.1 e.2 < 0 by omega), if_pos (show zr_N e.1 e.2 ≤ zr_N (px - x) (py - y) by omega), if_neg (show ¬ ¬ zr_N (px - x) (py - y) = zr_N e.1 e.2 by omega), if_neg (show ¬ ¬ (0 : Int) = 0 by omega), if_neg (show ¬ (1 : Int) = 0 by omega), if_pos a2, pf_self, List.set_cons_zero, List.set_cons_succ]
        · by_cases a3 : px = e.1 + x
          · by_cases a4 : py < e.2 + y
            · rw [if_pos (show zt_lt (px - x, py - y) e by unfold zt_lt; dsimp only; omega)]
              unfold zn_cell
              dsimp only
              rw [Int.sub_add_cancel, Int.sub_add_cancel]
              simp (disch := first | exact nl_i | exact nl_r | exact nl_0 | exact nl_n | exact nl_x | exact kd_r | exact kd_n | exact kd_x | exact kd_o | exact cats0 | exact cats1 | exact cats2 | exact cats3 | exact cats4 | exact nr_i | exact nr_l | exact nr_z0 | exact nr_z1 | exact ft_i | exact ft_l | omega | rfl | assumption | (refine i_ne0 ?_ ?_ ?_ <;> omega) | (refine j_ne0 ?_ ?_ ?_ <;> omega) | (refine i_new ?_ ?_ <;> omega) | (refine bl_t ?_; with_unfolding_all rfl) | exact ft_z0 | exact ft_z1) only [n_X0_compare, q_X0_compare_0, q_X0_compare_2, q_X0_compare_3, q_X0_compare_4, q_X0_compare_6, q_X0_compare_7, q_X0_compare_8, q_X0_compare_9, q_X0_compare_11, q_X0_compare_12, q_X0_compare_13, q_X0_compare_15, q_X0_compare_16, q_X0_compare_17, q_X0_compare_18, q_X0_compare_19, q_X0_compare_21, q_X0_compare_22, q_X0_compare_25, q_X0_compare_26, q_X0_compare_27, q_X0_compare_30, q_X0_compare_32, q_X0_compare_33, q_X0_compare_36, q_X0_compare_37, q_X0_compare_40, q_X0_compare_41, q_X0_compare_44, q_X0_compare_45, q_X0_compare_47, q_X0_compare_49, q_X0_compare_52, q_X0_compare_54, q_X0_compare_55, q_X0_compare_58, q_X0_compare_59, q_X0_compare_62, q_X0_compare_64, q_X0_compare_65, q_X0_compare_68, q_X0_compare_69, q_X0_compare_72, q_X0_compare_74, q_X0_compare_75, q_X0_compare_78, q_X0_compare_79, q_X0_compare_82, q_X0_compare_84, q_X0_compare_85, q_X0_compare_88, q_X0_compare_89, q_X0_compare_92, q_X0_compare_93, q_X0_compare_96, q_X0_compare_97, q_X0_compare_99, q_X0_compare_101, q_X0_compare_104, q_X0_compare_105, q_X0_compare_107, q_X0_compare_110, q_X0_compare_111, q_X0_compare_113, q_X0_compare_116, q_X0_compare_117, q_X0_compare_119, q_X0_compare_122, i_add, i_sub, i_mul, i_neg, i_lt, i_le, i_eq, i_tm, i_div, i_j, j_i, j_add, j_sub, j_mul, j_neg, j_lt, j_le, j_eq, j_div, c_lt, c_le, c_gt, c_ge, c_eq, i_nat, rz_k, Nat.add_zero, Nat.zero_add, Nat.add_assoc, Nat.reduceAdd, if_true, if_false, not_true_eq_false, not_false_eq_true, eN, gf_self, List.getElem?_cons_zero, List.getElem?_cons_succ, if_neg (show ¬ zr_N e.1 e.2 < 0 by omega), if_pos (show zr_N e.1 e.2 ≤ zr_N (px - x) (py - y) by omega), if_neg (show ¬ ¬ zr_N (px - x) (py - y) = zr_N e.1 e.2 by omega), if_neg (show ¬ ¬ (0 : Int) = 0 by omega), if_neg (show ¬ (1 : Int) = 0 by omega), if_neg a2, if_neg (show ¬ ¬ px = e.1 + x by omega), if_neg (show ¬ e.2 + y ≤ py by omega), pf_self, List.set_cons_zero, List.set_cons_succ]
            · rw [if_neg (show ¬ zt_lt (px - x, py - y) e by unfold zt_lt; dsimp only; omega)]
              unfold zn_cell
              dsimp only
              simp (disch := first | exact nl_i | exact nl_r | exact nl_0 | exact nl_n | exact nl_x | exact kd_r | exact kd_n | exact kd_x | exact kd_o | exact cats0 | exact cats1 | exact cats2 | exact cats3 | exact cats4 | exact nr_i | exact nr_l | exact nr_z0 | exact nr_z1 | exact ft_i | exact ft_l | omega | rfl | assumption | (refine i_ne0 ?_ ?_ ?_ <;> omega) | (refine j_ne0 ?_ ?_ ?_ <;> omega) | (refine i_new ?_ ?_ <;> omega) | (refine bl_t ?_; with_unfolding_all rfl) | exact ft_z0 | exact ft_z1) only [n_X0_compare, q_X0_compare_0, q_X0_compare_2, q_X0_compare_3, q_X0_compare_4, q_X0_compare_6, q_X0_compare_7, q_X0_compare_8, q_X0_compare_9, q_X0_compare_11, q_X0_compare_12, q_X0_compare_13, q_X0_compare_15, q_X0_compare_16, q_X0_compare_17, q_X0_compare_18, q_X0_compare_19, q_X0_compare_21, q_X0_compare_22, q_X0_compare_25, q_X0_compare_26, q_X0_compare_27, q_X0_compare_30, q_X0_compare_32, q_X0_compare_33, q_X0_compare_36, q_X0_compare_37, q_X0_compare_40, q_X0_compare_41, q_X0_compare_44, q_X0_compare_45, q_X0_compare_47, q_X0_compare_49, q_X0_compare_52, q_X0_compare_54, q_X0_compare_55, q_X0_compare_58, q_X0_compare_59, q_X0_compare_62, q_X0_compare_64, q_X0_compare_65, q_X0_compare_68, q_X0_compare_69, q_X0_compare_72, q_X0_compare_74, q_X0_compare_75, q_X0_compare_78, q_X0_compare_79, q_X0_compare_82, q_X0_compare_84, q_X0_compare_85, q_X0_compare_88, q_X0_compare_89, q_X0_compare_92, q_X0_compare_93, q_X0_compare_96, q_X0_compare_97, q_X0_compare_99, q_X0_compare_101, q_X0_compare_104, q_X0_compare_105, q_X0_compare_107, q_X0_compare_110, q_X0_compare_111, q_X0_compare_113, q_X0_compare_116, q_X0_compare_117, q_X0_compare_119, q_X0_compare_122, i_add, i_sub, i_mul, i_neg, i_lt, i_le, i_eq, i_tm, i_div, i_j, j_i, j_add, j_sub, j_mul, j_neg, j_lt, j_le, j_eq, j_div, c_lt, c_le, c_gt, c_ge, c_eq, i_nat, rz_k, Nat.add_zero, Nat.zero_add, Nat.add_assoc, Nat.reduceAdd, if_true, if_false, not_true_eq_false, not_false_eq_true, eN, gf_self, List.getElem?_cons_zero, List.getElem?_cons_succ, if_neg (show ¬ zr_N e.1 e.2 < 0 by omega), if_pos (show zr_N e.1 e.2 ≤ zr_N (px - x) (py - y) by omega), if_neg (show ¬ ¬ zr_N (px - x) (py - y) = zr_N e.1 e.2 by omega), if_neg (show ¬ ¬ (0 : Int) = 0 by omega), if_pos (show (0 : Int) = 0 by omega), if_neg a2, if_neg (show ¬ ¬ px = e.1 + x by omega), if_pos (show e.2 + y ≤ py by omega)]
          · rw [if_neg (show ¬ zt_lt (px - x, py - y) e by unfold zt_lt; dsimp only; omega)]
            unfold zn_cell
            dsimp only
            simp (disch := first | exact nl_i | exact nl_r | exact nl_0 | exact nl_n | exact nl_x | exact kd_r | exact kd_n | exact kd_x | exact kd_o | exact cats0 | exact cats1 | exact cats2 | exact cats3 | exact cats4 | exact nr_i | exact nr_l | exact nr_z0 | exact nr_z1 | exact ft_i | exact ft_l | omega | rfl | assumption | (refine i_ne0 ?_ ?_ ?_ <;> omega) | (refine j_ne0 ?_ ?_ ?_ <;> omega) | (refine i_new ?_ ?_ <;> omega) | (refine bl_t ?_; with_unfolding_all rfl) | exact ft_z0 | exact ft_z1) only [n_X0_compare, q_X0_compare_0, q_X0_compare_2, q_X0_compare_3, q_X0_compare_4, q_X0_compare_6, q_X0_compare_7, q_X0_compare_8, q_X0_compare_9, q_X0_compare_11, q_X0_compare_12, q_X0_compare_13, q_X0_compare_15, q_X0_compare_16, q_X0_compare_17, q_X0_compare_18, q_X0_compare_19, q_X0_compare_21, q_X0_compare_22, q_X0_compare_25, q_X0_compare_26, q_X0_compare_27, q_X0_compare_30, q_X0_compare_32, q_X0_compare_33, q_X0_compare_36, q_X0_compare_37, q_X0_compare_40, q_X0_compare_41, q_X0_compare_44, q_X0_compare_45, q_X0_compare_47, q_X0_compare_49, q_X0_compare_52, q_X0_compare_54, q_X0_compare_55, q_X0_compare_58, q_X0_compare_59, q_X0_compare_62, q_X0_compare_64, q_X0_compare_65, q_X0_compare_68, q_X0_compare_69, q_X0_compare_72, q_X0_compare_74, q_X0_compare_75, q_X0_compare_78, q_X0_compare_79, q_X0_compare_82, q_X0_compare_84, q_X0_compare_85, q_X0_compare_88, q_X0_compare_89, q_X0_compare_92, q_X0_compare_93, q_X0_compare_96, q_X0_compare_97, q_X0_compare_99, q_X0_compare_101, q_X0_compare_104, q_X0_compare_105, q_X0_compare_107, q_X0_compare_110, q_X0_compare_111, q_X0_compare_113, q_X0_compare_116, q_X0_compare_117, q_X0_compare_119, q_X0_compare_122, i_add, i_sub, i_mul, i_neg, i_lt, i_le, i_eq, i_tm, i_div, i_j, j_i, j_add, j_sub, j_mul, j_neg, j_lt, j_le, j_eq, j_div, c_lt, c_le, c_gt, c_ge, c_eq, i_nat, rz_k, Nat.add_zero, Nat.zero_add, Nat.add_assoc, Nat.reduceAdd, if_true, if_false, not_true_eq_false, not_false_eq_true, eN, gf_self, List.getElem?_cons_zero, List.getElem?_cons_succ, if_neg (show ¬ zr_N e.1 e.2 < 0 by omega), if_pos (show zr_N e.1 e.2 ≤ zr_N (px - x) (py - y) by omega), if_neg (show ¬ ¬ zr_N (px - x) (py - y) = zr_N e.1 e.2 by omega), if_neg (show ¬ ¬ (0 : Int) = 0 by omega), if_pos (show (0 : Int) = 0 by omega), if_neg a2, if_pos a3]
      · rw [if_neg (show ¬ zt_lt (px - x, py - y) e by unfold zt_lt; dsimp only; omega)]
        unfold zn_cell
        dsimp only
        simp (disch := first | exact nl_i | exact nl_r | exact nl_0 | exact nl_n | exact nl_x | exact kd_r | exact kd_n | exact kd_x | exact kd_o | exact cats0 | exact cats1 | exact cats2 | exact cats3 | exact cats4 | exact nr_i | exact nr_l | exact nr_z0 | exact nr_z1 | exact ft_i | exact ft_l | omega | rfl | assumption | (refine i_ne0 ?_ ?_ ?_ <;> omega) | (refine j_ne0 ?_ ?_ ?_ <;> omega) | (refine i_new ?_ ?_ <;> omega) | (refine bl_t ?_; with_unfolding_all rfl) | exact ft_z0 | exact ft_z1) only [n_X0_compare, q_X0_compare_0, q_X0_compare_2, q_X0_compare_3, q_X0_compare_4, q_X0_compare_6, q_X0_compare_7, q_X0_compare_8, q_X0_compare_9, q_X0_compare_11, q_X0_compare_12, q_X0_compare_13, q_X0_compare_15, q_X0_compare_16, q_X0_compare_17, q_X0_compare_18, q_X0_compare_19, q_X0_compare_21, q_X0_compare_22, q_X0_compare_25, q_X0_compare_26, q_X0_compare_27, q_X0_compare_30, q_X0_compare_32, q_X0_compare_33, q_X0_compare_36, q_X0_compare_37, q_X0_compare_40, q_X0_compare_41, q_X0_compare_44, q_X0_compare_45, q_X0_compare_47, q_X0_compare_49, q_X0_compare_52, q_X0_compare_54, q_X0_compare_55, q_X0_compare_58, q_X0_compare_59, q_X0_compare_62, q_X0_compare_64, q_X0_compare_65, q_X0_compare_68, q_X0_compare_69, q_X0_compare_72, q_X0_compare_74, q_X0_compare_75, q_X0_compare_78, q_X0_compare_79, q_X0_compare_82, q_X0_compare_84, q_X0_compare_85, q_X0_compare_88, q_X0_compare_89, q_X0_compare_92, q_X0_compare_93, q_X0_compare_96, q_X0_compare_97, q_X0_compare_99, q_X0_compare_101, q_X0_compare_104, q_X0_compare_105, q_X0_compare_107, q_X0_compare_110, q_X0_compare_111, q_X0_compare_113, q_X0_compare_116, q_X0_compare_117, q_X0_compare_119, q_X0_compare_122, i_add, i_sub, i_mul, i_neg, i_lt, i_le, i_eq, i_tm, i_div, i_j, j_i, j_add, j_sub, j_mul, j_neg, j_lt, j_le, j_eq, j_div, c_lt, c_le, c_gt, c_ge, c_eq, i_nat, rz_k, Nat.add_zero, Nat.zero_add, Nat.add_assoc, Nat.reduceAdd, if_true, if_false, not_true_eq_false, not_false_eq_true, eN, gf_self, List.getElem?_cons_zero, List.getElem?_cons_succ, if_neg (show ¬ zr_N e.1 e.2 < 0 by omega), if_pos (show zr_N e.1 e.2 ≤ zr_N (px - x) (py - y) by omega), if_pos (show ¬ zr_N (px - x) (py - y) = zr_N e.1 e.2 by omega), if_neg (show ¬ ¬ (0 : Int) = 0 by omega), if_pos (show (0 : Int) = 0 by omega)]
theorem zn_cell_gf {c : Int × Int × Int × Int} {x y : Int} {b : Option (Int × Int)} : ∃ f' g' h' : Int64, zn_cell c x y f g b = (.inr (0, [.long (Int64.ofInt c.1), .long (Int64.ofInt c.2.1), .long (Int64.ofInt c.2.2.1), .long (Int64.ofInt c.2.2.2), .long f', .long g', .long h'])) := by
  cases b with
  | none => exact ⟨_, _, _, rfl⟩
  | some e => exact ⟨_, _, _, rfl⟩
/-- the bound of all points of a box -/
def zn_ok (c : Int × Int × Int × Int) (x y a b w : Int) : Prop := ∀ k l : Int, (a ≤ k ∧ k < a + w) → (b ≤ l ∧ l < b + w) → (zn_e c x y k l).1.natAbs ≤ 12000000 ∧ (zn_e c x y k l).2.natAbs ≤ 12000000
theorem zn_I_bd {c : Int × Int × Int × Int} {x y a b w i j : Int} {o : Option (Int × Int)} (hk : zn_ok c x y a b w) (hI : zn_I (zn_C c x y a b w i j) o) : ∀ e, o = some e → e.1.natAbs ≤ 12000000 ∧ e.2.natAbs ≤ 12000000 := by
  intro e he
  rcases hI with ⟨h, -⟩ | ⟨e', h, h1, -⟩
  · rw [h] at he; cases he
  · rw [h] at he
    obtain rfl := Option.some.inj he
    obtain ⟨k, l, q1, q2, q3, q4⟩ := h1
    rw [q4]
    exact hk k l q1 q2
theorem l_seekj {c : Int × Int × Int × Int} {x y a b i : Int} {t : Int64} (l4 : 4 < w.length) (hx : -2000 ≤ x ∧ x ≤ 2000) (hy : -2000 ≤ y ∧ y ≤ 2000) (ha : a.natAbs ≤ 10000000000) (hb : b.natAbs ≤ 10000000000) (hk : zn_ok c x y a b 4) (hi : a ≤ i ∧ i < a + 4) (n : Nat) : ∀ (j : Int) (o : Option (Int × Int)), (b + 4 - j).toNat = n → b ≤ j → j ≤ b + 4 → zn_I (zn_C c x y a b 4 i j) o → ∃ o', rz_G X (d + 1) mz_X0_seek 85 [some (.ref 4), some (.long (Int64.ofInt x)), none, some (.long (Int64.ofInt y)), none, some (.long t), none, some (.long (Int64.ofInt (a + 1))), none, some (.long (Int64.ofInt (b + 1))), none, some (.long (Int64.ofInt i)), none, some (.long (Int64.ofInt j)), none] [] (w.set 4 (zn_cell c x y f g o)) nc ns = rz_G X (d + 1) mz_X0_seek 142 [some (.ref 4), some (.long (Int64.ofInt x)), none, some (.long (Int64.ofInt y)), none, some (.long t), none, some (.long (Int64.ofInt (a + 1))), none, some (.long (Int64.ofInt (b + 1))), none, some (.long (Int64.ofInt i)), none, some (.long (Int64.ofInt (b + 4))), none] [] (w.set 4 (zn_cell c x y f g o')) nc ns ∧ zn_I (zn_C c x y a b 4 i (b + 4)) o' := by
  induction n with
  | zero =>
    intro j o hj h1 h2 hI
    obtain rfl : j = b + 4 := by omega
    refine ⟨o, ?_, hI⟩
    rw [q_X0_seek_85]
    simp (disch := first | exact nl_i | exact nl_r | exact nl_0 | exact nl_n | exact nl_x | exact kd_r | exact kd_n | exact kd_x | exact kd_o | exact cats0 | exact cats1 | exact cats2 | exact cats3 | exact cats4 | exact nr_i | exact nr_l | exact nr_z0 | exact nr_z1 | exact ft_i | exact ft_l | omega | rfl | assumption | (refine i_ne0 ?_ ?_ ?_ <;> omega) | (refine j_ne0 ?_ ?_ ?_ <;> omega) | (refine i_new ?_ ?_ <;> omega) | (refine bl_t ?_; with_unfolding_all rfl) | exact ft_z0 | exact ft_z1) only [q_X0_seek_87, q_X0_seek_89, q_X0_seek_92, q_X0_seek_93, q_X0_seek_94, i_add, i_sub, i_mul, i_neg, i_lt, i_le, i_eq, i_tm, i_div, i_j, j_i, j_add, j_sub, j_mul, j_neg, j_lt, j_le, j_eq, j_div, c_lt, c_le, c_gt, c_ge, c_eq, i_nat, rz_k, Nat.add_zero, Nat.zero_add, Nat.add_assoc, Nat.reduceAdd, if_true, if_false, if_pos (show b + 1 + 2 < b + 4 by omega)]
  | succ n ih =>
    intro j o hj h1 h2 hI
    have hbd := hk i j hi (by omega)
    obtain ⟨o', e, hI'⟩ := ih (j + 1) (zn_up (zn_e c x y i j) o) (by omega) (by omega) (by omega) (zn_step hI (zn_C_step hi (by omega)))
    refine ⟨o', ?_, hI'⟩
    have kc := x_cmp (X := X) (d := d) (w := w) (f := f) (g := g) (c := c) (x := x) (y := y) (px := i * c.1 + j * c.2.2.1) (py := i * c.2.1 + j * c.2.2.2) (b := o) l4 hx hy hbd (zn_I_bd hk hI)
    obtain ⟨f', g', h', hcell⟩ := zn_cell_gf (c := c) (x := x) (y := y) (f := f) (g := g) (b := o)
    rw [← e, q_X0_seek_85]
    rw [hcell] at kc ⊢
    simp (disch := first | exact nl_i | exact nl_r | exact nl_0 | exact nl_n | exact nl_x | exact kd_r | exact kd_n | exact kd_x | exact kd_o | exact cats0 | exact cats1 | exact cats2 | exact cats3 | exact cats4 | exact nr_i | exact nr_l | exact nr_z0 | exact nr_z1 | exact ft_i | exact ft_l | omega | rfl | assumption | (refine i_ne0 ?_ ?_ ?_ <;> omega) | (refine j_ne0 ?_ ?_ ?_ <;> omega) | (refine i_new ?_ ?_ <;> omega) | (refine bl_t ?_; with_unfolding_all rfl) | exact ft_z0 | exact ft_z1) only [q_X0_seek_87, q_X0_seek_89, q_X0_seek_92, q_X0_seek_93, q_X0_seek_94, q_X0_seek_97, q_X0_seek_98, q_X0_seek_99, q_X0_seek_100, q_X0_seek_102, q_X0_seek_103, q_X0_seek_106, q_X0_seek_107, q_X0_seek_109, q_X0_seek_110, q_X0_seek_113, q_X0_seek_114, q_X0_seek_115, q_X0_seek_117, q_X0_seek_118, q_X0_seek_121, q_X0_seek_122, q_X0_seek_124, q_X0_seek_125, q_X0_seek_128, q_X0_seek_129, q_X0_seek_130, q_X0_seek_133, q_X0_seek_135, q_X0_seek_136, q_X0_seek_137, q_X0_seek_139, i_add, i_sub, i_mul, i_neg, i_lt, i_le, i_eq, i_tm, i_div, i_j, j_i, j_add, j_sub, j_mul, j_neg, j_lt, j_le, j_eq, j_div, c_lt, c_le, c_gt, c_ge, c_eq, i_nat, rz_k, Nat.add_zero, Nat.zero_add, Nat.add_assoc, Nat.reduceAdd, if_true, if_false, if_neg (show ¬ b + 1 + 2 < j by omega), gf_self, vk_self, List.getElem?_cons_zero, List.getElem?_cons_succ, kc]
    rfl
theorem l_seeki {c : Int × Int × Int × Int} {x y a b : Int} {t : Int64} (l4 : 4 < w.length) (hx : -2000 ≤ x ∧ x ≤ 2000) (hy : -2000 ≤ y ∧ y ≤ 2000) (ha : a.natAbs ≤ 10000000000) (hb : b.natAbs ≤ 10000000000) (hk : zn_ok c x y a b 4) (n : Nat) : ∀ (i : Int) (o : Option (Int × Int)) (l13 l14 : Option Value), (a + 4 - i).toNat = n → a ≤ i → i ≤ a + 4 → zn_I (zn_C c x y a b 4 i b) o → ∃ o', rz_G X (d + 1) mz_X0_seek 67 [some (.ref 4), some (.long (Int64.ofInt x)), none, some (.long (Int64.ofInt y)), none, some (.long t), none, some (.long (Int64.ofInt (a + 1))), none, some (.long (Int64.ofInt (b + 1))), none, some (.long (Int64.ofInt i)), none, l13, l14] [] (w.set 4 (zn_cell c x y f g o)) nc ns = some (.inl none, w.set 4 (zn_cell c x y f g o'), nc, ns) ∧ zn_I (zn_C c x y a b 4 (a + 4) b) o' := by
  induction n with
  | zero =>
    intro i o l13 l14 hi h1 h2 hI
    obtain rfl : i = a + 4 := by omega
    refine ⟨o, ?_, hI⟩
    rw [q_X0_seek_67]
    simp (disch := first | exact nl_i | exact nl_r | exact nl_0 | exact nl_n | exact nl_x | exact kd_r | exact kd_n | exact kd_x | exact kd_o | exact cats0 | exact cats1 | exact cats2 | exact cats3 | exact cats4 | exact nr_i | exact nr_l | exact nr_z0 | exact nr_z1 | exact ft_i | exact ft_l | omega | rfl | assumption | (refine i_ne0 ?_ ?_ ?_ <;> omega) | (refine j_ne0 ?_ ?_ ?_ <;> omega) | (refine i_new ?_ ?_ <;> omega) | (refine bl_t ?_; with_unfolding_all rfl) | exact ft_z0 | exact ft_z1) only [q_X0_seek_69, q_X0_seek_71, q_X0_seek_74, q_X0_seek_75, q_X0_seek_76, q_X0_seek_151, i_add, i_sub, i_mul, i_neg, i_lt, i_le, i_eq, i_tm, i_div, i_j, j_i, j_add, j_sub, j_mul, j_neg, j_lt, j_le, j_eq, j_div, c_lt, c_le, c_gt, c_ge, c_eq, i_nat, rz_k, Nat.add_zero, Nat.zero_add, Nat.add_assoc, Nat.reduceAdd, if_true, if_false, if_pos (show a + 1 + 2 < a + 4 by omega)]
  | succ n ih =>
    intro i o l13 l14 hi h1 h2 hI
    obtain ⟨o1, e1, I1⟩ := l_seekj (X := X) (d := d) (nc := nc) (ns := ns) (f := f) (g := g) (t := t) l4 hx hy ha hb hk (show a ≤ i ∧ i < a + 4 by omega) 4 b o (by omega) (by omega) (by omega) hI
    obtain ⟨o2, e2, I2⟩ := ih (i + 1) o1 (some (.long (Int64.ofInt (b + 4)))) none (by omega) (by omega) (by omega) (zn_iff I1 zn_C_row)
    refine ⟨o2, ?_, I2⟩
    rw [← e2, q_X0_seek_67]
    simp (disch := first | exact nl_i | exact nl_r | exact nl_0 | exact nl_n | exact nl_x | exact kd_r | exact kd_n | exact kd_x | exact kd_o | exact cats0 | exact cats1 | exact cats2 | exact cats3 | exact cats4 | exact nr_i | exact nr_l | exact nr_z0 | exact nr_z1 | exact ft_i | exact ft_l | omega | rfl | assumption | (refine i_ne0 ?_ ?_ ?_ <;> omega) | (refine j_ne0 ?_ ?_ ?_ <;> omega) | (refine i_new ?_ ?_ <;> omega) | (refine bl_t ?_; with_unfolding_all rfl) | exact ft_z0 | exact ft_z1) only [q_X0_seek_69, q_X0_seek_71, q_X0_seek_74, q_X0_seek_75, q_X0_seek_76, q_X0_seek_79, q_X0_seek_81, q_X0_seek_82, q_X0_seek_83, i_add, i_sub, i_mul, i_neg, i_lt, i_le, i_eq, i_tm, i_div, i_j, j_i, j_add, j_sub, j_mul, j_neg, j_lt, j_le, j_eq, j_div, c_lt, c_le, c_gt, c_ge, c_eq, i_nat, rz_k, Nat.add_zero, Nat.zero_add, Nat.add_assoc, Nat.reduceAdd, if_true, if_false, if_neg (show ¬ a + 1 + 2 < i by omega), show b + 1 - 1 = b by omega]
    refine Eq.trans e1 ?_
    simp (disch := first | exact nl_i | exact nl_r | exact nl_0 | exact nl_n | exact nl_x | exact kd_r | exact kd_n | exact kd_x | exact kd_o | exact cats0 | exact cats1 | exact cats2 | exact cats3 | exact cats4 | exact nr_i | exact nr_l | exact nr_z0 | exact nr_z1 | exact ft_i | exact ft_l | omega | rfl | assumption | (refine i_ne0 ?_ ?_ ?_ <;> omega) | (refine j_ne0 ?_ ?_ ?_ <;> omega) | (refine i_new ?_ ?_ <;> omega) | (refine bl_t ?_; with_unfolding_all rfl) | exact ft_z0 | exact ft_z1) only [q_X0_seek_142, q_X0_seek_144, q_X0_seek_145, q_X0_seek_146, q_X0_seek_148, i_add, i_sub, i_mul, i_neg, i_lt, i_le, i_eq, i_tm, i_div, i_j, j_i, j_add, j_sub, j_mul, j_neg, j_lt, j_le, j_eq, j_div, c_lt, c_le, c_gt, c_ge, c_eq, i_nat, rz_k, Nat.add_zero, Nat.zero_add, Nat.add_assoc, Nat.reduceAdd, if_true, if_false]
theorem x_seek {c : Int × Int × Int × Int} {x y A : Int} (l4 : 4 < w.length) (hx : -2000 ≤ x ∧ x ≤ 2000) (hy : -2000 ≤ y ∧ y ≤ 2000) (hd : zn_d c = A) (hA : 0 < A ∧ A ≤ 1000000) (hc : c.1.natAbs ≤ 1500000 ∧ c.2.1.natAbs ≤ 1500000 ∧ c.2.2.1.natAbs ≤ 1500000 ∧ c.2.2.2.natAbs ≤ 1500000) : ∃ e, rz_ex X (d + 2) 5 [.ref 4, .long (Int64.ofInt x), .long (Int64.ofInt y)] (w.set 4 (.inr (0, [.long (Int64.ofInt c.1), .long (Int64.ofInt c.2.1), .long (Int64.ofInt c.2.2.1), .long (Int64.ofInt c.2.2.2), .long f, .long g, .long h]))) = some (.inl none, w.set 4 (zn_cell c x y f g (some e)), 0, 0) ∧ zn_C c x y ((x * c.2.2.2 - y * c.2.2.1) / A - 1) ((c.1 * y - c.2.1 * x) / A - 1) 4 ((x * c.2.2.2 - y * c.2.2.1) / A - 1 + 4) ((c.1 * y - c.2.1 * x) / A - 1) e ∧ (∀ s, zn_C c x y ((x * c.2.2.2 - y * c.2.2.1) / A - 1) ((c.1 * y - c.2.1 * x) / A - 1) 4 ((x * c.2.2.2 - y * c.2.2.1) / A - 1 + 4) ((c.1 * y - c.2.1 * x) / A - 1) s → ¬ zt_lt s e) ∧ e.1.natAbs ≤ 12000000 ∧ e.2.natAbs ≤ 12000000 := by
  have n1 := z_nmul (a := x) (b := c.2.2.2) (M := 2000) (by omega) hc.2.2.2
  have n2 := z_nmul (a := y) (b := c.2.2.1) (M := 2000) (by omega) hc.2.2.1
  have n3 := z_nmul (a := c.1) (b := y) (N := 2000) hc.1 (by omega)
  have n4 := z_nmul (a := c.2.1) (b := x) (N := 2000) hc.2.1 (by omega)
  have dv : ∀ {z : Int} {M : Nat}, z.natAbs ≤ M → (z / A).natAbs ≤ M := by
    intro z M hz
    have h1 := Int.mul_ediv_add_emod z A
    have h2 := Int.emod_nonneg z (show A ≠ 0 by omega)
    have h3 := Int.emod_lt_of_pos z hA.1
    rcases Int.lt_or_le z 0 with h | h
    · have h4 : z / A < 0 := Int.ediv_neg_of_neg_of_pos h hA.1
      have h5 : z ≤ z / A := by
        refine Int.le_ediv_of_mul_le hA.1 ?_
        have := Int.mul_nonneg (show 0 ≤ -z by omega) (show 0 ≤ A - 1 by omega)
        rw [Int.mul_sub, Int.mul_one, Int.neg_mul] at this
        omega
      omega
    · have h4 := Int.ediv_nonneg h (show 0 ≤ A by omega)
      have h5 := Int.ediv_le_self A h
      omega
  have kI := x_fdivJ (X := X) (d := d) (w := w.set 4 (.inr (0, [.long (Int64.ofInt c.1), .long (Int64.ofInt c.2.1), .long (Int64.ofInt c.2.2.1), .long (Int64.ofInt c.2.2.2), .long f, .long g, .long h]))) (a := x * c.2.2.2 - y * c.2.2.1) (b := A) (by omega) (by omega) (by omega) (by omega)
  have kJ := x_fdivJ (X := X) (d := d) (w := w.set 4 (.inr (0, [.long (Int64.ofInt c.1), .long (Int64.ofInt c.2.1), .long (Int64.ofInt c.2.2.1), .long (Int64.ofInt c.2.2.2), .long f, .long g, .long h]))) (a := c.1 * y - c.2.1 * x) (b := A) (by omega) (by omega) (by omega) (by omega)
  have kt : rz_ex X (d + 1) 4 [.ref 4] (w.set 4 (.inr (0, [.long (Int64.ofInt c.1), .long (Int64.ofInt c.2.1), .long (Int64.ofInt c.2.2.1), .long (Int64.ofInt c.2.2.2), .long f, .long g, .long h]))) = some (.inl (some (.long (Int64.ofInt A))), w.set 4 (.inr (0, [.long (Int64.ofInt c.1), .long (Int64.ofInt c.2.1), .long (Int64.ofInt c.2.2.1), .long (Int64.ofInt c.2.2.2), .long f, .long g, .long h])), 0, 0) := by
    have := x_bturn (X := X) (d := d) (w := w) (f := f) (g := g) (h := h) (x := c.1) (y := c.2.1) (u := c.2.2.1) (v := c.2.2.2) l4
    rw [show c.1 * c.2.2.2 - c.2.1 * c.2.2.1 = A from hd] at this
    exact this
  have d1 := dv (z := x * c.2.2.2 - y * c.2.2.1) (M := 6000000000) (by omega)
  have d2 := dv (z := c.1 * y - c.2.1 * x) (M := 6000000000) (by omega)
  have hk : zn_ok c x y ((x * c.2.2.2 - y * c.2.2.1) / A - 1) ((c.1 * y - c.2.1 * x) / A - 1) 4 := by
    intro k l h1 h2
    have s1 := zn_s_e c x y k l
    have t1 := zn_t_e c x y k l
    rw [hd] at s1 t1
    have b1 := (zn_floor (n := x * c.2.2.2 - y * c.2.2.1) (A := A) (i := k) (m := 1) hA.1 (by omega)).2 (by omega) (by omega)
    have b2 := (zn_floor (n := c.1 * y - c.2.1 * x) (A := A) (i := l) (m := 1) hA.1 (by omega)).2 (by omega) (by omega)
    exact zn_bd (A := A) (m := 2) (.inl hd) hA.1 (by omega) hc (by omega) (by omega)
  generalize (x * c.2.2.2 - y * c.2.2.1) / A = qa at *
  generalize (c.1 * y - c.2.1 * x) / A = qb at *
  obtain ⟨o, e1, hI⟩ := l_seeki (X := X) (d := d) (nc := 0) (ns := 0) (f := f) (g := g) (t := Int64.ofInt A) l4 hx hy (show (qa - 1).natAbs ≤ 10000000000 by omega) (show (qb - 1).natAbs ≤ 10000000000 by omega) hk 4 (qa - 1) none none none (by omega) (by omega) (by omega) (.inl ⟨rfl, by
    rintro s ⟨k, l, h1, h2, h3, h4⟩
    omega⟩)
  have hib := zn_I_bd hk hI
  rcases hI with ⟨rfl, h0⟩ | ⟨e, rfl, h1, h2⟩
  · exact absurd ⟨qa - 1, qb - 1, by omega, by omega, by omega, rfl⟩ (h0 (zn_e c x y (qa - 1) (qb - 1)))
  · refine ⟨e, ?_, h1, h2, hib e rfl⟩
    rw [Int.sub_add_cancel, Int.sub_add_cancel] at e1
    rw [← e1]
    unfold zn_cell
    dsimp only
    simp (disch := first | exact nl_i | exact nl_r | exact nl_0 | exact nl_n | exact nl_x | exact kd_r | exact kd_n | exact kd_x | exact kd_o | exact cats0 | exact cats1 | exact cats2 | exact cats3 | exact cats4 | exact nr_i | exact nr_l | exact nr_z0 | exact nr_z1 | exact ft_i | exact ft_l | omega | rfl | assumption | (refine i_ne0 ?_ ?_ ?_ <;> omega) | (refine j_ne0 ?_ ?_ ?_ <;> omega) | (refine i_new ?_ ?_ <;> omega) | (refine bl_t ?_; with_unfolding_all rfl) | exact ft_z0 | exact ft_z1) only [n_X0_seek, q_X0_seek_0, q_X0_seek_1, q_X0_seek_4, q_X0_seek_6, q_X0_seek_8, q_X0_seek_9, q_X0_seek_10, q_X0_seek_13, q_X0_seek_14, q_X0_seek_15, q_X0_seek_16, q_X0_seek_19, q_X0_seek_20, q_X0_seek_21, q_X0_seek_22, q_X0_seek_25, q_X0_seek_26, q_X0_seek_27, q_X0_seek_29, q_X0_seek_32, q_X0_seek_34, q_X0_seek_35, q_X0_seek_38, q_X0_seek_39, q_X0_seek_40, q_X0_seek_41, q_X0_seek_44, q_X0_seek_45, q_X0_seek_46, q_X0_seek_47, q_X0_seek_49, q_X0_seek_52, q_X0_seek_54, q_X0_seek_55, q_X0_seek_58, q_X0_seek_61, q_X0_seek_63, q_X0_seek_64, q_X0_seek_65, i_add, i_sub, i_mul, i_neg, i_lt, i_le, i_eq, i_tm, i_div, i_j, j_i, j_add, j_sub, j_mul, j_neg, j_lt, j_le, j_eq, j_div, c_lt, c_le, c_gt, c_ge, c_eq, i_nat, rz_k, Nat.add_zero, Nat.zero_add, Nat.add_assoc, Nat.reduceAdd, if_true, if_false, vk_self, gf_self, pf_self, List.getElem?_cons_zero, List.getElem?_cons_succ, List.set_cons_zero, List.set_cons_succ, kt, if_pos (show 1 ≤ A by omega), kI, kJ]
end RZNY
