/-! part 53: level 2: nth, the reference's, and both -/
section RZNU
variable {X : rz_X} {d : Nat} {w : rz_W} {nc ns : Nat} {kp tl kd ty cl th k2 : Int}
theorem l_nth {n : Nat} {s : Int} {v3 : Option Value} (hm0 : v_model w kp tl kd ty cl th) (hn1 : 1 ≤ n) (hn2 : n ≤ 200) (hv3 : rz_nl v3 = true) : ∀ (f a l : Nat) (l6 l7 : Option Value), 1 ≤ a → a + f = n + 1 → l ≤ 2147483647 → (zf_rk n f a l = none → rz_G X (d + 1) mz_X11_nth 36 [some (.ref 32), some (.int (Int32.ofInt s)), some (.int (Int32.ofInt n)), v3, some (.int (Int32.ofInt l)), some (.int (Int32.ofInt a)), l6, l7] [] w nc ns = some (.inl (some (.int (Int32.ofInt 0))), w.set 32 (rz_mo kp tl kd ty cl 3), nc, ns)) ∧ (∀ t w', zf_rk n f a l = some t → rz_ex X (d + 1) 180 [.ref 32, .int (Int32.ofInt s), .long (Int64.ofInt t.1), .long (Int64.ofInt t.2.1), .long (Int64.ofInt t.2.2)] w = some (.inl (some (.int (Int32.ofInt n))), w', 0, 0) → v_model w' k2 tl kd ty cl th → rz_G X (d + 1) mz_X11_nth 36 [some (.ref 32), some (.int (Int32.ofInt s)), some (.int (Int32.ofInt n)), v3, some (.int (Int32.ofInt l)), some (.int (Int32.ofInt a)), l6, l7] [] w nc ns = some (.inl (some (.int (Int32.ofInt t.1))), w'.set 32 (rz_mo k2 tl kd ty cl 0), nc, ns)) := by
  have n3 := x_no0 (X := X) (d := d) (k := 3) hm0
  intro f
  induction f with
  | zero =>
    intro a l l6 l7 h1 h2 h3
    refine ⟨fun _ => ?_, fun t w' h => by cases h⟩
    rw [q_X11_nth_36]
    simp (disch := first | exact nl_i | exact nl_r | exact nl_0 | exact nl_n | exact nl_x | exact kd_r | exact kd_n | exact kd_x | exact kd_o | exact cats0 | exact cats1 | exact cats2 | exact cats3 | exact cats4 | exact nr_i | exact nr_l | exact nr_z0 | exact nr_z1 | exact ft_i | exact ft_l | omega | rfl | assumption | (refine i_ne0 ?_ ?_ ?_ <;> omega) | (refine j_ne0 ?_ ?_ ?_ <;> omega) | (refine i_new ?_ ?_ <;> omega) | (refine bl_t ?_; with_unfolding_all rfl) | exact ft_z0 | exact ft_z1) only [n_X11_nth, q_X11_nth_0, q_X11_nth_1, q_X11_nth_2, q_X11_nth_5, q_X11_nth_6, q_X11_nth_9, q_X11_nth_12, q_X11_nth_13, q_X11_nth_14, q_X11_nth_15, q_X11_nth_18, q_X11_nth_21, q_X11_nth_22, q_X11_nth_25, q_X11_nth_28, q_X11_nth_29, q_X11_nth_30, q_X11_nth_31, q_X11_nth_33, q_X11_nth_34, q_X11_nth_38, q_X11_nth_39, q_X11_nth_42, q_X11_nth_44, q_X11_nth_47, q_X11_nth_48, q_X11_nth_50, q_X11_nth_51, q_X11_nth_54, q_X11_nth_55, q_X11_nth_57, q_X11_nth_58, q_X11_nth_60, q_X11_nth_62, q_X11_nth_64, q_X11_nth_67, q_X11_nth_68, q_X11_nth_69, q_X11_nth_71, q_X11_nth_72, q_X11_nth_74, q_X11_nth_75, q_X11_nth_77, q_X11_nth_78, q_X11_nth_81, q_X11_nth_83, q_X11_nth_84, q_X11_nth_85, q_X11_nth_88, q_X11_nth_90, q_X11_nth_93, q_X11_nth_95, q_X11_nth_98, q_X11_nth_99, q_X11_nth_100, q_X11_nth_102, q_X11_nth_104, q_X11_nth_105, q_X11_nth_107, q_X11_nth_110, q_X11_nth_113, q_X11_nth_114, q_X11_nth_115, q_X11_nth_116, q_X11_nth_119, q_X11_nth_122, q_X11_nth_123, q_X11_nth_126, q_X11_nth_127, i_add, i_sub, i_mul, i_neg, i_lt, i_le, i_eq, i_tm, i_div, i_j, j_i, j_add, j_sub, j_mul, j_neg, j_lt, j_le, j_eq, j_div, c_lt, c_le, c_gt, c_ge, c_eq, i_nat, rz_k, Nat.add_zero, Nat.zero_add, Nat.add_assoc, Nat.reduceAdd, if_true, if_false, n3, vk_eq hm0, Int.reduceEq]
    rw [if_pos (by omega)]
  | succ f ih =>
    intro a l l6 l7 h1 h2 h3
    have hma : n % a < a := Nat.mod_lt _ (by omega)
    have hda : n / a ≤ n := Nat.div_le_self _ _
    have t1 : (n : Int).tdiv (a : Int) = ((n / a : Nat) : Int) := z_tdn n a
    have t2 : (n : Int) - ((n / a : Nat) : Int) * (a : Int) = ((n % a : Nat) : Int) := z_dm2
    unfold zf_rk
    generalize hq : n / a = q at hda t1 t2 ⊢
    generalize hmq : n % a = m at hma t2 ⊢
    by_cases hm : m = 0
    · rw [if_pos hm]
      by_cases hl : l < q
      · rw [if_pos hl]
        refine ⟨(fun h => by cases h), ?_⟩
        intro t w' ht he hm'
        obtain rfl := Option.some.inj ht
        dsimp only at he ⊢
        have e9 : rz_pf w' 32 11 18 .int (.int (Int32.ofInt 0)) = fun K => K (w'.set 32 (rz_mo k2 tl kd ty cl 0)) := funext fun K => pf_eq hm' rfl rfl rfl
        rw [q_X11_nth_36]
        simp (disch := first | exact nl_i | exact nl_r | exact nl_0 | exact nl_n | exact nl_x | exact kd_r | exact kd_n | exact kd_x | exact kd_o | exact cats0 | exact cats1 | exact cats2 | exact cats3 | exact cats4 | exact nr_i | exact nr_l | exact nr_z0 | exact nr_z1 | exact ft_i | exact ft_l | omega | rfl | assumption | (refine i_ne0 ?_ ?_ ?_ <;> omega) | (refine j_ne0 ?_ ?_ ?_ <;> omega) | (refine i_new ?_ ?_ <;> omega) | (refine bl_t ?_; with_unfolding_all rfl) | exact ft_z0 | exact ft_z1) only [n_X11_nth, q_X11_nth_0, q_X11_nth_1, q_X11_nth_2, q_X11_nth_5, q_X11_nth_6, q_X11_nth_9, q_X11_nth_12, q_X11_nth_13, q_X11_nth_14, q_X11_nth_15, q_X11_nth_18, q_X11_nth_21, q_X11_nth_22, q_X11_nth_25, q_X11_nth_28, q_X11_nth_29, q_X11_nth_30, q_X11_nth_31, q_X11_nth_33, q_X11_nth_34, q_X11_nth_38, q_X11_nth_39, q_X11_nth_42, q_X11_nth_44, q_X11_nth_47, q_X11_nth_48, q_X11_nth_50, q_X11_nth_51, q_X11_nth_54, q_X11_nth_55, q_X11_nth_57, q_X11_nth_58, q_X11_nth_60, q_X11_nth_62, q_X11_nth_64, q_X11_nth_67, q_X11_nth_68, q_X11_nth_69, q_X11_nth_71, q_X11_nth_72, q_X11_nth_74, q_X11_nth_75, q_X11_nth_77, q_X11_nth_78, q_X11_nth_81, q_X11_nth_83, q_X11_nth_84, q_X11_nth_85, q_X11_nth_88, q_X11_nth_90, q_X11_nth_93, q_X11_nth_95, q_X11_nth_98, q_X11_nth_99, q_X11_nth_100, q_X11_nth_102, q_X11_nth_104, q_X11_nth_105, q_X11_nth_107, q_X11_nth_110, q_X11_nth_113, q_X11_nth_114, q_X11_nth_115, q_X11_nth_116, q_X11_nth_119, q_X11_nth_122, q_X11_nth_123, q_X11_nth_126, q_X11_nth_127, i_add, i_sub, i_mul, i_neg, i_lt, i_le, i_eq, i_tm, i_div, i_j, j_i, j_add, j_sub, j_mul, j_neg, j_lt, j_le, j_eq, j_div, c_lt, c_le, c_gt, c_ge, c_eq, i_nat, rz_k, Nat.add_zero, Nat.zero_add, Nat.add_assoc, Nat.reduceAdd, if_true, if_false, t1, t2, he, vk_eq hm0, e9, i_j]
        rw [if_neg (by omega), if_neg (by omega), if_neg (by omega), if_neg (by omega), if_neg (by omega)]
      · rw [if_neg hl]
        obtain ⟨i1, i2⟩ := ih (a + 1) (l - q) (some (.int (Int32.ofInt (q : Int)))) l7 (by omega) (by omega) (by omega)
        have e0 : rz_G X (d + 1) mz_X11_nth 36 [some (.ref 32), some (.int (Int32.ofInt s)), some (.int (Int32.ofInt n)), v3, some (.int (Int32.ofInt l)), some (.int (Int32.ofInt a)), l6, l7] [] w nc ns = rz_G X (d + 1) mz_X11_nth 36 [some (.ref 32), some (.int (Int32.ofInt s)), some (.int (Int32.ofInt n)), v3, some (.int (Int32.ofInt (l - q : Nat))), some (.int (Int32.ofInt (a + 1 : Nat))), some (.int (Int32.ofInt (q : Int))), l7] [] w nc ns := by
          rw [q_X11_nth_36]
          simp (disch := first | exact nl_i | exact nl_r | exact nl_0 | exact nl_n | exact nl_x | exact kd_r | exact kd_n | exact kd_x | exact kd_o | exact cats0 | exact cats1 | exact cats2 | exact cats3 | exact cats4 | exact nr_i | exact nr_l | exact nr_z0 | exact nr_z1 | exact ft_i | exact ft_l | omega | rfl | assumption | (refine i_ne0 ?_ ?_ ?_ <;> omega) | (refine j_ne0 ?_ ?_ ?_ <;> omega) | (refine i_new ?_ ?_ <;> omega) | (refine bl_t ?_; with_unfolding_all rfl) | exact ft_z0 | exact ft_z1) only [n_X11_nth, q_X11_nth_0, q_X11_nth_1, q_X11_nth_2, q_X11_nth_5, q_X11_nth_6, q_X11_nth_9, q_X11_nth_12, q_X11_nth_13, q_X11_nth_14, q_X11_nth_15, q_X11_nth_18, q_X11_nth_21, q_X11_nth_22, q_X11_nth_25, q_X11_nth_28, q_X11_nth_29, q_X11_nth_30, q_X11_nth_31, q_X11_nth_33, q_X11_nth_34, q_X11_nth_38, q_X11_nth_39, q_X11_nth_42, q_X11_nth_44, q_X11_nth_47, q_X11_nth_48, q_X11_nth_50, q_X11_nth_51, q_X11_nth_54, q_X11_nth_55, q_X11_nth_57, q_X11_nth_58, q_X11_nth_60, q_X11_nth_62, q_X11_nth_64, q_X11_nth_67, q_X11_nth_68, q_X11_nth_69, q_X11_nth_71, q_X11_nth_72, q_X11_nth_74, q_X11_nth_75, q_X11_nth_77, q_X11_nth_78, q_X11_nth_81, q_X11_nth_83, q_X11_nth_84, q_X11_nth_85, q_X11_nth_88, q_X11_nth_90, q_X11_nth_93, q_X11_nth_95, q_X11_nth_98, q_X11_nth_99, q_X11_nth_100, q_X11_nth_102, q_X11_nth_104, q_X11_nth_105, q_X11_nth_107, q_X11_nth_110, q_X11_nth_113, q_X11_nth_114, q_X11_nth_115, q_X11_nth_116, q_X11_nth_119, q_X11_nth_122, q_X11_nth_123, q_X11_nth_126, q_X11_nth_127, i_add, i_sub, i_mul, i_neg, i_lt, i_le, i_eq, i_tm, i_div, i_j, j_i, j_add, j_sub, j_mul, j_neg, j_lt, j_le, j_eq, j_div, c_lt, c_le, c_gt, c_ge, c_eq, i_nat, rz_k, Nat.add_zero, Nat.zero_add, Nat.add_assoc, Nat.reduceAdd, if_true, if_false, t1, t2]
          rw [if_neg (by omega), if_neg (by omega), if_neg (by omega), if_pos (by omega), show ((l - q : Nat) : Int) = (l : Int) - (q : Int) by omega]
          rfl
        exact ⟨fun h => e0.trans (i1 h), fun t w' h1 h2 h3 => e0.trans (i2 t w' h1 h2 h3)⟩
    · rw [if_neg hm]
      obtain ⟨i1, i2⟩ := ih (a + 1) l l6 l7 (by omega) (by omega) h3
      have e0 : rz_G X (d + 1) mz_X11_nth 36 [some (.ref 32), some (.int (Int32.ofInt s)), some (.int (Int32.ofInt n)), v3, some (.int (Int32.ofInt l)), some (.int (Int32.ofInt a)), l6, l7] [] w nc ns = rz_G X (d + 1) mz_X11_nth 36 [some (.ref 32), some (.int (Int32.ofInt s)), some (.int (Int32.ofInt n)), v3, some (.int (Int32.ofInt l)), some (.int (Int32.ofInt (a + 1 : Nat))), l6, l7] [] w nc ns := by
        rw [q_X11_nth_36]
        simp (disch := first | exact nl_i | exact nl_r | exact nl_0 | exact nl_n | exact nl_x | exact kd_r | exact kd_n | exact kd_x | exact kd_o | exact cats0 | exact cats1 | exact cats2 | exact cats3 | exact cats4 | exact nr_i | exact nr_l | exact nr_z0 | exact nr_z1 | exact ft_i | exact ft_l | omega | rfl | assumption | (refine i_ne0 ?_ ?_ ?_ <;> omega) | (refine j_ne0 ?_ ?_ ?_ <;> omega) | (refine i_new ?_ ?_ <;> omega) | (refine bl_t ?_; with_unfolding_all rfl) | exact ft_z0 | exact ft_z1) only [n_X11_nth, q_X11_nth_0, q_X11_nth_1, q_X11_nth_2, q_X11_nth_5, q_X11_nth_6, q_X11_nth_9, q_X11_nth_12, q_X11_nth_13, q_X11_nth_14, q_X11_nth_15, q_X11_nth_18, q_X11_nth_21, q_X11_nth_22, q_X11_nth_25, q_X11_nth_28, q_X11_nth_29, q_X11_nth_30, q_X11_nth_31, q_X11_nth_33, q_X11_nth_34, q_X11_nth_38, q_X11_nth_39, q_X11_nth_42, q_X11_nth_44, q_X11_nth_47, q_X11_nth_48, q_X11_nth_50, q_X11_nth_51, q_X11_nth_54, q_X11_nth_55, q_X11_nth_57, q_X11_nth_58, q_X11_nth_60, q_X11_nth_62, q_X11_nth_64, q_X11_nth_67, q_X11_nth_68, q_X11_nth_69, q_X11_nth_71, q_X11_nth_72, q_X11_nth_74, q_X11_nth_75, q_X11_nth_77, q_X11_nth_78, q_X11_nth_81, q_X11_nth_83, q_X11_nth_84, q_X11_nth_85, q_X11_nth_88, q_X11_nth_90, q_X11_nth_93, q_X11_nth_95, q_X11_nth_98, q_X11_nth_99, q_X11_nth_100, q_X11_nth_102, q_X11_nth_104, q_X11_nth_105, q_X11_nth_107, q_X11_nth_110, q_X11_nth_113, q_X11_nth_114, q_X11_nth_115, q_X11_nth_116, q_X11_nth_119, q_X11_nth_122, q_X11_nth_123, q_X11_nth_126, q_X11_nth_127, i_add, i_sub, i_mul, i_neg, i_lt, i_le, i_eq, i_tm, i_div, i_j, j_i, j_add, j_sub, j_mul, j_neg, j_lt, j_le, j_eq, j_div, c_lt, c_le, c_gt, c_ge, c_eq, i_nat, rz_k, Nat.add_zero, Nat.zero_add, Nat.add_assoc, Nat.reduceAdd, if_true, if_false, t1, t2]
        rw [if_neg (by omega), if_neg (by omega), if_pos (by omega)]
        rfl
      exact ⟨fun h => e0.trans (i1 h), fun t w' h1 h2 h3 => e0.trans (i2 t w' h1 h2 h3)⟩
theorem fr_al {l : rz_W} : rz_fr [] w (w ++ l) := fr_app
theorem ag_nth {s n k : Int} (hs1 : -2147483648 ≤ s ∧ s ≤ 2147483647) (hn1 : -2147483648 ≤ n ∧ n ≤ 2147483647) (hk1 : -2147483648 ≤ k ∧ k ≤ 2147483647) (hv : v_inv w) : rz_ag X d 108 184 false [.int (Int32.ofInt s), .int (Int32.ofInt n), .int (Int32.ofInt k)] ["java/lang/IndexOutOfBoundsException", "java/lang/IllegalArgumentException", "java/util/NoSuchElementException"] w := by
  obtain ⟨kp, tl, kd, ty, cl, th, hy, hm, hs, ht, hp, hq, hmi⟩ := id hv
  have l48 : 48 < w.length := by
    obtain ⟨f, h⟩ := v_inv_out hv
    exact w_lt h
  by_cases ha : 0 ≤ s ∧ s ≤ 7
  case neg =>
    refine ag_thr0 (c1 := 1) (s1 := 6) 0 rfl hv hm ?_ ?_
    · simp (disch := first | exact nl_i | exact nl_r | exact nl_0 | exact nl_n | exact nl_x | exact kd_r | exact kd_n | exact kd_x | exact kd_o | exact cats0 | exact cats1 | exact cats2 | exact cats3 | exact cats4 | exact nr_i | exact nr_l | exact nr_z0 | exact nr_z1 | exact ft_i | exact ft_l | omega | rfl | assumption | (refine i_ne0 ?_ ?_ ?_ <;> omega) | (refine j_ne0 ?_ ?_ ?_ <;> omega) | (refine i_new ?_ ?_ <;> omega)) only [n_X10_nth, q_X10_nth_0, q_X10_nth_1, q_X10_nth_4, q_X10_nth_5, q_X10_nth_6, q_X10_nth_9, q_X10_nth_12, q_X10_nth_13, q_X10_nth_14, q_X10_nth_17, q_X10_nth_19, q_X10_nth_21n, q_X10_nth_21, q_X10_nth_24, q_X10_nth_34, q_X10_nth_35, q_X10_nth_36, q_X10_nth_38, q_X10_nth_41, q_X10_nth_41r, q_X10_nth_42, q_X10_nth_44, q_X10_nth_47, i_add, i_sub, i_mul, i_neg, i_lt, i_le, i_eq, i_tm, i_div, i_j, j_i, j_add, j_sub, j_mul, j_neg, j_lt, j_le, j_eq, j_div, c_lt, c_le, c_gt, c_ge, c_eq, i_nat, rz_k, Nat.add_zero, Nat.zero_add, Nat.add_assoc, Nat.reduceAdd, if_true, if_false, x_slot, if_neg ha]
      rfl
    · rintro wr hm rfl
      refine ⟨Int32.ofInt 0, [], 0, 0, ?_, by omega, by omega⟩
      have y1 := x_no0 (X := X) (d := d + 28) (k := 1) hm
      simp (disch := first | exact nl_i | exact nl_r | exact nl_0 | exact nl_n | exact nl_x | exact kd_r | exact kd_n | exact kd_x | exact kd_o | exact cats0 | exact cats1 | exact cats2 | exact cats3 | exact cats4 | exact nr_i | exact nr_l | exact nr_z0 | exact nr_z1 | exact ft_i | exact ft_l | omega | rfl | assumption | (refine i_ne0 ?_ ?_ ?_ <;> omega) | (refine j_ne0 ?_ ?_ ?_ <;> omega) | (refine i_new ?_ ?_ <;> omega)) only [n_X11_nth, q_X11_nth_0, q_X11_nth_1, q_X11_nth_2, q_X11_nth_5, q_X11_nth_6, q_X11_nth_9, q_X11_nth_12, q_X11_nth_13, q_X11_nth_14, q_X11_nth_15, q_X11_nth_18, q_X11_nth_21, q_X11_nth_22, q_X11_nth_25, q_X11_nth_28, q_X11_nth_29, q_X11_nth_30, q_X11_nth_31, q_X11_nth_33, q_X11_nth_34, q_X11_nth_38, q_X11_nth_39, q_X11_nth_42, q_X11_nth_44, q_X11_nth_47, q_X11_nth_48, q_X11_nth_50, q_X11_nth_51, q_X11_nth_54, q_X11_nth_55, q_X11_nth_57, q_X11_nth_58, q_X11_nth_60, q_X11_nth_62, q_X11_nth_64, q_X11_nth_67, q_X11_nth_68, q_X11_nth_69, q_X11_nth_71, q_X11_nth_72, q_X11_nth_74, q_X11_nth_75, q_X11_nth_77, q_X11_nth_78, q_X11_nth_81, q_X11_nth_83, q_X11_nth_84, q_X11_nth_85, q_X11_nth_88, q_X11_nth_90, q_X11_nth_93, q_X11_nth_95, q_X11_nth_98, q_X11_nth_99, q_X11_nth_100, q_X11_nth_102, q_X11_nth_104, q_X11_nth_105, q_X11_nth_107, q_X11_nth_110, q_X11_nth_113, q_X11_nth_114, q_X11_nth_115, q_X11_nth_116, q_X11_nth_119, q_X11_nth_122, q_X11_nth_123, q_X11_nth_126, q_X11_nth_127, i_add, i_sub, i_mul, i_neg, i_lt, i_le, i_eq, i_tm, i_div, i_j, j_i, j_add, j_sub, j_mul, j_neg, j_lt, j_le, j_eq, j_div, c_lt, c_le, c_gt, c_ge, c_eq, i_nat, rz_k, Nat.add_zero, Nat.zero_add, Nat.add_assoc, Nat.reduceAdd, if_true, if_false, y_isSlot, if_neg ha, y1, vk_eq hm, List.append_nil, Int.reduceEq, not_false_eq_true]
      all_goals rfl
  by_cases hb : 1 ≤ n ∧ n ≤ 200
  case neg =>
    refine ag_thr0 (c1 := 1) (s1 := 6) 1 rfl hv hm ?_ ?_
    · simp (disch := first | exact nl_i | exact nl_r | exact nl_0 | exact nl_n | exact nl_x | exact kd_r | exact kd_n | exact kd_x | exact kd_o | exact cats0 | exact cats1 | exact cats2 | exact cats3 | exact cats4 | exact nr_i | exact nr_l | exact nr_z0 | exact nr_z1 | exact ft_i | exact ft_l | omega | rfl | assumption | (refine i_ne0 ?_ ?_ ?_ <;> omega) | (refine j_ne0 ?_ ?_ ?_ <;> omega) | (refine i_new ?_ ?_ <;> omega)) only [n_X10_nth, q_X10_nth_0, q_X10_nth_1, q_X10_nth_4, q_X10_nth_5, q_X10_nth_6, q_X10_nth_9, q_X10_nth_12, q_X10_nth_13, q_X10_nth_14, q_X10_nth_17, q_X10_nth_19, q_X10_nth_21n, q_X10_nth_21, q_X10_nth_24, q_X10_nth_34, q_X10_nth_35, q_X10_nth_36, q_X10_nth_38, q_X10_nth_41, q_X10_nth_41r, q_X10_nth_42, q_X10_nth_44, q_X10_nth_47, i_add, i_sub, i_mul, i_neg, i_lt, i_le, i_eq, i_tm, i_div, i_j, j_i, j_add, j_sub, j_mul, j_neg, j_lt, j_le, j_eq, j_div, c_lt, c_le, c_gt, c_ge, c_eq, i_nat, rz_k, Nat.add_zero, Nat.zero_add, Nat.add_assoc, Nat.reduceAdd, if_true, if_false, x_slot, if_pos ha, x_range, if_neg hb]
      rfl
    · rintro wr hm rfl
      refine ⟨Int32.ofInt 0, [], 0, 0, ?_, by omega, by omega⟩
      have y1 := x_no1 (X := X) (d := d + 28) (k := 1) hm
      have hm1 := v_mo (t := 0) hm
      have y2 := x_no0 (X := X) (d := d + 28) (k := 2) hm1
      rw [mo_mo] at y2
      simp (disch := first | exact nl_i | exact nl_r | exact nl_0 | exact nl_n | exact nl_x | exact kd_r | exact kd_n | exact kd_x | exact kd_o | exact cats0 | exact cats1 | exact cats2 | exact cats3 | exact cats4 | exact nr_i | exact nr_l | exact nr_z0 | exact nr_z1 | exact ft_i | exact ft_l | omega | rfl | assumption | (refine i_ne0 ?_ ?_ ?_ <;> omega) | (refine j_ne0 ?_ ?_ ?_ <;> omega) | (refine i_new ?_ ?_ <;> omega)) only [n_X11_nth, q_X11_nth_0, q_X11_nth_1, q_X11_nth_2, q_X11_nth_5, q_X11_nth_6, q_X11_nth_9, q_X11_nth_12, q_X11_nth_13, q_X11_nth_14, q_X11_nth_15, q_X11_nth_18, q_X11_nth_21, q_X11_nth_22, q_X11_nth_25, q_X11_nth_28, q_X11_nth_29, q_X11_nth_30, q_X11_nth_31, q_X11_nth_33, q_X11_nth_34, q_X11_nth_38, q_X11_nth_39, q_X11_nth_42, q_X11_nth_44, q_X11_nth_47, q_X11_nth_48, q_X11_nth_50, q_X11_nth_51, q_X11_nth_54, q_X11_nth_55, q_X11_nth_57, q_X11_nth_58, q_X11_nth_60, q_X11_nth_62, q_X11_nth_64, q_X11_nth_67, q_X11_nth_68, q_X11_nth_69, q_X11_nth_71, q_X11_nth_72, q_X11_nth_74, q_X11_nth_75, q_X11_nth_77, q_X11_nth_78, q_X11_nth_81, q_X11_nth_83, q_X11_nth_84, q_X11_nth_85, q_X11_nth_88, q_X11_nth_90, q_X11_nth_93, q_X11_nth_95, q_X11_nth_98, q_X11_nth_99, q_X11_nth_100, q_X11_nth_102, q_X11_nth_104, q_X11_nth_105, q_X11_nth_107, q_X11_nth_110, q_X11_nth_113, q_X11_nth_114, q_X11_nth_115, q_X11_nth_116, q_X11_nth_119, q_X11_nth_122, q_X11_nth_123, q_X11_nth_126, q_X11_nth_127, i_add, i_sub, i_mul, i_neg, i_lt, i_le, i_eq, i_tm, i_div, i_j, j_i, j_add, j_sub, j_mul, j_neg, j_lt, j_le, j_eq, j_div, c_lt, c_le, c_gt, c_ge, c_eq, i_nat, rz_k, Nat.add_zero, Nat.zero_add, Nat.add_assoc, Nat.reduceAdd, if_true, if_false, y_isSlot, if_pos ha, x_in, if_neg hb, y1, y2, vk_eq hm, vk_eq hm1, List.append_nil, Int.reduceEq, not_false_eq_true, not_true_eq_false]
      all_goals rfl
  obtain ⟨m, rfl⟩ := Int.eq_ofNat_of_zero_le (show 0 ≤ n by omega)
  have hrk := x_ranked (X := X) (d := d + 26) (w := w) (n := m) (by omega) (by omega) hk1
  -- the reference up to its loop
  have hpre : ∀ wr, v_model wr kp tl kd ty cl th → rz_ex X (d + 30) 184 [.ref 32, .int (Int32.ofInt s), .int (Int32.ofInt m), .int (Int32.ofInt k)] wr = rz_G X (d + 29) mz_X11_nth 36 [some (.ref 32), some (.int (Int32.ofInt s)), some (.int (Int32.ofInt m)), some (.int (Int32.ofInt k)), some (.int (Int32.ofInt k)), some (.int (Int32.ofInt 1)), none, none] [] (wr.set 32 (rz_mo kp tl kd ty cl 0)) 0 0 := by
    intro wr hm
    have y1 := x_no1 (X := X) (d := d + 28) (k := 1) hm
    have hm1 := v_mo (t := 0) hm
    have y2 := x_no1 (X := X) (d := d + 28) (k := 2) hm1
    rw [mo_mo] at y2
    simp (disch := first | exact nl_i | exact nl_r | exact nl_0 | exact nl_n | exact nl_x | exact kd_r | exact kd_n | exact kd_x | exact kd_o | exact cats0 | exact cats1 | exact cats2 | exact cats3 | exact cats4 | exact nr_i | exact nr_l | exact nr_z0 | exact nr_z1 | exact ft_i | exact ft_l | omega | rfl | assumption | (refine i_ne0 ?_ ?_ ?_ <;> omega) | (refine j_ne0 ?_ ?_ ?_ <;> omega) | (refine i_new ?_ ?_ <;> omega)) only [n_X11_nth, q_X11_nth_0, q_X11_nth_1, q_X11_nth_2, q_X11_nth_5, q_X11_nth_6, q_X11_nth_9, q_X11_nth_12, q_X11_nth_13, q_X11_nth_14, q_X11_nth_15, q_X11_nth_18, q_X11_nth_21, q_X11_nth_22, q_X11_nth_25, q_X11_nth_28, q_X11_nth_30, q_X11_nth_31, q_X11_nth_33, q_X11_nth_34, i_add, i_sub, i_mul, i_neg, i_lt, i_le, i_eq, i_tm, i_div, i_j, j_i, j_add, j_sub, j_mul, j_neg, j_lt, j_le, j_eq, j_div, c_lt, c_le, c_gt, c_ge, c_eq, i_nat, rz_k, Nat.add_zero, Nat.zero_add, Nat.add_assoc, Nat.reduceAdd, if_true, if_false, y_isSlot, if_pos ha, x_in, if_pos hb, y1, y2, vk_eq hm, vk_eq hm1, Int.reduceEq, not_false_eq_true, not_true_eq_false]
  cases hz : (if k < 0 then none else zf_rk m m 1 k.toNat) with
  | none =>
    rw [hz] at hrk
    refine ag_thr0 (c1 := 1) (s1 := 6) 2 rfl hv hm ?_ ?_
    · simp (disch := first | exact nl_i | exact nl_r | exact nl_0 | exact nl_n | exact nl_x | exact kd_r | exact kd_n | exact kd_x | exact kd_o | exact cats0 | exact cats1 | exact cats2 | exact cats3 | exact cats4 | exact nr_i | exact nr_l | exact nr_z0 | exact nr_z1 | exact ft_i | exact ft_l | omega | rfl | assumption | (refine i_ne0 ?_ ?_ ?_ <;> omega) | (refine j_ne0 ?_ ?_ ?_ <;> omega) | (refine i_new ?_ ?_ <;> omega)) only [n_X10_nth, q_X10_nth_0, q_X10_nth_1, q_X10_nth_4, q_X10_nth_5, q_X10_nth_6, q_X10_nth_9, q_X10_nth_12, q_X10_nth_13, q_X10_nth_14, q_X10_nth_17, q_X10_nth_19, q_X10_nth_21n, q_X10_nth_21, q_X10_nth_24, q_X10_nth_34, q_X10_nth_35, q_X10_nth_36, q_X10_nth_38, q_X10_nth_41, q_X10_nth_41r, q_X10_nth_42, q_X10_nth_44, q_X10_nth_47, i_add, i_sub, i_mul, i_neg, i_lt, i_le, i_eq, i_tm, i_div, i_j, j_i, j_add, j_sub, j_mul, j_neg, j_lt, j_le, j_eq, j_div, c_lt, c_le, c_gt, c_ge, c_eq, i_nat, rz_k, Nat.add_zero, Nat.zero_add, Nat.add_assoc, Nat.reduceAdd, if_true, if_false, x_slot, if_pos ha, x_range, if_pos hb, hrk]
    · rintro wr hm rfl
      refine ⟨Int32.ofInt 0, [], 0, 0, ?_, by omega, by omega⟩
      rw [hpre wr hm, List.append_nil]
      have hm1 := v_mo (t := 0) hm
      by_cases h0 : k < 0
      · have n3 := x_no0 (X := X) (d := d + 28) (k := 3) hm1
        rw [mo_mo] at n3
        rw [q_X11_nth_36]
        simp (disch := first | exact nl_i | exact nl_r | exact nl_0 | exact nl_n | exact nl_x | exact kd_r | exact kd_n | exact kd_x | exact kd_o | exact cats0 | exact cats1 | exact cats2 | exact cats3 | exact cats4 | exact nr_i | exact nr_l | exact nr_z0 | exact nr_z1 | exact ft_i | exact ft_l | omega | rfl | assumption | (refine i_ne0 ?_ ?_ ?_ <;> omega) | (refine j_ne0 ?_ ?_ ?_ <;> omega) | (refine i_new ?_ ?_ <;> omega) | (refine bl_t ?_; with_unfolding_all rfl) | exact ft_z0 | exact ft_z1) only [n_X11_nth, q_X11_nth_0, q_X11_nth_1, q_X11_nth_2, q_X11_nth_5, q_X11_nth_6, q_X11_nth_9, q_X11_nth_12, q_X11_nth_13, q_X11_nth_14, q_X11_nth_15, q_X11_nth_18, q_X11_nth_21, q_X11_nth_22, q_X11_nth_25, q_X11_nth_28, q_X11_nth_29, q_X11_nth_30, q_X11_nth_31, q_X11_nth_33, q_X11_nth_34, q_X11_nth_38, q_X11_nth_39, q_X11_nth_42, q_X11_nth_44, q_X11_nth_47, q_X11_nth_48, q_X11_nth_50, q_X11_nth_51, q_X11_nth_54, q_X11_nth_55, q_X11_nth_57, q_X11_nth_58, q_X11_nth_60, q_X11_nth_62, q_X11_nth_64, q_X11_nth_67, q_X11_nth_68, q_X11_nth_69, q_X11_nth_71, q_X11_nth_72, q_X11_nth_74, q_X11_nth_75, q_X11_nth_77, q_X11_nth_78, q_X11_nth_81, q_X11_nth_83, q_X11_nth_84, q_X11_nth_85, q_X11_nth_88, q_X11_nth_90, q_X11_nth_93, q_X11_nth_95, q_X11_nth_98, q_X11_nth_99, q_X11_nth_100, q_X11_nth_102, q_X11_nth_104, q_X11_nth_105, q_X11_nth_107, q_X11_nth_110, q_X11_nth_113, q_X11_nth_114, q_X11_nth_115, q_X11_nth_116, q_X11_nth_119, q_X11_nth_122, q_X11_nth_123, q_X11_nth_126, q_X11_nth_127, i_add, i_sub, i_mul, i_neg, i_lt, i_le, i_eq, i_tm, i_div, i_j, j_i, j_add, j_sub, j_mul, j_neg, j_lt, j_le, j_eq, j_div, c_lt, c_le, c_gt, c_ge, c_eq, i_nat, rz_k, Nat.add_zero, Nat.zero_add, Nat.add_assoc, Nat.reduceAdd, if_true, if_false, n3, vk_eq hm1, Int.reduceEq]
        rw [if_neg (by omega), if_pos (by omega)]
        rfl
      · rw [if_neg h0] at hz
        obtain ⟨q, rfl⟩ := Int.eq_ofNat_of_zero_le (show 0 ≤ k by omega)
        have := (l_nth (X := X) (d := d + 28) (nc := 0) (ns := 0) (n := m) (s := s) (k2 := 0) (v3 := some (.int (Int32.ofInt (q : Int)))) hm1 (by omega) (by omega) rfl m 1 q none none (by omega) (by omega) (by omega)).1 (by rw [Int.toNat_natCast] at hz; exact hz)
        rw [mo_mo] at this
        exact this
  | some t =>
    rw [hz] at hrk
    have h0 : ¬ k < 0 := fun h => by rw [if_pos h] at hz; cases hz
    rw [if_neg h0] at hz
    obtain ⟨q, rfl⟩ := Int.eq_ofNat_of_zero_le (show 0 ≤ k by omega)
    rw [Int.toNat_natCast] at hz
    obtain ⟨z1, z2, z3⟩ := zf_rk_ok (by omega) hz
    have z4 : ((t.1 : Int) * (t.2.2 : Int)) = (m : Int) := by rw [← z3, Int.natCast_mul]
    refine ag_bec (r := Int32.ofInt t.1) (a := t.1) (b := t.2.1) (c := t.2.2) (g := w.length) (w1 := w ++ [.inr (3, [.int (Int32.ofInt t.1), .int (Int32.ofInt t.2.1), .int (Int32.ofInt t.2.2)])]) (c1 := 1) (s1 := 3) ⟨hy, hm, hs, ht, hp, hq, hmi⟩ ha fr_al (by omega) ⟨by omega, by omega, by omega, by omega⟩ (by unfold v_ob; exact w_new) ?_ ?_
    · intro w' he ho
      have hy1 : v_yard (w ++ [.inr (3, [.int (Int32.ofInt t.1), .int (Int32.ofInt t.2.1), .int (Int32.ofInt t.2.2)])]) kp := fr_get (fr_al (w := w)) (by decide) hy
      simp (disch := first | exact nl_i | exact nl_r | exact nl_0 | exact nl_n | exact nl_x | exact kd_r | exact kd_n | exact kd_x | exact kd_o | exact cats0 | exact cats1 | exact cats2 | exact cats3 | exact cats4 | exact nr_i | exact nr_l | exact nr_z0 | exact nr_z1 | exact ft_i | exact ft_l | omega | rfl | assumption | (refine i_ne0 ?_ ?_ ?_ <;> omega) | (refine j_ne0 ?_ ?_ ?_ <;> omega) | (refine i_new ?_ ?_ <;> omega) | (refine bl_t ?_; with_unfolding_all rfl) | exact ft_z0 | exact ft_z1) only [n_X10_nth, q_X10_nth_0, q_X10_nth_1, q_X10_nth_4, q_X10_nth_5, q_X10_nth_6, q_X10_nth_9, q_X10_nth_12, q_X10_nth_13, q_X10_nth_14, q_X10_nth_17, q_X10_nth_19, q_X10_nth_21n, q_X10_nth_21, q_X10_nth_24, q_X10_nth_34, q_X10_nth_35, q_X10_nth_36, q_X10_nth_38, q_X10_nth_41, q_X10_nth_41r, q_X10_nth_42, q_X10_nth_44, q_X10_nth_47, i_add, i_sub, i_mul, i_neg, i_lt, i_le, i_eq, i_tm, i_div, i_j, j_i, j_add, j_sub, j_mul, j_neg, j_lt, j_le, j_eq, j_div, c_lt, c_le, c_gt, c_ge, c_eq, i_nat, rz_k, Nat.add_zero, Nat.zero_add, Nat.add_assoc, Nat.reduceAdd, if_true, if_false, x_slot, if_pos ha, x_range, if_pos hb, hrk, vk_eq hy1, he, gf_eq ho, List.getElem?_cons_zero, List.getElem?_cons_succ]
    · intro wr hf hmr
      have hm1 := v_mo (t := 0) hmr
      refine ⟨wr.set 32 (rz_mo kp tl kd ty cl 0), 0, 0, fr_set (by decide), hm1, by omega, by omega, ?_⟩
      intro w' he hm'
      refine ⟨w'.set 32 (rz_mo (zf_kk kp + 1) tl kd ty cl 0), ?_, fr_set (by decide), v_mo hm'⟩
      rw [z4] at he
      rw [hpre wr hmr]
      exact (l_nth (X := X) (d := d + 28) (nc := 0) (ns := 0) (n := m) (s := s) (v3 := some (.int (Int32.ofInt (q : Int)))) hm1 (by omega) (by omega) rfl m 1 q none none (by omega) (by omega) (by omega)).2 t w' hz he hm'
end RZNU
