/-! part 62: level 2: undo -/
section RZUN
variable {X : rz_X} {d : Nat} {w : rz_W} {nc ns : Nat} {kp tl kd ty cl th : Int}
theorem ag_undo (hv : v_inv w) : rz_ag X d 116 197 false [] ["java/util/NoSuchElementException"] w := by
  obtain ⟨kp, tl, kd, ty, cl, th, hy, hm, hs, ht, hp, hq, hmi⟩ := id hv
  obtain ⟨G, KG, H, KH, KS, KT, A, B, C, KA, KB, KC, ⟨g1, g2, g3, g33, g34, g35, g36, g37, g38, g39, g40, g41⟩, hk, hS, hK⟩ := id hs
  by_cases h0 : 0 < kp
  case neg =>
    refine ag_thr0 (c1 := 1) (s1 := 6) 0 rfl hv hm ?_ ?_
    · simp (disch := first | exact nl_i | exact nl_r | exact nl_0 | exact nl_n | exact nl_x | exact kd_r | exact kd_n | exact kd_x | exact kd_o | exact cats0 | exact cats1 | exact cats2 | exact cats3 | exact cats4 | exact nr_i | exact nr_l | exact nr_z0 | exact nr_z1 | exact ft_i | exact ft_l | omega | rfl | assumption | (refine i_ne0 ?_ ?_ ?_ <;> omega) | (refine j_ne0 ?_ ?_ ?_ <;> omega) | (refine i_new ?_ ?_ <;> omega)) only [n_X10_undo, q_X10_undo_0, q_X10_undo_1, q_X10_undo_4, q_X10_undo_5, q_X10_undo_8, q_X10_undo_9, q_X10_undo_12, q_X10_undo_14, q_X10_undo_17, q_X10_undo_27, q_X10_undo_28, q_X10_undo_28r, q_X10_undo_29, q_X10_undo_32, q_X10_undo_33, q_X10_undo_34, q_X10_undo_37, q_X10_undo_38, q_X10_undo_41, q_X10_undo_42, q_X10_undo_45, q_X10_undo_45x, q_X10_undo_46, q_X10_undo_47, q_X10_undo_48, q_X10_undo_51, q_X10_undo_52, q_X10_undo_54, q_X10_undo_57, q_X10_undo_58, q_X10_undo_61, q_X10_undo_62, q_X10_undo_63, q_X10_undo_66, q_X10_undo_67, q_X10_undo_70, q_X10_undo_72, q_X10_undo_73, q_X10_undo_76, q_X10_undo_77, q_X10_undo_80, q_X10_undo_82, q_X10_undo_83, i_add, i_sub, i_mul, i_neg, i_lt, i_le, i_eq, i_tm, i_div, i_j, j_i, j_add, j_sub, j_mul, j_neg, j_lt, j_le, j_eq, j_div, c_lt, c_le, c_gt, c_ge, c_eq, i_nat, rz_k, Nat.add_zero, Nat.zero_add, Nat.add_assoc, Nat.reduceAdd, if_true, if_false, gf_eq hy, List.getElem?_cons_zero, List.getElem?_cons_succ]
      rw [if_pos (by omega)]
    · rintro wr hm rfl
      refine ⟨Int32.ofInt 0, [], 0, 0, ?_, by omega, by omega⟩
      have y1 := x_no0 (X := X) (d := d + 28) (k := 1) hm
      simp (disch := first | exact nl_i | exact nl_r | exact nl_0 | exact nl_n | exact nl_x | exact kd_r | exact kd_n | exact kd_x | exact kd_o | exact cats0 | exact cats1 | exact cats2 | exact cats3 | exact cats4 | exact nr_i | exact nr_l | exact nr_z0 | exact nr_z1 | exact ft_i | exact ft_l | omega | rfl | assumption | (refine i_ne0 ?_ ?_ ?_ <;> omega) | (refine j_ne0 ?_ ?_ ?_ <;> omega) | (refine i_new ?_ ?_ <;> omega)) only [n_X11_undo, q_X11_undo_0, q_X11_undo_1, q_X11_undo_2, q_X11_undo_5, q_X11_undo_8, q_X11_undo_9, q_X11_undo_12, q_X11_undo_13, q_X11_undo_14, q_X11_undo_17, q_X11_undo_20, q_X11_undo_21, q_X11_undo_22, q_X11_undo_23, q_X11_undo_23r, q_X11_undo_24, q_X11_undo_27, q_X11_undo_28, q_X11_undo_29, q_X11_undo_32, q_X11_undo_33, q_X11_undo_36, q_X11_undo_37, q_X11_undo_40, q_X11_undo_40x, q_X11_undo_41, q_X11_undo_42, q_X11_undo_43, q_X11_undo_46, q_X11_undo_47, q_X11_undo_48, q_X11_undo_51, q_X11_undo_52, q_X11_undo_55, q_X11_undo_56, q_X11_undo_57, q_X11_undo_58, q_X11_undo_61, q_X11_undo_62, q_X11_undo_63, q_X11_undo_66, q_X11_undo_67, q_X11_undo_70, q_X11_undo_71, q_X11_undo_72, q_X11_undo_73, q_X11_undo_76, q_X11_undo_77, q_X11_undo_78, q_X11_undo_81, q_X11_undo_82, q_X11_undo_85, q_X11_undo_86, q_X11_undo_87, q_X11_undo_88, q_X11_undo_91, q_X11_undo_92, q_X11_undo_93, q_X11_undo_96, q_X11_undo_97, q_X11_undo_100, q_X11_undo_101, q_X11_undo_102, q_X11_undo_103, i_add, i_sub, i_mul, i_neg, i_lt, i_le, i_eq, i_tm, i_div, i_j, j_i, j_add, j_sub, j_mul, j_neg, j_lt, j_le, j_eq, j_div, c_lt, c_le, c_gt, c_ge, c_eq, i_nat, rz_k, Nat.add_zero, Nat.zero_add, Nat.add_assoc, Nat.reduceAdd, if_true, if_false, gf_eq hm, List.getElem?_cons_zero, List.getElem?_cons_succ, if_pos (show kp ≤ 0 by omega), y1, vk_eq hm, List.append_nil, Int.reduceEq, not_false_eq_true]
      all_goals rfl
  obtain ⟨k, rfl⟩ : ∃ k : Nat, kp = k + 1 := ⟨(kp - 1).toNat, by omega⟩
  obtain ⟨hsl, s, hsr, ks1, ks2⟩ := hK k (by omega)
  obtain ⟨-, -, -, -, -, -, f, h48⟩ := id hmi
  have hkk : ((k : Int) + 1 - 1) = (k : Int) := by omega
  -- the class
  generalize hw1 : w.set 0 (.inr (10, [.ref 1, .ref 2, .ref 3, .int (Int32.ofInt k), .ref 4, .ref 5, .ref 9, .ref 12, .ref 14, .ref 18, .ref 26, .ref 29])) = w1
  have f1 : rz_fr [0] w w1 := by rw [← hw1]; exact fr_set (by decide)
  have y1 : v_yard w1 k := by rw [← hw1]; exact w_eq (w_lt hy)
  have a1 : v_ga w1 1 8 G := fr_get f1 (by decide) g1
  have a2 : v_ia w1 2 10 KS := fr_get f1 (by decide) g2
  have a3 : v_ga w1 3 10 KG := fr_get f1 (by decide) g3
  generalize hw2 : w1.set 1 (.inl (.object "Latticeyard$Grid", 8, .inr (.inr (.inr (.inr (va_up G s.toNat (KG k))))))) = w2
  have f2 : rz_fr [1] w1 w2 := by rw [← hw2]; exact fr_set (by decide)
  have b1 : v_ga w2 1 8 (va_up G s.toNat (KG k)) := by rw [← hw2]; exact w_eq (w_lt a1)
  have y2 : v_yard w2 k := fr_get f2 (by decide) y1
  have b3 : v_ga w2 3 10 KG := fr_get f2 (by decide) a3
  generalize hw3 : w2.set 3 (.inl (.object "Latticeyard$Grid", 10, .inr (.inr (.inr (.inr (va_up KG k none)))))) = w3
  have f3 : rz_fr [3] w2 w3 := by rw [← hw3]; exact fr_set (by decide)
  have c3 : v_ga w3 3 10 (va_up KG k none) := by rw [← hw3]; exact w_eq (w_lt b3)
  have f13 : rz_fr [0, 1, 3] w w3 := fr_trans (fr_sub f1 (by decide)) (fr_trans (fr_sub f2 (by decide)) (fr_sub f3 (by decide)))
  have kn : va_rf (KG k) = .null ∨ ∃ b, va_rf (KG k) = .ref b := by
    cases KG k with
    | none => exact .inl rfl
    | some q => exact .inr ⟨q, rfl⟩
  have e2 : ∀ v, v = va_rf (KG k) → rz_sa w1 1 (Int32.ofInt s) v = fun K => K w2 := by
    rintro v rfl
    funext K
    rw [← hw2]
    cases hq : KG k with
    | none => exact sa_n a1 (by omega) (by omega) (by omega)
    | some q =>
      obtain ⟨hq4, fs, ho⟩ := (v_slot_h hsl).2 q hq
      exact sa_r a1 (fr_get f1 (by simp; omega) ho) (by decide) (by omega) (by omega) (by omega)
  have E1 : rz_ex X (d + 29) 116 [.ref 0] w = some (.inl (some (.int (Int32.ofInt s))), w3, 0, 0) := by
    simp (disch := first | exact nl_i | exact nl_r | exact nl_0 | exact nl_n | exact nl_x | exact kd_r | exact kd_n | exact kd_x | exact kd_o | exact cats0 | exact cats1 | exact cats2 | exact cats3 | exact cats4 | exact nr_i | exact nr_l | exact nr_z0 | exact nr_z1 | exact ft_i | exact ft_l | omega | rfl | assumption | (refine i_ne0 ?_ ?_ ?_ <;> omega) | (refine j_ne0 ?_ ?_ ?_ <;> omega) | (refine i_new ?_ ?_ <;> omega) | (refine bl_t ?_; with_unfolding_all rfl) | exact ft_z0 | exact ft_z1) only [n_X10_undo, q_X10_undo_0, q_X10_undo_1, q_X10_undo_4, q_X10_undo_5, q_X10_undo_8, q_X10_undo_9, q_X10_undo_12, q_X10_undo_14, q_X10_undo_17, q_X10_undo_27, q_X10_undo_28, q_X10_undo_28r, q_X10_undo_29, q_X10_undo_32, q_X10_undo_33, q_X10_undo_34, q_X10_undo_37, q_X10_undo_38, q_X10_undo_41, q_X10_undo_42, q_X10_undo_45, q_X10_undo_45x, q_X10_undo_46, q_X10_undo_47, q_X10_undo_48, q_X10_undo_51, q_X10_undo_52, q_X10_undo_54, q_X10_undo_57, q_X10_undo_58, q_X10_undo_61, q_X10_undo_62, q_X10_undo_63, q_X10_undo_66, q_X10_undo_67, q_X10_undo_70, q_X10_undo_72, q_X10_undo_73, q_X10_undo_76, q_X10_undo_77, q_X10_undo_80, q_X10_undo_82, q_X10_undo_83, i_add, i_sub, i_mul, i_neg, i_lt, i_le, i_eq, i_tm, i_div, i_j, j_i, j_add, j_sub, j_mul, j_neg, j_lt, j_le, j_eq, j_div, c_lt, c_le, c_gt, c_ge, c_eq, i_nat, rz_k, Nat.add_zero, Nat.zero_add, Nat.add_assoc, Nat.reduceAdd, if_true, if_false, gf_eq hy, List.getElem?_cons_zero, List.getElem?_cons_succ, pf_eq hy, List.set_cons_zero, List.set_cons_succ, hkk, hw1, gf_eq y1, ai_eq a2, Int.toNat_natCast, ks1, aa_eq a3]
    rw [if_neg (by omega), if_pos (by omega), if_neg (by omega), if_neg (by omega), q_X10_undo_71 kn, e2 _ rfl]
    simp (disch := first | exact nl_i | exact nl_r | exact nl_0 | exact nl_n | exact nl_x | exact kd_r | exact kd_n | exact kd_x | exact kd_o | exact cats0 | exact cats1 | exact cats2 | exact cats3 | exact cats4 | exact nr_i | exact nr_l | exact nr_z0 | exact nr_z1 | exact ft_i | exact ft_l | omega | rfl | assumption | (refine i_ne0 ?_ ?_ ?_ <;> omega) | (refine j_ne0 ?_ ?_ ?_ <;> omega) | (refine i_new ?_ ?_ <;> omega) | (refine bl_t ?_; with_unfolding_all rfl) | exact ft_z0 | exact ft_z1) only [n_X10_undo, q_X10_undo_0, q_X10_undo_1, q_X10_undo_4, q_X10_undo_5, q_X10_undo_8, q_X10_undo_9, q_X10_undo_12, q_X10_undo_14, q_X10_undo_17, q_X10_undo_27, q_X10_undo_28, q_X10_undo_28r, q_X10_undo_29, q_X10_undo_32, q_X10_undo_33, q_X10_undo_34, q_X10_undo_37, q_X10_undo_38, q_X10_undo_41, q_X10_undo_42, q_X10_undo_45, q_X10_undo_45x, q_X10_undo_46, q_X10_undo_47, q_X10_undo_48, q_X10_undo_51, q_X10_undo_52, q_X10_undo_54, q_X10_undo_57, q_X10_undo_58, q_X10_undo_61, q_X10_undo_62, q_X10_undo_63, q_X10_undo_66, q_X10_undo_67, q_X10_undo_70, q_X10_undo_72, q_X10_undo_73, q_X10_undo_76, q_X10_undo_77, q_X10_undo_80, q_X10_undo_82, q_X10_undo_83, i_add, i_sub, i_mul, i_neg, i_lt, i_le, i_eq, i_tm, i_div, i_j, j_i, j_add, j_sub, j_mul, j_neg, j_lt, j_le, j_eq, j_div, c_lt, c_le, c_gt, c_ge, c_eq, i_nat, rz_k, Nat.add_zero, Nat.zero_add, Nat.add_assoc, Nat.reduceAdd, if_true, if_false, gf_eq y2, List.getElem?_cons_zero, List.getElem?_cons_succ]
    rw [q_X10_undo_81 (.inl rfl), sa_n b3 (by omega) (by omega) (by omega), Int.toNat_natCast, hw3]
    simp (disch := first | exact nl_i | exact nl_r | exact nl_0 | exact nl_n | exact nl_x | exact kd_r | exact kd_n | exact kd_x | exact kd_o | exact cats0 | exact cats1 | exact cats2 | exact cats3 | exact cats4 | exact nr_i | exact nr_l | exact nr_z0 | exact nr_z1 | exact ft_i | exact ft_l | omega | rfl | assumption | (refine i_ne0 ?_ ?_ ?_ <;> omega) | (refine j_ne0 ?_ ?_ ?_ <;> omega) | (refine i_new ?_ ?_ <;> omega) | (refine bl_t ?_; with_unfolding_all rfl) | exact ft_z0 | exact ft_z1) only [n_X10_undo, q_X10_undo_0, q_X10_undo_1, q_X10_undo_4, q_X10_undo_5, q_X10_undo_8, q_X10_undo_9, q_X10_undo_12, q_X10_undo_14, q_X10_undo_17, q_X10_undo_27, q_X10_undo_28, q_X10_undo_28r, q_X10_undo_29, q_X10_undo_32, q_X10_undo_33, q_X10_undo_34, q_X10_undo_37, q_X10_undo_38, q_X10_undo_41, q_X10_undo_42, q_X10_undo_45, q_X10_undo_45x, q_X10_undo_46, q_X10_undo_47, q_X10_undo_48, q_X10_undo_51, q_X10_undo_52, q_X10_undo_54, q_X10_undo_57, q_X10_undo_58, q_X10_undo_61, q_X10_undo_62, q_X10_undo_63, q_X10_undo_66, q_X10_undo_67, q_X10_undo_70, q_X10_undo_72, q_X10_undo_73, q_X10_undo_76, q_X10_undo_77, q_X10_undo_80, q_X10_undo_82, q_X10_undo_83, i_add, i_sub, i_mul, i_neg, i_lt, i_le, i_eq, i_tm, i_div, i_j, j_i, j_add, j_sub, j_mul, j_neg, j_lt, j_le, j_eq, j_div, c_lt, c_le, c_gt, c_ge, c_eq, i_nat, rz_k, Nat.add_zero, Nat.zero_add, Nat.add_assoc, Nat.reduceAdd, if_true, if_false]
  have ho3 : v_la w3 48 1 f := fr_get f13 (by decide) h48
  have hm3 : v_model w3 (k + 1) tl kd ty cl th := fr_get f13 (by decide) hm
  -- the reference
  generalize hwr : w3.set 48 (.inl (.long, 1, .inr (.inl (vp_updL f 0 (Int32.ofInt s).toInt64)))) = wr
  have f3r : rz_fr [48] w3 wr := by rw [← hwr]; exact fr_set (by decide)
  have hor : v_la wr 48 1 (vp_updL f 0 (Int32.ofInt s).toInt64) := by rw [← hwr]; exact w_eq (w_lt ho3)
  have hmr : v_model wr (k + 1) tl kd ty cl th := fr_get f3r (by decide) hm3
  have n1 := x_no1 (X := X) (d := d + 28) (k := 1) hmr
  have hm4 := v_mo (t := 0) hmr
  generalize hw4 : wr.set 32 (rz_mo (k + 1) tl kd ty cl 0) = w4 at *
  have f4 : rz_fr [32] wr w4 := by rw [← hw4]; exact fr_set (by decide)
  generalize hw5 : w4.set 32 (rz_mo k tl kd ty cl 0) = w5
  have hw5' : w4.set 32 (.inr (11, [.ref 33, .ref 34, .ref 35, .ref 36, .ref 37, .ref 38, .ref 39, .ref 40, .ref 41, .int (Int32.ofInt k), .ref 42, .int (Int32.ofInt tl), .ref 43, .int (Int32.ofInt kd), .ref 44, .ref 45, .int (Int32.ofInt ty), .int (Int32.ofInt cl), .int (Int32.ofInt 0), .ref 46, .ref 47])) = w5 := hw5
  have m5 : v_model w5 k tl kd ty cl 0 := by rw [← hw5]; exact w_eq (w_lt hm4)
  have f5 : rz_fr [32] w4 w5 := by rw [← hw5]; exact fr_set (by decide)
  have fw5 : rz_fr [0, 1, 3, 48, 32] w w5 := fr_trans (fr_sub f13 (by decide)) (fr_trans (fr_sub f3r (by decide)) (fr_trans (fr_sub f4 (by decide)) (fr_sub f5 (by decide))))
  have d33 : v_za w5 33 8 H := fr_get fw5 (by decide) g33
  have d37 : v_ia w5 37 10 KT := fr_get fw5 (by decide) g37
  have d38 : v_za w5 38 10 KH := fr_get fw5 (by decide) g38
  generalize hw6 : w5.set 33 (.inl (.boolean, 8, .inl (upd H s.toNat (KH k)))) = w6
  have f6 : rz_fr [33] w5 w6 := by rw [← hw6]; exact fr_set (by decide)
  have r33 : v_za w6 33 8 (upd H s.toNat (KH k)) := by rw [← hw6]; exact w_eq (w_lt d33)
  have m6 : v_model w6 k tl kd ty cl 0 := fr_get f6 (by decide) m5
  have fw6 : rz_fr [0, 1, 3, 48, 32, 33] w w6 := fr_trans (fr_sub fw5 (by decide)) (fr_sub f6 (by decide))
  have d34 : v_la w6 34 8 A := fr_get fw6 (by decide) g34
  have d39 : v_la w6 39 10 KA := fr_get fw6 (by decide) g39
  generalize hw7 : w6.set 34 (.inl (.long, 8, .inr (.inl (vp_updL A s.toNat (KA k))))) = w7
  have f7 : rz_fr [34] w6 w7 := by rw [← hw7]; exact fr_set (by decide)
  have r34 : v_la w7 34 8 (vp_updL A s.toNat (KA k)) := by rw [← hw7]; exact w_eq (w_lt d34)
  have m7 : v_model w7 k tl kd ty cl 0 := fr_get f7 (by decide) m6
  have fw7 : rz_fr [0, 1, 3, 48, 32, 33, 34] w w7 := fr_trans (fr_sub fw6 (by decide)) (fr_sub f7 (by decide))
  have d35 : v_la w7 35 8 B := fr_get fw7 (by decide) g35
  have d40 : v_la w7 40 10 KB := fr_get fw7 (by decide) g40
  generalize hw8 : w7.set 35 (.inl (.long, 8, .inr (.inl (vp_updL B s.toNat (KB k))))) = w8
  have f8 : rz_fr [35] w7 w8 := by rw [← hw8]; exact fr_set (by decide)
  have r35 : v_la w8 35 8 (vp_updL B s.toNat (KB k)) := by rw [← hw8]; exact w_eq (w_lt d35)
  have m8 : v_model w8 k tl kd ty cl 0 := fr_get f8 (by decide) m7
  have fw8 : rz_fr [0, 1, 3, 48, 32, 33, 34, 35] w w8 := fr_trans (fr_sub fw7 (by decide)) (fr_sub f8 (by decide))
  have d36 : v_la w8 36 8 C := fr_get fw8 (by decide) g36
  have d41 : v_la w8 41 10 KC := fr_get fw8 (by decide) g41
  generalize hw9 : w8.set 36 (.inl (.long, 8, .inr (.inl (vp_updL C s.toNat (KC k))))) = w9
  have f9 : rz_fr [36] w8 w9 := by rw [← hw9]; exact fr_set (by decide)
  have r36 : v_la w9 36 8 (vp_updL C s.toNat (KC k)) := by rw [← hw9]; exact w_eq (w_lt d36)
  have fw9 : rz_fr [0, 1, 3, 48, 32, 33, 34, 35, 36] w w9 := fr_trans (fr_sub fw8 (by decide)) (fr_sub f9 (by decide))
  have f79 : rz_fr [35, 36] w7 w9 := fr_trans (fr_sub f8 (by decide)) (fr_sub f9 (by decide))
  have f69 : rz_fr [34, 35, 36] w6 w9 := fr_trans (fr_sub f7 (by decide)) (fr_sub f79 (by decide))
  have f59 : rz_fr [33, 34, 35, 36] w5 w9 := fr_trans (fr_sub f6 (by decide)) (fr_sub f69 (by decide))
  have fr9 : rz_fr [32, 33, 34, 35, 36] wr w9 := fr_trans (fr_sub f4 (by decide)) (fr_trans (fr_sub f5 (by decide)) (fr_sub f59 (by decide)))
  have f39 : rz_fr [48, 32, 33, 34, 35, 36] w3 w9 := fr_trans (fr_sub f3r (by decide)) (fr_sub fr9 (by decide))
  have f29 : rz_fr [3, 48, 32, 33, 34, 35, 36] w2 w9 := fr_trans (fr_sub f3 (by decide)) (fr_sub f39 (by decide))
  have f19 : rz_fr [1, 3, 48, 32, 33, 34, 35, 36] w1 w9 := fr_trans (fr_sub f2 (by decide)) (fr_sub f29 (by decide))
  have m9 : v_model w9 k tl kd ty cl 0 := fr_get f59 (by decide) m5
  have o9 : v_la w9 48 1 (vp_updL f 0 (Int32.ofInt s).toInt64) := fr_get fr9 (by decide) hor
  have hbz := (v_slot_h hsl).1
  have E2 : rz_ex X (d + 30) 197 [.ref 32] wr = some (.inl (some (.int (Int32.ofInt s))), w9, 0, 0) := by
    simp (disch := first | exact nl_i | exact nl_r | exact nl_0 | exact nl_n | exact nl_x | exact kd_r | exact kd_n | exact kd_x | exact kd_o | exact cats0 | exact cats1 | exact cats2 | exact cats3 | exact cats4 | exact nr_i | exact nr_l | exact nr_z0 | exact nr_z1 | exact ft_i | exact ft_l | omega | rfl | assumption | (refine i_ne0 ?_ ?_ ?_ <;> omega) | (refine j_ne0 ?_ ?_ ?_ <;> omega) | (refine i_new ?_ ?_ <;> omega) | (refine bl_t ?_; with_unfolding_all rfl) | exact ft_z0 | exact ft_z1) only [n_X11_undo, q_X11_undo_0, q_X11_undo_1, q_X11_undo_2, q_X11_undo_5, q_X11_undo_8, q_X11_undo_9, q_X11_undo_12, q_X11_undo_13, q_X11_undo_14, q_X11_undo_17, q_X11_undo_20, q_X11_undo_21, q_X11_undo_22, q_X11_undo_23, q_X11_undo_23r, q_X11_undo_24, q_X11_undo_27, q_X11_undo_28, q_X11_undo_29, q_X11_undo_32, q_X11_undo_33, q_X11_undo_36, q_X11_undo_37, q_X11_undo_40, q_X11_undo_40x, q_X11_undo_41, q_X11_undo_42, q_X11_undo_43, q_X11_undo_46, q_X11_undo_47, q_X11_undo_48, q_X11_undo_51, q_X11_undo_52, q_X11_undo_55, q_X11_undo_56, q_X11_undo_57, q_X11_undo_58, q_X11_undo_61, q_X11_undo_62, q_X11_undo_63, q_X11_undo_66, q_X11_undo_67, q_X11_undo_70, q_X11_undo_71, q_X11_undo_72, q_X11_undo_73, q_X11_undo_76, q_X11_undo_77, q_X11_undo_78, q_X11_undo_81, q_X11_undo_82, q_X11_undo_85, q_X11_undo_86, q_X11_undo_87, q_X11_undo_88, q_X11_undo_91, q_X11_undo_92, q_X11_undo_93, q_X11_undo_96, q_X11_undo_97, q_X11_undo_100, q_X11_undo_101, q_X11_undo_102, q_X11_undo_103, i_add, i_sub, i_mul, i_neg, i_lt, i_le, i_eq, i_tm, i_div, i_j, j_i, j_add, j_sub, j_mul, j_neg, j_lt, j_le, j_eq, j_div, c_lt, c_le, c_gt, c_ge, c_eq, i_nat, rz_k, Nat.add_zero, Nat.zero_add, Nat.add_assoc, Nat.reduceAdd, if_true, if_false, gf_eq hmr, List.getElem?_cons_zero, List.getElem?_cons_succ, vk_eq hmr, n1, gf_eq hm4, pf_eq hm4, List.set_cons_zero, List.set_cons_succ, hkk, hw5', Int.reduceEq]
    rw [if_neg (by omega)]
    simp (disch := first | exact nl_i | exact nl_r | exact nl_0 | exact nl_n | exact nl_x | exact kd_r | exact kd_n | exact kd_x | exact kd_o | exact cats0 | exact cats1 | exact cats2 | exact cats3 | exact cats4 | exact nr_i | exact nr_l | exact nr_z0 | exact nr_z1 | exact ft_i | exact ft_l | omega | rfl | assumption | (refine i_ne0 ?_ ?_ ?_ <;> omega) | (refine j_ne0 ?_ ?_ ?_ <;> omega) | (refine i_new ?_ ?_ <;> omega) | (refine bl_t ?_; with_unfolding_all rfl) | exact ft_z0 | exact ft_z1) only [n_X11_undo, q_X11_undo_0, q_X11_undo_1, q_X11_undo_2, q_X11_undo_5, q_X11_undo_8, q_X11_undo_9, q_X11_undo_12, q_X11_undo_13, q_X11_undo_14, q_X11_undo_17, q_X11_undo_20, q_X11_undo_21, q_X11_undo_22, q_X11_undo_23, q_X11_undo_23r, q_X11_undo_24, q_X11_undo_27, q_X11_undo_28, q_X11_undo_29, q_X11_undo_32, q_X11_undo_33, q_X11_undo_36, q_X11_undo_37, q_X11_undo_40, q_X11_undo_40x, q_X11_undo_41, q_X11_undo_42, q_X11_undo_43, q_X11_undo_46, q_X11_undo_47, q_X11_undo_48, q_X11_undo_51, q_X11_undo_52, q_X11_undo_55, q_X11_undo_56, q_X11_undo_57, q_X11_undo_58, q_X11_undo_61, q_X11_undo_62, q_X11_undo_63, q_X11_undo_66, q_X11_undo_67, q_X11_undo_70, q_X11_undo_71, q_X11_undo_72, q_X11_undo_73, q_X11_undo_76, q_X11_undo_77, q_X11_undo_78, q_X11_undo_81, q_X11_undo_82, q_X11_undo_85, q_X11_undo_86, q_X11_undo_87, q_X11_undo_88, q_X11_undo_91, q_X11_undo_92, q_X11_undo_93, q_X11_undo_96, q_X11_undo_97, q_X11_undo_100, q_X11_undo_101, q_X11_undo_102, q_X11_undo_103, i_add, i_sub, i_mul, i_neg, i_lt, i_le, i_eq, i_tm, i_div, i_j, j_i, j_add, j_sub, j_mul, j_neg, j_lt, j_le, j_eq, j_div, c_lt, c_le, c_gt, c_ge, c_eq, i_nat, rz_k, Nat.add_zero, Nat.zero_add, Nat.add_assoc, Nat.reduceAdd, if_true, if_false, n1, gf_eq hm4, List.getElem?_cons_zero, List.getElem?_cons_succ, pf_eq hm4, List.set_cons_zero, List.set_cons_succ, hkk, hw5', gf_eq m5, ai_eq d37, Int.toNat_natCast, ks2, az_eq d38, sz_eq d33, hw6, gf_eq m6, al_eq d39, sl_eq d34, hw7, gf_eq m7, al_eq d40, sl_eq d35, hw8, gf_eq m8, al_eq d41, sl_eq d36, hw9, Int.reduceEq]
  refine .inl ⟨Int32.ofInt s, w3, 0, 0, f, _, w9, 0, 0, E1, ho3, hm3, by rw [hwr]; exact E2, ⟨_, m9, rfl⟩, ⟨_, o9, vp_updL_self⟩, ?_, by omega, by omega, fun h => by cases h⟩
  refine ⟨k, tl, kd, ty, cl, 0, fr_get f19 (by decide) y1, m9, ?_, v_text_fr fw9 (by decide) (by decide) (by decide) ht, v_purse_fr fw9 (by decide) hp, v_poly_fr fw9 (by decide) hq, v_misc_fr48 hmi fw9 (by decide) o9⟩
  exact v_slots_undo (s := s) rfl hk.2 hS hK fw9 (by decide) (fr_get f29 (by decide) b1) (fr_get fw9 (by decide) g2) (fr_get f39 (by decide) c3) (fr_get f69 (by decide) r33) (fr_get f79 (by decide) r34) (fr_get f9 (by decide) r35) r36 (fr_get fw9 (by decide) g37) (fr_get fw9 (by decide) g38) (fr_get fw9 (by decide) g39) (fr_get fw9 (by decide) g40) (fr_get fw9 (by decide) g41)
end RZUN
