/-! part 97o: level 2: close: whether it is a polygon -/
section RZWN
variable {X : rz_X} {d : Nat} {w w1 : rz_W} {nc ns : Nat} {x y : Nat → Int} {n : Nat} {kp tl kd ty cl th : Int}
theorem l_prow (h : v_cp w x y n) {i : Nat} (hi : i < n) (m : Nat) : ∀ (j : Nat), j < 20 → n ≤ j + m → ((∀ k, j ≤ k → k < n → zp_nx n k ≠ i → zc_meet x y n i k = false) ∧ ∃ l2 : Option Value, rz_G X (d + 4) mz_X6_isProper 24 [some (.ref 18), some (.int (Int32.ofInt (i : Int))), some (.int (Int32.ofInt (j : Int)))] [] w nc ns = rz_G X (d + 4) mz_X6_isProper 58 [some (.ref 18), some (.int (Int32.ofInt (i : Int))), l2] [] w nc ns) ∨ ((∃ k, j ≤ k ∧ k < n ∧ zp_nx n k ≠ i ∧ zc_meet x y n i k = true) ∧ rz_G X (d + 4) mz_X6_isProper 24 [some (.ref 18), some (.int (Int32.ofInt (i : Int))), some (.int (Int32.ofInt (j : Int)))] [] w nc ns = some (.inl (some (.int (Int32.ofInt 0))), w, nc, ns)) := by
  obtain ⟨cl, a, P, Q, h18, h22, h23, hn, hrg, he⟩ := id h
  induction m with
  | zero =>
    intro j hj hm
    refine .inl ⟨fun k h1 h2 => by omega, some (.int (Int32.ofInt (j : Int))), ?_⟩
    rw [q_X6_isProper_24]
    simp (disch := first | exact nl_i | exact nl_r | exact nl_0 | exact nl_n | exact nl_x | exact kd_r | exact kd_n | exact kd_x | exact kd_o | exact cats0 | exact cats1 | exact cats2 | exact cats3 | exact cats4 | exact nr_i | exact nr_l | exact nr_z0 | exact nr_z1 | exact ft_i | exact ft_l | omega | rfl | assumption | (refine i_ne0 ?_ ?_ ?_ <;> omega) | (refine j_ne0 ?_ ?_ ?_ <;> omega) | (refine i_new ?_ ?_ <;> omega) | (refine bl_t ?_; with_unfolding_all rfl) | exact ft_z0 | exact ft_z1) only [↓reduceIte, q_X6_isProper_25, q_X6_isProper_26, q_X6_isProper_29, q_X6_isProper_32, q_X6_isProper_33, q_X6_isProper_34, q_X6_isProper_37, q_X6_isProper_38, q_X6_isProper_41, q_X6_isProper_42, q_X6_isProper_43, q_X6_isProper_44, q_X6_isProper_47, q_X6_isProper_50, q_X6_isProper_51, q_X6_isProper_52, q_X6_isProper_55, i_add, i_sub, i_mul, i_neg, i_lt, i_le, i_eq, i_tm, i_div, i_j, j_i, j_add, j_sub, j_mul, j_neg, j_lt, j_le, j_eq, j_div, c_lt, c_le, c_gt, c_ge, c_eq, i_nat, rz_k, Nat.add_zero, Nat.zero_add, Nat.add_assoc, Nat.reduceAdd, if_true, if_false, vk_eq h18, gf_eq h18, List.getElem?_cons_zero, List.getElem?_cons_succ, eq_true (show (n : Int) ≤ (j : Int) by omega)]
  | succ m ih =>
    intro j hj hm
    by_cases hjn : n ≤ j
    · refine .inl ⟨fun k h1 h2 => by omega, some (.int (Int32.ofInt (j : Int))), ?_⟩
      rw [q_X6_isProper_24]
      simp (disch := first | exact nl_i | exact nl_r | exact nl_0 | exact nl_n | exact nl_x | exact kd_r | exact kd_n | exact kd_x | exact kd_o | exact cats0 | exact cats1 | exact cats2 | exact cats3 | exact cats4 | exact nr_i | exact nr_l | exact nr_z0 | exact nr_z1 | exact ft_i | exact ft_l | omega | rfl | assumption | (refine i_ne0 ?_ ?_ ?_ <;> omega) | (refine j_ne0 ?_ ?_ ?_ <;> omega) | (refine i_new ?_ ?_ <;> omega) | (refine bl_t ?_; with_unfolding_all rfl) | exact ft_z0 | exact ft_z1) only [↓reduceIte, q_X6_isProper_25, q_X6_isProper_26, q_X6_isProper_29, q_X6_isProper_32, q_X6_isProper_33, q_X6_isProper_34, q_X6_isProper_37, q_X6_isProper_38, q_X6_isProper_41, q_X6_isProper_42, q_X6_isProper_43, q_X6_isProper_44, q_X6_isProper_47, q_X6_isProper_50, q_X6_isProper_51, q_X6_isProper_52, q_X6_isProper_55, i_add, i_sub, i_mul, i_neg, i_lt, i_le, i_eq, i_tm, i_div, i_j, j_i, j_add, j_sub, j_mul, j_neg, j_lt, j_le, j_eq, j_div, c_lt, c_le, c_gt, c_ge, c_eq, i_nat, rz_k, Nat.add_zero, Nat.zero_add, Nat.add_assoc, Nat.reduceAdd, if_true, if_false, vk_eq h18, gf_eq h18, List.getElem?_cons_zero, List.getElem?_cons_succ, eq_true (show (n : Int) ≤ (j : Int) by omega)]
    have hjl : j < n := by omega
    have kn := x_nx (X := X) (d := d + 3) h hjl
    have km := x_meets (X := X) (d := d) h hi hjl
    have hnl := nx_lt hjl
    have hstep : (zp_nx n j ≠ i → zc_meet x y n i j = false) → rz_G X (d + 4) mz_X6_isProper 24 [some (.ref 18), some (.int (Int32.ofInt (i : Int))), some (.int (Int32.ofInt (j : Int)))] [] w nc ns = rz_G X (d + 4) mz_X6_isProper 24 [some (.ref 18), some (.int (Int32.ofInt (i : Int))), some (.int (Int32.ofInt ((j + 1 : Nat) : Int)))] [] w nc ns := by
      intro hh
      rw [q_X6_isProper_24]
      by_cases hne : zp_nx n j = i
      · simp (disch := first | exact nl_i | exact nl_r | exact nl_0 | exact nl_n | exact nl_x | exact kd_r | exact kd_n | exact kd_x | exact kd_o | exact cats0 | exact cats1 | exact cats2 | exact cats3 | exact cats4 | exact nr_i | exact nr_l | exact nr_z0 | exact nr_z1 | exact ft_i | exact ft_l | omega | rfl | assumption | (refine i_ne0 ?_ ?_ ?_ <;> omega) | (refine j_ne0 ?_ ?_ ?_ <;> omega) | (refine i_new ?_ ?_ <;> omega) | (refine bl_t ?_; with_unfolding_all rfl) | exact ft_z0 | exact ft_z1) only [↓reduceIte, q_X6_isProper_25, q_X6_isProper_26, q_X6_isProper_29, q_X6_isProper_32, q_X6_isProper_33, q_X6_isProper_34, q_X6_isProper_37, q_X6_isProper_38, q_X6_isProper_41, q_X6_isProper_42, q_X6_isProper_43, q_X6_isProper_44, q_X6_isProper_47, q_X6_isProper_50, q_X6_isProper_51, q_X6_isProper_52, q_X6_isProper_55, i_add, i_sub, i_mul, i_neg, i_lt, i_le, i_eq, i_tm, i_div, i_j, j_i, j_add, j_sub, j_mul, j_neg, j_lt, j_le, j_eq, j_div, c_lt, c_le, c_gt, c_ge, c_eq, i_nat, rz_k, Nat.add_zero, Nat.zero_add, Nat.add_assoc, Nat.reduceAdd, if_true, if_false, vk_eq h18, gf_eq h18, List.getElem?_cons_zero, List.getElem?_cons_succ, eq_false (show ¬ (n : Int) ≤ (j : Int) by omega), kn, eq_true (show ((zp_nx n j : Nat) : Int) = (i : Int) by omega)]
        rfl
      · rw [hh hne, zb_f] at km
        simp (disch := first | exact nl_i | exact nl_r | exact nl_0 | exact nl_n | exact nl_x | exact kd_r | exact kd_n | exact kd_x | exact kd_o | exact cats0 | exact cats1 | exact cats2 | exact cats3 | exact cats4 | exact nr_i | exact nr_l | exact nr_z0 | exact nr_z1 | exact ft_i | exact ft_l | omega | rfl | assumption | (refine i_ne0 ?_ ?_ ?_ <;> omega) | (refine j_ne0 ?_ ?_ ?_ <;> omega) | (refine i_new ?_ ?_ <;> omega) | (refine bl_t ?_; with_unfolding_all rfl) | exact ft_z0 | exact ft_z1) only [↓reduceIte, q_X6_isProper_25, q_X6_isProper_26, q_X6_isProper_29, q_X6_isProper_32, q_X6_isProper_33, q_X6_isProper_34, q_X6_isProper_37, q_X6_isProper_38, q_X6_isProper_41, q_X6_isProper_42, q_X6_isProper_43, q_X6_isProper_44, q_X6_isProper_47, q_X6_isProper_50, q_X6_isProper_51, q_X6_isProper_52, q_X6_isProper_55, i_add, i_sub, i_mul, i_neg, i_lt, i_le, i_eq, i_tm, i_div, i_j, j_i, j_add, j_sub, j_mul, j_neg, j_lt, j_le, j_eq, j_div, c_lt, c_le, c_gt, c_ge, c_eq, i_nat, rz_k, Nat.add_zero, Nat.zero_add, Nat.add_assoc, Nat.reduceAdd, if_true, if_false, vk_eq h18, gf_eq h18, List.getElem?_cons_zero, List.getElem?_cons_succ, eq_false (show ¬ (n : Int) ≤ (j : Int) by omega), kn, eq_false (show ¬ ((zp_nx n j : Nat) : Int) = (i : Int) by omega), km]
        rfl
    by_cases hc : zp_nx n j ≠ i → zc_meet x y n i j = false
    · have hs := hstep hc
      rcases ih (j + 1) (by omega) (by omega) with ⟨h1, l2, h2⟩ | ⟨⟨k, a1, a2, a3, a4⟩, h2⟩
      · refine .inl ⟨fun k k1 k2 k3 => ?_, l2, hs.trans h2⟩
        by_cases hk : k = j
        · rw [hk] at k3 ⊢
          exact hc k3
        · exact h1 k (by omega) k2 k3
      · exact .inr ⟨⟨k, by omega, a2, a3, a4⟩, hs.trans h2⟩
    · have hne : zp_nx n j ≠ i := fun c => hc (fun c2 => absurd c c2)
      have hm2 : zc_meet x y n i j = true := by
        cases hz : zc_meet x y n i j
        · exact absurd (fun _ => hz) hc
        · rfl
      refine .inr ⟨⟨j, Nat.le_refl _, hjl, hne, hm2⟩, ?_⟩
      rw [hm2, zb_t] at km
      rw [q_X6_isProper_24]
      simp (disch := first | exact nl_i | exact nl_r | exact nl_0 | exact nl_n | exact nl_x | exact kd_r | exact kd_n | exact kd_x | exact kd_o | exact cats0 | exact cats1 | exact cats2 | exact cats3 | exact cats4 | exact nr_i | exact nr_l | exact nr_z0 | exact nr_z1 | exact ft_i | exact ft_l | omega | rfl | assumption | (refine i_ne0 ?_ ?_ ?_ <;> omega) | (refine j_ne0 ?_ ?_ ?_ <;> omega) | (refine i_new ?_ ?_ <;> omega) | (refine bl_t ?_; with_unfolding_all rfl) | exact ft_z0 | exact ft_z1) only [↓reduceIte, q_X6_isProper_25, q_X6_isProper_26, q_X6_isProper_29, q_X6_isProper_32, q_X6_isProper_33, q_X6_isProper_34, q_X6_isProper_37, q_X6_isProper_38, q_X6_isProper_41, q_X6_isProper_42, q_X6_isProper_43, q_X6_isProper_44, q_X6_isProper_47, q_X6_isProper_50, q_X6_isProper_51, q_X6_isProper_52, q_X6_isProper_55, i_add, i_sub, i_mul, i_neg, i_lt, i_le, i_eq, i_tm, i_div, i_j, j_i, j_add, j_sub, j_mul, j_neg, j_lt, j_le, j_eq, j_div, c_lt, c_le, c_gt, c_ge, c_eq, i_nat, rz_k, Nat.add_zero, Nat.zero_add, Nat.add_assoc, Nat.reduceAdd, if_true, if_false, vk_eq h18, gf_eq h18, List.getElem?_cons_zero, List.getElem?_cons_succ, eq_false (show ¬ (n : Int) ≤ (j : Int) by omega), kn, eq_false (show ¬ ((zp_nx n j : Nat) : Int) = (i : Int) by omega), km, Int.reduceEq]
theorem l_proper (h : v_cp w x y n) (m : Nat) : ∀ (i : Nat) (l2 : Option Value), i + m = n → ∃ b : Bool, rz_G X (d + 4) mz_X6_isProper 2 [some (.ref 18), some (.int (Int32.ofInt (i : Int))), l2] [] w nc ns = some (.inl (some (.int (Int32.ofInt (zb b)))), w, nc, ns) ∧ (b = true ↔ ∀ k, i ≤ k → k < n → zc_fold x y n k = false ∧ ∀ j, k + 2 ≤ j → j < n → zp_nx n j ≠ k → zc_meet x y n k j = false) := by
  obtain ⟨cl, a, P, Q, h18, h22, h23, hn, hrg, he⟩ := id h
  induction m with
  | zero =>
    intro i l2 hi
    refine ⟨true, ?_, ⟨fun _ k h1 h2 => by omega, fun _ => rfl⟩⟩
    rw [q_X6_isProper_2, zb_t]
    simp (disch := first | exact nl_i | exact nl_r | exact nl_0 | exact nl_n | exact nl_x | exact kd_r | exact kd_n | exact kd_x | exact kd_o | exact cats0 | exact cats1 | exact cats2 | exact cats3 | exact cats4 | exact nr_i | exact nr_l | exact nr_z0 | exact nr_z1 | exact ft_i | exact ft_l | omega | rfl | assumption | (refine i_ne0 ?_ ?_ ?_ <;> omega) | (refine j_ne0 ?_ ?_ ?_ <;> omega) | (refine i_new ?_ ?_ <;> omega) | (refine bl_t ?_; with_unfolding_all rfl) | exact ft_z0 | exact ft_z1) only [↓reduceIte, q_X6_isProper_3, q_X6_isProper_4, q_X6_isProper_7, q_X6_isProper_64, q_X6_isProper_65, i_add, i_sub, i_mul, i_neg, i_lt, i_le, i_eq, i_tm, i_div, i_j, j_i, j_add, j_sub, j_mul, j_neg, j_lt, j_le, j_eq, j_div, c_lt, c_le, c_gt, c_ge, c_eq, i_nat, rz_k, Nat.add_zero, Nat.zero_add, Nat.add_assoc, Nat.reduceAdd, if_true, if_false, vk_eq h18, gf_eq h18, List.getElem?_cons_zero, List.getElem?_cons_succ, eq_true (show (n : Int) ≤ (i : Int) by omega)]
  | succ m ih =>
    intro i l2 hi
    have hin : i < n := by omega
    have kf := x_folds (X := X) (d := d + 1) h hin
    cases hf : zc_fold x y n i
    · rw [hf, zb_f] at kf
      have hpre : rz_G X (d + 4) mz_X6_isProper 2 [some (.ref 18), some (.int (Int32.ofInt (i : Int))), l2] [] w nc ns = rz_G X (d + 4) mz_X6_isProper 24 [some (.ref 18), some (.int (Int32.ofInt (i : Int))), some (.int (Int32.ofInt ((i + 2 : Nat) : Int)))] [] w nc ns := by
        rw [q_X6_isProper_2]
        simp (disch := first | exact nl_i | exact nl_r | exact nl_0 | exact nl_n | exact nl_x | exact kd_r | exact kd_n | exact kd_x | exact kd_o | exact cats0 | exact cats1 | exact cats2 | exact cats3 | exact cats4 | exact nr_i | exact nr_l | exact nr_z0 | exact nr_z1 | exact ft_i | exact ft_l | omega | rfl | assumption | (refine i_ne0 ?_ ?_ ?_ <;> omega) | (refine j_ne0 ?_ ?_ ?_ <;> omega) | (refine i_new ?_ ?_ <;> omega) | (refine bl_t ?_; with_unfolding_all rfl) | exact ft_z0 | exact ft_z1) only [↓reduceIte, q_X6_isProper_3, q_X6_isProper_4, q_X6_isProper_7, q_X6_isProper_10, q_X6_isProper_11, q_X6_isProper_12, q_X6_isProper_15, q_X6_isProper_18, q_X6_isProper_19, q_X6_isProper_20, q_X6_isProper_21, q_X6_isProper_22, q_X6_isProper_23, i_add, i_sub, i_mul, i_neg, i_lt, i_le, i_eq, i_tm, i_div, i_j, j_i, j_add, j_sub, j_mul, j_neg, j_lt, j_le, j_eq, j_div, c_lt, c_le, c_gt, c_ge, c_eq, i_nat, rz_k, Nat.add_zero, Nat.zero_add, Nat.add_assoc, Nat.reduceAdd, if_true, if_false, vk_eq h18, gf_eq h18, List.getElem?_cons_zero, List.getElem?_cons_succ, eq_false (show ¬ (n : Int) ≤ (i : Int) by omega), kf]
        rfl
      rcases l_prow (X := X) (d := d) (nc := nc) (ns := ns) h hin n (i + 2) (by omega) (by omega) with ⟨h1, l3, h2⟩ | ⟨⟨k, a1, a2, a3, a4⟩, h2⟩
      · obtain ⟨b, e, hb⟩ := ih (i + 1) l3 (by omega)
        refine ⟨b, ?_, hb.trans ⟨fun H k k1 k2 => ?_, fun H k k1 k2 => H k (by omega) k2⟩⟩
        · rw [hpre, h2, ← e, q_X6_isProper_58 nl_r]
          simp (disch := first | exact nl_i | exact nl_r | exact nl_0 | exact nl_n | exact nl_x | exact kd_r | exact kd_n | exact kd_x | exact kd_o | exact cats0 | exact cats1 | exact cats2 | exact cats3 | exact cats4 | exact nr_i | exact nr_l | exact nr_z0 | exact nr_z1 | exact ft_i | exact ft_l | omega | rfl | assumption | (refine i_ne0 ?_ ?_ ?_ <;> omega) | (refine j_ne0 ?_ ?_ ?_ <;> omega) | (refine i_new ?_ ?_ <;> omega) | (refine bl_t ?_; with_unfolding_all rfl) | exact ft_z0 | exact ft_z1) only [q_X6_isProper_61, i_add, i_sub, i_mul, i_neg, i_lt, i_le, i_eq, i_tm, i_div, i_j, j_i, j_add, j_sub, j_mul, j_neg, j_lt, j_le, j_eq, j_div, c_lt, c_le, c_gt, c_ge, c_eq, i_nat, rz_k, Nat.add_zero, Nat.zero_add, Nat.add_assoc, Nat.reduceAdd, if_true, if_false]
          rfl
        · by_cases hk : k = i
          · rw [hk]
            exact ⟨hf, h1⟩
          · exact H k (by omega) k2
      · refine ⟨false, by rw [hpre, h2, zb_f], ⟨fun c => (by cases c), fun H => ?_⟩⟩
        have := (H i (Nat.le_refl _) hin).2 k a1 a2 a3
        rw [a4] at this
        cases this
    · rw [hf, zb_t] at kf
      refine ⟨false, ?_, ⟨fun c => (by cases c), fun H => ?_⟩⟩
      · rw [q_X6_isProper_2, zb_f]
        simp (disch := first | exact nl_i | exact nl_r | exact nl_0 | exact nl_n | exact nl_x | exact kd_r | exact kd_n | exact kd_x | exact kd_o | exact cats0 | exact cats1 | exact cats2 | exact cats3 | exact cats4 | exact nr_i | exact nr_l | exact nr_z0 | exact nr_z1 | exact ft_i | exact ft_l | omega | rfl | assumption | (refine i_ne0 ?_ ?_ ?_ <;> omega) | (refine j_ne0 ?_ ?_ ?_ <;> omega) | (refine i_new ?_ ?_ <;> omega) | (refine bl_t ?_; with_unfolding_all rfl) | exact ft_z0 | exact ft_z1) only [↓reduceIte, q_X6_isProper_3, q_X6_isProper_4, q_X6_isProper_7, q_X6_isProper_10, q_X6_isProper_11, q_X6_isProper_12, q_X6_isProper_15, q_X6_isProper_18, q_X6_isProper_19, q_X6_isProper_20, q_X6_isProper_21, q_X6_isProper_22, q_X6_isProper_23, i_add, i_sub, i_mul, i_neg, i_lt, i_le, i_eq, i_tm, i_div, i_j, j_i, j_add, j_sub, j_mul, j_neg, j_lt, j_le, j_eq, j_div, c_lt, c_le, c_gt, c_ge, c_eq, i_nat, rz_k, Nat.add_zero, Nat.zero_add, Nat.add_assoc, Nat.reduceAdd, if_true, if_false, vk_eq h18, gf_eq h18, List.getElem?_cons_zero, List.getElem?_cons_succ, eq_false (show ¬ (n : Int) ≤ (i : Int) by omega), kf, Int.reduceEq]
      · have := (H i (Nat.le_refl _) hin).1
        rw [hf] at this
        cases this
theorem zc_ok : zp_ok x y n ↔ ∀ k, k < n → zc_fold x y n k = false ∧ ∀ j, k + 2 ≤ j → j < n → zp_nx n j ≠ k → zc_meet x y n k j = false := by
  unfold zp_ok
  constructor
  · rintro ⟨h1, h2⟩ k hk
    refine ⟨?_, fun j hj hn hnk => ?_⟩
    · cases hf : zc_fold x y n k
      · rfl
      · exact absurd (zc_fold_iff.mp hf) (h1 k hk)
    · cases hf : zc_meet x y n k j
      · rfl
      · exact absurd (zc_meet_iff.mp hf) (h2 k j (by omega) hn (by unfold zp_nx; rw [if_pos (by omega)]; omega) hnk)
  · intro H
    refine ⟨fun i hi c => ?_, fun i j hij hj hne hne2 c => ?_⟩
    · have := (H i hi).1
      rw [zc_fold_iff.mpr c] at this
      cases this
    · have := (H i (by omega)).2 j (by
        unfold zp_nx at hne
        rw [if_pos (by omega)] at hne
        omega) hj hne2
      rw [zc_meet_iff.mpr c] at this
      cases this
theorem x_proper (h : v_cp w x y n) : ∃ b : Bool, rz_ex X (d + 5) 61 [.ref 18] w = some (.inl (some (.int (Int32.ofInt (zb b)))), w, 0, 0) ∧ (b = true ↔ zp_ok x y n) := by
  obtain ⟨b, e, hb⟩ := l_proper (X := X) (d := d) (nc := 0) (ns := 0) h n 0 none (by omega)
  refine ⟨b, ?_, hb.trans ⟨fun H => zc_ok.mpr (fun k hk => H k (Nat.zero_le _) hk), fun H k _ hk => zc_ok.mp H k hk⟩⟩
  rw [← e]
  simp (disch := first | exact nl_i | exact nl_r | exact nl_0 | exact nl_n | exact nl_x | exact kd_r | exact kd_n | exact kd_x | exact kd_o | exact cats0 | exact cats1 | exact cats2 | exact cats3 | exact cats4 | exact nr_i | exact nr_l | exact nr_z0 | exact nr_z1 | exact ft_i | exact ft_l | omega | rfl | assumption | (refine i_ne0 ?_ ?_ ?_ <;> omega) | (refine j_ne0 ?_ ?_ ?_ <;> omega) | (refine i_new ?_ ?_ <;> omega) | (refine bl_t ?_; with_unfolding_all rfl) | exact ft_z0 | exact ft_z1) only [n_X6_isProper, q_X6_isProper_0, q_X6_isProper_1, i_add, i_sub, i_mul, i_neg, i_lt, i_le, i_eq, i_tm, i_div, i_j, j_i, j_add, j_sub, j_mul, j_neg, j_lt, j_le, j_eq, j_div, c_lt, c_le, c_gt, c_ge, c_eq, i_nat, rz_k, Nat.add_zero, Nat.zero_add, Nat.add_assoc, Nat.reduceAdd, if_true, if_false]
  rfl
theorem zc_sym {i j : Nat} : zc_meet x y n i j = zc_meet x y n j i := by
  unfold zc_meet
  generalize zc_on x y n i j = p1
  generalize zc_on x y n i (zp_nx n j) = p2
  generalize zc_on x y n j i = p3
  generalize zc_on x y n j (zp_nx n i) = p4
  generalize zc_crs x y n i j (zp_nx n j) = p5
  generalize zc_crs x y n j i (zp_nx n i) = p6
  cases p1 <;> cases p2 <;> cases p3 <;> cases p4 <;> cases p5 <;> cases p6 <;> rfl
theorem l_qrow (h : v_rp w x y n) {i : Nat} (hi : i < n) {l3 l4 l5 : Option Value} {q6 : Int32} (m : Nat) : ∀ (j : Nat) (b : Bool) (l8 : Option Value), j + m = i → ∃ (b' : Bool) (l7' l8' : Option Value), rz_G X (d + 3) mz_X11_isPolygon 155 [some (.ref 32), some (.int (Int32.ofInt (zb b))), some (.int (Int32.ofInt (i : Int))), l3, l4, l5, some (.int q6), some (.int (Int32.ofInt (j : Int))), l8] [] w nc ns = rz_G X (d + 3) mz_X11_isPolygon 219 [some (.ref 32), some (.int (Int32.ofInt (zb b'))), some (.int (Int32.ofInt (i : Int))), l3, l4, l5, some (.int q6), l7', l8'] [] w nc ns ∧ (b' = true ↔ b = true ∧ ∀ k, j ≤ k → k < i → zp_nx n k ≠ i → zp_nx n i ≠ k → zc_meet x y n i k = false) := by
  obtain ⟨kp, tl, kd, cl, th, R, S, hm, h44, h45, hn, hr, he⟩ := id h
  induction m with
  | zero =>
    intro j b l8 hj
    obtain rfl : j = i := by omega
    refine ⟨b, some (.int (Int32.ofInt (j : Int))), l8, ?_, ⟨fun hb => ⟨hb, fun k h1 h2 => by omega⟩, fun hb => hb.1⟩⟩
    rw [q_X11_isPolygon_155]
    simp (disch := first | exact nl_i | exact nl_r | exact nl_0 | exact nl_n | exact nl_x | exact kd_r | exact kd_n | exact kd_x | exact kd_o | exact cats0 | exact cats1 | exact cats2 | exact cats3 | exact cats4 | exact nr_i | exact nr_l | exact nr_z0 | exact nr_z1 | exact ft_i | exact ft_l | omega | rfl | assumption | (refine i_ne0 ?_ ?_ ?_ <;> omega) | (refine j_ne0 ?_ ?_ ?_ <;> omega) | (refine i_new ?_ ?_ <;> omega) | (refine bl_t ?_; with_unfolding_all rfl) | exact ft_z0 | exact ft_z1) only [↓reduceIte, q_X11_isPolygon_157, q_X11_isPolygon_158, q_X11_isPolygon_161, q_X11_isPolygon_162, q_X11_isPolygon_164, q_X11_isPolygon_167, q_X11_isPolygon_168, q_X11_isPolygon_171, q_X11_isPolygon_172, q_X11_isPolygon_173, q_X11_isPolygon_176, q_X11_isPolygon_178, q_X11_isPolygon_181, q_X11_isPolygon_182, q_X11_isPolygon_185, q_X11_isPolygon_186, q_X11_isPolygon_188, q_X11_isPolygon_189, q_X11_isPolygon_192, q_X11_isPolygon_194, q_X11_isPolygon_197, q_X11_isPolygon_198, q_X11_isPolygon_199, q_X11_isPolygon_201, q_X11_isPolygon_204, q_X11_isPolygon_207, q_X11_isPolygon_208, q_X11_isPolygon_211, q_X11_isPolygon_212, q_X11_isPolygon_213, q_X11_isPolygon_216, i_add, i_sub, i_mul, i_neg, i_lt, i_le, i_eq, i_tm, i_div, i_j, j_i, j_add, j_sub, j_mul, j_neg, j_lt, j_le, j_eq, j_div, c_lt, c_le, c_gt, c_ge, c_eq, i_nat, rz_k, Nat.add_zero, Nat.zero_add, Nat.add_assoc, Nat.reduceAdd, if_true, if_false, eq_true (show (j : Int) ≤ (j : Int) by omega)]
  | succ m ih =>
    intro j b l8 hj
    have hjl : j < n := by omega
    have k1 := y_nx (X := X) (d := d + 2) h hjl
    have k2 := y_nx (X := X) (d := d + 2) h hi
    have km := y_meets (X := X) (d := d) h hi hjl
    have hnl := nx_lt hjl
    have hnl2 := nx_lt hi
    have key : ∃ (b' : Bool) (l8' : Option Value), rz_G X (d + 3) mz_X11_isPolygon 155 [some (.ref 32), some (.int (Int32.ofInt (zb b))), some (.int (Int32.ofInt (i : Int))), l3, l4, l5, some (.int q6), some (.int (Int32.ofInt (j : Int))), l8] [] w nc ns = rz_G X (d + 3) mz_X11_isPolygon 155 [some (.ref 32), some (.int (Int32.ofInt (zb b'))), some (.int (Int32.ofInt (i : Int))), l3, l4, l5, some (.int q6), some (.int (Int32.ofInt ((j + 1 : Nat) : Int))), l8'] [] w nc ns ∧ (b' = true ↔ b = true ∧ (zp_nx n j ≠ i → zp_nx n i ≠ j → zc_meet x y n i j = false)) := by
      by_cases c1 : zp_nx n j = i
      · refine ⟨b, some (.int (Int32.ofInt 1)), ?_, ⟨fun hb => ⟨hb, fun c => absurd c1 c⟩, fun hb => hb.1⟩⟩
        rw [q_X11_isPolygon_155]
        cases b <;> simp (disch := first | exact nl_i | exact nl_r | exact nl_0 | exact nl_n | exact nl_x | exact kd_r | exact kd_n | exact kd_x | exact kd_o | exact cats0 | exact cats1 | exact cats2 | exact cats3 | exact cats4 | exact nr_i | exact nr_l | exact nr_z0 | exact nr_z1 | exact ft_i | exact ft_l | omega | rfl | assumption | (refine i_ne0 ?_ ?_ ?_ <;> omega) | (refine j_ne0 ?_ ?_ ?_ <;> omega) | (refine i_new ?_ ?_ <;> omega) | (refine bl_t ?_; with_unfolding_all rfl) | exact ft_z0 | exact ft_z1) only [↓reduceIte, q_X11_isPolygon_157, q_X11_isPolygon_158, q_X11_isPolygon_161, q_X11_isPolygon_162, q_X11_isPolygon_164, q_X11_isPolygon_167, q_X11_isPolygon_168, q_X11_isPolygon_171, q_X11_isPolygon_172, q_X11_isPolygon_173, q_X11_isPolygon_176, q_X11_isPolygon_178, q_X11_isPolygon_181, q_X11_isPolygon_182, q_X11_isPolygon_185, q_X11_isPolygon_186, q_X11_isPolygon_188, q_X11_isPolygon_189, q_X11_isPolygon_192, q_X11_isPolygon_194, q_X11_isPolygon_197, q_X11_isPolygon_198, q_X11_isPolygon_199, q_X11_isPolygon_201, q_X11_isPolygon_204, q_X11_isPolygon_207, q_X11_isPolygon_208, q_X11_isPolygon_211, q_X11_isPolygon_212, q_X11_isPolygon_213, q_X11_isPolygon_216, i_add, i_sub, i_mul, i_neg, i_lt, i_le, i_eq, i_tm, i_div, i_j, j_i, j_add, j_sub, j_mul, j_neg, j_lt, j_le, j_eq, j_div, c_lt, c_le, c_gt, c_ge, c_eq, i_nat, rz_k, Nat.add_zero, Nat.zero_add, Nat.add_assoc, Nat.reduceAdd, if_true, if_false, vk_eq hm, eq_false (show ¬ (i : Int) ≤ (j : Int) by omega), k1, k2, eq_true (show ((zp_nx n j : Nat) : Int) = (i : Int) by omega), zb_t, zb_f, Int.reduceEq, not_true_eq_false, not_false_eq_true] <;> rfl
      by_cases c2 : zp_nx n i = j
      · refine ⟨b, some (.int (Int32.ofInt 1)), ?_, ⟨fun hb => ⟨hb, fun _ c => absurd c2 c⟩, fun hb => hb.1⟩⟩
        rw [q_X11_isPolygon_155]
        cases b <;> simp (disch := first | exact nl_i | exact nl_r | exact nl_0 | exact nl_n | exact nl_x | exact kd_r | exact kd_n | exact kd_x | exact kd_o | exact cats0 | exact cats1 | exact cats2 | exact cats3 | exact cats4 | exact nr_i | exact nr_l | exact nr_z0 | exact nr_z1 | exact ft_i | exact ft_l | omega | rfl | assumption | (refine i_ne0 ?_ ?_ ?_ <;> omega) | (refine j_ne0 ?_ ?_ ?_ <;> omega) | (refine i_new ?_ ?_ <;> omega) | (refine bl_t ?_; with_unfolding_all rfl) | exact ft_z0 | exact ft_z1) only [↓reduceIte, q_X11_isPolygon_157, q_X11_isPolygon_158, q_X11_isPolygon_161, q_X11_isPolygon_162, q_X11_isPolygon_164, q_X11_isPolygon_167, q_X11_isPolygon_168, q_X11_isPolygon_171, q_X11_isPolygon_172, q_X11_isPolygon_173, q_X11_isPolygon_176, q_X11_isPolygon_178, q_X11_isPolygon_181, q_X11_isPolygon_182, q_X11_isPolygon_185, q_X11_isPolygon_186, q_X11_isPolygon_188, q_X11_isPolygon_189, q_X11_isPolygon_192, q_X11_isPolygon_194, q_X11_isPolygon_197, q_X11_isPolygon_198, q_X11_isPolygon_199, q_X11_isPolygon_201, q_X11_isPolygon_204, q_X11_isPolygon_207, q_X11_isPolygon_208, q_X11_isPolygon_211, q_X11_isPolygon_212, q_X11_isPolygon_213, q_X11_isPolygon_216, i_add, i_sub, i_mul, i_neg, i_lt, i_le, i_eq, i_tm, i_div, i_j, j_i, j_add, j_sub, j_mul, j_neg, j_lt, j_le, j_eq, j_div, c_lt, c_le, c_gt, c_ge, c_eq, i_nat, rz_k, Nat.add_zero, Nat.zero_add, Nat.add_assoc, Nat.reduceAdd, if_true, if_false, vk_eq hm, eq_false (show ¬ (i : Int) ≤ (j : Int) by omega), k1, k2, eq_false (show ¬ ((zp_nx n j : Nat) : Int) = (i : Int) by omega), eq_true (show ((zp_nx n i : Nat) : Int) = (j : Int) by omega), zb_t, zb_f, Int.reduceEq, not_true_eq_false, not_false_eq_true] <;> rfl
      refine ⟨b && !zc_meet x y n i j, some (.int (Int32.ofInt 0)), ?_, ?_⟩
      · rw [q_X11_isPolygon_155]
        generalize zc_meet x y n i j = mm at *
        cases b
        · simp (disch := first | exact nl_i | exact nl_r | exact nl_0 | exact nl_n | exact nl_x | exact kd_r | exact kd_n | exact kd_x | exact kd_o | exact cats0 | exact cats1 | exact cats2 | exact cats3 | exact cats4 | exact nr_i | exact nr_l | exact nr_z0 | exact nr_z1 | exact ft_i | exact ft_l | omega | rfl | assumption | (refine i_ne0 ?_ ?_ ?_ <;> omega) | (refine j_ne0 ?_ ?_ ?_ <;> omega) | (refine i_new ?_ ?_ <;> omega) | (refine bl_t ?_; with_unfolding_all rfl) | exact ft_z0 | exact ft_z1) only [↓reduceIte, q_X11_isPolygon_157, q_X11_isPolygon_158, q_X11_isPolygon_161, q_X11_isPolygon_162, q_X11_isPolygon_164, q_X11_isPolygon_167, q_X11_isPolygon_168, q_X11_isPolygon_171, q_X11_isPolygon_172, q_X11_isPolygon_173, q_X11_isPolygon_176, q_X11_isPolygon_178, q_X11_isPolygon_181, q_X11_isPolygon_182, q_X11_isPolygon_185, q_X11_isPolygon_186, q_X11_isPolygon_188, q_X11_isPolygon_189, q_X11_isPolygon_192, q_X11_isPolygon_194, q_X11_isPolygon_197, q_X11_isPolygon_198, q_X11_isPolygon_199, q_X11_isPolygon_201, q_X11_isPolygon_204, q_X11_isPolygon_207, q_X11_isPolygon_208, q_X11_isPolygon_211, q_X11_isPolygon_212, q_X11_isPolygon_213, q_X11_isPolygon_216, i_add, i_sub, i_mul, i_neg, i_lt, i_le, i_eq, i_tm, i_div, i_j, j_i, j_add, j_sub, j_mul, j_neg, j_lt, j_le, j_eq, j_div, c_lt, c_le, c_gt, c_ge, c_eq, i_nat, rz_k, Nat.add_zero, Nat.zero_add, Nat.add_assoc, Nat.reduceAdd, if_true, if_false, vk_eq hm, eq_false (show ¬ (i : Int) ≤ (j : Int) by omega), k1, k2, eq_false (show ¬ ((zp_nx n j : Nat) : Int) = (i : Int) by omega), eq_false (show ¬ ((zp_nx n i : Nat) : Int) = (j : Int) by omega), zb_t, zb_f, Bool.false_and, Int.reduceEq, not_true_eq_false, not_false_eq_true]
          rfl
        · cases mm <;> simp (disch := first | exact nl_i | exact nl_r | exact nl_0 | exact nl_n | exact nl_x | exact kd_r | exact kd_n | exact kd_x | exact kd_o | exact cats0 | exact cats1 | exact cats2 | exact cats3 | exact cats4 | exact nr_i | exact nr_l | exact nr_z0 | exact nr_z1 | exact ft_i | exact ft_l | omega | rfl | assumption | (refine i_ne0 ?_ ?_ ?_ <;> omega) | (refine j_ne0 ?_ ?_ ?_ <;> omega) | (refine i_new ?_ ?_ <;> omega) | (refine bl_t ?_; with_unfolding_all rfl) | exact ft_z0 | exact ft_z1) only [↓reduceIte, q_X11_isPolygon_157, q_X11_isPolygon_158, q_X11_isPolygon_161, q_X11_isPolygon_162, q_X11_isPolygon_164, q_X11_isPolygon_167, q_X11_isPolygon_168, q_X11_isPolygon_171, q_X11_isPolygon_172, q_X11_isPolygon_173, q_X11_isPolygon_176, q_X11_isPolygon_178, q_X11_isPolygon_181, q_X11_isPolygon_182, q_X11_isPolygon_185, q_X11_isPolygon_186, q_X11_isPolygon_188, q_X11_isPolygon_189, q_X11_isPolygon_192, q_X11_isPolygon_194, q_X11_isPolygon_197, q_X11_isPolygon_198, q_X11_isPolygon_199, q_X11_isPolygon_201, q_X11_isPolygon_204, q_X11_isPolygon_207, q_X11_isPolygon_208, q_X11_isPolygon_211, q_X11_isPolygon_212, q_X11_isPolygon_213, q_X11_isPolygon_216, i_add, i_sub, i_mul, i_neg, i_lt, i_le, i_eq, i_tm, i_div, i_j, j_i, j_add, j_sub, j_mul, j_neg, j_lt, j_le, j_eq, j_div, c_lt, c_le, c_gt, c_ge, c_eq, i_nat, rz_k, Nat.add_zero, Nat.zero_add, Nat.add_assoc, Nat.reduceAdd, if_true, if_false, vk_eq hm, eq_false (show ¬ (i : Int) ≤ (j : Int) by omega), k1, k2, km, eq_false (show ¬ ((zp_nx n j : Nat) : Int) = (i : Int) by omega), eq_false (show ¬ ((zp_nx n i : Nat) : Int) = (j : Int) by omega), zb_t, zb_f, Bool.true_and, Bool.not_true, Bool.not_false, Int.reduceEq, not_true_eq_false, not_false_eq_true] <;> rfl
      · rw [Bool.and_eq_true, Bool.not_eq_true']
        exact ⟨fun hb => ⟨hb.1, fun _ _ => hb.2⟩, fun hb => ⟨hb.1, hb.2 c1 c2⟩⟩
    obtain ⟨b1, l81, e1, hb1⟩ := key
    obtain ⟨b2, l7, l82, e2, hb2⟩ := ih (j + 1) b1 l81 (by omega)
    refine ⟨b2, l7, l82, e1.trans e2, hb2.trans ?_⟩
    rw [hb1]
    constructor
    · rintro ⟨⟨a1, a2⟩, a3⟩
      refine ⟨a1, fun k k1 k2 => ?_⟩
      by_cases hk : k = j
      · rw [hk]; exact a2
      · exact a3 k (by omega) k2
    · rintro ⟨a1, a3⟩
      exact ⟨⟨a1, a3 j (Nat.le_refl _) (by omega)⟩, fun k k1 k2 => a3 k (by omega) k2⟩
theorem l_polyg (h : v_rp w x y n) (m : Nat) : ∀ (i : Nat) (b : Bool) (l3 l4 l5 l6 l7 l8 : Option Value), i + m = n → ∃ b' : Bool, rz_G X (d + 3) mz_X11_isPolygon 4 [some (.ref 32), some (.int (Int32.ofInt (zb b))), some (.int (Int32.ofInt (i : Int))), l3, l4, l5, l6, l7, l8] [] w nc ns = some (.inl (some (.int (Int32.ofInt (zb b')))), w, nc, ns) ∧ (b' = true ↔ b = true ∧ ∀ k, i ≤ k → k < n → zc_fold x y n k = false ∧ ∀ j, j < k → zp_nx n j ≠ k → zp_nx n k ≠ j → zc_meet x y n k j = false) := by
  obtain ⟨kp, tl, kd, cl, th, R, S, hm, h44, h45, hn, hr, he⟩ := id h
  induction m with
  | zero =>
    intro i b l3 l4 l5 l6 l7 l8 hi
    refine ⟨b, ?_, ⟨fun hb => ⟨hb, fun k h1 h2 => by omega⟩, fun hb => hb.1⟩⟩
    rw [q_X11_isPolygon_4]
    cases b <;> simp (disch := first | exact nl_i | exact nl_r | exact nl_0 | exact nl_n | exact nl_x | exact kd_r | exact kd_n | exact kd_x | exact kd_o | exact cats0 | exact cats1 | exact cats2 | exact cats3 | exact cats4 | exact nr_i | exact nr_l | exact nr_z0 | exact nr_z1 | exact ft_i | exact ft_l | omega | rfl | assumption | (refine i_ne0 ?_ ?_ ?_ <;> omega) | (refine j_ne0 ?_ ?_ ?_ <;> omega) | (refine i_new ?_ ?_ <;> omega) | (refine bl_t ?_; with_unfolding_all rfl) | exact ft_z0 | exact ft_z1) only [↓reduceIte, q_X11_isPolygon_5, q_X11_isPolygon_6, q_X11_isPolygon_9, q_X11_isPolygon_225, q_X11_isPolygon_226, i_add, i_sub, i_mul, i_neg, i_lt, i_le, i_eq, i_tm, i_div, i_j, j_i, j_add, j_sub, j_mul, j_neg, j_lt, j_le, j_eq, j_div, c_lt, c_le, c_gt, c_ge, c_eq, i_nat, rz_k, Nat.add_zero, Nat.zero_add, Nat.add_assoc, Nat.reduceAdd, if_true, if_false, gf_eq hm, List.getElem?_cons_zero, List.getElem?_cons_succ, eq_true (show (n : Int) ≤ (i : Int) by omega), zb_t, zb_f]
  | succ m ih =>
    intro i b l3 l4 l5 l6 l7 l8 hi
    have hin : i < n := by omega
    have hnx := nx_lt hin
    have hnx2 := nx_lt hnx
    have k1 := y_nx (X := X) (d := d + 2) h hin
    have k2 := y_nx (X := X) (d := d + 2) h hnx
    have kt := y_pturn (X := X) (d := d + 2) h hin hnx hnx2
    have r1 := he i hin
    have r2 := he _ hnx
    have r3 := he _ hnx2
    have b1 := hr i
    have b2 := hr (zp_nx n i)
    have b3 := hr (zp_nx n (zp_nx n i))
    have bt := z_turn_b hr i (zp_nx n i) (zp_nx n (zp_nx n i))
    have hfold : zc_fold x y n i = decide ((x i = x (zp_nx n i) ∧ y i = y (zp_nx n i)) ∨ (zp_turn x y i (zp_nx n i) (zp_nx n (zp_nx n i)) = 0 ∧ (x i - x (zp_nx n i)) * (x (zp_nx n (zp_nx n i)) - x (zp_nx n i)) + (y i - y (zp_nx n i)) * (y (zp_nx n (zp_nx n i)) - y (zp_nx n i)) > 0)) := rfl
    have n3 := z_nmul (a := x i - x (zp_nx n i)) (b := x (zp_nx n (zp_nx n i)) - x (zp_nx n i)) (M := 40) (N := 40) (by omega) (by omega)
    have n4 := z_nmul (a := y i - y (zp_nx n i)) (b := y (zp_nx n (zp_nx n i)) - y (zp_nx n i)) (M := 40) (N := 40) (by omega) (by omega)
    generalize hT : zp_turn x y i (zp_nx n i) (zp_nx n (zp_nx n i)) = T at *
    generalize hD : (x i - x (zp_nx n i)) * (x (zp_nx n (zp_nx n i)) - x (zp_nx n i)) + (y i - y (zp_nx n i)) * (y (zp_nx n (zp_nx n i)) - y (zp_nx n i)) = D at *
    have key : ∃ (l5' : Option Value), rz_G X (d + 3) mz_X11_isPolygon 4 [some (.ref 32), some (.int (Int32.ofInt (zb b))), some (.int (Int32.ofInt (i : Int))), l3, l4, l5, l6, l7, l8] [] w nc ns = rz_G X (d + 3) mz_X11_isPolygon 155 [some (.ref 32), some (.int (Int32.ofInt (zb (b && !zc_fold x y n i)))), some (.int (Int32.ofInt (i : Int))), some (.int (Int32.ofInt ((zp_nx n i : Nat) : Int))), some (.int (Int32.ofInt ((zp_nx n (zp_nx n i) : Nat) : Int))), l5', some (.int (Int32.ofInt D)), some (.int (Int32.ofInt ((0 : Nat) : Int))), l8] [] w nc ns := by
      by_cases c : x i = x (zp_nx n i) ∧ y i = y (zp_nx n i)
      · refine ⟨some (.int (Int32.ofInt 1)), ?_⟩
        rw [hfold, decide_eq_true (.inl c), Bool.not_true, Bool.and_false, zb_f, q_X11_isPolygon_4]
        cases b <;> simp (disch := first | exact nl_i | exact nl_r | exact nl_0 | exact nl_n | exact nl_x | exact kd_r | exact kd_n | exact kd_x | exact kd_o | exact cats0 | exact cats1 | exact cats2 | exact cats3 | exact cats4 | exact nr_i | exact nr_l | exact nr_z0 | exact nr_z1 | exact ft_i | exact ft_l | omega | rfl | assumption | (refine i_ne0 ?_ ?_ ?_ <;> omega) | (refine j_ne0 ?_ ?_ ?_ <;> omega) | (refine i_new ?_ ?_ <;> omega) | (refine bl_t ?_; with_unfolding_all rfl) | exact ft_z0 | exact ft_z1) only [↓reduceIte, q_X11_isPolygon_5, q_X11_isPolygon_6, q_X11_isPolygon_9, q_X11_isPolygon_12, q_X11_isPolygon_13, q_X11_isPolygon_14, q_X11_isPolygon_17, q_X11_isPolygon_18, q_X11_isPolygon_19, q_X11_isPolygon_20, q_X11_isPolygon_23, q_X11_isPolygon_25, q_X11_isPolygon_26, q_X11_isPolygon_29, q_X11_isPolygon_30, q_X11_isPolygon_30x, q_X11_isPolygon_31, q_X11_isPolygon_32, q_X11_isPolygon_35, q_X11_isPolygon_36, q_X11_isPolygon_36x, q_X11_isPolygon_37, q_X11_isPolygon_40, q_X11_isPolygon_41, q_X11_isPolygon_44, q_X11_isPolygon_45, q_X11_isPolygon_45x, q_X11_isPolygon_46, q_X11_isPolygon_47, q_X11_isPolygon_50, q_X11_isPolygon_51, q_X11_isPolygon_51x, q_X11_isPolygon_52, q_X11_isPolygon_55, q_X11_isPolygon_56, q_X11_isPolygon_59, q_X11_isPolygon_60, q_X11_isPolygon_62, q_X11_isPolygon_63, q_X11_isPolygon_66, q_X11_isPolygon_67, q_X11_isPolygon_67x, q_X11_isPolygon_68, q_X11_isPolygon_69, q_X11_isPolygon_72, q_X11_isPolygon_73, q_X11_isPolygon_73x, q_X11_isPolygon_74, q_X11_isPolygon_75, q_X11_isPolygon_76, q_X11_isPolygon_79, q_X11_isPolygon_81, q_X11_isPolygon_81x, q_X11_isPolygon_82, q_X11_isPolygon_83, q_X11_isPolygon_86, q_X11_isPolygon_87, q_X11_isPolygon_87x, q_X11_isPolygon_88, q_X11_isPolygon_89, q_X11_isPolygon_90, q_X11_isPolygon_91, q_X11_isPolygon_94, q_X11_isPolygon_95, q_X11_isPolygon_95x, q_X11_isPolygon_96, q_X11_isPolygon_97, q_X11_isPolygon_100, q_X11_isPolygon_101, q_X11_isPolygon_101x, q_X11_isPolygon_102, q_X11_isPolygon_103, q_X11_isPolygon_104, q_X11_isPolygon_107, q_X11_isPolygon_109, q_X11_isPolygon_109x, q_X11_isPolygon_110, q_X11_isPolygon_111, q_X11_isPolygon_114, q_X11_isPolygon_115, q_X11_isPolygon_115x, q_X11_isPolygon_116, q_X11_isPolygon_117, q_X11_isPolygon_118, q_X11_isPolygon_119, q_X11_isPolygon_121, q_X11_isPolygon_122, q_X11_isPolygon_125, q_X11_isPolygon_127, q_X11_isPolygon_130, q_X11_isPolygon_131, q_X11_isPolygon_132, q_X11_isPolygon_133, q_X11_isPolygon_135, q_X11_isPolygon_138, q_X11_isPolygon_141, q_X11_isPolygon_143, q_X11_isPolygon_146, q_X11_isPolygon_147, q_X11_isPolygon_150, q_X11_isPolygon_151, q_X11_isPolygon_152, q_X11_isPolygon_153, i_add, i_sub, i_mul, i_neg, i_lt, i_le, i_eq, i_tm, i_div, i_j, j_i, j_add, j_sub, j_mul, j_neg, j_lt, j_le, j_eq, j_div, c_lt, c_le, c_gt, c_ge, c_eq, i_nat, rz_k, Nat.add_zero, Nat.zero_add, Nat.add_assoc, Nat.reduceAdd, if_true, if_false, vk_eq hm, gf_eq hm, List.getElem?_cons_zero, List.getElem?_cons_succ, eq_false (show ¬ (n : Int) ≤ (i : Int) by omega), k1, k2, ai_eq h44, ai_eq h45, Int.toNat_natCast, r1, r2, r3, eq_true c.1, eq_true c.2, zb_t, zb_f, Int.reduceEq, not_true_eq_false, not_false_eq_true] <;> (rw [← hD, c.1, c.2]; rfl)
      · have h62 : rz_G X (d + 3) mz_X11_isPolygon 4 [some (.ref 32), some (.int (Int32.ofInt (zb b))), some (.int (Int32.ofInt (i : Int))), l3, l4, l5, l6, l7, l8] [] w nc ns = rz_G X (d + 3) mz_X11_isPolygon 62 [some (.ref 32), some (.int (Int32.ofInt (zb b))), some (.int (Int32.ofInt (i : Int))), some (.int (Int32.ofInt ((zp_nx n i : Nat) : Int))), some (.int (Int32.ofInt ((zp_nx n (zp_nx n i) : Nat) : Int))), some (.int (Int32.ofInt 0)), l6, l7, l8] [] w nc ns := by
          rw [q_X11_isPolygon_4]
          by_cases cx : x i = x (zp_nx n i)
          · simp (disch := first | exact nl_i | exact nl_r | exact nl_0 | exact nl_n | exact nl_x | exact kd_r | exact kd_n | exact kd_x | exact kd_o | exact cats0 | exact cats1 | exact cats2 | exact cats3 | exact cats4 | exact nr_i | exact nr_l | exact nr_z0 | exact nr_z1 | exact ft_i | exact ft_l | omega | rfl | assumption | (refine i_ne0 ?_ ?_ ?_ <;> omega) | (refine j_ne0 ?_ ?_ ?_ <;> omega) | (refine i_new ?_ ?_ <;> omega) | (refine bl_t ?_; with_unfolding_all rfl) | exact ft_z0 | exact ft_z1) only [↓reduceIte, q_X11_isPolygon_5, q_X11_isPolygon_6, q_X11_isPolygon_9, q_X11_isPolygon_12, q_X11_isPolygon_13, q_X11_isPolygon_14, q_X11_isPolygon_17, q_X11_isPolygon_18, q_X11_isPolygon_19, q_X11_isPolygon_20, q_X11_isPolygon_23, q_X11_isPolygon_25, q_X11_isPolygon_26, q_X11_isPolygon_29, q_X11_isPolygon_30, q_X11_isPolygon_30x, q_X11_isPolygon_31, q_X11_isPolygon_32, q_X11_isPolygon_35, q_X11_isPolygon_36, q_X11_isPolygon_36x, q_X11_isPolygon_37, q_X11_isPolygon_40, q_X11_isPolygon_41, q_X11_isPolygon_44, q_X11_isPolygon_45, q_X11_isPolygon_45x, q_X11_isPolygon_46, q_X11_isPolygon_47, q_X11_isPolygon_50, q_X11_isPolygon_51, q_X11_isPolygon_51x, q_X11_isPolygon_52, q_X11_isPolygon_55, q_X11_isPolygon_56, q_X11_isPolygon_59, q_X11_isPolygon_60, i_add, i_sub, i_mul, i_neg, i_lt, i_le, i_eq, i_tm, i_div, i_j, j_i, j_add, j_sub, j_mul, j_neg, j_lt, j_le, j_eq, j_div, c_lt, c_le, c_gt, c_ge, c_eq, i_nat, rz_k, Nat.add_zero, Nat.zero_add, Nat.add_assoc, Nat.reduceAdd, if_true, if_false, vk_eq hm, gf_eq hm, List.getElem?_cons_zero, List.getElem?_cons_succ, eq_false (show ¬ (n : Int) ≤ (i : Int) by omega), k1, k2, ai_eq h44, ai_eq h45, Int.toNat_natCast, r1, r2, r3, eq_true cx, eq_false (show ¬ y i = y (zp_nx n i) from fun cy => c ⟨cx, cy⟩), Int.reduceEq, not_true_eq_false, not_false_eq_true]
          · simp (disch := first | exact nl_i | exact nl_r | exact nl_0 | exact nl_n | exact nl_x | exact kd_r | exact kd_n | exact kd_x | exact kd_o | exact cats0 | exact cats1 | exact cats2 | exact cats3 | exact cats4 | exact nr_i | exact nr_l | exact nr_z0 | exact nr_z1 | exact ft_i | exact ft_l | omega | rfl | assumption | (refine i_ne0 ?_ ?_ ?_ <;> omega) | (refine j_ne0 ?_ ?_ ?_ <;> omega) | (refine i_new ?_ ?_ <;> omega) | (refine bl_t ?_; with_unfolding_all rfl) | exact ft_z0 | exact ft_z1) only [↓reduceIte, q_X11_isPolygon_5, q_X11_isPolygon_6, q_X11_isPolygon_9, q_X11_isPolygon_12, q_X11_isPolygon_13, q_X11_isPolygon_14, q_X11_isPolygon_17, q_X11_isPolygon_18, q_X11_isPolygon_19, q_X11_isPolygon_20, q_X11_isPolygon_23, q_X11_isPolygon_25, q_X11_isPolygon_26, q_X11_isPolygon_29, q_X11_isPolygon_30, q_X11_isPolygon_30x, q_X11_isPolygon_31, q_X11_isPolygon_32, q_X11_isPolygon_35, q_X11_isPolygon_36, q_X11_isPolygon_36x, q_X11_isPolygon_37, q_X11_isPolygon_40, q_X11_isPolygon_41, q_X11_isPolygon_44, q_X11_isPolygon_45, q_X11_isPolygon_45x, q_X11_isPolygon_46, q_X11_isPolygon_47, q_X11_isPolygon_50, q_X11_isPolygon_51, q_X11_isPolygon_51x, q_X11_isPolygon_52, q_X11_isPolygon_55, q_X11_isPolygon_56, q_X11_isPolygon_59, q_X11_isPolygon_60, i_add, i_sub, i_mul, i_neg, i_lt, i_le, i_eq, i_tm, i_div, i_j, j_i, j_add, j_sub, j_mul, j_neg, j_lt, j_le, j_eq, j_div, c_lt, c_le, c_gt, c_ge, c_eq, i_nat, rz_k, Nat.add_zero, Nat.zero_add, Nat.add_assoc, Nat.reduceAdd, if_true, if_false, vk_eq hm, gf_eq hm, List.getElem?_cons_zero, List.getElem?_cons_succ, eq_false (show ¬ (n : Int) ≤ (i : Int) by omega), k1, k2, ai_eq h44, ai_eq h45, Int.toNat_natCast, r1, r2, r3, eq_false cx, Int.reduceEq, not_true_eq_false, not_false_eq_true]
        refine ⟨some (.int (Int32.ofInt 0)), h62.trans ?_⟩
        rw [q_X11_isPolygon_62 kd_r]
        cases b
        · rw [Bool.false_and, zb_f]
          simp (disch := first | exact nl_i | exact nl_r | exact nl_0 | exact nl_n | exact nl_x | exact kd_r | exact kd_n | exact kd_x | exact kd_o | exact cats0 | exact cats1 | exact cats2 | exact cats3 | exact cats4 | exact nr_i | exact nr_l | exact nr_z0 | exact nr_z1 | exact ft_i | exact ft_l | omega | rfl | assumption | (refine i_ne0 ?_ ?_ ?_ <;> omega) | (refine j_ne0 ?_ ?_ ?_ <;> omega) | (refine i_new ?_ ?_ <;> omega) | (refine bl_t ?_; with_unfolding_all rfl) | exact ft_z0 | exact ft_z1) only [↓reduceIte, q_X11_isPolygon_63, q_X11_isPolygon_66, q_X11_isPolygon_67, q_X11_isPolygon_67x, q_X11_isPolygon_68, q_X11_isPolygon_69, q_X11_isPolygon_72, q_X11_isPolygon_73, q_X11_isPolygon_73x, q_X11_isPolygon_74, q_X11_isPolygon_75, q_X11_isPolygon_76, q_X11_isPolygon_79, q_X11_isPolygon_81, q_X11_isPolygon_81x, q_X11_isPolygon_82, q_X11_isPolygon_83, q_X11_isPolygon_86, q_X11_isPolygon_87, q_X11_isPolygon_87x, q_X11_isPolygon_88, q_X11_isPolygon_89, q_X11_isPolygon_90, q_X11_isPolygon_91, q_X11_isPolygon_94, q_X11_isPolygon_95, q_X11_isPolygon_95x, q_X11_isPolygon_96, q_X11_isPolygon_97, q_X11_isPolygon_100, q_X11_isPolygon_101, q_X11_isPolygon_101x, q_X11_isPolygon_102, q_X11_isPolygon_103, q_X11_isPolygon_104, q_X11_isPolygon_107, q_X11_isPolygon_109, q_X11_isPolygon_109x, q_X11_isPolygon_110, q_X11_isPolygon_111, q_X11_isPolygon_114, q_X11_isPolygon_115, q_X11_isPolygon_115x, q_X11_isPolygon_116, q_X11_isPolygon_117, q_X11_isPolygon_118, q_X11_isPolygon_119, q_X11_isPolygon_121, q_X11_isPolygon_122, q_X11_isPolygon_125, q_X11_isPolygon_127, q_X11_isPolygon_130, q_X11_isPolygon_131, q_X11_isPolygon_132, q_X11_isPolygon_133, q_X11_isPolygon_135, q_X11_isPolygon_138, q_X11_isPolygon_141, q_X11_isPolygon_143, q_X11_isPolygon_146, q_X11_isPolygon_147, q_X11_isPolygon_150, q_X11_isPolygon_151, q_X11_isPolygon_152, q_X11_isPolygon_153, i_add, i_sub, i_mul, i_neg, i_lt, i_le, i_eq, i_tm, i_div, i_j, j_i, j_add, j_sub, j_mul, j_neg, j_lt, j_le, j_eq, j_div, c_lt, c_le, c_gt, c_ge, c_eq, i_nat, rz_k, Nat.add_zero, Nat.zero_add, Nat.add_assoc, Nat.reduceAdd, if_true, if_false, vk_eq hm, gf_eq hm, List.getElem?_cons_zero, List.getElem?_cons_succ, ai_eq h44, ai_eq h45, Int.toNat_natCast, r1, r2, r3, hD, Int.reduceEq, not_true_eq_false, not_false_eq_true]
          rfl
        · by_cases h0 : T = 0
          · by_cases h1 : D ≤ 0
            · rw [hfold, decide_eq_false (by omega), Bool.not_false, Bool.true_and, zb_t]
              simp (disch := first | exact nl_i | exact nl_r | exact nl_0 | exact nl_n | exact nl_x | exact kd_r | exact kd_n | exact kd_x | exact kd_o | exact cats0 | exact cats1 | exact cats2 | exact cats3 | exact cats4 | exact nr_i | exact nr_l | exact nr_z0 | exact nr_z1 | exact ft_i | exact ft_l | omega | rfl | assumption | (refine i_ne0 ?_ ?_ ?_ <;> omega) | (refine j_ne0 ?_ ?_ ?_ <;> omega) | (refine i_new ?_ ?_ <;> omega) | (refine bl_t ?_; with_unfolding_all rfl) | exact ft_z0 | exact ft_z1) only [↓reduceIte, q_X11_isPolygon_63, q_X11_isPolygon_66, q_X11_isPolygon_67, q_X11_isPolygon_67x, q_X11_isPolygon_68, q_X11_isPolygon_69, q_X11_isPolygon_72, q_X11_isPolygon_73, q_X11_isPolygon_73x, q_X11_isPolygon_74, q_X11_isPolygon_75, q_X11_isPolygon_76, q_X11_isPolygon_79, q_X11_isPolygon_81, q_X11_isPolygon_81x, q_X11_isPolygon_82, q_X11_isPolygon_83, q_X11_isPolygon_86, q_X11_isPolygon_87, q_X11_isPolygon_87x, q_X11_isPolygon_88, q_X11_isPolygon_89, q_X11_isPolygon_90, q_X11_isPolygon_91, q_X11_isPolygon_94, q_X11_isPolygon_95, q_X11_isPolygon_95x, q_X11_isPolygon_96, q_X11_isPolygon_97, q_X11_isPolygon_100, q_X11_isPolygon_101, q_X11_isPolygon_101x, q_X11_isPolygon_102, q_X11_isPolygon_103, q_X11_isPolygon_104, q_X11_isPolygon_107, q_X11_isPolygon_109, q_X11_isPolygon_109x, q_X11_isPolygon_110, q_X11_isPolygon_111, q_X11_isPolygon_114, q_X11_isPolygon_115, q_X11_isPolygon_115x, q_X11_isPolygon_116, q_X11_isPolygon_117, q_X11_isPolygon_118, q_X11_isPolygon_119, q_X11_isPolygon_121, q_X11_isPolygon_122, q_X11_isPolygon_125, q_X11_isPolygon_127, q_X11_isPolygon_130, q_X11_isPolygon_131, q_X11_isPolygon_132, q_X11_isPolygon_133, q_X11_isPolygon_135, q_X11_isPolygon_138, q_X11_isPolygon_141, q_X11_isPolygon_143, q_X11_isPolygon_146, q_X11_isPolygon_147, q_X11_isPolygon_150, q_X11_isPolygon_151, q_X11_isPolygon_152, q_X11_isPolygon_153, i_add, i_sub, i_mul, i_neg, i_lt, i_le, i_eq, i_tm, i_div, i_j, j_i, j_add, j_sub, j_mul, j_neg, j_lt, j_le, j_eq, j_div, c_lt, c_le, c_gt, c_ge, c_eq, i_nat, rz_k, Nat.add_zero, Nat.zero_add, Nat.add_assoc, Nat.reduceAdd, if_true, if_false, vk_eq hm, gf_eq hm, List.getElem?_cons_zero, List.getElem?_cons_succ, ai_eq h44, ai_eq h45, Int.toNat_natCast, r1, r2, r3, hD, kt, eq_true h0, eq_false (show ¬ 0 < D by omega), Int.reduceEq, not_true_eq_false, not_false_eq_true]
              rfl
            · rw [hfold, decide_eq_true (by omega), Bool.not_true, Bool.and_false, zb_t, zb_f]
              simp (disch := first | exact nl_i | exact nl_r | exact nl_0 | exact nl_n | exact nl_x | exact kd_r | exact kd_n | exact kd_x | exact kd_o | exact cats0 | exact cats1 | exact cats2 | exact cats3 | exact cats4 | exact nr_i | exact nr_l | exact nr_z0 | exact nr_z1 | exact ft_i | exact ft_l | omega | rfl | assumption | (refine i_ne0 ?_ ?_ ?_ <;> omega) | (refine j_ne0 ?_ ?_ ?_ <;> omega) | (refine i_new ?_ ?_ <;> omega) | (refine bl_t ?_; with_unfolding_all rfl) | exact ft_z0 | exact ft_z1) only [↓reduceIte, q_X11_isPolygon_63, q_X11_isPolygon_66, q_X11_isPolygon_67, q_X11_isPolygon_67x, q_X11_isPolygon_68, q_X11_isPolygon_69, q_X11_isPolygon_72, q_X11_isPolygon_73, q_X11_isPolygon_73x, q_X11_isPolygon_74, q_X11_isPolygon_75, q_X11_isPolygon_76, q_X11_isPolygon_79, q_X11_isPolygon_81, q_X11_isPolygon_81x, q_X11_isPolygon_82, q_X11_isPolygon_83, q_X11_isPolygon_86, q_X11_isPolygon_87, q_X11_isPolygon_87x, q_X11_isPolygon_88, q_X11_isPolygon_89, q_X11_isPolygon_90, q_X11_isPolygon_91, q_X11_isPolygon_94, q_X11_isPolygon_95, q_X11_isPolygon_95x, q_X11_isPolygon_96, q_X11_isPolygon_97, q_X11_isPolygon_100, q_X11_isPolygon_101, q_X11_isPolygon_101x, q_X11_isPolygon_102, q_X11_isPolygon_103, q_X11_isPolygon_104, q_X11_isPolygon_107, q_X11_isPolygon_109, q_X11_isPolygon_109x, q_X11_isPolygon_110, q_X11_isPolygon_111, q_X11_isPolygon_114, q_X11_isPolygon_115, q_X11_isPolygon_115x, q_X11_isPolygon_116, q_X11_isPolygon_117, q_X11_isPolygon_118, q_X11_isPolygon_119, q_X11_isPolygon_121, q_X11_isPolygon_122, q_X11_isPolygon_125, q_X11_isPolygon_127, q_X11_isPolygon_130, q_X11_isPolygon_131, q_X11_isPolygon_132, q_X11_isPolygon_133, q_X11_isPolygon_135, q_X11_isPolygon_138, q_X11_isPolygon_141, q_X11_isPolygon_143, q_X11_isPolygon_146, q_X11_isPolygon_147, q_X11_isPolygon_150, q_X11_isPolygon_151, q_X11_isPolygon_152, q_X11_isPolygon_153, i_add, i_sub, i_mul, i_neg, i_lt, i_le, i_eq, i_tm, i_div, i_j, j_i, j_add, j_sub, j_mul, j_neg, j_lt, j_le, j_eq, j_div, c_lt, c_le, c_gt, c_ge, c_eq, i_nat, rz_k, Nat.add_zero, Nat.zero_add, Nat.add_assoc, Nat.reduceAdd, if_true, if_false, vk_eq hm, gf_eq hm, List.getElem?_cons_zero, List.getElem?_cons_succ, ai_eq h44, ai_eq h45, Int.toNat_natCast, r1, r2, r3, hD, kt, eq_true h0, eq_true (show 0 < D by omega), Int.reduceEq, not_true_eq_false, not_false_eq_true]
              rfl
          · rw [hfold, decide_eq_false (by omega), Bool.not_false, Bool.true_and, zb_t]
            simp (disch := first | exact nl_i | exact nl_r | exact nl_0 | exact nl_n | exact nl_x | exact kd_r | exact kd_n | exact kd_x | exact kd_o | exact cats0 | exact cats1 | exact cats2 | exact cats3 | exact cats4 | exact nr_i | exact nr_l | exact nr_z0 | exact nr_z1 | exact ft_i | exact ft_l | omega | rfl | assumption | (refine i_ne0 ?_ ?_ ?_ <;> omega) | (refine j_ne0 ?_ ?_ ?_ <;> omega) | (refine i_new ?_ ?_ <;> omega) | (refine bl_t ?_; with_unfolding_all rfl) | exact ft_z0 | exact ft_z1) only [↓reduceIte, q_X11_isPolygon_63, q_X11_isPolygon_66, q_X11_isPolygon_67, q_X11_isPolygon_67x, q_X11_isPolygon_68, q_X11_isPolygon_69, q_X11_isPolygon_72, q_X11_isPolygon_73, q_X11_isPolygon_73x, q_X11_isPolygon_74, q_X11_isPolygon_75, q_X11_isPolygon_76, q_X11_isPolygon_79, q_X11_isPolygon_81, q_X11_isPolygon_81x, q_X11_isPolygon_82, q_X11_isPolygon_83, q_X11_isPolygon_86, q_X11_isPolygon_87, q_X11_isPolygon_87x, q_X11_isPolygon_88, q_X11_isPolygon_89, q_X11_isPolygon_90, q_X11_isPolygon_91, q_X11_isPolygon_94, q_X11_isPolygon_95, q_X11_isPolygon_95x, q_X11_isPolygon_96, q_X11_isPolygon_97, q_X11_isPolygon_100, q_X11_isPolygon_101, q_X11_isPolygon_101x, q_X11_isPolygon_102, q_X11_isPolygon_103, q_X11_isPolygon_104, q_X11_isPolygon_107, q_X11_isPolygon_109, q_X11_isPolygon_109x, q_X11_isPolygon_110, q_X11_isPolygon_111, q_X11_isPolygon_114, q_X11_isPolygon_115, q_X11_isPolygon_115x, q_X11_isPolygon_116, q_X11_isPolygon_117, q_X11_isPolygon_118, q_X11_isPolygon_119, q_X11_isPolygon_121, q_X11_isPolygon_122, q_X11_isPolygon_125, q_X11_isPolygon_127, q_X11_isPolygon_130, q_X11_isPolygon_131, q_X11_isPolygon_132, q_X11_isPolygon_133, q_X11_isPolygon_135, q_X11_isPolygon_138, q_X11_isPolygon_141, q_X11_isPolygon_143, q_X11_isPolygon_146, q_X11_isPolygon_147, q_X11_isPolygon_150, q_X11_isPolygon_151, q_X11_isPolygon_152, q_X11_isPolygon_153, i_add, i_sub, i_mul, i_neg, i_lt, i_le, i_eq, i_tm, i_div, i_j, j_i, j_add, j_sub, j_mul, j_neg, j_lt, j_le, j_eq, j_div, c_lt, c_le, c_gt, c_ge, c_eq, i_nat, rz_k, Nat.add_zero, Nat.zero_add, Nat.add_assoc, Nat.reduceAdd, if_true, if_false, vk_eq hm, gf_eq hm, List.getElem?_cons_zero, List.getElem?_cons_succ, ai_eq h44, ai_eq h45, Int.toNat_natCast, r1, r2, r3, hD, kt, eq_false h0, Int.reduceEq, not_true_eq_false, not_false_eq_true]
            rfl
    obtain ⟨l5', e1⟩ := key
    obtain ⟨b2, l7', l8', e2, hb2⟩ := l_qrow (X := X) (d := d) (nc := nc) (ns := ns) (l3 := some (.int (Int32.ofInt ((zp_nx n i : Nat) : Int)))) (l4 := some (.int (Int32.ofInt ((zp_nx n (zp_nx n i) : Nat) : Int)))) (l5 := l5') (q6 := Int32.ofInt D) h hin i 0 (b && !zc_fold x y n i) l8 (by omega)
    obtain ⟨b3, e3, hb3⟩ := ih (i + 1) b2 (some (.int (Int32.ofInt ((zp_nx n i : Nat) : Int)))) (some (.int (Int32.ofInt ((zp_nx n (zp_nx n i) : Nat) : Int)))) l5' (some (.int (Int32.ofInt D))) l7' l8' (by omega)
    refine ⟨b3, ?_, hb3.trans ?_⟩
    · rw [e1, e2, ← e3, q_X11_isPolygon_219 nl_i]
      simp (disch := first | exact nl_i | exact nl_r | exact nl_0 | exact nl_n | exact nl_x | exact kd_r | exact kd_n | exact kd_x | exact kd_o | exact cats0 | exact cats1 | exact cats2 | exact cats3 | exact cats4 | exact nr_i | exact nr_l | exact nr_z0 | exact nr_z1 | exact ft_i | exact ft_l | omega | rfl | assumption | (refine i_ne0 ?_ ?_ ?_ <;> omega) | (refine j_ne0 ?_ ?_ ?_ <;> omega) | (refine i_new ?_ ?_ <;> omega) | (refine bl_t ?_; with_unfolding_all rfl) | exact ft_z0 | exact ft_z1) only [q_X11_isPolygon_222, i_add, i_sub, i_mul, i_neg, i_lt, i_le, i_eq, i_tm, i_div, i_j, j_i, j_add, j_sub, j_mul, j_neg, j_lt, j_le, j_eq, j_div, c_lt, c_le, c_gt, c_ge, c_eq, i_nat, rz_k, Nat.add_zero, Nat.zero_add, Nat.add_assoc, Nat.reduceAdd, if_true, if_false]
      rfl
    · rw [hb2, Bool.and_eq_true, Bool.not_eq_true']
      constructor
      · rintro ⟨⟨⟨a1, a2⟩, a3⟩, a4⟩
        refine ⟨a1, fun k k1 k2 => ?_⟩
        by_cases hk : k = i
        · rw [hk]; exact ⟨a2, fun j hj => a3 j (Nat.zero_le _) hj⟩
        · exact a4 k (by omega) k2
      · rintro ⟨a1, a4⟩
        exact ⟨⟨⟨a1, (a4 i (Nat.le_refl _) hin).1⟩, fun j _ hj => (a4 i (Nat.le_refl _) hin).2 j hj⟩, fun k k1 k2 => a4 k (by omega) k2⟩
theorem zc_ok2 : zp_ok x y n ↔ ∀ k, k < n → zc_fold x y n k = false ∧ ∀ j, j < k → zp_nx n j ≠ k → zp_nx n k ≠ j → zc_meet x y n k j = false := by
  unfold zp_ok
  constructor
  · rintro ⟨h1, h2⟩ k hk
    refine ⟨?_, fun j hj hn hnk => ?_⟩
    · cases hf : zc_fold x y n k
      · rfl
      · exact absurd (zc_fold_iff.mp hf) (h1 k hk)
    · rw [zc_sym]
      cases hf : zc_meet x y n j k
      · rfl
      · exact absurd (zc_meet_iff.mp hf) (h2 j k hj hk hn hnk)
  · intro H
    refine ⟨fun i hi c => ?_, fun i j hij hj hne hne2 c => ?_⟩
    · have := (H i hi).1
      rw [zc_fold_iff.mpr c] at this
      cases this
    · have := (H j hj).2 i hij hne hne2
      rw [zc_sym, zc_meet_iff.mpr c] at this
      cases this
theorem y_polyg (h : v_rp w x y n) : ∃ b : Bool, rz_ex X (d + 4) 234 [.ref 32] w = some (.inl (some (.int (Int32.ofInt (zb b)))), w, 0, 0) ∧ (b = true ↔ zp_ok x y n) := by
  obtain ⟨b, e, hb⟩ := l_polyg (X := X) (d := d) (nc := 0) (ns := 0) h n 0 true none none none none none none (by omega)
  refine ⟨b, ?_, hb.trans ⟨fun H => zc_ok2.mpr (fun k hk => H.2 k (Nat.zero_le _) hk), fun H => ⟨rfl, fun k _ hk => zc_ok2.mp H k hk⟩⟩⟩
  rw [← e]
  simp (disch := first | exact nl_i | exact nl_r | exact nl_0 | exact nl_n | exact nl_x | exact kd_r | exact kd_n | exact kd_x | exact kd_o | exact cats0 | exact cats1 | exact cats2 | exact cats3 | exact cats4 | exact nr_i | exact nr_l | exact nr_z0 | exact nr_z1 | exact ft_i | exact ft_l | omega | rfl | assumption | (refine i_ne0 ?_ ?_ ?_ <;> omega) | (refine j_ne0 ?_ ?_ ?_ <;> omega) | (refine i_new ?_ ?_ <;> omega) | (refine bl_t ?_; with_unfolding_all rfl) | exact ft_z0 | exact ft_z1) only [n_X11_isPolygon, q_X11_isPolygon_0, q_X11_isPolygon_1, q_X11_isPolygon_2, q_X11_isPolygon_3, i_add, i_sub, i_mul, i_neg, i_lt, i_le, i_eq, i_tm, i_div, i_j, j_i, j_add, j_sub, j_mul, j_neg, j_lt, j_le, j_eq, j_div, c_lt, c_le, c_gt, c_ge, c_eq, i_nat, rz_k, Nat.add_zero, Nat.zero_add, Nat.add_assoc, Nat.reduceAdd, if_true, if_false, zb_t]
  rfl
end RZWN
