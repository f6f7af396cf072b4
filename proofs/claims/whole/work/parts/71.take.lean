/-! part 71: level 2: the class's purse takes coins -/
section RZTK
variable {X : rz_X} {d : Nat} {w : rz_W} {nc ns : Nat} {kp tl kd ty cl th : Int}
theorem l_kind {v : Nat → Nat} {j : Nat} {a b c : Int32} (hv : 2 ≤ v j ∧ v j ≤ 50) (hv1 : ∀ k, k < j + 1 → 1 ≤ v k) (m : Nat) : ∀ (t : Nat) (w : rz_W) (F Y : Nat → Int32) (l3 : Option Value), t + m = 2501 → v j ≤ t → v_ob w 14 7 [.int a, .int b, .int c, .ref 15, .ref 16, .ref 17] → v_ia w 16 2501 F → v_ia w 17 2501 Y → (∀ s, s ≤ 2500 → F s = Int32.ofInt (if s < t then zf_G v (j + 1) s else zf_G v j s) ∧ Y s = Int32.ofInt (if s < t then zf_W v (j + 1) s else zf_W v j s : Nat)) → ∃ (w' : rz_W) (F' Y' : Nat → Int32), rz_G X d mz_X7_addKind 8 [some (.ref 14), some (.int (Int32.ofInt (v j))), some (.int (Int32.ofInt t)), l3] [] w nc ns = some (.inl none, w', nc, ns) ∧ rz_fr [16, 17] w w' ∧ v_ia w' 16 2501 F' ∧ v_ia w' 17 2501 Y' ∧ ∀ s, s ≤ 2500 → F' s = Int32.ofInt (zf_G v (j + 1) s) ∧ Y' s = Int32.ofInt (zf_W v (j + 1) s) := by
  induction m with
  | zero =>
    intro t w F Y l3 ht hvt h14 h16 h17 hI
    obtain rfl : t = 2501 := ht
    refine ⟨w, F, Y, ?_, fr_refl, h16, h17, fun s hs => ?_⟩
    · rw [q_X7_addKind_8]
      simp (disch := first | exact nl_i | exact nl_r | exact nl_0 | exact nl_n | exact nl_x | exact kd_r | exact kd_n | exact kd_x | exact kd_o | exact cats0 | exact cats1 | exact cats2 | exact cats3 | exact cats4 | exact nr_i | exact nr_l | exact nr_z0 | exact nr_z1 | exact ft_i | exact ft_l | omega | rfl | assumption | (refine i_ne0 ?_ ?_ ?_ <;> omega) | (refine j_ne0 ?_ ?_ ?_ <;> omega) | (refine i_new ?_ ?_ <;> omega) | (refine bl_t ?_; with_unfolding_all rfl) | exact ft_z0 | exact ft_z1) only [q_X7_addKind_9, q_X7_addKind_12, q_X7_addKind_81, i_add, i_sub, i_mul, i_neg, i_lt, i_le, i_eq, i_tm, i_div, i_j, j_i, j_add, j_sub, j_mul, j_neg, j_lt, j_le, j_eq, j_div, c_lt, c_le, c_gt, c_ge, c_eq, i_nat, rz_k, Nat.add_zero, Nat.zero_add, Nat.add_assoc, Nat.reduceAdd, if_true, if_false]
      rw [if_pos (by omega)]
    · have := hI s hs
      rw [if_pos (by omega), if_pos (by omega)] at this
      exact this
  | succ m ih =>
    intro t w F Y l3 ht hvt h14 h16 h17 hI
    have e1 : ((t : Int) - (v j : Int)).toNat = t - v j := by omega
    obtain ⟨f1, y1⟩ := hI t (by omega)
    obtain ⟨f2, y2⟩ := hI (t - v j) (by omega)
    rw [if_neg (by omega)] at f1 y1
    rw [if_pos (by omega)] at f2 y2
    have hGs : zf_G v (j + 1) t = zf_bst (zf_G v j t) (zf_G v (j + 1) (t - v j)) := by rw [zf_G_step (by omega), if_neg (by omega)]
    have hWs : zf_W v (j + 1) t = zf_W v j t + zf_W v (j + 1) (t - v j) := by rw [zf_W_step (by omega), if_neg (by omega)]
    have gb1 := zf_G_b (n := j) (s := t) (fun k hk => hv1 k (by omega))
    have gb2 := zf_G_b (n := j + 1) (s := t - v j) hv1
    have hWc : ((zf_W v j t : Nat) : Int) + ((zf_W v (j + 1) (t - v j) : Nat) : Int) = ((zf_W v (j + 1) t : Nat) : Int) := by rw [hWs]; omega
    generalize hw1 : w.set 17 (.inl (.int, 2501, .inl (upd Y t (Int32.ofInt (zf_W v (j + 1) t))))) = w1
    have fr1 : rz_fr [17] w w1 := by rw [← hw1]; exact fr_set (by decide)
    have k17 : v_ia w1 17 2501 (upd Y t (Int32.ofInt (zf_W v (j + 1) t))) := by rw [← hw1]; exact w_eq (w_lt h17)
    have k14 : v_ob w1 14 7 [.int a, .int b, .int c, .ref 15, .ref 16, .ref 17] := fr_get fr1 (by decide) h14
    have k16 : v_ia w1 16 2501 F := fr_get fr1 (by decide) h16
    have hYs : ∀ s, s ≤ 2500 → upd Y t (Int32.ofInt (zf_W v (j + 1) t)) s = Int32.ofInt (if s < t + 1 then zf_W v (j + 1) s else zf_W v j s : Nat) := by
      intro s hs
      by_cases hst : s = t
      · rw [hst, upd_eq, if_pos (by omega)]
      · rw [upd_ne hst, (hI s hs).2]
        by_cases h : s < t
        · rw [if_pos h, if_pos (by omega)]
        · rw [if_neg h, if_neg (by omega)]
    have hFs : ∀ F2 : Nat → Int32, F2 t = Int32.ofInt (zf_G v (j + 1) t) → (∀ s, s ≠ t → F2 s = F s) → ∀ s, s ≤ 2500 → F2 s = Int32.ofInt (if s < t + 1 then zf_G v (j + 1) s else zf_G v j s) := by
      intro F2 h1 h2 s hs
      by_cases hst : s = t
      · rw [hst, h1, if_pos (by omega)]
      · rw [h2 s hst, (hI s hs).1]
        by_cases h : s < t
        · rw [if_pos h, if_pos (by omega)]
        · rw [if_neg h, if_neg (by omega)]
    generalize hR : zf_G v j t = R at *
    generalize hG : zf_G v (j + 1) (t - v j) = G at *
    by_cases hb : ¬ G < 0 ∧ (R < 0 ∨ G + 1 < R)
    · have hres : zf_G v (j + 1) t = G + 1 := by rw [hGs]; unfold zf_bst; rw [if_neg hb.1, if_pos hb.2]
      generalize hw2 : w1.set 16 (.inl (.int, 2501, .inl (upd F t (Int32.ofInt (G + 1))))) = w2
      have fr2 : rz_fr [16] w1 w2 := by rw [← hw2]; exact fr_set (by decide)
      have m16 : v_ia w2 16 2501 (upd F t (Int32.ofInt (G + 1))) := by rw [← hw2]; exact w_eq (w_lt k16)
      obtain ⟨w', F', Y', e, f, r⟩ := ih (t + 1) w2 _ _ (some (.int (Int32.ofInt G))) (by omega) (by omega) (fr_get fr2 (by decide) k14) m16 (fr_get fr2 (by decide) k17) (fun s hs => ⟨hFs _ (by rw [upd_eq, hres]) (fun s h => upd_ne h) s hs, hYs s hs⟩)
      refine ⟨w', F', Y', ?_, fr_trans (fr_trans (fr_sub fr1 (by decide)) (fr_sub fr2 (by decide))) f, r⟩
      rw [← e, q_X7_addKind_8]
      simp (disch := first | exact nl_i | exact nl_r | exact nl_0 | exact nl_n | exact nl_x | exact kd_r | exact kd_n | exact kd_x | exact kd_o | exact cats0 | exact cats1 | exact cats2 | exact cats3 | exact cats4 | exact nr_i | exact nr_l | exact nr_z0 | exact nr_z1 | exact ft_i | exact ft_l | omega | rfl | assumption | (refine i_ne0 ?_ ?_ ?_ <;> omega) | (refine j_ne0 ?_ ?_ ?_ <;> omega) | (refine i_new ?_ ?_ <;> omega) | (refine bl_t ?_; with_unfolding_all rfl) | exact ft_z0 | exact ft_z1) only [n_X7_addKind, q_X7_addKind_9, q_X7_addKind_12, q_X7_addKind_15, q_X7_addKind_16, q_X7_addKind_19, q_X7_addKind_20, q_X7_addKind_20r, q_X7_addKind_21, q_X7_addKind_21x, q_X7_addKind_22, q_X7_addKind_23, q_X7_addKind_26, q_X7_addKind_27, q_X7_addKind_28, q_X7_addKind_29, q_X7_addKind_29x, q_X7_addKind_30, q_X7_addKind_31, q_X7_addKind_32, q_X7_addKind_33, q_X7_addKind_36, q_X7_addKind_37, q_X7_addKind_38, q_X7_addKind_39, q_X7_addKind_39x, q_X7_addKind_40, q_X7_addKind_41, q_X7_addKind_42, q_X7_addKind_45, q_X7_addKind_46, q_X7_addKind_49, q_X7_addKind_50, q_X7_addKind_50x, q_X7_addKind_51, q_X7_addKind_54, q_X7_addKind_55, q_X7_addKind_56, q_X7_addKind_57, q_X7_addKind_58, q_X7_addKind_61, q_X7_addKind_62, q_X7_addKind_62x, q_X7_addKind_63, q_X7_addKind_66, q_X7_addKind_67, q_X7_addKind_70, q_X7_addKind_71, q_X7_addKind_72, q_X7_addKind_73, q_X7_addKind_74, q_X7_addKind_75, q_X7_addKind_78, i_add, i_sub, i_mul, i_neg, i_lt, i_le, i_eq, i_tm, i_div, i_j, j_i, j_add, j_sub, j_mul, j_neg, j_lt, j_le, j_eq, j_div, c_lt, c_le, c_gt, c_ge, c_eq, i_nat, rz_k, Nat.add_zero, Nat.zero_add, Nat.add_assoc, Nat.reduceAdd, if_true, if_false, gf_eq h14, List.getElem?_cons_zero, List.getElem?_cons_succ, ai_eq h17, Int.toNat_natCast, y1, e1, y2, hWc, si_eq h17, hw1, gf_eq k14, ai_eq k16, f2, f1, si_eq k16, hw2]
      rw [if_neg (by omega), if_neg (by omega)]
      by_cases hR0 : R < 0
      · rw [if_pos hR0]
        rfl
      · rw [if_neg hR0, if_neg (by omega)]
        rfl
    · have hres : zf_G v (j + 1) t = R := by
        rw [hGs]
        unfold zf_bst
        by_cases hG0 : G < 0
        · rw [if_pos hG0]
        · rw [if_neg hG0, if_neg (fun c => hb ⟨hG0, c⟩)]
      obtain ⟨w', F', Y', e, f, r⟩ := ih (t + 1) w1 F _ (some (.int (Int32.ofInt G))) (by omega) (by omega) k14 k16 k17 (fun s hs => ⟨hFs F (by rw [f1, hres]) (fun _ _ => rfl) s hs, hYs s hs⟩)
      refine ⟨w', F', Y', ?_, fr_trans (fr_sub fr1 (by decide)) f, r⟩
      rw [← e, q_X7_addKind_8]
      simp (disch := first | exact nl_i | exact nl_r | exact nl_0 | exact nl_n | exact nl_x | exact kd_r | exact kd_n | exact kd_x | exact kd_o | exact cats0 | exact cats1 | exact cats2 | exact cats3 | exact cats4 | exact nr_i | exact nr_l | exact nr_z0 | exact nr_z1 | exact ft_i | exact ft_l | omega | rfl | assumption | (refine i_ne0 ?_ ?_ ?_ <;> omega) | (refine j_ne0 ?_ ?_ ?_ <;> omega) | (refine i_new ?_ ?_ <;> omega) | (refine bl_t ?_; with_unfolding_all rfl) | exact ft_z0 | exact ft_z1) only [n_X7_addKind, q_X7_addKind_9, q_X7_addKind_12, q_X7_addKind_15, q_X7_addKind_16, q_X7_addKind_19, q_X7_addKind_20, q_X7_addKind_20r, q_X7_addKind_21, q_X7_addKind_21x, q_X7_addKind_22, q_X7_addKind_23, q_X7_addKind_26, q_X7_addKind_27, q_X7_addKind_28, q_X7_addKind_29, q_X7_addKind_29x, q_X7_addKind_30, q_X7_addKind_31, q_X7_addKind_32, q_X7_addKind_33, q_X7_addKind_36, q_X7_addKind_37, q_X7_addKind_38, q_X7_addKind_39, q_X7_addKind_39x, q_X7_addKind_40, q_X7_addKind_41, q_X7_addKind_42, q_X7_addKind_45, q_X7_addKind_46, q_X7_addKind_49, q_X7_addKind_50, q_X7_addKind_50x, q_X7_addKind_51, q_X7_addKind_54, q_X7_addKind_55, q_X7_addKind_56, q_X7_addKind_57, q_X7_addKind_58, q_X7_addKind_61, q_X7_addKind_62, q_X7_addKind_62x, q_X7_addKind_63, q_X7_addKind_66, q_X7_addKind_67, q_X7_addKind_70, q_X7_addKind_71, q_X7_addKind_72, q_X7_addKind_73, q_X7_addKind_74, q_X7_addKind_75, q_X7_addKind_78, i_add, i_sub, i_mul, i_neg, i_lt, i_le, i_eq, i_tm, i_div, i_j, j_i, j_add, j_sub, j_mul, j_neg, j_lt, j_le, j_eq, j_div, c_lt, c_le, c_gt, c_ge, c_eq, i_nat, rz_k, Nat.add_zero, Nat.zero_add, Nat.add_assoc, Nat.reduceAdd, if_true, if_false, gf_eq h14, List.getElem?_cons_zero, List.getElem?_cons_succ, ai_eq h17, Int.toNat_natCast, y1, e1, y2, hWc, si_eq h17, hw1, gf_eq k14, ai_eq k16, f2, f1]
      rw [if_neg (by omega)]
      by_cases hG0 : G < 0
      · rw [if_pos hG0]
        rfl
      · rw [if_neg hG0, if_neg (by omega), if_pos (by omega)]
        rfl
theorem x_addKind {v : Nat → Nat} {j : Nat} {a b c : Int32} {F Y : Nat → Int32} (hv : 2 ≤ v j ∧ v j ≤ 50) (hv1 : ∀ k, k < j + 1 → 1 ≤ v k) (h14 : v_ob w 14 7 [.int a, .int b, .int c, .ref 15, .ref 16, .ref 17]) (h16 : v_ia w 16 2501 F) (h17 : v_ia w 17 2501 Y) (hI : ∀ s, s ≤ 2500 → F s = Int32.ofInt (zf_G v j s) ∧ Y s = Int32.ofInt (zf_W v j s)) : ∃ (w' : rz_W) (F' Y' : Nat → Int32), rz_ex X (d + 1) 82 [.ref 14, .int (Int32.ofInt (v j))] w = some (.inl none, w', 0, 0) ∧ rz_fr [16, 17] w w' ∧ v_ia w' 16 2501 F' ∧ v_ia w' 17 2501 Y' ∧ ∀ s, s ≤ 2500 → F' s = Int32.ofInt (zf_G v (j + 1) s) ∧ Y' s = Int32.ofInt (zf_W v (j + 1) s) := by
  obtain ⟨w', F', Y', e, r⟩ := l_kind (X := X) (d := d) (nc := 0) (ns := 0) (a := a) (b := b) (c := c) hv hv1 (2501 - v j) (v j) w F Y none (by omega) (Nat.le_refl _) h14 h16 h17 (fun s hs => by
    obtain ⟨h1, h2⟩ := hI s hs
    rw [h1, h2]
    by_cases h : s < v j
    · rw [if_pos h, if_pos h, zf_G_step (by omega), if_pos h, zf_W_step (by omega), if_pos h]
      exact ⟨rfl, rfl⟩
    · rw [if_neg h, if_neg h]
      exact ⟨rfl, rfl⟩)
  refine ⟨w', F', Y', ?_, r⟩
  simp (disch := first | exact nl_i | exact nl_r | exact nl_0 | exact nl_n | exact nl_x | exact kd_r | exact kd_n | exact kd_x | exact kd_o | exact cats0 | exact cats1 | exact cats2 | exact cats3 | exact cats4 | exact nr_i | exact nr_l | exact nr_z0 | exact nr_z1 | exact ft_i | exact ft_l | omega | rfl | assumption | (refine i_ne0 ?_ ?_ ?_ <;> omega) | (refine j_ne0 ?_ ?_ ?_ <;> omega) | (refine i_new ?_ ?_ <;> omega) | (refine bl_t ?_; with_unfolding_all rfl) | exact ft_z0 | exact ft_z1) only [n_X7_addKind, q_X7_addKind_0, q_X7_addKind_1, q_X7_addKind_2, q_X7_addKind_6, q_X7_addKind_7, i_add, i_sub, i_mul, i_neg, i_lt, i_le, i_eq, i_tm, i_div, i_j, j_i, j_add, j_sub, j_mul, j_neg, j_lt, j_le, j_eq, j_div, c_lt, c_le, c_gt, c_ge, c_eq, i_nat, rz_k, Nat.add_zero, Nat.zero_add, Nat.add_assoc, Nat.reduceAdd, if_true, if_false]
  rw [if_pos (by omega)]
  exact e
/-- countLacks -/
theorem l_countLacks {g : Nat → Int} {F : Nat → Int32} {a : Int32} (hg : ∀ s, s ≤ 2500 → F s = Int32.ofInt (g s) ∧ -1 ≤ g s ∧ g s ≤ 2500) (m : Nat) : ∀ (t : Nat) (w : rz_W), t + m = 2501 → v_ob w 14 7 [.int a, .int (Int32.ofInt (zf_ll g t : Nat)), .int (Int32.ofInt (zf_lk g t : Nat)), .ref 15, .ref 16, .ref 17] → v_ia w 16 2501 F → ∃ w', rz_G X d mz_X7_countLacks 12 [some (.ref 14), some (.int (Int32.ofInt t))] [] w nc ns = some (.inl none, w', nc, ns) ∧ rz_fr [14] w w' ∧ v_ob w' 14 7 [.int a, .int (Int32.ofInt (zf_ll g 2501 : Nat)), .int (Int32.ofInt (zf_lk g 2501 : Nat)), .ref 15, .ref 16, .ref 17] := by
  induction m with
  | zero =>
    intro t w ht h14 h16
    obtain rfl : t = 2501 := ht
    refine ⟨w, ?_, fr_refl, h14⟩
    rw [q_X7_countLacks_12]
    simp (disch := first | exact nl_i | exact nl_r | exact nl_0 | exact nl_n | exact nl_x | exact kd_r | exact kd_n | exact kd_x | exact kd_o | exact cats0 | exact cats1 | exact cats2 | exact cats3 | exact cats4 | exact nr_i | exact nr_l | exact nr_z0 | exact nr_z1 | exact ft_i | exact ft_l | omega | rfl | assumption | (refine i_ne0 ?_ ?_ ?_ <;> omega) | (refine j_ne0 ?_ ?_ ?_ <;> omega) | (refine i_new ?_ ?_ <;> omega) | (refine bl_t ?_; with_unfolding_all rfl) | exact ft_z0 | exact ft_z1) only [q_X7_countLacks_13, q_X7_countLacks_16, q_X7_countLacks_49, i_add, i_sub, i_mul, i_neg, i_lt, i_le, i_eq, i_tm, i_div, i_j, j_i, j_add, j_sub, j_mul, j_neg, j_lt, j_le, j_eq, j_div, c_lt, c_le, c_gt, c_ge, c_eq, i_nat, rz_k, Nat.add_zero, Nat.zero_add, Nat.add_assoc, Nat.reduceAdd, if_true, if_false]
    rw [if_pos (by omega)]
  | succ m ih =>
    intro t w ht h14 h16
    obtain ⟨h1, h2, h3⟩ := hg t (by omega)
    by_cases hneg : g t < 0
    · generalize hw1 : w.set 14 (.inr (7, [.int a, .int (Int32.ofInt t), .int (Int32.ofInt (zf_lk g t : Nat)), .ref 15, .ref 16, .ref 17])) = w1
      have k14 : v_ob w1 14 7 [.int a, .int (Int32.ofInt t), .int (Int32.ofInt (zf_lk g t : Nat)), .ref 15, .ref 16, .ref 17] := by rw [← hw1]; exact w_eq (w_lt h14)
      generalize hw2 : w1.set 14 (.inr (7, [.int a, .int (Int32.ofInt t), .int (Int32.ofInt ((zf_lk g t : Nat) + 1)), .ref 15, .ref 16, .ref 17])) = w2
      have f1 : rz_fr [14] w w1 := by rw [← hw1]; exact fr_set (by decide)
      have f2 : rz_fr [14] w1 w2 := by rw [← hw2]; exact fr_set (by decide)
      have m14 : v_ob w2 14 7 [.int a, .int (Int32.ofInt t), .int (Int32.ofInt ((zf_lk g t : Nat) + 1)), .ref 15, .ref 16, .ref 17] := by rw [← hw2]; exact w_eq (w_lt k14)
      obtain ⟨w', e, f, r⟩ := ih (t + 1) w2 (by omega) (by
        have e1 : zf_ll g (t + 1) = t := by rw [zf_ll, if_pos hneg]
        have e2 : zf_lk g (t + 1) = zf_lk g t + 1 := by rw [zf_lk, if_pos hneg]
        rw [e1, e2]
        exact m14) (fr_get f2 (by decide) (fr_get f1 (by decide) h16))
      refine ⟨w', ?_, fr_trans (fr_trans f1 f2) f, r⟩
      rw [← e, q_X7_countLacks_12]
      simp (disch := first | exact nl_i | exact nl_r | exact nl_0 | exact nl_n | exact nl_x | exact kd_r | exact kd_n | exact kd_x | exact kd_o | exact cats0 | exact cats1 | exact cats2 | exact cats3 | exact cats4 | exact nr_i | exact nr_l | exact nr_z0 | exact nr_z1 | exact ft_i | exact ft_l | omega | rfl | assumption | (refine i_ne0 ?_ ?_ ?_ <;> omega) | (refine j_ne0 ?_ ?_ ?_ <;> omega) | (refine i_new ?_ ?_ <;> omega) | (refine bl_t ?_; with_unfolding_all rfl) | exact ft_z0 | exact ft_z1) only [n_X7_countLacks, q_X7_countLacks_13, q_X7_countLacks_16, q_X7_countLacks_19, q_X7_countLacks_20, q_X7_countLacks_23, q_X7_countLacks_24, q_X7_countLacks_24x, q_X7_countLacks_25, q_X7_countLacks_28, q_X7_countLacks_29, q_X7_countLacks_30, q_X7_countLacks_33, q_X7_countLacks_34, q_X7_countLacks_34r, q_X7_countLacks_35, q_X7_countLacks_38, q_X7_countLacks_39, q_X7_countLacks_40, q_X7_countLacks_43, q_X7_countLacks_46, i_add, i_sub, i_mul, i_neg, i_lt, i_le, i_eq, i_tm, i_div, i_j, j_i, j_add, j_sub, j_mul, j_neg, j_lt, j_le, j_eq, j_div, c_lt, c_le, c_gt, c_ge, c_eq, i_nat, rz_k, Nat.add_zero, Nat.zero_add, Nat.add_assoc, Nat.reduceAdd, if_true, if_false, gf_eq h14, List.getElem?_cons_zero, List.getElem?_cons_succ, ai_eq h16, Int.toNat_natCast, h1, pf_eq h14, List.set_cons_zero, List.set_cons_succ, hw1, gf_eq k14, pf_eq k14, hw2]
      rw [if_neg (by omega), if_neg (by omega)]
      rfl
    · obtain ⟨w', e, f, r⟩ := ih (t + 1) w (by omega) (by
        have e1 : zf_ll g (t + 1) = zf_ll g t := by rw [zf_ll, if_neg hneg]
        have e2 : zf_lk g (t + 1) = zf_lk g t := by rw [zf_lk, if_neg hneg]; rfl
        rw [e1, e2]
        exact h14) h16
      refine ⟨w', ?_, f, r⟩
      rw [← e, q_X7_countLacks_12]
      simp (disch := first | exact nl_i | exact nl_r | exact nl_0 | exact nl_n | exact nl_x | exact kd_r | exact kd_n | exact kd_x | exact kd_o | exact cats0 | exact cats1 | exact cats2 | exact cats3 | exact cats4 | exact nr_i | exact nr_l | exact nr_z0 | exact nr_z1 | exact ft_i | exact ft_l | omega | rfl | assumption | (refine i_ne0 ?_ ?_ ?_ <;> omega) | (refine j_ne0 ?_ ?_ ?_ <;> omega) | (refine i_new ?_ ?_ <;> omega) | (refine bl_t ?_; with_unfolding_all rfl) | exact ft_z0 | exact ft_z1) only [n_X7_countLacks, q_X7_countLacks_13, q_X7_countLacks_16, q_X7_countLacks_19, q_X7_countLacks_20, q_X7_countLacks_23, q_X7_countLacks_24, q_X7_countLacks_24x, q_X7_countLacks_25, q_X7_countLacks_28, q_X7_countLacks_29, q_X7_countLacks_30, q_X7_countLacks_33, q_X7_countLacks_34, q_X7_countLacks_34r, q_X7_countLacks_35, q_X7_countLacks_38, q_X7_countLacks_39, q_X7_countLacks_40, q_X7_countLacks_43, q_X7_countLacks_46, i_add, i_sub, i_mul, i_neg, i_lt, i_le, i_eq, i_tm, i_div, i_j, j_i, j_add, j_sub, j_mul, j_neg, j_lt, j_le, j_eq, j_div, c_lt, c_le, c_gt, c_ge, c_eq, i_nat, rz_k, Nat.add_zero, Nat.zero_add, Nat.add_assoc, Nat.reduceAdd, if_true, if_false, gf_eq h14, List.getElem?_cons_zero, List.getElem?_cons_succ, ai_eq h16, Int.toNat_natCast, h1]
      rw [if_neg (by omega), if_pos (by omega)]
      rfl
theorem x_countLacks {g : Nat → Int} {F : Nat → Int32} {a b c : Int32} (hg : ∀ s, s ≤ 2500 → F s = Int32.ofInt (g s) ∧ -1 ≤ g s ∧ g s ≤ 2500) (h14 : v_ob w 14 7 [.int a, .int b, .int c, .ref 15, .ref 16, .ref 17]) (h16 : v_ia w 16 2501 F) : ∃ w', rz_ex X (d + 1) 83 [.ref 14] w = some (.inl none, w', 0, 0) ∧ rz_fr [14] w w' ∧ v_ob w' 14 7 [.int a, .int (Int32.ofInt (zf_ll g 2501 : Nat)), .int (Int32.ofInt (zf_lk g 2501 : Nat)), .ref 15, .ref 16, .ref 17] := by
  generalize hw1 : w.set 14 (.inr (7, [.int a, .int (Int32.ofInt 0), .int c, .ref 15, .ref 16, .ref 17])) = w1
  have k14 : v_ob w1 14 7 [.int a, .int (Int32.ofInt 0), .int c, .ref 15, .ref 16, .ref 17] := by rw [← hw1]; exact w_eq (w_lt h14)
  generalize hw2 : w1.set 14 (.inr (7, [.int a, .int (Int32.ofInt 0), .int (Int32.ofInt 0), .ref 15, .ref 16, .ref 17])) = w2
  have m14 : v_ob w2 14 7 [.int a, .int (Int32.ofInt 0), .int (Int32.ofInt 0), .ref 15, .ref 16, .ref 17] := by rw [← hw2]; exact w_eq (w_lt k14)
  have f1 : rz_fr [14] w w1 := by rw [← hw1]; exact fr_set (by decide)
  have f2 : rz_fr [14] w1 w2 := by rw [← hw2]; exact fr_set (by decide)
  obtain ⟨w', e, f, r⟩ := l_countLacks (X := X) (d := d) (nc := 0) (ns := 0) (a := a) hg 2501 0 w2 rfl m14 (fr_get f2 (by decide) (fr_get f1 (by decide) h16))
  refine ⟨w', ?_, fr_trans (fr_trans f1 f2) f, r⟩
  simp (disch := first | exact nl_i | exact nl_r | exact nl_0 | exact nl_n | exact nl_x | exact kd_r | exact kd_n | exact kd_x | exact kd_o | exact cats0 | exact cats1 | exact cats2 | exact cats3 | exact cats4 | exact nr_i | exact nr_l | exact nr_z0 | exact nr_z1 | exact ft_i | exact ft_l | omega | rfl | assumption | (refine i_ne0 ?_ ?_ ?_ <;> omega) | (refine j_ne0 ?_ ?_ ?_ <;> omega) | (refine i_new ?_ ?_ <;> omega) | (refine bl_t ?_; with_unfolding_all rfl) | exact ft_z0 | exact ft_z1) only [n_X7_countLacks, q_X7_countLacks_0, q_X7_countLacks_1, q_X7_countLacks_2, q_X7_countLacks_5, q_X7_countLacks_6, q_X7_countLacks_7, q_X7_countLacks_10, q_X7_countLacks_11, pf_eq h14, List.set_cons_zero, List.set_cons_succ, hw1, pf_eq k14, hw2]
  exact e
end RZTK
