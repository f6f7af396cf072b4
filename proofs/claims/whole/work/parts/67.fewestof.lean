/-! part 67: level 2: the reference's table of the fewest coins -/
section RZFO
variable {X : rz_X} {d : Nat} {w : rz_W} {nc ns : Nat} {kp tl kd ty cl th : Int}
theorem bst_b {x y : Int} {B : Int} (hx : -1 ≤ x ∧ x ≤ B) (hy : -1 ≤ y ∧ y + 1 ≤ B) : -1 ≤ zf_bst x y ∧ zf_bst x y ≤ B := by
  unfold zf_bst
  split
  · exact hx
  · split <;> omega
theorem Rk_b {v : Nat → Nat} {n s : Nat} (hv : ∀ k, k < n → 1 ≤ v k) : ∀ k, k ≤ n → -1 ≤ zf_Rk v (zf_G v n) s k ∧ zf_Rk v (zf_G v n) s k ≤ s := by
  intro k
  induction k with
  | zero => intro _; unfold zf_Rk; omega
  | succ k ih =>
    intro hk
    unfold zf_Rk
    split
    · have := zf_G_b (s := s - v k) hv
      have := hv k (by omega)
      exact bst_b (ih (by omega)) (by omega)
    · exact ih (by omega)
theorem l_fin {v : Nat → Nat} {V2 : Nat → Int32} {n s : Nat} (hm : v_model w kp tl n ty cl th) (g43 : v_ia w 43 4 V2) (hn : n ≤ 4) (hv : ∀ k, k < n → (2 ≤ v k ∧ v k ≤ 50) ∧ V2 k = Int32.ofInt (v k)) (hs : 1 ≤ s ∧ s ≤ 2500) (c : Nat) : ∀ (k : Nat) (F : Nat → Int32) (l4 : Option Value), k + c = n → F s = Int32.ofInt (zf_Rk v (zf_G v n) s k) → (∀ j, j < s → F j = Int32.ofInt (zf_G v n j)) → ∃ (F' : Nat → Int32) (m4 : Option Value), rz_G X d mz_X11_fewestOf 21 [some (.ref 32), some (.ref w.length), some (.int (Int32.ofInt s)), some (.int (Int32.ofInt k)), l4] [] (w ++ [.inl (.int, 2501, .inl F)]) nc ns = rz_G X d mz_X11_fewestOf 84 [some (.ref 32), some (.ref w.length), some (.int (Int32.ofInt s)), some (.int (Int32.ofInt n)), m4] [] (w ++ [.inl (.int, 2501, .inl F')]) nc ns ∧ F' s = Int32.ofInt (zf_Rk v (zf_G v n) s n) ∧ ∀ j, j ≠ s → F' j = F j := by
  have hv1 : ∀ k, k < n → 1 ≤ v k := fun k hk => by have := (hv k hk).1; omega
  induction c with
  | zero =>
    intro k F l4 hk hF hj
    obtain rfl : k = n := hk
    have hm1 : v_model (w ++ [.inl (.int, 2501, .inl F)]) kp tl k ty cl th := fr_get (fr_al (w := w)) (by simp) hm
    refine ⟨F, l4, ?_, hF, fun _ _ => rfl⟩
    rw [q_X11_fewestOf_21]
    simp (disch := first | exact nl_i | exact nl_r | exact nl_0 | exact nl_n | exact nl_x | exact kd_r | exact kd_n | exact kd_x | exact kd_o | exact cats0 | exact cats1 | exact cats2 | exact cats3 | exact cats4 | exact nr_i | exact nr_l | exact nr_z0 | exact nr_z1 | exact ft_i | exact ft_l | omega | rfl | assumption | (refine i_ne0 ?_ ?_ ?_ <;> omega) | (refine j_ne0 ?_ ?_ ?_ <;> omega) | (refine i_new ?_ ?_ <;> omega) | (refine bl_t ?_; with_unfolding_all rfl) | exact ft_z0 | exact ft_z1) only [q_X11_fewestOf_22, q_X11_fewestOf_23, q_X11_fewestOf_26, i_add, i_sub, i_mul, i_neg, i_lt, i_le, i_eq, i_tm, i_div, i_j, j_i, j_add, j_sub, j_mul, j_neg, j_lt, j_le, j_eq, j_div, c_lt, c_le, c_gt, c_ge, c_eq, i_nat, rz_k, Nat.add_zero, Nat.zero_add, Nat.add_assoc, Nat.reduceAdd, if_true, if_false, gf_eq hm1, List.getElem?_cons_zero, List.getElem?_cons_succ]
    rw [if_pos (by omega)]
  | succ c ih =>
    intro k F l4 hk hF hj
    have hm1 : v_model (w ++ [.inl (.int, 2501, .inl F)]) kp tl n ty cl th := fr_get (fr_al (w := w)) (by simp) hm
    have h43 : v_ia (w ++ [.inl (.int, 2501, .inl F)]) 43 4 V2 := fr_get (fr_al (w := w)) (by simp) g43
    have hF0 : v_ia (w ++ [.inl (.int, 2501, .inl F)]) w.length 2501 F := w_new
    have hvk := hv k (by omega)
    have hRb := Rk_b (s := s) hv1 k (by omega)
    by_cases hle : v k ≤ s
    · have hGb := zf_G_b (s := s - v k) hv1
      have hFl : F (s - v k) = Int32.ofInt (zf_G v n (s - v k)) := hj _ (by omega)
      have ec : ((s : Int) - (v k : Int)).toNat = s - v k := by omega
      have hRk1 : zf_Rk v (zf_G v n) s (k + 1) = zf_bst (zf_Rk v (zf_G v n) s k) (zf_G v n (s - v k)) := by
        rw [zf_Rk, if_pos hle]
      generalize hR : zf_Rk v (zf_G v n) s k = R at *
      generalize hG : zf_G v n (s - v k) = G at *
      by_cases hb : ¬ G < 0 ∧ (R < 0 ∨ G + 1 < R)
      · obtain ⟨F', m4, e, e1, e2⟩ := ih (k + 1) (upd F s (Int32.ofInt (G + 1))) (some (.int (Int32.ofInt ((s : Int) - (v k : Int))))) (by omega) (by rw [upd_eq, hRk1]; unfold zf_bst; rw [if_neg hb.1, if_pos hb.2]) (fun j hj2 => by rw [upd_ne (by omega)]; exact hj j hj2)
        refine ⟨F', m4, ?_, e1, fun j hj2 => (e2 j hj2).trans (upd_ne hj2)⟩
        rw [← e, q_X11_fewestOf_21]
        simp (disch := first | exact nl_i | exact nl_r | exact nl_0 | exact nl_n | exact nl_x | exact kd_r | exact kd_n | exact kd_x | exact kd_o | exact cats0 | exact cats1 | exact cats2 | exact cats3 | exact cats4 | exact nr_i | exact nr_l | exact nr_z0 | exact nr_z1 | exact ft_i | exact ft_l | omega | rfl | assumption | (refine i_ne0 ?_ ?_ ?_ <;> omega) | (refine j_ne0 ?_ ?_ ?_ <;> omega) | (refine i_new ?_ ?_ <;> omega) | (refine bl_t ?_; with_unfolding_all rfl) | exact ft_z0 | exact ft_z1) only [n_X11_fewestOf, q_X11_fewestOf_5, q_X11_fewestOf_6, q_X11_fewestOf_7, q_X11_fewestOf_9, q_X11_fewestOf_12, q_X11_fewestOf_15, q_X11_fewestOf_16, q_X11_fewestOf_17, q_X11_fewestOf_18, q_X11_fewestOf_19, q_X11_fewestOf_20, q_X11_fewestOf_22, q_X11_fewestOf_23, q_X11_fewestOf_26, q_X11_fewestOf_29, q_X11_fewestOf_30, q_X11_fewestOf_31, q_X11_fewestOf_34, q_X11_fewestOf_35, q_X11_fewestOf_35x, q_X11_fewestOf_36, q_X11_fewestOf_37, q_X11_fewestOf_39, q_X11_fewestOf_41, q_X11_fewestOf_44, q_X11_fewestOf_45, q_X11_fewestOf_47, q_X11_fewestOf_47x, q_X11_fewestOf_48, q_X11_fewestOf_51, q_X11_fewestOf_52, q_X11_fewestOf_53, q_X11_fewestOf_53x, q_X11_fewestOf_54, q_X11_fewestOf_57, q_X11_fewestOf_58, q_X11_fewestOf_60, q_X11_fewestOf_60x, q_X11_fewestOf_61, q_X11_fewestOf_62, q_X11_fewestOf_63, q_X11_fewestOf_64, q_X11_fewestOf_65, q_X11_fewestOf_65x, q_X11_fewestOf_66, q_X11_fewestOf_69, q_X11_fewestOf_70, q_X11_fewestOf_71, q_X11_fewestOf_72, q_X11_fewestOf_74, q_X11_fewestOf_74x, q_X11_fewestOf_75, q_X11_fewestOf_76, q_X11_fewestOf_77, q_X11_fewestOf_78, q_X11_fewestOf_81, q_X11_fewestOf_87, q_X11_fewestOf_91, q_X11_fewestOf_91n, i_add, i_sub, i_mul, i_neg, i_lt, i_le, i_eq, i_tm, i_div, i_j, j_i, j_add, j_sub, j_mul, j_neg, j_lt, j_le, j_eq, j_div, c_lt, c_le, c_gt, c_ge, c_eq, i_nat, rz_k, Nat.add_zero, Nat.zero_add, Nat.add_assoc, Nat.reduceAdd, if_true, if_false, gf_eq hm1, List.getElem?_cons_zero, List.getElem?_cons_succ, ai_eq h43, Int.toNat_natCast, hvk.2, ai_eq hF0, ec, hFl, hF, si_eq hF0]
        rw [if_neg (by omega), if_neg (by omega), if_neg (by omega)]
        by_cases hR0 : R < 0
        · rw [if_pos hR0, w_snew]
          rfl
        · rw [if_neg hR0, if_neg (by omega), w_snew]
          rfl
      · have hbst : zf_bst R G = R := by
          unfold zf_bst
          by_cases hG0 : G < 0
          · rw [if_pos hG0]
          · rw [if_neg hG0, if_neg (fun c => hb ⟨hG0, c⟩)]
        obtain ⟨F', m4, e, e1, e2⟩ := ih (k + 1) F (some (.int (Int32.ofInt ((s : Int) - (v k : Int))))) (by omega) (by rw [hF, hRk1, hbst]) hj
        refine ⟨F', m4, ?_, e1, e2⟩
        rw [← e, q_X11_fewestOf_21]
        simp (disch := first | exact nl_i | exact nl_r | exact nl_0 | exact nl_n | exact nl_x | exact kd_r | exact kd_n | exact kd_x | exact kd_o | exact cats0 | exact cats1 | exact cats2 | exact cats3 | exact cats4 | exact nr_i | exact nr_l | exact nr_z0 | exact nr_z1 | exact ft_i | exact ft_l | omega | rfl | assumption | (refine i_ne0 ?_ ?_ ?_ <;> omega) | (refine j_ne0 ?_ ?_ ?_ <;> omega) | (refine i_new ?_ ?_ <;> omega) | (refine bl_t ?_; with_unfolding_all rfl) | exact ft_z0 | exact ft_z1) only [n_X11_fewestOf, q_X11_fewestOf_5, q_X11_fewestOf_6, q_X11_fewestOf_7, q_X11_fewestOf_9, q_X11_fewestOf_12, q_X11_fewestOf_15, q_X11_fewestOf_16, q_X11_fewestOf_17, q_X11_fewestOf_18, q_X11_fewestOf_19, q_X11_fewestOf_20, q_X11_fewestOf_22, q_X11_fewestOf_23, q_X11_fewestOf_26, q_X11_fewestOf_29, q_X11_fewestOf_30, q_X11_fewestOf_31, q_X11_fewestOf_34, q_X11_fewestOf_35, q_X11_fewestOf_35x, q_X11_fewestOf_36, q_X11_fewestOf_37, q_X11_fewestOf_39, q_X11_fewestOf_41, q_X11_fewestOf_44, q_X11_fewestOf_45, q_X11_fewestOf_47, q_X11_fewestOf_47x, q_X11_fewestOf_48, q_X11_fewestOf_51, q_X11_fewestOf_52, q_X11_fewestOf_53, q_X11_fewestOf_53x, q_X11_fewestOf_54, q_X11_fewestOf_57, q_X11_fewestOf_58, q_X11_fewestOf_60, q_X11_fewestOf_60x, q_X11_fewestOf_61, q_X11_fewestOf_62, q_X11_fewestOf_63, q_X11_fewestOf_64, q_X11_fewestOf_65, q_X11_fewestOf_65x, q_X11_fewestOf_66, q_X11_fewestOf_69, q_X11_fewestOf_70, q_X11_fewestOf_71, q_X11_fewestOf_72, q_X11_fewestOf_74, q_X11_fewestOf_74x, q_X11_fewestOf_75, q_X11_fewestOf_76, q_X11_fewestOf_77, q_X11_fewestOf_78, q_X11_fewestOf_81, q_X11_fewestOf_87, q_X11_fewestOf_91, q_X11_fewestOf_91n, i_add, i_sub, i_mul, i_neg, i_lt, i_le, i_eq, i_tm, i_div, i_j, j_i, j_add, j_sub, j_mul, j_neg, j_lt, j_le, j_eq, j_div, c_lt, c_le, c_gt, c_ge, c_eq, i_nat, rz_k, Nat.add_zero, Nat.zero_add, Nat.add_assoc, Nat.reduceAdd, if_true, if_false, gf_eq hm1, List.getElem?_cons_zero, List.getElem?_cons_succ, ai_eq h43, Int.toNat_natCast, hvk.2, ai_eq hF0, ec, hFl, hF, si_eq hF0]
        rw [if_neg (by omega), if_neg (by omega)]
        by_cases hG0 : G < 0
        · rw [if_pos hG0]
          rfl
        · rw [if_neg hG0, if_neg (by omega), if_pos (by omega)]
          rfl
    · obtain ⟨F', m4, e, e1, e2⟩ := ih (k + 1) F (some (.int (Int32.ofInt ((s : Int) - (v k : Int))))) (by omega) (by rw [hF, zf_Rk, if_neg hle]) hj
      refine ⟨F', m4, ?_, e1, e2⟩
      rw [← e, q_X11_fewestOf_21]
      simp (disch := first | exact nl_i | exact nl_r | exact nl_0 | exact nl_n | exact nl_x | exact kd_r | exact kd_n | exact kd_x | exact kd_o | exact cats0 | exact cats1 | exact cats2 | exact cats3 | exact cats4 | exact nr_i | exact nr_l | exact nr_z0 | exact nr_z1 | exact ft_i | exact ft_l | omega | rfl | assumption | (refine i_ne0 ?_ ?_ ?_ <;> omega) | (refine j_ne0 ?_ ?_ ?_ <;> omega) | (refine i_new ?_ ?_ <;> omega) | (refine bl_t ?_; with_unfolding_all rfl) | exact ft_z0 | exact ft_z1) only [q_X11_fewestOf_22, q_X11_fewestOf_23, q_X11_fewestOf_26, q_X11_fewestOf_29, q_X11_fewestOf_30, q_X11_fewestOf_31, q_X11_fewestOf_34, q_X11_fewestOf_35, q_X11_fewestOf_36, q_X11_fewestOf_37, q_X11_fewestOf_39, q_X11_fewestOf_41, q_X11_fewestOf_78, q_X11_fewestOf_81, i_add, i_sub, i_mul, i_neg, i_lt, i_le, i_eq, i_tm, i_div, i_j, j_i, j_add, j_sub, j_mul, j_neg, j_lt, j_le, j_eq, j_div, c_lt, c_le, c_gt, c_ge, c_eq, i_nat, rz_k, Nat.add_zero, Nat.zero_add, Nat.add_assoc, Nat.reduceAdd, if_true, if_false, gf_eq hm1, List.getElem?_cons_zero, List.getElem?_cons_succ, ai_eq h43, Int.toNat_natCast, hvk.2]
      rw [if_neg (by omega), if_pos (by omega)]
      rfl
theorem l_fout {v : Nat → Nat} {V2 : Nat → Int32} {n : Nat} (hm : v_model w kp tl n ty cl th) (g43 : v_ia w 43 4 V2) (hn : n ≤ 4) (hv : ∀ k, k < n → (2 ≤ v k ∧ v k ≤ 50) ∧ V2 k = Int32.ofInt (v k)) (c : Nat) : ∀ (s : Nat) (F : Nat → Int32) (l3 l4 : Option Value), s + c = 2501 → 1 ≤ s → (∀ j, j < s → F j = Int32.ofInt (zf_G v n j)) → ∃ (F' : Nat → Int32), rz_G X d mz_X11_fewestOf 8 [some (.ref 32), some (.ref w.length), some (.int (Int32.ofInt s)), l3, l4] [] (w ++ [.inl (.int, 2501, .inl F)]) nc ns = some (.inl (some (.ref w.length)), w ++ [.inl (.int, 2501, .inl F')], nc, ns) ∧ ∀ j, j ≤ 2500 → F' j = Int32.ofInt (zf_G v n j) := by
  have hv1 : ∀ k, k < n → 1 ≤ v k := fun k hk => by have := (hv k hk).1; omega
  induction c with
  | zero =>
    intro s F l3 l4 hs h1 hj
    obtain rfl : s = 2501 := hs
    refine ⟨F, ?_, fun j hj2 => hj j (by omega)⟩
    rw [q_X11_fewestOf_8]
    simp (disch := first | exact nl_i | exact nl_r | exact nl_0 | exact nl_n | exact nl_x | exact kd_r | exact kd_n | exact kd_x | exact kd_o | exact cats0 | exact cats1 | exact cats2 | exact cats3 | exact cats4 | exact nr_i | exact nr_l | exact nr_z0 | exact nr_z1 | exact ft_i | exact ft_l | omega | rfl | assumption | (refine i_ne0 ?_ ?_ ?_ <;> omega) | (refine j_ne0 ?_ ?_ ?_ <;> omega) | (refine i_new ?_ ?_ <;> omega) | (refine bl_t ?_; with_unfolding_all rfl) | exact ft_z0 | exact ft_z1) only [q_X11_fewestOf_9, q_X11_fewestOf_12, q_X11_fewestOf_90, q_X11_fewestOf_91, i_add, i_sub, i_mul, i_neg, i_lt, i_le, i_eq, i_tm, i_div, i_j, j_i, j_add, j_sub, j_mul, j_neg, j_lt, j_le, j_eq, j_div, c_lt, c_le, c_gt, c_ge, c_eq, i_nat, rz_k, Nat.add_zero, Nat.zero_add, Nat.add_assoc, Nat.reduceAdd, if_true, if_false]
    rw [if_pos (by omega)]
  | succ c ih =>
    intro s F l3 l4 hs h1 hj
    have hF0 : v_ia (w ++ [.inl (.int, 2501, .inl F)]) w.length 2501 F := w_new
    obtain ⟨F', m4, e, e1, e2⟩ := l_fin (X := X) (d := d) (nc := nc) (ns := ns) (s := s) hm g43 hn hv (by omega) n 0 (upd F s (Int32.ofInt (-1))) l4 (by omega) (by rw [upd_eq]; rfl) (fun j hj2 => by rw [upd_ne (by omega)]; exact hj j hj2)
    obtain ⟨F2, e3, e4⟩ := ih (s + 1) F' (some (.int (Int32.ofInt n))) m4 (by omega) (by omega) (fun j hj2 => by
      by_cases hjs : j = s
      · rw [hjs, e1, zf_Rk_G hv1 h1]
      · rw [e2 j hjs, upd_ne hjs]
        exact hj j (by omega))
    refine ⟨F2, ?_, e4⟩
    rw [← e3, q_X11_fewestOf_8]
    simp (disch := first | exact nl_i | exact nl_r | exact nl_0 | exact nl_n | exact nl_x | exact kd_r | exact kd_n | exact kd_x | exact kd_o | exact cats0 | exact cats1 | exact cats2 | exact cats3 | exact cats4 | exact nr_i | exact nr_l | exact nr_z0 | exact nr_z1 | exact ft_i | exact ft_l | omega | rfl | assumption | (refine i_ne0 ?_ ?_ ?_ <;> omega) | (refine j_ne0 ?_ ?_ ?_ <;> omega) | (refine i_new ?_ ?_ <;> omega) | (refine bl_t ?_; with_unfolding_all rfl) | exact ft_z0 | exact ft_z1) only [q_X11_fewestOf_9, q_X11_fewestOf_12, q_X11_fewestOf_15, q_X11_fewestOf_16, q_X11_fewestOf_17, q_X11_fewestOf_18, q_X11_fewestOf_19, q_X11_fewestOf_20, i_add, i_sub, i_mul, i_neg, i_lt, i_le, i_eq, i_tm, i_div, i_j, j_i, j_add, j_sub, j_mul, j_neg, j_lt, j_le, j_eq, j_div, c_lt, c_le, c_gt, c_ge, c_eq, i_nat, rz_k, Nat.add_zero, Nat.zero_add, Nat.add_assoc, Nat.reduceAdd, if_true, if_false, si_eq hF0, Int.toNat_natCast]
    rw [if_neg (by omega), w_snew]
    refine Eq.trans e ?_
    rw [q_X11_fewestOf_84 rfl]
    simp (disch := first | exact nl_i | exact nl_r | exact nl_0 | exact nl_n | exact nl_x | exact kd_r | exact kd_n | exact kd_x | exact kd_o | exact cats0 | exact cats1 | exact cats2 | exact cats3 | exact cats4 | exact nr_i | exact nr_l | exact nr_z0 | exact nr_z1 | exact ft_i | exact ft_l | omega | rfl | assumption | (refine i_ne0 ?_ ?_ ?_ <;> omega) | (refine j_ne0 ?_ ?_ ?_ <;> omega) | (refine i_new ?_ ?_ <;> omega) | (refine bl_t ?_; with_unfolding_all rfl) | exact ft_z0 | exact ft_z1) only [q_X11_fewestOf_87, i_add, i_sub, i_mul, i_neg, i_lt, i_le, i_eq, i_tm, i_div, i_j, j_i, j_add, j_sub, j_mul, j_neg, j_lt, j_le, j_eq, j_div, c_lt, c_le, c_gt, c_ge, c_eq, i_nat, rz_k, Nat.add_zero, Nat.zero_add, Nat.add_assoc, Nat.reduceAdd, if_true, if_false]
    rfl
theorem y_fewestOf {v : Nat → Nat} {V2 : Nat → Int32} {n : Nat} (hm : v_model w kp tl n ty cl th) (g43 : v_ia w 43 4 V2) (hn : n ≤ 4) (hv : ∀ k, k < n → (2 ≤ v k ∧ v k ≤ 50) ∧ V2 k = Int32.ofInt (v k)) : ∃ F : Nat → Int32, rz_ex X (d + 1) 220 [.ref 32] w = some (.inl (some (.ref w.length)), w ++ [.inl (.int, 2501, .inl F)], 1, 2501) ∧ ∀ j, j ≤ 2500 → F j = Int32.ofInt (zf_G v n j) := by
  obtain ⟨F, e, h⟩ := l_fout (X := X) (d := d) (nc := 1) (ns := 2501) hm g43 hn hv 2500 1 (fun _ => 0) none none rfl (by omega) (fun j hj => by
    obtain rfl : j = 0 := by omega
    rw [zf_G_0 n (fun k hk => by have := (hv k hk).1; omega)]
    rfl)
  refine ⟨F, ?_, h⟩
  simp (disch := first | exact nl_i | exact nl_r | exact nl_0 | exact nl_n | exact nl_x | exact kd_r | exact kd_n | exact kd_x | exact kd_o | exact cats0 | exact cats1 | exact cats2 | exact cats3 | exact cats4 | exact nr_i | exact nr_l | exact nr_z0 | exact nr_z1 | exact ft_i | exact ft_l | omega | rfl | assumption | (refine i_ne0 ?_ ?_ ?_ <;> omega) | (refine j_ne0 ?_ ?_ ?_ <;> omega) | (refine i_new ?_ ?_ <;> omega) | (refine bl_t ?_; with_unfolding_all rfl) | exact ft_z0 | exact ft_z1) only [n_X11_fewestOf, q_X11_fewestOf_0, q_X11_fewestOf_3, q_X11_fewestOf_5, q_X11_fewestOf_6, q_X11_fewestOf_7, i_add, i_sub, i_mul, i_neg, i_lt, i_le, i_eq, i_tm, i_div, i_j, j_i, j_add, j_sub, j_mul, j_neg, j_lt, j_le, j_eq, j_div, c_lt, c_le, c_gt, c_ge, c_eq, i_nat, rz_k, Nat.add_zero, Nat.zero_add, Nat.add_assoc, Nat.reduceAdd, if_true, if_false]
  exact e
end RZFO
