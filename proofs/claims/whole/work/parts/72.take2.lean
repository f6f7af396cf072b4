/-! part 72: level 2: the class's purse takes coins: all of it -/
section RZTL
variable {X : rz_X} {d : Nat} {w : rz_W} {nc ns : Nat} {kp tl kd ty cl th : Int}
theorem l_take {v : Nat → Nat} {V : Nat → Int32} {n : Nat} {b c : Int32} {l1 l2 l3 l4 : Option Value} (hl4 : rz_nl l4 = true) (hn : n ≤ 4) (hv : ∀ k, k < n → 2 ≤ v k ∧ v k ≤ 50) (hV : ∀ k, k < n → V k = Int32.ofInt (v k)) (m : Nat) : ∀ (j : Nat) (w : rz_W) (F Y : Nat → Int32), j + m = n → v_ob w 14 7 [.int (Int32.ofInt n), .int b, .int c, .ref 15, .ref 16, .ref 17] → v_ia w 15 4 V → v_ia w 16 2501 F → v_ia w 17 2501 Y → (∀ s, s ≤ 2500 → F s = Int32.ofInt (zf_G v j s) ∧ Y s = Int32.ofInt (zf_W v j s)) → ∃ (w' : rz_W) (F' Y' : Nat → Int32), rz_G X (d + 1) mz_X7_take 85 [some (.ref 14), l1, l2, l3, l4, some (.int (Int32.ofInt j))] [] w nc ns = rz_G X (d + 1) mz_X7_take 111 [some (.ref 14), l1, l2, l3, l4, some (.int (Int32.ofInt n))] [] w' nc ns ∧ rz_fr [16, 17] w w' ∧ v_ia w' 16 2501 F' ∧ v_ia w' 17 2501 Y' ∧ ∀ s, s ≤ 2500 → F' s = Int32.ofInt (zf_G v n s) ∧ Y' s = Int32.ofInt (zf_W v n s) := by
  have hv1 : ∀ k, k < n → 1 ≤ v k := fun k hk => by have := hv k hk; omega
  induction m with
  | zero =>
    intro j w F Y hj h14 h15 h16 h17 hI
    obtain rfl : j = n := hj
    refine ⟨w, F, Y, ?_, fr_refl, h16, h17, hI⟩
    rw [q_X7_take_85]
    simp (disch := first | exact nl_i | exact nl_r | exact nl_0 | exact nl_n | exact nl_x | exact kd_r | exact kd_n | exact kd_x | exact kd_o | exact cats0 | exact cats1 | exact cats2 | exact cats3 | exact cats4 | exact nr_i | exact nr_l | exact nr_z0 | exact nr_z1 | exact ft_i | exact ft_l | omega | rfl | assumption | (refine i_ne0 ?_ ?_ ?_ <;> omega) | (refine j_ne0 ?_ ?_ ?_ <;> omega) | (refine i_new ?_ ?_ <;> omega) | (refine bl_t ?_; with_unfolding_all rfl) | exact ft_z0 | exact ft_z1) only [q_X7_take_87, q_X7_take_88, q_X7_take_91, i_add, i_sub, i_mul, i_neg, i_lt, i_le, i_eq, i_tm, i_div, i_j, j_i, j_add, j_sub, j_mul, j_neg, j_lt, j_le, j_eq, j_div, c_lt, c_le, c_gt, c_ge, c_eq, i_nat, rz_k, Nat.add_zero, Nat.zero_add, Nat.add_assoc, Nat.reduceAdd, if_true, if_false, gf_eq h14, List.getElem?_cons_zero, List.getElem?_cons_succ]
    rw [if_pos (by omega)]
  | succ m ih =>
    intro j w F Y hj h14 h15 h16 h17 hI
    obtain ⟨w1, F1, Y1, e1, f1, a16, a17, aI⟩ := x_addKind (X := X) (d := d) (hv j (by omega)) (fun k hk => hv1 k (by omega)) h14 h16 h17 hI
    obtain ⟨w', F', Y', e2, f2, r⟩ := ih (j + 1) w1 F1 Y1 (by omega) (fr_get f1 (by decide) h14) (fr_get f1 (by decide) h15) a16 a17 aI
    refine ⟨w', F', Y', ?_, fr_trans f1 f2, r⟩
    rw [← e2, q_X7_take_85]
    simp (disch := first | exact nl_i | exact nl_r | exact nl_0 | exact nl_n | exact nl_x | exact kd_r | exact kd_n | exact kd_x | exact kd_o | exact cats0 | exact cats1 | exact cats2 | exact cats3 | exact cats4 | exact nr_i | exact nr_l | exact nr_z0 | exact nr_z1 | exact ft_i | exact ft_l | omega | rfl | assumption | (refine i_ne0 ?_ ?_ ?_ <;> omega) | (refine j_ne0 ?_ ?_ ?_ <;> omega) | (refine i_new ?_ ?_ <;> omega) | (refine bl_t ?_; with_unfolding_all rfl) | exact ft_z0 | exact ft_z1) only [q_X7_take_87, q_X7_take_88, q_X7_take_91, q_X7_take_94, q_X7_take_95, q_X7_take_96, q_X7_take_99, q_X7_take_101, q_X7_take_102, q_X7_take_105, q_X7_take_108, i_add, i_sub, i_mul, i_neg, i_lt, i_le, i_eq, i_tm, i_div, i_j, j_i, j_add, j_sub, j_mul, j_neg, j_lt, j_le, j_eq, j_div, c_lt, c_le, c_gt, c_ge, c_eq, i_nat, rz_k, Nat.add_zero, Nat.zero_add, Nat.add_assoc, Nat.reduceAdd, if_true, if_false, gf_eq h14, vk_eq h14, List.getElem?_cons_zero, List.getElem?_cons_succ, ai_eq h15, Int.toNat_natCast, hV j (by omega), e1]
    rw [if_neg (by omega)]
    rfl
theorem x_take {p0 p1 p2 p3 n : Nat} {v : Nat → Nat} {V F Y : Nat → Int32} {a b c : Int32} (hp : p0 ≤ 50 ∧ p1 ≤ 50 ∧ p2 ≤ 50 ∧ p3 ≤ 50) (hn : n = if p2 = 0 then 2 else if p3 = 0 then 3 else 4) (hv : ∀ k, k < n → 2 ≤ v k ∧ v k ≤ 50) (hvp : v 0 = p0 ∧ v 1 = p1 ∧ v 2 = p2 ∧ v 3 = p3) (h14 : v_ob w 14 7 [.int a, .int b, .int c, .ref 15, .ref 16, .ref 17]) (h15 : v_ia w 15 4 V) (h16 : v_ia w 16 2501 F) (h17 : v_ia w 17 2501 Y) : ∃ (w' : rz_W) (V' F' Y' : Nat → Int32), rz_ex X (d + 2) 81 [.ref 14, .int (Int32.ofInt p0), .int (Int32.ofInt p1), .int (Int32.ofInt p2), .int (Int32.ofInt p3)] w = some (.inl none, w', 0, 0) ∧ rz_fr [14, 15, 16, 17] w w' ∧ v_ob w' 14 7 [.int (Int32.ofInt n), .int (Int32.ofInt (zf_ll (zf_G v n) 2501 : Nat)), .int (Int32.ofInt (zf_lk (zf_G v n) 2501 : Nat)), .ref 15, .ref 16, .ref 17] ∧ v_ia w' 15 4 V' ∧ v_ia w' 16 2501 F' ∧ v_ia w' 17 2501 Y' ∧ (∀ k, k < n → V' k = Int32.ofInt (v k)) ∧ ∀ s, s ≤ 2500 → F' s = Int32.ofInt (zf_G v n s) ∧ Y' s = Int32.ofInt (zf_W v n s) := by
  have hn4 : n ≤ 4 := by rw [hn]; split; · omega
                         split <;> omega
  have hv1 : ∀ k, k < n → 1 ≤ v k := fun k hk => by have := hv k hk; omega
  -- the values
  generalize hV' : upd (upd (upd (upd V 0 (Int32.ofInt p0)) 1 (Int32.ofInt p1)) 2 (Int32.ofInt p2)) 3 (Int32.ofInt p3) = V'
  have hVv : ∀ k, k < n → V' k = Int32.ofInt (v k) := by
    intro k hk
    rw [← hV']
    have : k = 0 ∨ k = 1 ∨ k = 2 ∨ k = 3 := by omega
    rcases this with rfl | rfl | rfl | rfl
    · rw [upd_ne (by omega), upd_ne (by omega), upd_ne (by omega), upd_eq, hvp.1]
    · rw [upd_ne (by omega), upd_ne (by omega), upd_eq, hvp.2.1]
    · rw [upd_ne (by omega), upd_eq, hvp.2.2.1]
    · rw [upd_eq, hvp.2.2.2]
  have l15 := w_lt h15
  generalize hw1 : w.set 15 (.inl (.int, 4, .inl V')) = w1
  have f1 : rz_fr [15] w w1 := by rw [← hw1]; exact fr_set (by decide)
  have a15 : v_ia w1 15 4 V' := by rw [← hw1]; exact w_eq l15
  have a14 : v_ob w1 14 7 [.int a, .int b, .int c, .ref 15, .ref 16, .ref 17] := fr_get f1 (by decide) h14
  have s0 : v_ia (w.set 15 (.inl (.int, 4, .inl (upd V 0 (Int32.ofInt p0))))) 15 4 (upd V 0 (Int32.ofInt p0)) := w_eq l15
  have s1 : v_ia (w.set 15 (.inl (.int, 4, .inl (upd (upd V 0 (Int32.ofInt p0)) 1 (Int32.ofInt p1))))) 15 4 (upd (upd V 0 (Int32.ofInt p0)) 1 (Int32.ofInt p1)) := w_eq l15
  have s2 : v_ia (w.set 15 (.inl (.int, 4, .inl (upd (upd (upd V 0 (Int32.ofInt p0)) 1 (Int32.ofInt p1)) 2 (Int32.ofInt p2))))) 15 4 (upd (upd (upd V 0 (Int32.ofInt p0)) 1 (Int32.ofInt p1)) 2 (Int32.ofInt p2)) := w_eq l15
  have hset : ∀ (e e' : rz_E), (w.set 15 e).set 15 e' = w.set 15 e' := fun e e' => List.set_set _
  -- how many kinds
  generalize hw2 : w1.set 14 (.inr (7, [.int (Int32.ofInt n), .int b, .int c, .ref 15, .ref 16, .ref 17])) = w2
  have f2 : rz_fr [14] w1 w2 := by rw [← hw2]; exact fr_set (by decide)
  have b14 : v_ob w2 14 7 [.int (Int32.ofInt n), .int b, .int c, .ref 15, .ref 16, .ref 17] := by rw [← hw2]; exact w_eq (w_lt a14)
  have f12 : rz_fr [14, 15] w w2 := fr_trans (fr_sub f1 (by decide)) (fr_sub f2 (by decide))
  obtain ⟨F1, e3, hF1⟩ := x_fill (X := X) (d := d) (x := Int32.ofInt (-1)) (by omega) (fr_get f12 (by decide) h16)
  generalize hw3 : w2.set 16 (.inl (.int, 2501, .inl F1)) = w3 at e3
  have f3 : rz_fr [16] w2 w3 := by rw [← hw3]; exact fr_set (by decide)
  have f13 : rz_fr [14, 15, 16] w w3 := fr_trans (fr_sub f12 (by decide)) (fr_sub f3 (by decide))
  have c16 : v_ia w3 16 2501 F1 := by rw [← hw3]; exact w_eq (w_lt (fr_get f12 (by decide) h16))
  have c14 : v_ob w3 14 7 [.int (Int32.ofInt n), .int b, .int c, .ref 15, .ref 16, .ref 17] := fr_get f3 (by decide) b14
  obtain ⟨Y1, e4, hY1⟩ := x_fill (X := X) (d := d) (x := Int32.ofInt 0) (by omega) (fr_get f13 (by decide) h17)
  generalize hw4 : w3.set 17 (.inl (.int, 2501, .inl Y1)) = w4 at e4
  have f4 : rz_fr [17] w3 w4 := by rw [← hw4]; exact fr_set (by decide)
  have d17 : v_ia w4 17 2501 Y1 := by rw [← hw4]; exact w_eq (w_lt (fr_get f13 (by decide) h17))
  have d14 : v_ob w4 14 7 [.int (Int32.ofInt n), .int b, .int c, .ref 15, .ref 16, .ref 17] := fr_get f4 (by decide) c14
  have d16 : v_ia w4 16 2501 F1 := fr_get f4 (by decide) c16
  generalize hw5 : w4.set 16 (.inl (.int, 2501, .inl (upd F1 0 (Int32.ofInt 0)))) = w5
  have f5 : rz_fr [16] w4 w5 := by rw [← hw5]; exact fr_set (by decide)
  have e16 : v_ia w5 16 2501 (upd F1 0 (Int32.ofInt 0)) := by rw [← hw5]; exact w_eq (w_lt d16)
  have e14 : v_ob w5 14 7 [.int (Int32.ofInt n), .int b, .int c, .ref 15, .ref 16, .ref 17] := fr_get f5 (by decide) d14
  have e17 : v_ia w5 17 2501 Y1 := fr_get f5 (by decide) d17
  generalize hw6 : w5.set 17 (.inl (.int, 2501, .inl (upd Y1 0 (Int32.ofInt 1)))) = w6
  have f6 : rz_fr [17] w5 w6 := by rw [← hw6]; exact fr_set (by decide)
  have g17 : v_ia w6 17 2501 (upd Y1 0 (Int32.ofInt 1)) := by rw [← hw6]; exact w_eq (w_lt e17)
  have g16 : v_ia w6 16 2501 (upd F1 0 (Int32.ofInt 0)) := fr_get f6 (by decide) e16
  have g14 : v_ob w6 14 7 [.int (Int32.ofInt n), .int b, .int c, .ref 15, .ref 16, .ref 17] := fr_get f6 (by decide) e14
  have f26 : rz_fr [16, 17] w2 w6 := fr_trans (fr_sub f3 (by decide)) (fr_trans (fr_sub f4 (by decide)) (fr_trans (fr_sub f5 (by decide)) (fr_sub f6 (by decide))))
  have g15 : v_ia w6 15 4 V' := fr_get f26 (by decide) (fr_get f2 (by decide) a15)
  obtain ⟨w7, F2, Y2, e7, f7, h16', h17', hI⟩ := l_take (X := X) (d := d) (nc := 0) (ns := 0) (l1 := some (.int (Int32.ofInt p0))) (l2 := some (.int (Int32.ofInt p1))) (l3 := some (.int (Int32.ofInt p2))) (l4 := some (.int (Int32.ofInt p3))) rfl hn4 hv hVv n 0 w6 _ _ (by omega) g14 g15 g16 g17 (fun s hs => by
    by_cases h0 : s = 0
    · subst h0
      rw [upd_eq, upd_eq]
      exact ⟨rfl, rfl⟩
    · rw [upd_ne h0, upd_ne h0, hF1 s (by omega), hY1 s (by omega)]
      unfold zf_G zf_W
      rw [if_neg h0, if_neg h0]
      exact ⟨rfl, rfl⟩)
  obtain ⟨w8, e8, f8, i14⟩ := x_countLacks (X := X) (d := d) (w := w7) (g := zf_G v n) (F := F2) (fun s hs => ⟨(hI s hs).1, by have := zf_G_b (s := s) hv1; omega⟩) (fr_get f7 (by decide) g14) h16'
  have f68 : rz_fr [14, 16, 17] w6 w8 := fr_trans (fr_sub f7 (by decide)) (fr_sub f8 (by decide))
  refine ⟨w8, V', F2, Y2, ?_, fr_trans (fr_sub f12 (by decide)) (fr_trans (fr_sub f26 (by decide)) (fr_sub f68 (by decide))), i14, fr_get f68 (by decide) g15, fr_get f8 (by decide) h16', fr_get f8 (by decide) h17', hVv, hI⟩
  have e10 : rz_ex X (d + 2) 81 [.ref 14, .int (Int32.ofInt p0), .int (Int32.ofInt p1), .int (Int32.ofInt p2), .int (Int32.ofInt p3)] w = rz_G X (d + 1) mz_X7_take 52 [some (.ref 14), some (.int (Int32.ofInt p0)), some (.int (Int32.ofInt p1)), some (.int (Int32.ofInt p2)), some (.int (Int32.ofInt p3)), none] [] w2 0 0 := by
    have a14' : v_ob w1 14 7 [.int a, .int b, .int c, .ref 15, .ref 16, .ref 17] := a14
    have z14 : ∀ e, v_ob (w.set 15 e) 14 7 [.int a, .int b, .int c, .ref 15, .ref 16, .ref 17] := fun e => (w_ne (by decide)).trans h14
    have l14 := w_lt a14
    simp (disch := first | exact nl_i | exact nl_r | exact nl_0 | exact nl_n | exact nl_x | exact kd_r | exact kd_n | exact kd_x | exact kd_o | exact cats0 | exact cats1 | exact cats2 | exact cats3 | exact cats4 | exact nr_i | exact nr_l | exact nr_z0 | exact nr_z1 | exact ft_i | exact ft_l | omega | rfl | assumption | (refine i_ne0 ?_ ?_ ?_ <;> omega) | (refine j_ne0 ?_ ?_ ?_ <;> omega) | (refine i_new ?_ ?_ <;> omega) | (refine bl_t ?_; with_unfolding_all rfl) | exact ft_z0 | exact ft_z1) only [n_X7_take, q_X7_take_0, q_X7_take_1, q_X7_take_4, q_X7_take_5, q_X7_take_6, q_X7_take_7, q_X7_take_8, q_X7_take_11, q_X7_take_12, q_X7_take_13, q_X7_take_14, q_X7_take_15, q_X7_take_18, q_X7_take_19, q_X7_take_20, q_X7_take_21, q_X7_take_22, q_X7_take_25, q_X7_take_26, q_X7_take_28, q_X7_take_29, q_X7_take_30, i_add, i_sub, i_mul, i_neg, i_lt, i_le, i_eq, i_tm, i_div, i_j, j_i, j_add, j_sub, j_mul, j_neg, j_lt, j_le, j_eq, j_div, c_lt, c_le, c_gt, c_ge, c_eq, i_nat, rz_k, Nat.add_zero, Nat.zero_add, Nat.add_assoc, Nat.reduceAdd, if_true, if_false, gf_eq h14, List.getElem?_cons_zero, List.getElem?_cons_succ, si_eq h15, Int.toNat_zero, si_eq s0, si_eq s1, si_eq s2, hset, gf_eq (z14 _), Int.reduceToNat, hV', hw1]
    by_cases h2 : p2 = 0
    · rw [if_pos h2] at hn
      subst hn h2
      simp (disch := first | exact nl_i | exact nl_r | exact nl_0 | exact nl_n | exact nl_x | exact kd_r | exact kd_n | exact kd_x | exact kd_o | exact cats0 | exact cats1 | exact cats2 | exact cats3 | exact cats4 | exact nr_i | exact nr_l | exact nr_z0 | exact nr_z1 | exact ft_i | exact ft_l | omega | rfl | assumption | (refine i_ne0 ?_ ?_ ?_ <;> omega) | (refine j_ne0 ?_ ?_ ?_ <;> omega) | (refine i_new ?_ ?_ <;> omega) | (refine bl_t ?_; with_unfolding_all rfl) | exact ft_z0 | exact ft_z1) only [q_X7_take_31, q_X7_take_34, q_X7_take_35, i_add, i_sub, i_mul, i_neg, i_lt, i_le, i_eq, i_tm, i_div, i_j, j_i, j_add, j_sub, j_mul, j_neg, j_lt, j_le, j_eq, j_div, c_lt, c_le, c_gt, c_ge, c_eq, i_nat, rz_k, Nat.add_zero, Nat.zero_add, Nat.add_assoc, Nat.reduceAdd, if_true, if_false, pf_eq a14, List.set_cons_zero, List.set_cons_succ]
      rw [if_pos (by omega), ← hw2]
      rfl
    · rw [if_neg h2] at hn
      by_cases h3 : p3 = 0
      · rw [if_pos h3] at hn
        subst hn h3
        simp (disch := first | exact nl_i | exact nl_r | exact nl_0 | exact nl_n | exact nl_x | exact kd_r | exact kd_n | exact kd_x | exact kd_o | exact cats0 | exact cats1 | exact cats2 | exact cats3 | exact cats4 | exact nr_i | exact nr_l | exact nr_z0 | exact nr_z1 | exact ft_i | exact ft_l | omega | rfl | assumption | (refine i_ne0 ?_ ?_ ?_ <;> omega) | (refine j_ne0 ?_ ?_ ?_ <;> omega) | (refine i_new ?_ ?_ <;> omega) | (refine bl_t ?_; with_unfolding_all rfl) | exact ft_z0 | exact ft_z1) only [q_X7_take_31, q_X7_take_34, q_X7_take_35, q_X7_take_38, q_X7_take_39, q_X7_take_41, q_X7_take_48, q_X7_take_49, i_add, i_sub, i_mul, i_neg, i_lt, i_le, i_eq, i_tm, i_div, i_j, j_i, j_add, j_sub, j_mul, j_neg, j_lt, j_le, j_eq, j_div, c_lt, c_le, c_gt, c_ge, c_eq, i_nat, rz_k, Nat.add_zero, Nat.zero_add, Nat.add_assoc, Nat.reduceAdd, if_true, if_false, pf_eq a14, pf_self, List.set_cons_zero, List.set_cons_succ]
        rw [if_neg (by omega), if_pos (by omega), ← hw2]
        rfl
      · rw [if_neg h3] at hn
        subst hn
        simp (disch := first | exact nl_i | exact nl_r | exact nl_0 | exact nl_n | exact nl_x | exact kd_r | exact kd_n | exact kd_x | exact kd_o | exact cats0 | exact cats1 | exact cats2 | exact cats3 | exact cats4 | exact nr_i | exact nr_l | exact nr_z0 | exact nr_z1 | exact ft_i | exact ft_l | omega | rfl | assumption | (refine i_ne0 ?_ ?_ ?_ <;> omega) | (refine j_ne0 ?_ ?_ ?_ <;> omega) | (refine i_new ?_ ?_ <;> omega) | (refine bl_t ?_; with_unfolding_all rfl) | exact ft_z0 | exact ft_z1) only [q_X7_take_31, q_X7_take_34, q_X7_take_35, q_X7_take_38, q_X7_take_39, q_X7_take_41, q_X7_take_44, q_X7_take_45, q_X7_take_49, i_add, i_sub, i_mul, i_neg, i_lt, i_le, i_eq, i_tm, i_div, i_j, j_i, j_add, j_sub, j_mul, j_neg, j_lt, j_le, j_eq, j_div, c_lt, c_le, c_gt, c_ge, c_eq, i_nat, rz_k, Nat.add_zero, Nat.zero_add, Nat.add_assoc, Nat.reduceAdd, if_true, if_false, pf_eq a14, pf_self, List.set_cons_zero, List.set_cons_succ]
        rw [if_neg (by omega), if_neg (by omega), ← hw2]
        rfl
  rw [e10, q_X7_take_52 rfl]
  simp (disch := first | exact nl_i | exact nl_r | exact nl_0 | exact nl_n | exact nl_x | exact kd_r | exact kd_n | exact kd_x | exact kd_o | exact cats0 | exact cats1 | exact cats2 | exact cats3 | exact cats4 | exact nr_i | exact nr_l | exact nr_z0 | exact nr_z1 | exact ft_i | exact ft_l | omega | rfl | assumption | (refine i_ne0 ?_ ?_ ?_ <;> omega) | (refine j_ne0 ?_ ?_ ?_ <;> omega) | (refine i_new ?_ ?_ <;> omega) | (refine bl_t ?_; with_unfolding_all rfl) | exact ft_z0 | exact ft_z1) only [q_X7_take_53, q_X7_take_56, q_X7_take_57, q_X7_take_60, q_X7_take_61, q_X7_take_64, q_X7_take_65, q_X7_take_68, q_X7_take_69, q_X7_take_72, q_X7_take_73, q_X7_take_74, q_X7_take_75, q_X7_take_76, q_X7_take_79, q_X7_take_80, q_X7_take_81, q_X7_take_82, q_X7_take_83, i_add, i_sub, i_mul, i_neg, i_lt, i_le, i_eq, i_tm, i_div, i_j, j_i, j_add, j_sub, j_mul, j_neg, j_lt, j_le, j_eq, j_div, c_lt, c_le, c_gt, c_ge, c_eq, i_nat, rz_k, Nat.add_zero, Nat.zero_add, Nat.add_assoc, Nat.reduceAdd, if_true, if_false, gf_eq b14, List.getElem?_cons_zero, List.getElem?_cons_succ, e3, gf_eq c14, e4, gf_eq d14, si_eq d16, Int.toNat_zero, hw5, gf_eq e14, si_eq e17, hw6]
  refine Eq.trans e7 ?_
  have j14 := fr_get f7 (by decide) g14
  rw [q_X7_take_111 rfl]
  simp (disch := first | exact nl_i | exact nl_r | exact nl_0 | exact nl_n | exact nl_x | exact kd_r | exact kd_n | exact kd_x | exact kd_o | exact cats0 | exact cats1 | exact cats2 | exact cats3 | exact cats4 | exact nr_i | exact nr_l | exact nr_z0 | exact nr_z1 | exact ft_i | exact ft_l | omega | rfl | assumption | (refine i_ne0 ?_ ?_ ?_ <;> omega) | (refine j_ne0 ?_ ?_ ?_ <;> omega) | (refine i_new ?_ ?_ <;> omega) | (refine bl_t ?_; with_unfolding_all rfl) | exact ft_z0 | exact ft_z1) only [q_X7_take_112, q_X7_take_115, i_add, i_sub, i_mul, i_neg, i_lt, i_le, i_eq, i_tm, i_div, i_j, j_i, j_add, j_sub, j_mul, j_neg, j_lt, j_le, j_eq, j_div, c_lt, c_le, c_gt, c_ge, c_eq, i_nat, rz_k, Nat.add_zero, Nat.zero_add, Nat.add_assoc, Nat.reduceAdd, if_true, if_false, vk_eq j14, e8]
end RZTL
