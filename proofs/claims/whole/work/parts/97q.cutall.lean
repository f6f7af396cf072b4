/-! part 97q: level 2: close: cutting all ears -/
section RZWP
variable {X : rz_X} {d : Nat} {w w1 : rz_W} {nc ns : Nat} {x y : Nat → Int} {n : Nat} {kp tl kd ty cl th : Int}
theorem l_rem {G0 : Nat → Int32} {p mm : Nat} {b3 : Int32} (hm : mm ≤ 11) (m : Nat) : ∀ (w : rz_W) (j : Nat) (F : Nat → Int32), j + m = mm → p ≤ j → v_ob w 19 2 [.ref 20, .int (Int32.ofInt (mm : Int)), .ref 21, .int b3] → v_ia w 20 12 F → (∀ k, p ≤ k → k < j → F k = G0 (k + 1)) → (∀ k, k < p ∨ j ≤ k → F k = G0 k) → ∃ (w' : rz_W) (F' : Nat → Int32), rz_G X d mz_X2_remove 12 [some (.ref 19), some (.int (Int32.ofInt (p : Int))), some (.int (Int32.ofInt (j : Int)))] [] w nc ns = some (.inl none, w', nc, ns) ∧ rz_fr [20] w w' ∧ v_ia w' 20 12 F' ∧ (∀ k, p ≤ k → k < mm → F' k = G0 (k + 1)) ∧ (∀ k, k < p → F' k = G0 k) := by
  induction m with
  | zero =>
    intro w j F hj hp g19 g20 h1 h2
    obtain rfl : j = mm := by omega
    refine ⟨w, F, ?_, fr_refl, g20, h1, fun k hk => h2 k (.inl hk)⟩
    rw [q_X2_remove_12]
    simp (disch := first | exact nl_i | exact nl_r | exact nl_0 | exact nl_n | exact nl_x | exact kd_r | exact kd_n | exact kd_x | exact kd_o | exact cats0 | exact cats1 | exact cats2 | exact cats3 | exact cats4 | exact nr_i | exact nr_l | exact nr_z0 | exact nr_z1 | exact ft_i | exact ft_l | omega | rfl | assumption | (refine i_ne0 ?_ ?_ ?_ <;> omega) | (refine j_ne0 ?_ ?_ ?_ <;> omega) | (refine i_new ?_ ?_ <;> omega) | (refine bl_t ?_; with_unfolding_all rfl) | exact ft_z0 | exact ft_z1) only [↓reduceIte, q_X2_remove_13, q_X2_remove_14, q_X2_remove_17, q_X2_remove_40, i_add, i_sub, i_mul, i_neg, i_lt, i_le, i_eq, i_tm, i_div, i_j, j_i, j_add, j_sub, j_mul, j_neg, j_lt, j_le, j_eq, j_div, c_lt, c_le, c_gt, c_ge, c_eq, i_nat, rz_k, Nat.add_zero, Nat.zero_add, Nat.add_assoc, Nat.reduceAdd, if_true, if_false, gf_eq g19, List.getElem?_cons_zero, List.getElem?_cons_succ, eq_true (show (j : Int) ≤ (j : Int) by omega)]
  | succ m ih =>
    intro w j F hj hp g19 g20 h1 h2
    have g20' : v_ia (w.set 20 (.inl (.int, 12, .inl (upd F j (F (j + 1)))))) 20 12 (upd F j (F (j + 1))) := w_eq (w_lt g20)
    have g19' : v_ob (w.set 20 (.inl (.int, 12, .inl (upd F j (F (j + 1)))))) 19 2 [.ref 20, .int (Int32.ofInt (mm : Int)), .ref 21, .int b3] := (w_ne (by decide)).trans g19
    obtain ⟨w', F', e, f, a1, a2, a3⟩ := ih _ (j + 1) (upd F j (F (j + 1))) (by omega) (by omega) g19' g20' (fun k k1 k2 => by
      by_cases hk : k = j
      · rw [hk, upd_eq]
        exact h2 (j + 1) (.inr (by omega))
      · rw [upd_ne hk]
        exact h1 k k1 (by omega)) (fun k hk => by
      rw [upd_ne (by omega)]
      exact h2 k (by omega))
    refine ⟨w', F', ?_, fr_trans (fr_set (by decide)) f, a1, a2, a3⟩
    rw [← e, q_X2_remove_12]
    simp (disch := first | exact nl_i | exact nl_r | exact nl_0 | exact nl_n | exact nl_x | exact kd_r | exact kd_n | exact kd_x | exact kd_o | exact cats0 | exact cats1 | exact cats2 | exact cats3 | exact cats4 | exact nr_i | exact nr_l | exact nr_z0 | exact nr_z1 | exact ft_i | exact ft_l | omega | rfl | assumption | (refine i_ne0 ?_ ?_ ?_ <;> omega) | (refine j_ne0 ?_ ?_ ?_ <;> omega) | (refine i_new ?_ ?_ <;> omega) | (refine bl_t ?_; with_unfolding_all rfl) | exact ft_z0 | exact ft_z1) only [↓reduceIte, q_X2_remove_13, q_X2_remove_14, q_X2_remove_17, q_X2_remove_20, q_X2_remove_21, q_X2_remove_24, q_X2_remove_25, q_X2_remove_26, q_X2_remove_29, q_X2_remove_30, q_X2_remove_31, q_X2_remove_32, q_X2_remove_32x, q_X2_remove_33, q_X2_remove_34, q_X2_remove_37, i_add, i_sub, i_mul, i_neg, i_lt, i_le, i_eq, i_tm, i_div, i_j, j_i, j_add, j_sub, j_mul, j_neg, j_lt, j_le, j_eq, j_div, c_lt, c_le, c_gt, c_ge, c_eq, i_nat, rz_k, Nat.add_zero, Nat.zero_add, Nat.add_assoc, Nat.reduceAdd, if_true, if_false, gf_eq g19, List.getElem?_cons_zero, List.getElem?_cons_succ, eq_false (show ¬ (mm : Int) ≤ (j : Int) by omega), ai_eq g20, si_eq g20, Int.toNat_natCast, show (((j : Int) + 1)).toNat = j + 1 by omega]
    rfl
theorem x_remove {L : List Nat} {K : Nat} {C : Nat → Int32} {p : Nat} (hE : v_e w L K C) (h2 : L.length ≤ 12) (hp : p < L.length) : ∃ w', rz_ex X (d + 1) 18 [.ref 19, .int (Int32.ofInt (p : Int))] w = some (.inl none, w', 0, 0) ∧ rz_fr [19, 20] w w' ∧ v_e w' (L.eraseIdx p) K C := by
  obtain ⟨F, g19, g20, g21, hF⟩ := hE
  have hlen : (L.eraseIdx p).length = L.length - 1 := List.length_eraseIdx_of_lt hp
  have k19 : v_ob (w.set 19 (.inr (2, [.ref 20, .int (Int32.ofInt (((L.length - 1 : Nat) : Int))), .ref 21, .int (Int32.ofInt (K : Int))]))) 19 2 [.ref 20, .int (Int32.ofInt ((L.length - 1 : Nat) : Int)), .ref 21, .int (Int32.ofInt (K : Int))] := w_eq (w_lt g19)
  obtain ⟨w', F', e, f, a1, a2, a3⟩ := l_rem (X := X) (d := d) (nc := 0) (ns := 0) (G0 := F) (p := p) (mm := L.length - 1) (by omega) (L.length - 1 - p) _ p F (by omega) (Nat.le_refl _) k19 ((w_ne (by decide)).trans g20) (fun k k1 k2 => by omega) (fun k _ => rfl)
  have ff : rz_fr [19, 20] w w' := fr_trans (fr_set (by decide)) (fr_sub f (by decide))
  refine ⟨w', ?_, ff, F', ?_, a1, fr_get ff (by decide) g21, ?_⟩
  · rw [← e]
    simp (disch := first | exact nl_i | exact nl_r | exact nl_0 | exact nl_n | exact nl_x | exact kd_r | exact kd_n | exact kd_x | exact kd_o | exact cats0 | exact cats1 | exact cats2 | exact cats3 | exact cats4 | exact nr_i | exact nr_l | exact nr_z0 | exact nr_z1 | exact ft_i | exact ft_l | omega | rfl | assumption | (refine i_ne0 ?_ ?_ ?_ <;> omega) | (refine j_ne0 ?_ ?_ ?_ <;> omega) | (refine i_new ?_ ?_ <;> omega) | (refine bl_t ?_; with_unfolding_all rfl) | exact ft_z0 | exact ft_z1) only [n_X2_remove, q_X2_remove_0, q_X2_remove_1, q_X2_remove_1r, q_X2_remove_2, q_X2_remove_5, q_X2_remove_6, q_X2_remove_7, q_X2_remove_10, q_X2_remove_11, i_add, i_sub, i_mul, i_neg, i_lt, i_le, i_eq, i_tm, i_div, i_j, j_i, j_add, j_sub, j_mul, j_neg, j_lt, j_le, j_eq, j_div, c_lt, c_le, c_gt, c_ge, c_eq, i_nat, rz_k, Nat.add_zero, Nat.zero_add, Nat.add_assoc, Nat.reduceAdd, if_true, if_false, gf_eq g19, pf_eq g19, List.getElem?_cons_zero, List.getElem?_cons_succ, List.set_cons_zero, List.set_cons_succ]
    rw [show (L.length : Int) - 1 = ((L.length - 1 : Nat) : Int) by omega]
  · rw [hlen]
    exact fr_get f (by decide) k19
  · intro k e hk
    rw [List.getElem?_eraseIdx] at hk
    by_cases hkp : k < p
    · rw [if_pos hkp] at hk
      rw [a3 k hkp]
      exact hF k e hk
    · rw [if_neg hkp] at hk
      have := (List.getElem?_eq_some_iff.mp hk).1
      rw [a2 k (by omega) (by omega)]
      exact hF (k + 1) e hk
theorem x_keep {L : List Nat} {K : Nat} {C : Nat → Int32} (hE : v_e w L K C) (hK : K ≤ 11) {a b c : Nat} : ∃ w', rz_ex X (d + 1) 19 [.ref 19, .int (Int32.ofInt (a : Int)), .int (Int32.ofInt (b : Int)), .int (Int32.ofInt (c : Int))] w = some (.inl none, w', 0, 0) ∧ rz_fr [19, 21] w w' ∧ v_e w' L (K + 1) (upd (upd (upd C (3 * K) (Int32.ofInt (a : Int))) (3 * K + 1) (Int32.ofInt (b : Int))) (3 * K + 2) (Int32.ofInt (c : Int))) := by
  obtain ⟨F, g19, g20, g21, hF⟩ := hE
  have k21 : v_ia (w.set 21 (.inl (.int, 36, .inl (upd C (3 * K) (Int32.ofInt (a : Int)))))) 21 36 (upd C (3 * K) (Int32.ofInt (a : Int))) := w_eq (w_lt g21)
  have k21b : v_ia ((w.set 21 (.inl (.int, 36, .inl (upd C (3 * K) (Int32.ofInt (a : Int)))))).set 21 (.inl (.int, 36, .inl (upd (upd C (3 * K) (Int32.ofInt (a : Int))) (3 * K + 1) (Int32.ofInt (b : Int)))))) 21 36 (upd (upd C (3 * K) (Int32.ofInt (a : Int))) (3 * K + 1) (Int32.ofInt (b : Int))) := w_eq (w_lt k21)
  have k21c : v_ia (((w.set 21 (.inl (.int, 36, .inl (upd C (3 * K) (Int32.ofInt (a : Int)))))).set 21 (.inl (.int, 36, .inl (upd (upd C (3 * K) (Int32.ofInt (a : Int))) (3 * K + 1) (Int32.ofInt (b : Int)))))).set 21 (.inl (.int, 36, .inl (upd (upd (upd C (3 * K) (Int32.ofInt (a : Int))) (3 * K + 1) (Int32.ofInt (b : Int))) (3 * K + 2) (Int32.ofInt (c : Int)))))) 21 36 (upd (upd (upd C (3 * K) (Int32.ofInt (a : Int))) (3 * K + 1) (Int32.ofInt (b : Int))) (3 * K + 2) (Int32.ofInt (c : Int))) := w_eq (w_lt k21b)
  have f1 : rz_fr [21] w (((w.set 21 (.inl (.int, 36, .inl (upd C (3 * K) (Int32.ofInt (a : Int)))))).set 21 (.inl (.int, 36, .inl (upd (upd C (3 * K) (Int32.ofInt (a : Int))) (3 * K + 1) (Int32.ofInt (b : Int)))))).set 21 (.inl (.int, 36, .inl (upd (upd (upd C (3 * K) (Int32.ofInt (a : Int))) (3 * K + 1) (Int32.ofInt (b : Int))) (3 * K + 2) (Int32.ofInt (c : Int)))))) := fr_trans (fr_set (by decide)) (fr_trans (fr_set (by decide)) (fr_set (by decide)))
  have j19 : v_ob (w.set 21 (.inl (.int, 36, .inl (upd C (3 * K) (Int32.ofInt (a : Int)))))) 19 2 [.ref 20, .int (Int32.ofInt (L.length : Int)), .ref 21, .int (Int32.ofInt (K : Int))] := (w_ne (by decide)).trans g19
  have j19b : v_ob ((w.set 21 (.inl (.int, 36, .inl (upd C (3 * K) (Int32.ofInt (a : Int)))))).set 21 (.inl (.int, 36, .inl (upd (upd C (3 * K) (Int32.ofInt (a : Int))) (3 * K + 1) (Int32.ofInt (b : Int)))))) 19 2 [.ref 20, .int (Int32.ofInt (L.length : Int)), .ref 21, .int (Int32.ofInt (K : Int))] := (w_ne (by decide)).trans j19
  have j19c := fr_get f1 (by decide) g19
  generalize hw3 : ((w.set 21 (.inl (.int, 36, .inl (upd C (3 * K) (Int32.ofInt (a : Int)))))).set 21 (.inl (.int, 36, .inl (upd (upd C (3 * K) (Int32.ofInt (a : Int))) (3 * K + 1) (Int32.ofInt (b : Int)))))).set 21 (.inl (.int, 36, .inl (upd (upd (upd C (3 * K) (Int32.ofInt (a : Int))) (3 * K + 1) (Int32.ofInt (b : Int))) (3 * K + 2) (Int32.ofInt (c : Int))))) = w3 at *
  have f2 : rz_fr [19] w3 (w3.set 19 (.inr (2, [.ref 20, .int (Int32.ofInt (L.length : Int)), .ref 21, .int (Int32.ofInt ((K + 1 : Nat) : Int))]))) := fr_set (by decide)
  have ff : rz_fr [19, 21] w (w3.set 19 (.inr (2, [.ref 20, .int (Int32.ofInt (L.length : Int)), .ref 21, .int (Int32.ofInt ((K + 1 : Nat) : Int))]))) := fr_trans (fr_sub f1 (by decide)) (fr_set (by decide))
  refine ⟨_, ?_, ff, F, w_eq (w_lt j19c), fr_get ff (by decide) g20, fr_get f2 (by decide) k21c, hF⟩
  simp (disch := first | exact nl_i | exact nl_r | exact nl_0 | exact nl_n | exact nl_x | exact kd_r | exact kd_n | exact kd_x | exact kd_o | exact cats0 | exact cats1 | exact cats2 | exact cats3 | exact cats4 | exact nr_i | exact nr_l | exact nr_z0 | exact nr_z1 | exact ft_i | exact ft_l | omega | rfl | assumption | (refine i_ne0 ?_ ?_ ?_ <;> omega) | (refine j_ne0 ?_ ?_ ?_ <;> omega) | (refine i_new ?_ ?_ <;> omega) | (refine bl_t ?_; with_unfolding_all rfl) | exact ft_z0 | exact ft_z1) only [↓reduceIte, n_X2_keep, q_X2_keep_0, q_X2_keep_1, q_X2_keep_2, q_X2_keep_5, q_X2_keep_6, q_X2_keep_8, q_X2_keep_10, q_X2_keep_13, q_X2_keep_15, q_X2_keep_16, q_X2_keep_17, q_X2_keep_18, q_X2_keep_21, q_X2_keep_21x, q_X2_keep_22, q_X2_keep_25, q_X2_keep_26, q_X2_keep_29, q_X2_keep_31, q_X2_keep_32, q_X2_keep_33, q_X2_keep_34, q_X2_keep_37, q_X2_keep_39, q_X2_keep_40, q_X2_keep_41, q_X2_keep_42, q_X2_keep_43, q_X2_keep_44, q_X2_keep_47, q_X2_keep_49, q_X2_keep_50, q_X2_keep_51, q_X2_keep_52, q_X2_keep_53, q_X2_keep_54, q_X2_keep_54r, q_X2_keep_55, q_X2_keep_58, q_X2_keep_59, q_X2_keep_60, q_X2_keep_63, i_add, i_sub, i_mul, i_neg, i_lt, i_le, i_eq, i_tm, i_div, i_j, j_i, j_add, j_sub, j_mul, j_neg, j_lt, j_le, j_eq, j_div, c_lt, c_le, c_gt, c_ge, c_eq, i_nat, rz_k, Nat.add_zero, Nat.zero_add, Nat.add_assoc, Nat.reduceAdd, if_true, if_false, gf_eq g19, ln_eq g21, gf_eq j19, gf_eq j19b, List.getElem?_cons_zero, List.getElem?_cons_succ, eq_false (show ¬ 3 * (K : Int) < 0 by omega), eq_false (show ¬ ((36 : Nat) : Int) ≤ 3 * (K : Int) + 2 by omega), si_eq g21, si_eq k21, si_eq k21b, show (3 * (K : Int)).toNat = 3 * K by omega, show (3 * (K : Int) + 1).toNat = 3 * K + 1 by omega, show (3 * (K : Int) + 2).toNat = 3 * K + 2 by omega, hw3, gf_eq j19c, pf_eq j19c, List.set_cons_zero, List.set_cons_succ]
  rfl
theorem l_cut1 {L : List Nat} {K : Nat} {C : Nat → Int32} (h : v_cp w x y n) (hE : v_e w L K C) (h2 : L.length ≤ 12) (hL : ∀ e, e ∈ L → e < n) (hK : K ≤ 11) (m : Nat) : ∀ (p : Nat), p + m = L.length → (∀ q, q < p → zp_ear x y n L q = false) → ((∀ q, q < L.length → zp_ear x y n L q = false) ∧ rz_G X (d + 3) mz_X2_cutFirst 2 [some (.ref 19), some (.ref 18), some (.int (Int32.ofInt (p : Int)))] [] w nc ns = some (.inl none, w, nc, ns)) ∨ (∃ (p0 : Nat) (w' : rz_W), p0 < L.length ∧ zp_ear x y n L p0 = true ∧ (∀ q, q < p0 → zp_ear x y n L q = false) ∧ rz_G X (d + 3) mz_X2_cutFirst 2 [some (.ref 19), some (.ref 18), some (.int (Int32.ofInt (p : Int)))] [] w nc ns = some (.inl none, w', nc, ns) ∧ rz_fr [19, 20, 21] w w' ∧ v_e w' (L.eraseIdx p0) (K + 1) (upd (upd (upd C (3 * K) (Int32.ofInt ((L.getD ((p0 + L.length - 1) % L.length) 0 : Nat) : Int))) (3 * K + 1) (Int32.ofInt ((L.getD p0 0 : Nat) : Int))) (3 * K + 2) (Int32.ofInt ((L.getD ((p0 + 1) % L.length) 0 : Nat) : Int)))) := by
  obtain ⟨F, g19, g20, g21, hF⟩ := id hE
  obtain ⟨cl, a0, P, Q, h18, h22, h23, hn, hrg, he⟩ := id h
  induction m with
  | zero =>
    intro p hp hq
    obtain rfl : p = L.length := by omega
    refine .inl ⟨hq, ?_⟩
    rw [q_X2_cutFirst_2]
    simp (disch := first | exact nl_i | exact nl_r | exact nl_0 | exact nl_n | exact nl_x | exact kd_r | exact kd_n | exact kd_x | exact kd_o | exact cats0 | exact cats1 | exact cats2 | exact cats3 | exact cats4 | exact nr_i | exact nr_l | exact nr_z0 | exact nr_z1 | exact ft_i | exact ft_l | omega | rfl | assumption | (refine i_ne0 ?_ ?_ ?_ <;> omega) | (refine j_ne0 ?_ ?_ ?_ <;> omega) | (refine i_new ?_ ?_ <;> omega) | (refine bl_t ?_; with_unfolding_all rfl) | exact ft_z0 | exact ft_z1) only [↓reduceIte, q_X2_cutFirst_3, q_X2_cutFirst_4, q_X2_cutFirst_7, q_X2_cutFirst_54, i_add, i_sub, i_mul, i_neg, i_lt, i_le, i_eq, i_tm, i_div, i_j, j_i, j_add, j_sub, j_mul, j_neg, j_lt, j_le, j_eq, j_div, c_lt, c_le, c_gt, c_ge, c_eq, i_nat, rz_k, Nat.add_zero, Nat.zero_add, Nat.add_assoc, Nat.reduceAdd, if_true, if_false, gf_eq g19, List.getElem?_cons_zero, List.getElem?_cons_succ, eq_true (show (L.length : Int) ≤ (L.length : Int) by omega)]
  | succ m ih =>
    intro p hp hq
    have hpl : p < L.length := by omega
    have kE := x_ear (X := X) (d := d) h hE h2 hL hpl
    cases hz : zp_ear x y n L p
    · rw [hz, zb_f] at kE
      have e : rz_G X (d + 3) mz_X2_cutFirst 2 [some (.ref 19), some (.ref 18), some (.int (Int32.ofInt (p : Int)))] [] w nc ns = rz_G X (d + 3) mz_X2_cutFirst 2 [some (.ref 19), some (.ref 18), some (.int (Int32.ofInt ((p + 1 : Nat) : Int)))] [] w nc ns := by
        rw [q_X2_cutFirst_2]
        simp (disch := first | exact nl_i | exact nl_r | exact nl_0 | exact nl_n | exact nl_x | exact kd_r | exact kd_n | exact kd_x | exact kd_o | exact cats0 | exact cats1 | exact cats2 | exact cats3 | exact cats4 | exact nr_i | exact nr_l | exact nr_z0 | exact nr_z1 | exact ft_i | exact ft_l | omega | rfl | assumption | (refine i_ne0 ?_ ?_ ?_ <;> omega) | (refine j_ne0 ?_ ?_ ?_ <;> omega) | (refine i_new ?_ ?_ <;> omega) | (refine bl_t ?_; with_unfolding_all rfl) | exact ft_z0 | exact ft_z1) only [↓reduceIte, q_X2_cutFirst_3, q_X2_cutFirst_4, q_X2_cutFirst_7, q_X2_cutFirst_10, q_X2_cutFirst_11, q_X2_cutFirst_12, q_X2_cutFirst_13, q_X2_cutFirst_16, q_X2_cutFirst_48, q_X2_cutFirst_51, i_add, i_sub, i_mul, i_neg, i_lt, i_le, i_eq, i_tm, i_div, i_j, j_i, j_add, j_sub, j_mul, j_neg, j_lt, j_le, j_eq, j_div, c_lt, c_le, c_gt, c_ge, c_eq, i_nat, rz_k, Nat.add_zero, Nat.zero_add, Nat.add_assoc, Nat.reduceAdd, if_true, if_false, gf_eq g19, vk_eq g19, List.getElem?_cons_zero, List.getElem?_cons_succ, eq_false (show ¬ (L.length : Int) ≤ (p : Int) by omega), kE]
        rfl
      rcases ih (p + 1) (by omega) (fun q hq2 => by
        by_cases hqp : q = p
        · rw [hqp]; exact hz
        · exact hq q (by omega)) with ⟨a1, a2⟩ | ⟨p0, w', a1, a2, a3, a4, a5⟩
      · exact .inl ⟨a1, e.trans a2⟩
      · exact .inr ⟨p0, w', a1, a2, a3, e.trans a4, a5⟩
    · rw [hz, zb_t] at kE
      have ka := x_left (X := X) (d := d + 1) hE (by omega) h2 (p := (p : Int) - 1) (by omega) (e := L.getD ((p + L.length - 1) % L.length) 0) (by rw [ze_p hpl])
      have kb := x_left (X := X) (d := d + 1) hE (by omega) h2 (p := (p : Int)) (by omega) (e := L.getD p 0) (by rw [ze_i hpl, Nat.mod_eq_of_lt hpl])
      have kc := x_left (X := X) (d := d + 1) hE (by omega) h2 (p := (p : Int) + 1) (by omega) (e := L.getD ((p + 1) % L.length) 0) (by rw [ze_s hpl])
      obtain ⟨w2, e2, f2, hE2⟩ := x_keep (X := X) (d := d + 2) hE hK (a := L.getD ((p + L.length - 1) % L.length) 0) (b := L.getD p 0) (c := L.getD ((p + 1) % L.length) 0)
      obtain ⟨w3, e3, f3, hE3⟩ := x_remove (X := X) (d := d + 2) (p := p) hE2 h2 hpl
      obtain ⟨F2, j19, -⟩ := id hE2
      refine .inr ⟨p, w3, hpl, hz, hq, ?_, fr_trans (fr_sub f2 (by decide)) (fr_sub f3 (by decide)), hE3⟩
      rw [q_X2_cutFirst_2]
      simp (disch := first | exact nl_i | exact nl_r | exact nl_0 | exact nl_n | exact nl_x | exact kd_r | exact kd_n | exact kd_x | exact kd_o | exact cats0 | exact cats1 | exact cats2 | exact cats3 | exact cats4 | exact nr_i | exact nr_l | exact nr_z0 | exact nr_z1 | exact ft_i | exact ft_l | omega | rfl | assumption | (refine i_ne0 ?_ ?_ ?_ <;> omega) | (refine j_ne0 ?_ ?_ ?_ <;> omega) | (refine i_new ?_ ?_ <;> omega) | (refine bl_t ?_; with_unfolding_all rfl) | exact ft_z0 | exact ft_z1) only [↓reduceIte, q_X2_cutFirst_3, q_X2_cutFirst_4, q_X2_cutFirst_7, q_X2_cutFirst_10, q_X2_cutFirst_11, q_X2_cutFirst_12, q_X2_cutFirst_13, q_X2_cutFirst_16, q_X2_cutFirst_19, q_X2_cutFirst_20, q_X2_cutFirst_21, q_X2_cutFirst_22, q_X2_cutFirst_23, q_X2_cutFirst_24, q_X2_cutFirst_27, q_X2_cutFirst_28, q_X2_cutFirst_29, q_X2_cutFirst_32, q_X2_cutFirst_33, q_X2_cutFirst_34, q_X2_cutFirst_35, q_X2_cutFirst_36, q_X2_cutFirst_39, q_X2_cutFirst_42, q_X2_cutFirst_43, q_X2_cutFirst_44, q_X2_cutFirst_47, i_add, i_sub, i_mul, i_neg, i_lt, i_le, i_eq, i_tm, i_div, i_j, j_i, j_add, j_sub, j_mul, j_neg, j_lt, j_le, j_eq, j_div, c_lt, c_le, c_gt, c_ge, c_eq, i_nat, rz_k, Nat.add_zero, Nat.zero_add, Nat.add_assoc, Nat.reduceAdd, if_true, if_false, gf_eq g19, vk_eq g19, List.getElem?_cons_zero, List.getElem?_cons_succ, eq_false (show ¬ (L.length : Int) ≤ (p : Int) by omega), kE, Int.reduceEq, ka, kb, kc, e2, vk_eq j19, e3]
end RZWP
