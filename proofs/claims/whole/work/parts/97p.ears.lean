/-! part 97p: level 2: close: ears -/
section RZWO
variable {X : rz_X} {d : Nat} {w w1 : rz_W} {nc ns : Nat} {x y : Nat → Int} {n : Nat} {kp tl kd ty cl th : Int}
/-- the corners that are left, and how many are cut -/
def v_e (w : rz_W) (L : List Nat) (K : Nat) (C : Nat → Int32) : Prop := ∃ F : Nat → Int32, v_ob w 19 2 [.ref 20, .int (Int32.ofInt (L.length : Int)), .ref 21, .int (Int32.ofInt (K : Int))] ∧ v_ia w 20 12 F ∧ v_ia w 21 36 C ∧ ∀ k e, L[k]? = some e → F k = Int32.ofInt ((e : Nat) : Int)
theorem ze_get {L : List Nat} {k : Nat} (h : k < L.length) : L[k]? = some (L.getD k 0) := by
  rw [List.getD_eq_getElem?_getD, List.getElem?_eq_getElem h]
  rfl
theorem ze_mem {L : List Nat} {k : Nat} (h : k < L.length) : L.getD k 0 ∈ L := List.mem_of_getElem? (ze_get h)
theorem x_left {L : List Nat} {K : Nat} {C : Nat → Int32} (h : v_e w L K C) (h1 : 1 ≤ L.length) (h2 : L.length ≤ 12) {p : Int} (hp : -100 ≤ p ∧ p ≤ 100) {e : Nat} (he : L.getD (p % (L.length : Int)).toNat 0 = e) : rz_ex X (d + 2) 17 [.ref 19, .int (Int32.ofInt p)] w = some (.inl (some (.int (Int32.ofInt ((e : Nat) : Int)))), w, 0, 0) := by
  obtain ⟨F, g19, g20, g21, hF⟩ := h
  have b1 := Int.emod_nonneg p (show (L.length : Int) ≠ 0 by omega)
  have b2 := Int.emod_lt_of_pos p (show 0 < (L.length : Int) by omega)
  have hm := x_fmod (X := X) (d := d) (w := w) (a := p) (b := (L.length : Int)) (by omega) (by omega) (by omega) (by omega)
  have hv := hF (p % (L.length : Int)).toNat _ (ze_get (by omega))
  rw [he] at hv
  generalize p % (L.length : Int) = q at *
  simp (disch := first | exact nl_i | exact nl_r | exact nl_0 | exact nl_n | exact nl_x | exact kd_r | exact kd_n | exact kd_x | exact kd_o | exact cats0 | exact cats1 | exact cats2 | exact cats3 | exact cats4 | exact nr_i | exact nr_l | exact nr_z0 | exact nr_z1 | exact ft_i | exact ft_l | omega | rfl | assumption | (refine i_ne0 ?_ ?_ ?_ <;> omega) | (refine j_ne0 ?_ ?_ ?_ <;> omega) | (refine i_new ?_ ?_ <;> omega) | (refine bl_t ?_; with_unfolding_all rfl) | exact ft_z0 | exact ft_z1) only [↓reduceIte, n_X2_leftAt, q_X2_leftAt_0, q_X2_leftAt_1, q_X2_leftAt_4, q_X2_leftAt_5, q_X2_leftAt_8, q_X2_leftAt_9, q_X2_leftAt_12, q_X2_leftAt_14, q_X2_leftAt_17, q_X2_leftAt_18, q_X2_leftAt_19, q_X2_leftAt_20, q_X2_leftAt_23, q_X2_leftAt_24, q_X2_leftAt_25, q_X2_leftAt_28, q_X2_leftAt_31, q_X2_leftAt_31x, q_X2_leftAt_32, i_add, i_sub, i_mul, i_neg, i_lt, i_le, i_eq, i_tm, i_div, i_j, j_i, j_add, j_sub, j_mul, j_neg, j_lt, j_le, j_eq, j_div, c_lt, c_le, c_gt, c_ge, c_eq, i_nat, rz_k, Nat.add_zero, Nat.zero_add, Nat.add_assoc, Nat.reduceAdd, if_true, if_false, gf_eq g19, List.getElem?_cons_zero, List.getElem?_cons_succ, eq_false (show ¬ (L.length : Int) < 1 by omega), eq_true (show (L.length : Int) ≤ 12 by omega), hm, ai_eq g20, hv]
theorem ze_p {m p : Nat} (hp : p < m) : (((p : Int) - 1) % (m : Int)).toNat = (p + m - 1) % m := by
  by_cases h : p = 0
  · rw [h]
    have e : (((0 : Nat) : Int) - 1) % (m : Int) = (m : Int) - 1 := by
      rw [show ((0 : Nat) : Int) - 1 = ((m : Int) - 1) + (m : Int) * (-1) by omega, Int.add_mul_emod_self_left]
      exact Int.emod_eq_of_lt (by omega) (by omega)
    rw [e, Nat.mod_eq_of_lt (by omega)]
    omega
  · rw [Int.emod_eq_of_lt (by omega) (by omega), show p + m - 1 = (p - 1) + m by omega, Nat.add_mod_right, Nat.mod_eq_of_lt (by omega)]
    omega
theorem ze_s {m p : Nat} (hp : p < m) : (((p : Int) + 1) % (m : Int)).toNat = (p + 1) % m := by
  rw [show ((p : Int) + 1) = ((p + 1 : Nat) : Int) by omega, ← Int.natCast_emod]
  exact Int.toNat_natCast _
theorem ze_i {m p : Nat} (hp : p < m) : ((p : Int) % (m : Int)).toNat = p % m := by
  rw [← Int.natCast_emod]
  exact Int.toNat_natCast _
abbrev ze_P (x y : Nat → Int) (s : Int) (a b c k : Nat) : Bool := decide (k = a ∨ k = b ∨ k = c ∨ s * zp_turn x y a b k < 0 ∨ s * zp_turn x y b c k < 0 ∨ s * zp_turn x y c a k < 0)
theorem l_ear {L : List Nat} {K : Nat} {C : Nat → Int32} (h : v_cp w x y n) (hE : v_e w L K C) (h2 : L.length ≤ 12) (hL : ∀ e, e ∈ L → e < n) {a b c : Nat} (ha : a < n) (hb : b < n) (hc : c < n) {s : Int} (hs : s = 1 ∨ s = -1) {p : Int} (m : Nat) : ∀ (o : Nat) (l8 l9 : Option Value), o + m = L.length → rz_G X (d + 2) mz_X2_isEar 58 [some (.ref 19), some (.ref 18), some (.int (Int32.ofInt p)), some (.int (Int32.ofInt (a : Int))), some (.int (Int32.ofInt (b : Int))), some (.int (Int32.ofInt (c : Int))), some (.int (Int32.ofInt s)), some (.int (Int32.ofInt (o : Int))), l8, l9] [] w nc ns = some (.inl (some (.int (Int32.ofInt (zb ((L.drop o).all (ze_P x y s a b c)))))), w, nc, ns) := by
  have hE' := hE
  obtain ⟨F, g19, g20, g21, hF⟩ := hE'
  obtain ⟨cl, a0, P, Q, h18, h22, h23, hn, hrg, he⟩ := id h
  induction m with
  | zero =>
    intro o l8 l9 ho
    obtain rfl : o = L.length := by omega
    rw [List.drop_length, q_X2_isEar_58]
    simp (disch := first | exact nl_i | exact nl_r | exact nl_0 | exact nl_n | exact nl_x | exact kd_r | exact kd_n | exact kd_x | exact kd_o | exact cats0 | exact cats1 | exact cats2 | exact cats3 | exact cats4 | exact nr_i | exact nr_l | exact nr_z0 | exact nr_z1 | exact ft_i | exact ft_l | omega | rfl | assumption | (refine i_ne0 ?_ ?_ ?_ <;> omega) | (refine j_ne0 ?_ ?_ ?_ <;> omega) | (refine i_new ?_ ?_ <;> omega) | (refine bl_t ?_; with_unfolding_all rfl) | exact ft_z0 | exact ft_z1) only [↓reduceIte, q_X2_isEar_60, q_X2_isEar_61, q_X2_isEar_64, q_X2_isEar_161, q_X2_isEar_162, i_add, i_sub, i_mul, i_neg, i_lt, i_le, i_eq, i_tm, i_div, i_j, j_i, j_add, j_sub, j_mul, j_neg, j_lt, j_le, j_eq, j_div, c_lt, c_le, c_gt, c_ge, c_eq, i_nat, rz_k, Nat.add_zero, Nat.zero_add, Nat.add_assoc, Nat.reduceAdd, if_true, if_false, gf_eq g19, List.getElem?_cons_zero, List.getElem?_cons_succ, eq_true (show (L.length : Int) ≤ (L.length : Int) by omega)]
    rfl
  | succ m ih =>
    intro o l8 l9 ho
    have hol : o < L.length := by omega
    have hg : L.drop o = L.getD o 0 :: L.drop (o + 1) := by
      rw [List.drop_eq_getElem_cons hol, List.getD_eq_getElem?_getD, List.getElem?_eq_getElem hol]
      rfl
    have kl := x_left (X := X) (d := d) hE (by omega) h2 (p := (o : Int)) (by omega) (e := L.getD o 0) (by rw [ze_i hol, Nat.mod_eq_of_lt hol])
    have hkn := hL _ (ze_mem hol)
    rw [hg, List.all_cons]
    generalize L.getD o 0 = k at *
    have t1 := x_pturn (X := X) (d := d) h ha hb hkn
    have t2 := x_pturn (X := X) (d := d) h hb hc hkn
    have t3 := x_pturn (X := X) (d := d) h hc ha hkn
    have z1 := z_turn_b hrg a b k
    have z2 := z_turn_b hrg b c k
    have z3 := z_turn_b hrg c a k
    have ih1 := ih (o + 1)
    clear ih
    unfold ze_P at *
    generalize zp_turn x y a b k = T1 at *
    generalize zp_turn x y b c k = T2 at *
    generalize zp_turn x y c a k = T3 at *
    have s1 : -3200 ≤ s * T1 ∧ s * T1 ≤ 3200 := by rcases hs with rfl | rfl <;> omega
    have s2 : -3200 ≤ s * T2 ∧ s * T2 ≤ 3200 := by rcases hs with rfl | rfl <;> omega
    have s3 : -3200 ≤ s * T3 ∧ s * T3 ≤ 3200 := by rcases hs with rfl | rfl <;> omega
    generalize hS1 : s * T1 = S1 at *
    generalize hS2 : s * T2 = S2 at *
    generalize hS3 : s * T3 = S3 at *
    rw [q_X2_isEar_58]
    by_cases o1 : k = a
    · rw [decide_eq_true (.inl o1), Bool.true_and, ← ih1 (some (.int (Int32.ofInt (k : Int)))) (some (.int (Int32.ofInt 1))) (by omega)]
      simp (disch := first | exact nl_i | exact nl_r | exact nl_0 | exact nl_n | exact nl_x | exact kd_r | exact kd_n | exact kd_x | exact kd_o | exact cats0 | exact cats1 | exact cats2 | exact cats3 | exact cats4 | exact nr_i | exact nr_l | exact nr_z0 | exact nr_z1 | exact ft_i | exact ft_l | omega | rfl | assumption | (refine i_ne0 ?_ ?_ ?_ <;> omega) | (refine j_ne0 ?_ ?_ ?_ <;> omega) | (refine i_new ?_ ?_ <;> omega) | (refine bl_t ?_; with_unfolding_all rfl) | exact ft_z0 | exact ft_z1) only [↓reduceIte, q_X2_isEar_60, q_X2_isEar_61, q_X2_isEar_64, q_X2_isEar_67, q_X2_isEar_68, q_X2_isEar_70, q_X2_isEar_73, q_X2_isEar_75, q_X2_isEar_77, q_X2_isEar_78, q_X2_isEar_81, q_X2_isEar_83, q_X2_isEar_85, q_X2_isEar_88, q_X2_isEar_90, q_X2_isEar_92, q_X2_isEar_95, q_X2_isEar_96, q_X2_isEar_99, q_X2_isEar_100, q_X2_isEar_102, q_X2_isEar_104, q_X2_isEar_155, q_X2_isEar_158, i_add, i_sub, i_mul, i_neg, i_lt, i_le, i_eq, i_tm, i_div, i_j, j_i, j_add, j_sub, j_mul, j_neg, j_lt, j_le, j_eq, j_div, c_lt, c_le, c_gt, c_ge, c_eq, i_nat, rz_k, Nat.add_zero, Nat.zero_add, Nat.add_assoc, Nat.reduceAdd, if_true, if_false, vk_eq g19, gf_eq g19, List.getElem?_cons_zero, List.getElem?_cons_succ, eq_false (show ¬ (L.length : Int) ≤ (o : Int) by omega), kl, eq_true (show (k : Int) = (a : Int) by omega), Int.reduceEq, not_true_eq_false, not_false_eq_true]
      rfl
    by_cases o2 : k = b
    · rw [decide_eq_true (.inr (.inl o2)), Bool.true_and, ← ih1 (some (.int (Int32.ofInt (k : Int)))) (some (.int (Int32.ofInt 1))) (by omega)]
      simp (disch := first | exact nl_i | exact nl_r | exact nl_0 | exact nl_n | exact nl_x | exact kd_r | exact kd_n | exact kd_x | exact kd_o | exact cats0 | exact cats1 | exact cats2 | exact cats3 | exact cats4 | exact nr_i | exact nr_l | exact nr_z0 | exact nr_z1 | exact ft_i | exact ft_l | omega | rfl | assumption | (refine i_ne0 ?_ ?_ ?_ <;> omega) | (refine j_ne0 ?_ ?_ ?_ <;> omega) | (refine i_new ?_ ?_ <;> omega) | (refine bl_t ?_; with_unfolding_all rfl) | exact ft_z0 | exact ft_z1) only [↓reduceIte, q_X2_isEar_60, q_X2_isEar_61, q_X2_isEar_64, q_X2_isEar_67, q_X2_isEar_68, q_X2_isEar_70, q_X2_isEar_73, q_X2_isEar_75, q_X2_isEar_77, q_X2_isEar_78, q_X2_isEar_81, q_X2_isEar_83, q_X2_isEar_85, q_X2_isEar_88, q_X2_isEar_90, q_X2_isEar_92, q_X2_isEar_95, q_X2_isEar_96, q_X2_isEar_99, q_X2_isEar_100, q_X2_isEar_102, q_X2_isEar_104, q_X2_isEar_155, q_X2_isEar_158, i_add, i_sub, i_mul, i_neg, i_lt, i_le, i_eq, i_tm, i_div, i_j, j_i, j_add, j_sub, j_mul, j_neg, j_lt, j_le, j_eq, j_div, c_lt, c_le, c_gt, c_ge, c_eq, i_nat, rz_k, Nat.add_zero, Nat.zero_add, Nat.add_assoc, Nat.reduceAdd, if_true, if_false, vk_eq g19, gf_eq g19, List.getElem?_cons_zero, List.getElem?_cons_succ, eq_false (show ¬ (L.length : Int) ≤ (o : Int) by omega), kl, eq_false (show ¬ (k : Int) = (a : Int) by omega), eq_true (show (k : Int) = (b : Int) by omega), Int.reduceEq, not_true_eq_false, not_false_eq_true]
      rfl
    by_cases o3 : k = c
    · rw [decide_eq_true (.inr (.inr (.inl o3))), Bool.true_and, ← ih1 (some (.int (Int32.ofInt (k : Int)))) (some (.int (Int32.ofInt 1))) (by omega)]
      simp (disch := first | exact nl_i | exact nl_r | exact nl_0 | exact nl_n | exact nl_x | exact kd_r | exact kd_n | exact kd_x | exact kd_o | exact cats0 | exact cats1 | exact cats2 | exact cats3 | exact cats4 | exact nr_i | exact nr_l | exact nr_z0 | exact nr_z1 | exact ft_i | exact ft_l | omega | rfl | assumption | (refine i_ne0 ?_ ?_ ?_ <;> omega) | (refine j_ne0 ?_ ?_ ?_ <;> omega) | (refine i_new ?_ ?_ <;> omega) | (refine bl_t ?_; with_unfolding_all rfl) | exact ft_z0 | exact ft_z1) only [↓reduceIte, q_X2_isEar_60, q_X2_isEar_61, q_X2_isEar_64, q_X2_isEar_67, q_X2_isEar_68, q_X2_isEar_70, q_X2_isEar_73, q_X2_isEar_75, q_X2_isEar_77, q_X2_isEar_78, q_X2_isEar_81, q_X2_isEar_83, q_X2_isEar_85, q_X2_isEar_88, q_X2_isEar_90, q_X2_isEar_92, q_X2_isEar_95, q_X2_isEar_96, q_X2_isEar_99, q_X2_isEar_100, q_X2_isEar_102, q_X2_isEar_104, q_X2_isEar_155, q_X2_isEar_158, i_add, i_sub, i_mul, i_neg, i_lt, i_le, i_eq, i_tm, i_div, i_j, j_i, j_add, j_sub, j_mul, j_neg, j_lt, j_le, j_eq, j_div, c_lt, c_le, c_gt, c_ge, c_eq, i_nat, rz_k, Nat.add_zero, Nat.zero_add, Nat.add_assoc, Nat.reduceAdd, if_true, if_false, vk_eq g19, gf_eq g19, List.getElem?_cons_zero, List.getElem?_cons_succ, eq_false (show ¬ (L.length : Int) ≤ (o : Int) by omega), kl, eq_false (show ¬ (k : Int) = (a : Int) by omega), eq_false (show ¬ (k : Int) = (b : Int) by omega), eq_true (show (k : Int) = (c : Int) by omega), Int.reduceEq, not_true_eq_false, not_false_eq_true]
      rfl
    have hpre : rz_G X (d + 2) mz_X2_isEar 60 [some (.ref 19), some (.ref 18), some (.int (Int32.ofInt p)), some (.int (Int32.ofInt (a : Int))), some (.int (Int32.ofInt (b : Int))), some (.int (Int32.ofInt (c : Int))), some (.int (Int32.ofInt s)), some (.int (Int32.ofInt (o : Int))), l8, l9] [.int (Int32.ofInt (o : Int))] w nc ns = rz_G X (d + 2) mz_X2_isEar 107 [some (.ref 19), some (.ref 18), some (.int (Int32.ofInt p)), some (.int (Int32.ofInt (a : Int))), some (.int (Int32.ofInt (b : Int))), some (.int (Int32.ofInt (c : Int))), some (.int (Int32.ofInt s)), some (.int (Int32.ofInt (o : Int))), some (.int (Int32.ofInt (k : Int))), some (.int (Int32.ofInt 0))] [] w nc ns := by
      simp (disch := first | exact nl_i | exact nl_r | exact nl_0 | exact nl_n | exact nl_x | exact kd_r | exact kd_n | exact kd_x | exact kd_o | exact cats0 | exact cats1 | exact cats2 | exact cats3 | exact cats4 | exact nr_i | exact nr_l | exact nr_z0 | exact nr_z1 | exact ft_i | exact ft_l | omega | rfl | assumption | (refine i_ne0 ?_ ?_ ?_ <;> omega) | (refine j_ne0 ?_ ?_ ?_ <;> omega) | (refine i_new ?_ ?_ <;> omega) | (refine bl_t ?_; with_unfolding_all rfl) | exact ft_z0 | exact ft_z1) only [↓reduceIte, q_X2_isEar_60, q_X2_isEar_61, q_X2_isEar_64, q_X2_isEar_67, q_X2_isEar_68, q_X2_isEar_70, q_X2_isEar_73, q_X2_isEar_75, q_X2_isEar_77, q_X2_isEar_78, q_X2_isEar_81, q_X2_isEar_83, q_X2_isEar_85, q_X2_isEar_88, q_X2_isEar_90, q_X2_isEar_92, q_X2_isEar_95, q_X2_isEar_96, q_X2_isEar_99, q_X2_isEar_100, q_X2_isEar_102, q_X2_isEar_104, i_add, i_sub, i_mul, i_neg, i_lt, i_le, i_eq, i_tm, i_div, i_j, j_i, j_add, j_sub, j_mul, j_neg, j_lt, j_le, j_eq, j_div, c_lt, c_le, c_gt, c_ge, c_eq, i_nat, rz_k, Nat.add_zero, Nat.zero_add, Nat.add_assoc, Nat.reduceAdd, if_true, if_false, vk_eq g19, gf_eq g19, List.getElem?_cons_zero, List.getElem?_cons_succ, eq_false (show ¬ (L.length : Int) ≤ (o : Int) by omega), kl, eq_false (show ¬ (k : Int) = (a : Int) by omega), eq_false (show ¬ (k : Int) = (b : Int) by omega), eq_false (show ¬ (k : Int) = (c : Int) by omega), Int.reduceEq, not_true_eq_false, not_false_eq_true]
    rw [hpre]
    by_cases u1 : S1 < 0
    · rw [decide_eq_true (by omega), Bool.true_and, ← ih1 (some (.int (Int32.ofInt (k : Int)))) (some (.int (Int32.ofInt 0))) (by omega)]
      simp (disch := first | exact nl_i | exact nl_r | exact nl_0 | exact nl_n | exact nl_x | exact kd_r | exact kd_n | exact kd_x | exact kd_o | exact cats0 | exact cats1 | exact cats2 | exact cats3 | exact cats4 | exact nr_i | exact nr_l | exact nr_z0 | exact nr_z1 | exact ft_i | exact ft_l | omega | rfl | assumption | (refine i_ne0 ?_ ?_ ?_ <;> omega) | (refine j_ne0 ?_ ?_ ?_ <;> omega) | (refine i_new ?_ ?_ <;> omega) | (refine bl_t ?_; with_unfolding_all rfl) | exact ft_z0 | exact ft_z1) only [↓reduceIte, q_X2_isEar_107, q_X2_isEar_109, q_X2_isEar_110, q_X2_isEar_111, q_X2_isEar_113, q_X2_isEar_115, q_X2_isEar_118, q_X2_isEar_119, q_X2_isEar_155, q_X2_isEar_158, i_add, i_sub, i_mul, i_neg, i_lt, i_le, i_eq, i_tm, i_div, i_j, j_i, j_add, j_sub, j_mul, j_neg, j_lt, j_le, j_eq, j_div, c_lt, c_le, c_gt, c_ge, c_eq, i_nat, rz_k, Nat.add_zero, Nat.zero_add, Nat.add_assoc, Nat.reduceAdd, if_true, if_false, vk_eq h18, t1, hS1, eq_true u1]
      rfl
    by_cases u2 : S2 < 0
    · rw [decide_eq_true (by omega), Bool.true_and, ← ih1 (some (.int (Int32.ofInt (k : Int)))) (some (.int (Int32.ofInt 0))) (by omega)]
      simp (disch := first | exact nl_i | exact nl_r | exact nl_0 | exact nl_n | exact nl_x | exact kd_r | exact kd_n | exact kd_x | exact kd_o | exact cats0 | exact cats1 | exact cats2 | exact cats3 | exact cats4 | exact nr_i | exact nr_l | exact nr_z0 | exact nr_z1 | exact ft_i | exact ft_l | omega | rfl | assumption | (refine i_ne0 ?_ ?_ ?_ <;> omega) | (refine j_ne0 ?_ ?_ ?_ <;> omega) | (refine i_new ?_ ?_ <;> omega) | (refine bl_t ?_; with_unfolding_all rfl) | exact ft_z0 | exact ft_z1) only [↓reduceIte, q_X2_isEar_107, q_X2_isEar_109, q_X2_isEar_110, q_X2_isEar_111, q_X2_isEar_113, q_X2_isEar_115, q_X2_isEar_118, q_X2_isEar_119, q_X2_isEar_122, q_X2_isEar_124, q_X2_isEar_125, q_X2_isEar_127, q_X2_isEar_129, q_X2_isEar_131, q_X2_isEar_134, q_X2_isEar_135, q_X2_isEar_155, q_X2_isEar_158, i_add, i_sub, i_mul, i_neg, i_lt, i_le, i_eq, i_tm, i_div, i_j, j_i, j_add, j_sub, j_mul, j_neg, j_lt, j_le, j_eq, j_div, c_lt, c_le, c_gt, c_ge, c_eq, i_nat, rz_k, Nat.add_zero, Nat.zero_add, Nat.add_assoc, Nat.reduceAdd, if_true, if_false, vk_eq h18, t1, t2, hS1, hS2, eq_false u1, eq_true u2]
      rfl
    by_cases u3 : S3 < 0
    · rw [decide_eq_true (by omega), Bool.true_and, ← ih1 (some (.int (Int32.ofInt (k : Int)))) (some (.int (Int32.ofInt 0))) (by omega)]
      simp (disch := first | exact nl_i | exact nl_r | exact nl_0 | exact nl_n | exact nl_x | exact kd_r | exact kd_n | exact kd_x | exact kd_o | exact cats0 | exact cats1 | exact cats2 | exact cats3 | exact cats4 | exact nr_i | exact nr_l | exact nr_z0 | exact nr_z1 | exact ft_i | exact ft_l | omega | rfl | assumption | (refine i_ne0 ?_ ?_ ?_ <;> omega) | (refine j_ne0 ?_ ?_ ?_ <;> omega) | (refine i_new ?_ ?_ <;> omega) | (refine bl_t ?_; with_unfolding_all rfl) | exact ft_z0 | exact ft_z1) only [↓reduceIte, q_X2_isEar_107, q_X2_isEar_109, q_X2_isEar_110, q_X2_isEar_111, q_X2_isEar_113, q_X2_isEar_115, q_X2_isEar_118, q_X2_isEar_119, q_X2_isEar_122, q_X2_isEar_124, q_X2_isEar_125, q_X2_isEar_127, q_X2_isEar_129, q_X2_isEar_131, q_X2_isEar_134, q_X2_isEar_135, q_X2_isEar_138, q_X2_isEar_140, q_X2_isEar_141, q_X2_isEar_143, q_X2_isEar_144, q_X2_isEar_146, q_X2_isEar_149, q_X2_isEar_150, q_X2_isEar_153, q_X2_isEar_154, q_X2_isEar_155, q_X2_isEar_158, i_add, i_sub, i_mul, i_neg, i_lt, i_le, i_eq, i_tm, i_div, i_j, j_i, j_add, j_sub, j_mul, j_neg, j_lt, j_le, j_eq, j_div, c_lt, c_le, c_gt, c_ge, c_eq, i_nat, rz_k, Nat.add_zero, Nat.zero_add, Nat.add_assoc, Nat.reduceAdd, if_true, if_false, vk_eq h18, t1, t2, t3, hS1, hS2, hS3, eq_false u1, eq_false u2, eq_true u3]
      rfl
    rw [decide_eq_false (by omega), Bool.false_and, zb_f]
    simp (disch := first | exact nl_i | exact nl_r | exact nl_0 | exact nl_n | exact nl_x | exact kd_r | exact kd_n | exact kd_x | exact kd_o | exact cats0 | exact cats1 | exact cats2 | exact cats3 | exact cats4 | exact nr_i | exact nr_l | exact nr_z0 | exact nr_z1 | exact ft_i | exact ft_l | omega | rfl | assumption | (refine i_ne0 ?_ ?_ ?_ <;> omega) | (refine j_ne0 ?_ ?_ ?_ <;> omega) | (refine i_new ?_ ?_ <;> omega) | (refine bl_t ?_; with_unfolding_all rfl) | exact ft_z0 | exact ft_z1) only [↓reduceIte, q_X2_isEar_107, q_X2_isEar_109, q_X2_isEar_110, q_X2_isEar_111, q_X2_isEar_113, q_X2_isEar_115, q_X2_isEar_118, q_X2_isEar_119, q_X2_isEar_122, q_X2_isEar_124, q_X2_isEar_125, q_X2_isEar_127, q_X2_isEar_129, q_X2_isEar_131, q_X2_isEar_134, q_X2_isEar_135, q_X2_isEar_138, q_X2_isEar_140, q_X2_isEar_141, q_X2_isEar_143, q_X2_isEar_144, q_X2_isEar_146, q_X2_isEar_149, q_X2_isEar_150, q_X2_isEar_153, q_X2_isEar_154, q_X2_isEar_155, q_X2_isEar_158, i_add, i_sub, i_mul, i_neg, i_lt, i_le, i_eq, i_tm, i_div, i_j, j_i, j_add, j_sub, j_mul, j_neg, j_lt, j_le, j_eq, j_div, c_lt, c_le, c_gt, c_ge, c_eq, i_nat, rz_k, Nat.add_zero, Nat.zero_add, Nat.add_assoc, Nat.reduceAdd, if_true, if_false, vk_eq h18, t1, t2, t3, hS1, hS2, hS3, eq_false u1, eq_false u2, eq_false u3]
theorem x_ear {L : List Nat} {K : Nat} {C : Nat → Int32} (h : v_cp w x y n) (hE : v_e w L K C) (h2 : L.length ≤ 12) (hL : ∀ e, e ∈ L → e < n) {p : Nat} (hp : p < L.length) : rz_ex X (d + 3) 20 [.ref 19, .ref 18, .int (Int32.ofInt (p : Int))] w = some (.inl (some (.int (Int32.ofInt (zb (zp_ear x y n L p))))), w, 0, 0) := by
  have hm0 : 0 < L.length := by omega
  have ka := x_left (X := X) (d := d) hE (by omega) h2 (p := (p : Int) - 1) (by omega) (e := L.getD ((p + L.length - 1) % L.length) 0) (by rw [ze_p hp])
  have kb := x_left (X := X) (d := d) hE (by omega) h2 (p := (p : Int)) (by omega) (e := L.getD (p % L.length) 0) (by rw [ze_i hp])
  have kc := x_left (X := X) (d := d) hE (by omega) h2 (p := (p : Int) + 1) (by omega) (e := L.getD ((p + 1) % L.length) 0) (by rw [ze_s hp])
  have ha := hL _ (ze_mem (Nat.mod_lt (p + L.length - 1) hm0))
  have hb := hL _ (ze_mem (Nat.mod_lt p hm0))
  have hc := hL _ (ze_mem (Nat.mod_lt (p + 1) hm0))
  have kA := x_area (X := X) (d := d) h
  obtain ⟨F, g19, g20, g21, hF⟩ := id hE
  obtain ⟨cl, a0, P, Q, h18, h22, h23, hn, hrg, he⟩ := id h
  have hzA := z_area_b (x := x) (y := y) (n := n) hrg n
  have hAb : -9600 ≤ zp_area x y n ∧ zp_area x y n ≤ 9600 := by unfold zp_area; omega
  unfold zp_ear
  dsimp only
  generalize L.getD ((p + L.length - 1) % L.length) 0 = a at *
  generalize L.getD (p % L.length) 0 = b at *
  generalize L.getD ((p + 1) % L.length) 0 = c at *
  have kt := x_pturn (X := X) (d := d) h ha hb hc
  have hT := z_turn_b hrg a b c
  have hle := fun (s : Int) (hs : s = 1 ∨ s = -1) => l_ear (X := X) (d := d) (nc := 0) (ns := 0) (p := (p : Int)) h hE h2 hL ha hb hc hs L.length 0 none none (by omega)
  rw [List.drop_zero] at hle
  unfold ze_P at hle
  generalize hTe : zp_turn x y a b c = T at *
  by_cases hA : zp_area x y n > 0
  · rw [if_pos hA]
    have h1 := hle 1 (.inl rfl)
    by_cases hT0 : (1 : Int) * T > 0
    · rw [decide_eq_true hT0, Bool.true_and, ← h1]
      simp (disch := first | exact nl_i | exact nl_r | exact nl_0 | exact nl_n | exact nl_x | exact kd_r | exact kd_n | exact kd_x | exact kd_o | exact cats0 | exact cats1 | exact cats2 | exact cats3 | exact cats4 | exact nr_i | exact nr_l | exact nr_z0 | exact nr_z1 | exact ft_i | exact ft_l | omega | rfl | assumption | (refine i_ne0 ?_ ?_ ?_ <;> omega) | (refine j_ne0 ?_ ?_ ?_ <;> omega) | (refine i_new ?_ ?_ <;> omega) | (refine bl_t ?_; with_unfolding_all rfl) | exact ft_z0 | exact ft_z1) only [↓reduceIte, n_X2_isEar, q_X2_isEar_0, q_X2_isEar_1, q_X2_isEar_2, q_X2_isEar_3, q_X2_isEar_4, q_X2_isEar_7, q_X2_isEar_8, q_X2_isEar_9, q_X2_isEar_10, q_X2_isEar_13, q_X2_isEar_15, q_X2_isEar_16, q_X2_isEar_17, q_X2_isEar_18, q_X2_isEar_19, q_X2_isEar_22, q_X2_isEar_24, q_X2_isEar_25, q_X2_isEar_28, q_X2_isEar_31, q_X2_isEar_32, q_X2_isEar_35, q_X2_isEar_36, q_X2_isEar_38, q_X2_isEar_40, q_X2_isEar_41, q_X2_isEar_42, q_X2_isEar_44, q_X2_isEar_46, q_X2_isEar_49, q_X2_isEar_50, q_X2_isEar_53, q_X2_isEar_54, q_X2_isEar_55, q_X2_isEar_56, i_add, i_sub, i_mul, i_neg, i_lt, i_le, i_eq, i_tm, i_div, i_j, j_i, j_add, j_sub, j_mul, j_neg, j_lt, j_le, j_eq, j_div, c_lt, c_le, c_gt, c_ge, c_eq, i_nat, rz_k, Nat.add_zero, Nat.zero_add, Nat.add_assoc, Nat.reduceAdd, if_true, if_false, vk_eq g19, vk_eq h18, ka, kb, kc, kA, kt, eq_false (show ¬ zp_area x y n ≤ 0 by omega), eq_true (show 0 < 1 * T by omega)]
      rfl
    · rw [decide_eq_false hT0, Bool.false_and, zb_f]
      simp (disch := first | exact nl_i | exact nl_r | exact nl_0 | exact nl_n | exact nl_x | exact kd_r | exact kd_n | exact kd_x | exact kd_o | exact cats0 | exact cats1 | exact cats2 | exact cats3 | exact cats4 | exact nr_i | exact nr_l | exact nr_z0 | exact nr_z1 | exact ft_i | exact ft_l | omega | rfl | assumption | (refine i_ne0 ?_ ?_ ?_ <;> omega) | (refine j_ne0 ?_ ?_ ?_ <;> omega) | (refine i_new ?_ ?_ <;> omega) | (refine bl_t ?_; with_unfolding_all rfl) | exact ft_z0 | exact ft_z1) only [↓reduceIte, n_X2_isEar, q_X2_isEar_0, q_X2_isEar_1, q_X2_isEar_2, q_X2_isEar_3, q_X2_isEar_4, q_X2_isEar_7, q_X2_isEar_8, q_X2_isEar_9, q_X2_isEar_10, q_X2_isEar_13, q_X2_isEar_15, q_X2_isEar_16, q_X2_isEar_17, q_X2_isEar_18, q_X2_isEar_19, q_X2_isEar_22, q_X2_isEar_24, q_X2_isEar_25, q_X2_isEar_28, q_X2_isEar_31, q_X2_isEar_32, q_X2_isEar_35, q_X2_isEar_36, q_X2_isEar_38, q_X2_isEar_40, q_X2_isEar_41, q_X2_isEar_42, q_X2_isEar_44, q_X2_isEar_46, q_X2_isEar_49, q_X2_isEar_50, q_X2_isEar_53, q_X2_isEar_54, q_X2_isEar_55, q_X2_isEar_56, i_add, i_sub, i_mul, i_neg, i_lt, i_le, i_eq, i_tm, i_div, i_j, j_i, j_add, j_sub, j_mul, j_neg, j_lt, j_le, j_eq, j_div, c_lt, c_le, c_gt, c_ge, c_eq, i_nat, rz_k, Nat.add_zero, Nat.zero_add, Nat.add_assoc, Nat.reduceAdd, if_true, if_false, vk_eq g19, vk_eq h18, ka, kb, kc, kA, kt, eq_false (show ¬ zp_area x y n ≤ 0 by omega), eq_false (show ¬ 0 < 1 * T by omega)]
  · rw [if_neg hA]
    have h1 := hle (-1) (.inr rfl)
    by_cases hT0 : (-1 : Int) * T > 0
    · rw [decide_eq_true hT0, Bool.true_and, ← h1]
      simp (disch := first | exact nl_i | exact nl_r | exact nl_0 | exact nl_n | exact nl_x | exact kd_r | exact kd_n | exact kd_x | exact kd_o | exact cats0 | exact cats1 | exact cats2 | exact cats3 | exact cats4 | exact nr_i | exact nr_l | exact nr_z0 | exact nr_z1 | exact ft_i | exact ft_l | omega | rfl | assumption | (refine i_ne0 ?_ ?_ ?_ <;> omega) | (refine j_ne0 ?_ ?_ ?_ <;> omega) | (refine i_new ?_ ?_ <;> omega) | (refine bl_t ?_; with_unfolding_all rfl) | exact ft_z0 | exact ft_z1) only [↓reduceIte, n_X2_isEar, q_X2_isEar_0, q_X2_isEar_1, q_X2_isEar_2, q_X2_isEar_3, q_X2_isEar_4, q_X2_isEar_7, q_X2_isEar_8, q_X2_isEar_9, q_X2_isEar_10, q_X2_isEar_13, q_X2_isEar_15, q_X2_isEar_16, q_X2_isEar_17, q_X2_isEar_18, q_X2_isEar_19, q_X2_isEar_22, q_X2_isEar_24, q_X2_isEar_25, q_X2_isEar_28, q_X2_isEar_31, q_X2_isEar_32, q_X2_isEar_35, q_X2_isEar_36, q_X2_isEar_38, q_X2_isEar_40, q_X2_isEar_41, q_X2_isEar_42, q_X2_isEar_44, q_X2_isEar_46, q_X2_isEar_49, q_X2_isEar_50, q_X2_isEar_53, q_X2_isEar_54, q_X2_isEar_55, q_X2_isEar_56, i_add, i_sub, i_mul, i_neg, i_lt, i_le, i_eq, i_tm, i_div, i_j, j_i, j_add, j_sub, j_mul, j_neg, j_lt, j_le, j_eq, j_div, c_lt, c_le, c_gt, c_ge, c_eq, i_nat, rz_k, Nat.add_zero, Nat.zero_add, Nat.add_assoc, Nat.reduceAdd, if_true, if_false, vk_eq g19, vk_eq h18, ka, kb, kc, kA, kt, eq_true (show zp_area x y n ≤ 0 by omega), eq_true (show 0 < -1 * T by omega)]
      rfl
    · rw [decide_eq_false hT0, Bool.false_and, zb_f]
      simp (disch := first | exact nl_i | exact nl_r | exact nl_0 | exact nl_n | exact nl_x | exact kd_r | exact kd_n | exact kd_x | exact kd_o | exact cats0 | exact cats1 | exact cats2 | exact cats3 | exact cats4 | exact nr_i | exact nr_l | exact nr_z0 | exact nr_z1 | exact ft_i | exact ft_l | omega | rfl | assumption | (refine i_ne0 ?_ ?_ ?_ <;> omega) | (refine j_ne0 ?_ ?_ ?_ <;> omega) | (refine i_new ?_ ?_ <;> omega) | (refine bl_t ?_; with_unfolding_all rfl) | exact ft_z0 | exact ft_z1) only [↓reduceIte, n_X2_isEar, q_X2_isEar_0, q_X2_isEar_1, q_X2_isEar_2, q_X2_isEar_3, q_X2_isEar_4, q_X2_isEar_7, q_X2_isEar_8, q_X2_isEar_9, q_X2_isEar_10, q_X2_isEar_13, q_X2_isEar_15, q_X2_isEar_16, q_X2_isEar_17, q_X2_isEar_18, q_X2_isEar_19, q_X2_isEar_22, q_X2_isEar_24, q_X2_isEar_25, q_X2_isEar_28, q_X2_isEar_31, q_X2_isEar_32, q_X2_isEar_35, q_X2_isEar_36, q_X2_isEar_38, q_X2_isEar_40, q_X2_isEar_41, q_X2_isEar_42, q_X2_isEar_44, q_X2_isEar_46, q_X2_isEar_49, q_X2_isEar_50, q_X2_isEar_53, q_X2_isEar_54, q_X2_isEar_55, q_X2_isEar_56, i_add, i_sub, i_mul, i_neg, i_lt, i_le, i_eq, i_tm, i_div, i_j, j_i, j_add, j_sub, j_mul, j_neg, j_lt, j_le, j_eq, j_div, c_lt, c_le, c_gt, c_ge, c_eq, i_nat, rz_k, Nat.add_zero, Nat.zero_add, Nat.add_assoc, Nat.reduceAdd, if_true, if_false, vk_eq g19, vk_eq h18, ka, kb, kc, kA, kt, eq_true (show zp_area x y n ≤ 0 by omega), eq_false (show ¬ 0 < -1 * T by omega)]
end RZWO
