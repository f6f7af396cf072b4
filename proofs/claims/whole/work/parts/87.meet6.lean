/-! part 87: level 2: meet: the reference's search for the height of a step -/
section RZMY
variable {X : rz_X} {d : Nat} {w : rz_W} {nc ns : Nat} {kp tl kd ty cl th : Int}
theorem l_ymy {A B C : Nat → Int64} {s i j : Int} {c a' b' c' x y0 : Int} {t : Nat} {v4 v6 v8 : Int64} (hm : v_model w kp tl kd ty cl th) (g34 : v_la w 34 8 A) (g35 : v_la w 35 8 B) (g36 : v_la w 36 8 C) (hi : 0 ≤ i ∧ i ≤ 7) (hj : 0 ≤ j ∧ j ≤ 7) (ec : C i.toNat = Int64.ofInt c) (ea' : A j.toNat = Int64.ofInt a') (eb' : B j.toNat = Int64.ofInt b') (ec' : C j.toNat = Int64.ofInt c') (ha' : 1 ≤ a' ∧ a' ≤ 1000000) (hb' : 0 ≤ b' ∧ b' ≤ 1000000) (hc : 1 ≤ c ∧ c ≤ 1000000) (hc' : 1 ≤ c' ∧ c' ≤ 1000000) (hx : 0 ≤ x ∧ x ≤ 1000000) (hxa : x.tmod a' = 0) (hy : 0 ≤ y0 ∧ y0 ≤ 1000000) (hb : c * (t : Int) ≤ 1000000) (hd : c' ∣ y0 + c * (t : Int) - x.tdiv a' * b') (hn : ∀ k : Nat, k < t → ¬ c' ∣ y0 + c * (k : Int) - x.tdiv a' * b') (m : Nat) : ∀ (k : Nat), k + m = t → rz_G X (d + 1) mz_X11_meet 238 [some (.ref 32), some (.int (Int32.ofInt s)), some (.int (Int32.ofInt i)), some (.int (Int32.ofInt j)), some (.long v4), none, some (.long v6), none, some (.long v8), none, some (.long (Int64.ofInt x)), none, some (.long (Int64.ofInt (y0 + c * (k : Int)))), none] [] w nc ns = rz_G X (d + 1) mz_X11_meet 264 [some (.ref 32), some (.int (Int32.ofInt s)), some (.int (Int32.ofInt i)), some (.int (Int32.ofInt j)), some (.long v4), none, some (.long v6), none, some (.long v8), none, some (.long (Int64.ofInt x)), none, some (.long (Int64.ofInt (y0 + c * (t : Int)))), none] [] w nc ns := by
  induction m with
  | zero =>
    intro k hk
    obtain rfl : k = t := hk
    have h0 := Int.mul_nonneg (show 0 ≤ c by omega) (show (0 : Int) ≤ (k : Int) by omega)
    have hh := y_hasIt (X := X) (d := d) (x := x) (y := y0 + c * (k : Int)) hm g34 g35 g36 hj.1 hj.2 ea' eb' ec' ha' hb' hc' (by omega) (by omega)
    rw [if_pos ⟨hxa, z_tmd.mpr hd⟩] at hh
    clear hd hn
    rw [q_X11_meet_238 rfl]
    simp (disch := first | exact nl_i | exact nl_r | exact nl_0 | exact nl_n | exact nl_x | exact kd_r | exact kd_n | exact kd_x | exact kd_o | exact cats0 | exact cats1 | exact cats2 | exact cats3 | exact cats4 | exact nr_i | exact nr_l | exact nr_z0 | exact nr_z1 | exact ft_i | exact ft_l | omega | rfl | assumption | (refine i_ne0 ?_ ?_ ?_ <;> omega) | (refine j_ne0 ?_ ?_ ?_ <;> omega) | (refine i_new ?_ ?_ <;> omega) | (refine bl_t ?_; with_unfolding_all rfl) | exact ft_z0 | exact ft_z1) only [q_X11_meet_239, q_X11_meet_240, q_X11_meet_242, q_X11_meet_244, q_X11_meet_247, q_X11_meet_250, q_X11_meet_252, q_X11_meet_253, q_X11_meet_256, q_X11_meet_257, q_X11_meet_258, q_X11_meet_259, q_X11_meet_261, i_add, i_sub, i_mul, i_neg, i_lt, i_le, i_eq, i_tm, i_div, i_j, j_i, j_add, j_sub, j_mul, j_neg, j_lt, j_le, j_eq, j_div, c_lt, c_le, c_gt, c_ge, c_eq, i_nat, rz_k, Nat.add_zero, Nat.zero_add, Nat.add_assoc, Nat.reduceAdd, if_true, if_false, vk_eq hm, hh, Int.reduceEq, not_false_eq_true]
  | succ m ih =>
    intro k hk
    have h0 := Int.mul_nonneg (show 0 ≤ c by omega) (show (0 : Int) ≤ (k : Int) by omega)
    have h1 := Int.mul_le_mul_of_nonneg_left (show (k : Int) ≤ (t : Int) by omega) (show 0 ≤ c by omega)
    have hh := y_hasIt (X := X) (d := d) (x := x) (y := y0 + c * (k : Int)) hm g34 g35 g36 hj.1 hj.2 ea' eb' ec' ha' hb' hc' (by omega) (by omega)
    rw [if_neg (fun h => hn k (by omega) (z_tmd.mp h.2))] at hh
    have e : y0 + c * (k : Int) + c = y0 + c * ((k + 1 : Nat) : Int) := by rw [Int.natCast_add, Int.mul_add]; omega
    rw [← ih (k + 1) (by omega), q_X11_meet_238 rfl]
    clear hd hn
    simp (disch := first | exact nl_i | exact nl_r | exact nl_0 | exact nl_n | exact nl_x | exact kd_r | exact kd_n | exact kd_x | exact kd_o | exact cats0 | exact cats1 | exact cats2 | exact cats3 | exact cats4 | exact nr_i | exact nr_l | exact nr_z0 | exact nr_z1 | exact ft_i | exact ft_l | omega | rfl | assumption | (refine i_ne0 ?_ ?_ ?_ <;> omega) | (refine j_ne0 ?_ ?_ ?_ <;> omega) | (refine i_new ?_ ?_ <;> omega) | (refine bl_t ?_; with_unfolding_all rfl) | exact ft_z0 | exact ft_z1) only [q_X11_meet_239, q_X11_meet_240, q_X11_meet_242, q_X11_meet_244, q_X11_meet_247, q_X11_meet_250, q_X11_meet_252, q_X11_meet_253, q_X11_meet_256, q_X11_meet_257, q_X11_meet_258, q_X11_meet_259, q_X11_meet_261, i_add, i_sub, i_mul, i_neg, i_lt, i_le, i_eq, i_tm, i_div, i_j, j_i, j_add, j_sub, j_mul, j_neg, j_lt, j_le, j_eq, j_div, c_lt, c_le, c_gt, c_ge, c_eq, i_nat, rz_k, Nat.add_zero, Nat.zero_add, Nat.add_assoc, Nat.reduceAdd, if_true, if_false, vk_eq hm, hh, gf_eq hm, List.getElem?_cons_zero, List.getElem?_cons_succ, al_eq g36, ec, e, Int.reduceEq, not_true_eq_false]
end RZMY
