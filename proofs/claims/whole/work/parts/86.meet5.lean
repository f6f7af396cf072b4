/-! part 86: level 2: meet: the reference's search for the width -/
section RZMX
variable {X : rz_X} {d : Nat} {w : rz_W} {nc ns : Nat} {kp tl kd ty cl th : Int}
theorem l_ymx {A B C : Nat → Int64} {s i j : Int} {a b c a' b' c' W : Int} {tall K : Nat} {v4 : Int64} {v12 v13 : Option Value} (hm : v_model w kp tl kd ty cl th) (g34 : v_la w 34 8 A) (g35 : v_la w 35 8 B) (g36 : v_la w 36 8 C) (hi : 0 ≤ i ∧ i ≤ 7) (hj : 0 ≤ j ∧ j ≤ 7) (ea : A i.toNat = Int64.ofInt a) (eb : B i.toNat = Int64.ofInt b) (ec : C i.toNat = Int64.ofInt c) (ea' : A j.toNat = Int64.ofInt a') (eb' : B j.toNat = Int64.ofInt b') (ec' : C j.toNat = Int64.ofInt c') (ha : 1 ≤ a ∧ a ≤ 1000000) (ha' : 1 ≤ a' ∧ a' ≤ 1000000) (hb : 0 ≤ b ∧ b ≤ 1000000) (hb' : 0 ≤ b' ∧ b' ≤ 1000000) (hc : 1 ≤ c ∧ c ≤ 1000000) (hc' : 1 ≤ c' ∧ c' ≤ 1000000) (hW : 1 ≤ W ∧ W ≤ 1000000000000) (htl : 1 ≤ tall ∧ tall ≤ 1000000) (hK : K ≤ 1000000) (hd : (tall : Int) ∣ (((K : Int) * W).tdiv a % c) * b - (((K : Int) * W).tdiv a' % c') * b') (hn : ∀ k : Nat, 1 ≤ k → k < K → ¬ (tall : Int) ∣ (((k : Int) * W).tdiv a % c) * b - (((k : Int) * W).tdiv a' % c') * b') (m : Nat) : ∀ (k : Nat), k + m = K → 1 ≤ k → rz_G X (d + 1) mz_X11_meet 95 [some (.ref 32), some (.int (Int32.ofInt s)), some (.int (Int32.ofInt i)), some (.int (Int32.ofInt j)), some (.long v4), none, some (.long (Int64.ofInt W)), none, some (.long (Int64.ofInt tall)), none, some (.long (Int64.ofInt ((k : Int) * W))), none, v12, v13] [] w nc ns = rz_G X (d + 1) mz_X11_meet 166 [some (.ref 32), some (.int (Int32.ofInt s)), some (.int (Int32.ofInt i)), some (.int (Int32.ofInt j)), some (.long v4), none, some (.long (Int64.ofInt W)), none, some (.long (Int64.ofInt tall)), none, some (.long (Int64.ofInt ((K : Int) * W))), none, v12, v13] [] w nc ns := by
  have step : ∀ k : Nat, 1 ≤ k → k ≤ K → rz_G X (d + 1) mz_X11_meet 95 [some (.ref 32), some (.int (Int32.ofInt s)), some (.int (Int32.ofInt i)), some (.int (Int32.ofInt j)), some (.long v4), none, some (.long (Int64.ofInt W)), none, some (.long (Int64.ofInt tall)), none, some (.long (Int64.ofInt ((k : Int) * W))), none, v12, v13] [] w nc ns = if ((((k : Int) * W).tdiv a % c) * b - (((k : Int) * W).tdiv a' % c') * b') % (tall : Int) = 0 then rz_G X (d + 1) mz_X11_meet 166 [some (.ref 32), some (.int (Int32.ofInt s)), some (.int (Int32.ofInt i)), some (.int (Int32.ofInt j)), some (.long v4), none, some (.long (Int64.ofInt W)), none, some (.long (Int64.ofInt tall)), none, some (.long (Int64.ofInt ((k : Int) * W))), none, v12, v13] [] w nc ns else rz_G X (d + 1) mz_X11_meet 95 [some (.ref 32), some (.int (Int32.ofInt s)), some (.int (Int32.ofInt i)), some (.int (Int32.ofInt j)), some (.long v4), none, some (.long (Int64.ofInt W)), none, some (.long (Int64.ofInt tall)), none, some (.long (Int64.ofInt ((k : Int) * W + W))), none, v12, v13] [] w nc ns := by
    intro k h1 h2
    have n0 := z_nmul (a := (k : Int)) (b := W) (M := 1000000) (N := 1000000000000) (by omega) (by omega)
    generalize hx : (k : Int) * W = x at *
    have t1 := z_tdb (a := x) (b := a) (M := 1000000000000000000) (by omega)
    have t2 := z_tdb (a := x) (b := a') (M := 1000000000000000000) (by omega)
    have p1 := Int.emod_nonneg (x.tdiv a) (show c ≠ 0 by omega)
    have p2 := Int.emod_lt_of_pos (x.tdiv a) (show 0 < c by omega)
    have p3 := Int.emod_nonneg (x.tdiv a') (show c' ≠ 0 by omega)
    have p4 := Int.emod_lt_of_pos (x.tdiv a') (show 0 < c' by omega)
    have n1 := z_nmul (a := x.tdiv a % c) (b := b) (M := 1000000) (N := 1000000) (by omega) (by omega)
    have n2 := z_nmul (a := x.tdiv a' % c') (b := b') (M := 1000000) (N := 1000000) (by omega) (by omega)
    have m1 := y_mod (X := X) (d := d) (w := w) (a := x.tdiv a) (b := c) (by omega) (by omega) (by omega) (by omega)
    have m2 := y_mod (X := X) (d := d) (w := w) (a := x.tdiv a') (b := c') (by omega) (by omega) (by omega) (by omega)
    have m3 := y_mod (X := X) (d := d) (w := w) (a := x.tdiv a % c * b - x.tdiv a' % c' * b') (b := (tall : Int)) (by omega) (by omega) (by omega) (by omega)
    have p5 := Int.emod_nonneg (x.tdiv a % c * b - x.tdiv a' % c' * b') (show (tall : Int) ≠ 0 by omega)
    have p6 := Int.emod_lt_of_pos (x.tdiv a % c * b - x.tdiv a' % c' * b') (show 0 < (tall : Int) by omega)
    clear hd hn t1 t2
    rw [q_X11_meet_95]
    simp (disch := first | exact nl_i | exact nl_r | exact nl_0 | exact nl_n | exact nl_x | exact kd_r | exact kd_n | exact kd_x | exact kd_o | exact cats0 | exact cats1 | exact cats2 | exact cats3 | exact cats4 | exact nr_i | exact nr_l | exact nr_z0 | exact nr_z1 | exact ft_i | exact ft_l | omega | rfl | assumption | (refine i_ne0 ?_ ?_ ?_ <;> omega) | (refine j_ne0 ?_ ?_ ?_ <;> omega) | (refine i_new ?_ ?_ <;> omega) | (refine bl_t ?_; with_unfolding_all rfl) | exact ft_z0 | exact ft_z1) only [q_X11_meet_97, q_X11_meet_98, q_X11_meet_101, q_X11_meet_102, q_X11_meet_103, q_X11_meet_104, q_X11_meet_105, q_X11_meet_108, q_X11_meet_109, q_X11_meet_110, q_X11_meet_113, q_X11_meet_114, q_X11_meet_117, q_X11_meet_118, q_X11_meet_119, q_X11_meet_120, q_X11_meet_122, q_X11_meet_123, q_X11_meet_126, q_X11_meet_127, q_X11_meet_128, q_X11_meet_129, q_X11_meet_130, q_X11_meet_133, q_X11_meet_134, q_X11_meet_135, q_X11_meet_138, q_X11_meet_139, q_X11_meet_142, q_X11_meet_143, q_X11_meet_144, q_X11_meet_145, q_X11_meet_146, q_X11_meet_148, q_X11_meet_151, q_X11_meet_152, q_X11_meet_153, q_X11_meet_156, q_X11_meet_158, q_X11_meet_160, q_X11_meet_161, q_X11_meet_163, i_add, i_sub, i_mul, i_neg, i_lt, i_le, i_eq, i_tm, i_div, i_j, j_i, j_add, j_sub, j_mul, j_neg, j_lt, j_le, j_eq, j_div, c_lt, c_le, c_gt, c_ge, c_eq, i_nat, rz_k, Nat.add_zero, Nat.zero_add, Nat.add_assoc, Nat.reduceAdd, if_true, if_false, gf_eq hm, List.getElem?_cons_zero, List.getElem?_cons_succ, al_eq g34, al_eq g35, al_eq g36, ea, eb, ec, ea', eb', ec', m1, m2, m3]
  induction m with
  | zero =>
    intro k hk h1
    obtain rfl : k = K := hk
    rw [step k h1 (Nat.le_refl _), if_pos (z_emd.mpr hd)]
  | succ m ih =>
    intro k hk h1
    have e : (k : Int) * W + W = ((k + 1 : Nat) : Int) * W := by rw [Int.natCast_add, Int.add_mul]; omega
    rw [step k h1 (by omega), if_neg (fun h => hn k h1 (by omega) (z_emd.mp h)), e]
    exact ih (k + 1) (by omega) (by omega)
end RZMX
