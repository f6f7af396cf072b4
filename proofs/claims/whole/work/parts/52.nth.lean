/-! part 52: level 2: nth -/
section RZNT
variable {X : rz_X} {d : Nat} {w : rz_W} {nc ns : Nat} {kp tl kd ty cl th : Int}
theorem z_dm2 {n a : Nat} : ((n : Int) - ((n / a : Nat) : Int) * (a : Int)) = ((n % a : Nat) : Int) := by
  have := Nat.div_add_mod n a
  have h2 : ((a * (n / a) + n % a : Nat) : Int) = (n : Int) := by rw [this]
  rw [Int.natCast_add, Int.natCast_mul, Int.mul_comm] at h2
  omega
/-- the grid of a rank -/
def zf_rk (n : Nat) : Nat → Nat → Nat → Option (Nat × Nat × Nat)
  | 0, _, _ => none
  | f + 1, a, l => if n % a = 0 then (if l < n / a then some (a, l, n / a) else zf_rk n f (a + 1) (l - n / a)) else zf_rk n f (a + 1) l
theorem zf_rk_ok {n : Nat} : ∀ {f a l : Nat} {t : Nat × Nat × Nat}, 1 ≤ a → zf_rk n f a l = some t → 1 ≤ t.1 ∧ t.2.1 < t.2.2 ∧ t.1 * t.2.2 = n := by
  intro f
  induction f with
  | zero => intro a l t _ h; cases h
  | succ f ih =>
    intro a l t ha h
    unfold zf_rk at h
    split at h
    · rename_i hm
      split at h
      · rename_i hl
        obtain rfl := Option.some.inj h
        refine ⟨ha, hl, ?_⟩
        have := Nat.div_add_mod n a
        rw [hm, Nat.add_zero] at this
        exact this
      · exact ih (by omega) h
    · exact ih (by omega) h
theorem x_grid {a b c : Int32} : rz_ex X (d + 1) 22 [.ref w.length, .int a, .int b, .int c] (w ++ [.inr (3, [.int 0, .int 0, .int 0])]) = some (.inl none, w ++ [.inr (3, [.int a, .int b, .int c])], 0, 0) := by
  simp (disch := first | exact nl_i | exact nl_r | exact nl_0 | exact nl_n | exact nl_x | exact kd_r | exact kd_n | exact kd_x | exact kd_o | exact cats0 | exact cats1 | exact cats2 | exact cats3 | exact cats4 | exact nr_i | exact nr_l | exact nr_z0 | exact nr_z1 | exact ft_i | exact ft_l | omega | rfl | assumption | (refine i_ne0 ?_ ?_ ?_ <;> omega) | (refine j_ne0 ?_ ?_ ?_ <;> omega) | (refine i_new ?_ ?_ <;> omega) | (refine bl_t ?_; with_unfolding_all rfl) | exact ft_z0 | exact ft_z1) only [n_X3_init, q_X3_init_0, q_X3_init_1, q_X3_init_4, q_X3_init_5, q_X3_init_6, q_X3_init_9, q_X3_init_10, q_X3_init_11, q_X3_init_14, q_X3_init_15, q_X3_init_16, q_X3_init_19, i_add, i_sub, i_mul, i_neg, i_lt, i_le, i_eq, i_tm, i_div, i_j, j_i, j_add, j_sub, j_mul, j_neg, j_lt, j_le, j_eq, j_div, c_lt, c_le, c_gt, c_ge, c_eq, i_nat, rz_k, Nat.add_zero, Nat.zero_add, Nat.add_assoc, Nat.reduceAdd, if_true, if_false, pf_new, List.set_cons_zero, List.set_cons_succ]
theorem l_rank {n : Nat} {v1 : Option Value} (hn1 : 1 ≤ n) (hn2 : n ≤ 200) (hv1 : rz_nl v1 = true) : ∀ (f a l : Nat) (l4 : Option Value), 1 ≤ a → a + f = n + 1 → l ≤ 2147483647 → rz_G X (d + 1) mz_X3_ranked 10 [some (.int (Int32.ofInt n)), v1, some (.int (Int32.ofInt l)), some (.int (Int32.ofInt a)), l4] [] w nc ns = match zf_rk n f a l with
    | none => some (.inl (some .null), w, nc, ns)
    | some t => some (.inl (some (.ref w.length)), w ++ [.inr (3, [.int (Int32.ofInt t.1), .int (Int32.ofInt t.2.1), .int (Int32.ofInt t.2.2)])], nc + 1, ns + 3) := by
  intro f
  induction f with
  | zero =>
    intro a l l4 h1 h2 h3
    rw [q_X3_ranked_10]
    simp (disch := first | exact nl_i | exact nl_r | exact nl_0 | exact nl_n | exact nl_x | exact kd_r | exact kd_n | exact kd_x | exact kd_o | exact cats0 | exact cats1 | exact cats2 | exact cats3 | exact cats4 | exact nr_i | exact nr_l | exact nr_z0 | exact nr_z1 | exact ft_i | exact ft_l | omega | rfl | assumption | (refine i_ne0 ?_ ?_ ?_ <;> omega) | (refine j_ne0 ?_ ?_ ?_ <;> omega) | (refine i_new ?_ ?_ <;> omega) | (refine bl_t ?_; with_unfolding_all rfl) | exact ft_z0 | exact ft_z1) only [n_X3_ranked, q_X3_ranked_0, q_X3_ranked_1, q_X3_ranked_4, q_X3_ranked_5, q_X3_ranked_5n, q_X3_ranked_6, q_X3_ranked_7, q_X3_ranked_8, q_X3_ranked_9, q_X3_ranked_11, q_X3_ranked_12, q_X3_ranked_15, q_X3_ranked_16, q_X3_ranked_17, q_X3_ranked_18, q_X3_ranked_21, q_X3_ranked_22, q_X3_ranked_23, q_X3_ranked_24, q_X3_ranked_26, q_X3_ranked_27, q_X3_ranked_29, q_X3_ranked_32, q_X3_ranked_35, q_X3_ranked_35r, q_X3_ranked_36, q_X3_ranked_37, q_X3_ranked_38, q_X3_ranked_40, q_X3_ranked_43, q_X3_ranked_43n, q_X3_ranked_44, q_X3_ranked_45, q_X3_ranked_47, q_X3_ranked_48, q_X3_ranked_49, q_X3_ranked_52, q_X3_ranked_55, q_X3_ranked_56, q_X3_ranked_56n, i_add, i_sub, i_mul, i_neg, i_lt, i_le, i_eq, i_tm, i_div, i_j, j_i, j_add, j_sub, j_mul, j_neg, j_lt, j_le, j_eq, j_div, c_lt, c_le, c_gt, c_ge, c_eq, i_nat, rz_k, Nat.add_zero, Nat.zero_add, Nat.add_assoc, Nat.reduceAdd, if_true, if_false, zf_rk]
    rw [if_pos (by omega)]
  | succ f ih =>
    intro a l l4 h1 h2 h3
    have hma : n % a < a := Nat.mod_lt _ (by omega)
    have hda : n / a ≤ n := Nat.div_le_self _ _
    have t1 : (n : Int).tdiv (a : Int) = ((n / a : Nat) : Int) := z_tdn n a
    have t2 : (n : Int) - ((n / a : Nat) : Int) * (a : Int) = ((n % a : Nat) : Int) := z_dm2
    unfold zf_rk
    generalize hq : n / a = q at hda t1 t2 ⊢
    generalize hmq : n % a = m at hma t2 ⊢
    rw [q_X3_ranked_10]
    simp (disch := first | exact nl_i | exact nl_r | exact nl_0 | exact nl_n | exact nl_x | exact kd_r | exact kd_n | exact kd_x | exact kd_o | exact cats0 | exact cats1 | exact cats2 | exact cats3 | exact cats4 | exact nr_i | exact nr_l | exact nr_z0 | exact nr_z1 | exact ft_i | exact ft_l | omega | rfl | assumption | (refine i_ne0 ?_ ?_ ?_ <;> omega) | (refine j_ne0 ?_ ?_ ?_ <;> omega) | (refine i_new ?_ ?_ <;> omega) | (refine bl_t ?_; with_unfolding_all rfl) | exact ft_z0 | exact ft_z1) only [n_X3_ranked, q_X3_ranked_0, q_X3_ranked_1, q_X3_ranked_4, q_X3_ranked_5, q_X3_ranked_5n, q_X3_ranked_6, q_X3_ranked_7, q_X3_ranked_8, q_X3_ranked_9, q_X3_ranked_11, q_X3_ranked_12, q_X3_ranked_15, q_X3_ranked_16, q_X3_ranked_17, q_X3_ranked_18, q_X3_ranked_21, q_X3_ranked_22, q_X3_ranked_23, q_X3_ranked_24, q_X3_ranked_26, q_X3_ranked_27, q_X3_ranked_29, q_X3_ranked_32, q_X3_ranked_35, q_X3_ranked_35r, q_X3_ranked_36, q_X3_ranked_37, q_X3_ranked_38, q_X3_ranked_40, q_X3_ranked_43, q_X3_ranked_43n, q_X3_ranked_44, q_X3_ranked_45, q_X3_ranked_47, q_X3_ranked_48, q_X3_ranked_49, q_X3_ranked_52, q_X3_ranked_55, q_X3_ranked_56, q_X3_ranked_56n, i_add, i_sub, i_mul, i_neg, i_lt, i_le, i_eq, i_tm, i_div, i_j, j_i, j_add, j_sub, j_mul, j_neg, j_lt, j_le, j_eq, j_div, c_lt, c_le, c_gt, c_ge, c_eq, i_nat, rz_k, Nat.add_zero, Nat.zero_add, Nat.add_assoc, Nat.reduceAdd, if_true, if_false, t1, t2, x_grid]
    rw [if_neg (by omega)]
    by_cases hm : m = 0
    · rw [if_neg (by omega), if_pos hm]
      by_cases hl : l < q
      · rw [if_neg (by omega), if_pos hl]
      · rw [if_pos (by omega), if_neg hl]
        have := ih (a + 1) (l - q) (some (.int (Int32.ofInt ((q : Nat) : Int)))) (by omega) (by omega) (by omega)
        rw [← this]
        congr 1
        rw [show ((l - q : Nat) : Int) = (l : Int) - ((q : Nat) : Int) by omega]
        rfl
    · rw [if_pos (by omega), if_neg hm]
      exact ih (a + 1) l _ (by omega) (by omega) h3
theorem x_ranked {n : Nat} {rk : Int} (hn1 : 1 ≤ n) (hn2 : n ≤ 200) (hr : -2147483648 ≤ rk ∧ rk ≤ 2147483647) : rz_ex X (d + 2) 25 [.int (Int32.ofInt n), .int (Int32.ofInt rk)] w = match (if rk < 0 then none else zf_rk n n 1 rk.toNat) with
    | none => some (.inl (some .null), w, 0, 0)
    | some t => some (.inl (some (.ref w.length)), w ++ [.inr (3, [.int (Int32.ofInt t.1), .int (Int32.ofInt t.2.1), .int (Int32.ofInt t.2.2)])], 1, 3) := by
  by_cases h0 : rk < 0
  · simp (disch := first | exact nl_i | exact nl_r | exact nl_0 | exact nl_n | exact nl_x | exact kd_r | exact kd_n | exact kd_x | exact kd_o | exact cats0 | exact cats1 | exact cats2 | exact cats3 | exact cats4 | exact nr_i | exact nr_l | exact nr_z0 | exact nr_z1 | exact ft_i | exact ft_l | omega | rfl | assumption | (refine i_ne0 ?_ ?_ ?_ <;> omega) | (refine j_ne0 ?_ ?_ ?_ <;> omega) | (refine i_new ?_ ?_ <;> omega) | (refine bl_t ?_; with_unfolding_all rfl) | exact ft_z0 | exact ft_z1) only [n_X3_ranked, q_X3_ranked_0, q_X3_ranked_1, q_X3_ranked_4, q_X3_ranked_5n, i_add, i_sub, i_mul, i_neg, i_lt, i_le, i_eq, i_tm, i_div, i_j, j_i, j_add, j_sub, j_mul, j_neg, j_lt, j_le, j_eq, j_div, c_lt, c_le, c_gt, c_ge, c_eq, i_nat, rz_k, Nat.add_zero, Nat.zero_add, Nat.add_assoc, Nat.reduceAdd, if_true, if_false]
    rw [if_neg (by omega), if_pos h0]
  · obtain ⟨m, rfl⟩ := Int.eq_ofNat_of_zero_le (show 0 ≤ rk by omega)
    have := l_rank (X := X) (d := d) (w := w) (nc := 0) (ns := 0) (v1 := some (.int (Int32.ofInt m))) hn1 hn2 rfl n 1 m none (by omega) (by omega) (by omega)
    simp (disch := first | exact nl_i | exact nl_r | exact nl_0 | exact nl_n | exact nl_x | exact kd_r | exact kd_n | exact kd_x | exact kd_o | exact cats0 | exact cats1 | exact cats2 | exact cats3 | exact cats4 | exact nr_i | exact nr_l | exact nr_z0 | exact nr_z1 | exact ft_i | exact ft_l | omega | rfl | assumption | (refine i_ne0 ?_ ?_ ?_ <;> omega) | (refine j_ne0 ?_ ?_ ?_ <;> omega) | (refine i_new ?_ ?_ <;> omega) | (refine bl_t ?_; with_unfolding_all rfl) | exact ft_z0 | exact ft_z1) only [n_X3_ranked, q_X3_ranked_0, q_X3_ranked_1, q_X3_ranked_6, q_X3_ranked_7, q_X3_ranked_8, q_X3_ranked_9, i_add, i_sub, i_mul, i_neg, i_lt, i_le, i_eq, i_tm, i_div, i_j, j_i, j_add, j_sub, j_mul, j_neg, j_lt, j_le, j_eq, j_div, c_lt, c_le, c_gt, c_ge, c_eq, i_nat, rz_k, Nat.add_zero, Nat.zero_add, Nat.add_assoc, Nat.reduceAdd, if_true, if_false]
    rw [if_pos (by omega), if_neg h0, Int.toNat_natCast]
    exact this
end RZNT
