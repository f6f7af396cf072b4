/-! part 48: level 2: a slot becomes a grid, in the class and in the reference -/
section RZBC
variable {X : rz_X} {d : Nat} {w : rz_W} {nc ns : Nat} {kp tl kd ty cl th : Int}
/-- moved down by one up to a place -/
def zf_sh {α : Type} (f : Nat → α) (i k : Nat) : α := if k + 1 < i then f (k + 1) else f k
theorem sh_upd {f : Nat → Int32} {i : Nat} (h : 1 ≤ i) : upd (zf_sh f i) (i - 1) (zf_sh f i i) = zf_sh f (i + 1) := by
  funext k
  unfold upd zf_sh
  by_cases hk : k = i - 1
  · subst hk
    rw [if_pos rfl, if_neg (by omega), if_pos (by omega), show i - 1 + 1 = i by omega]
  · rw [if_neg hk]
    by_cases h2 : k + 1 < i
    · rw [if_pos h2, if_pos (by omega)]
    · rw [if_neg h2, if_neg (by omega)]
theorem sh_updL {f : Nat → Int64} {i : Nat} (h : 1 ≤ i) : vp_updL (zf_sh f i) (i - 1) (zf_sh f i i) = zf_sh f (i + 1) := by
  funext k
  unfold vp_updL zf_sh
  by_cases hk : k = i - 1
  · subst hk
    rw [if_pos rfl, if_neg (by omega), if_pos (by omega), show i - 1 + 1 = i by omega]
  · rw [if_neg hk]
    by_cases h2 : k + 1 < i
    · rw [if_pos h2, if_pos (by omega)]
    · rw [if_neg h2, if_neg (by omega)]
theorem sh_up {f : Nat → Option Nat} {i : Nat} (h : 1 ≤ i) : va_up (zf_sh f i) (i - 1) (zf_sh f i i) = zf_sh f (i + 1) := by
  funext k
  unfold va_up zf_sh
  by_cases hk : k = i - 1
  · subst hk
    rw [if_pos rfl, if_neg (by omega), if_pos (by omega), show i - 1 + 1 = i by omega]
  · rw [if_neg hk]
    by_cases h2 : k + 1 < i
    · rw [if_pos h2, if_pos (by omega)]
    · rw [if_neg h2, if_neg (by omega)]
theorem sh_at {α : Type} {f : Nat → α} {i : Nat} : zf_sh f i i = f i := by
  unfold zf_sh
  rw [if_neg (by omega)]
theorem sh_one {α : Type} {f : Nat → α} : zf_sh f 1 = f := by
  funext k
  unfold zf_sh
  rw [if_neg (by omega)]
theorem l_forget {KS : Nat → Int32} {KG : Nat → Option Nat} (n : Nat) : ∀ (i : Nat) (w : rz_W), i + n = 10 → 1 ≤ i → v_yard w kp → v_ia w 2 10 (zf_sh KS i) → v_ga w 3 10 (zf_sh KG i) → (∀ j g, j < 10 → KG j = some g → 4 ≤ g ∧ ∃ fs, v_ob w g 3 fs) → ∃ w', rz_G X d mz_X10_forgetOldest 2 [some (.ref 0), some (.int (Int32.ofInt i))] [] w nc ns = some (.inl none, w', nc, ns) ∧ rz_fr [0, 2, 3] w w' ∧ v_yard w' 9 ∧ v_ia w' 2 10 (zf_sh KS 10) ∧ v_ga w' 3 10 (zf_sh KG 10) := by
  induction n with
  | zero =>
    intro i w hi h1 hy h2 h3 hg
    obtain rfl : i = 10 := by omega
    have l0 := w_lt hy
    refine ⟨w.set 0 (.inr (10, [.ref 1, .ref 2, .ref 3, .int (Int32.ofInt 9), .ref 4, .ref 5, .ref 9, .ref 12, .ref 14, .ref 18, .ref 26, .ref 29])), ?_, fr_set (by decide), w_eq l0, (w_ne (by decide)).trans h2, (w_ne (by decide)).trans h3⟩
    rw [q_X10_forgetOldest_2]
    simp (disch := first | exact nl_i | exact nl_r | exact nl_0 | exact nl_n | exact nl_x | exact kd_r | exact kd_n | exact kd_x | exact kd_o | exact cats0 | exact cats1 | exact cats2 | exact cats3 | exact cats4 | exact nr_i | exact nr_l | exact nr_z0 | exact nr_z1 | exact ft_i | exact ft_l | omega | rfl | assumption | (refine i_ne0 ?_ ?_ ?_ <;> omega) | (refine j_ne0 ?_ ?_ ?_ <;> omega) | (refine i_new ?_ ?_ <;> omega) | (refine bl_t ?_; with_unfolding_all rfl) | exact ft_z0 | exact ft_z1) only [n_X10_forgetOldest, q_X10_forgetOldest_0, q_X10_forgetOldest_1, q_X10_forgetOldest_3, q_X10_forgetOldest_5, q_X10_forgetOldest_8, q_X10_forgetOldest_9, q_X10_forgetOldest_12, q_X10_forgetOldest_13, q_X10_forgetOldest_14, q_X10_forgetOldest_15, q_X10_forgetOldest_16, q_X10_forgetOldest_19, q_X10_forgetOldest_20, q_X10_forgetOldest_20x, q_X10_forgetOldest_21, q_X10_forgetOldest_22, q_X10_forgetOldest_23, q_X10_forgetOldest_26, q_X10_forgetOldest_27, q_X10_forgetOldest_28, q_X10_forgetOldest_29, q_X10_forgetOldest_30, q_X10_forgetOldest_33, q_X10_forgetOldest_34, q_X10_forgetOldest_35, q_X10_forgetOldest_36, q_X10_forgetOldest_39, q_X10_forgetOldest_42, q_X10_forgetOldest_43, q_X10_forgetOldest_45, q_X10_forgetOldest_48, i_add, i_sub, i_mul, i_neg, i_lt, i_le, i_eq, i_tm, i_div, i_j, j_i, j_add, j_sub, j_mul, j_neg, j_lt, j_le, j_eq, j_div, c_lt, c_le, c_gt, c_ge, c_eq, i_nat, rz_k, Nat.add_zero, Nat.zero_add, Nat.add_assoc, Nat.reduceAdd, if_true, if_false, pf_eq hy, List.set_cons_zero, List.set_cons_succ]
    rw [if_pos (by omega)]
  | succ n ih =>
    intro i w hi h1 hy h2 h3 hg
    have l2 := w_lt h2
    have l3 := w_lt h3
    have hc1 : ((i : Int) - 1).toNat = i - 1 := by omega
    have hc2 : (i : Int).toNat = i := by omega
    have hy1 : v_yard (w.set 2 (.inl (.int, 10, .inl (zf_sh KS (i + 1))))) kp := (w_ne (by decide)).trans hy
    have h31 : v_ga (w.set 2 (.inl (.int, 10, .inl (zf_sh KS (i + 1))))) 3 10 (zf_sh KG i) := (w_ne (by decide)).trans h3
    have hw : ∃ w2, rz_G X d mz_X10_forgetOldest 2 [some (.ref 0), some (.int (Int32.ofInt i))] [] w nc ns = rz_G X d mz_X10_forgetOldest 2 [some (.ref 0), some (.int (Int32.ofInt ((i + 1 : Nat) : Int)))] [] w2 nc ns ∧ w2 = (w.set 2 (.inl (.int, 10, .inl (zf_sh KS (i + 1))))).set 3 (.inl (.object "Latticeyard$Grid", 10, .inr (.inr (.inr (.inr (zf_sh KG (i + 1))))))) := by
      refine ⟨_, ?_, rfl⟩
      rw [q_X10_forgetOldest_2]
      cases hgi : KG i with
      | none =>
        have hgi' : zf_sh KG i i = none := sh_at.trans hgi
        simp (disch := first | exact nl_i | exact nl_r | exact nl_0 | exact nl_n | exact nl_x | exact kd_r | exact kd_n | exact kd_x | exact kd_o | exact cats0 | exact cats1 | exact cats2 | exact cats3 | exact cats4 | exact nr_i | exact nr_l | exact nr_z0 | exact nr_z1 | exact ft_i | exact ft_l | omega | rfl | assumption | (refine i_ne0 ?_ ?_ ?_ <;> omega) | (refine j_ne0 ?_ ?_ ?_ <;> omega) | (refine i_new ?_ ?_ <;> omega) | (refine bl_t ?_; with_unfolding_all rfl) | exact ft_z0 | exact ft_z1) only [n_X10_forgetOldest, q_X10_forgetOldest_0, q_X10_forgetOldest_1, q_X10_forgetOldest_3, q_X10_forgetOldest_5, q_X10_forgetOldest_8, q_X10_forgetOldest_9, q_X10_forgetOldest_12, q_X10_forgetOldest_13, q_X10_forgetOldest_14, q_X10_forgetOldest_15, q_X10_forgetOldest_16, q_X10_forgetOldest_19, q_X10_forgetOldest_20, q_X10_forgetOldest_20x, q_X10_forgetOldest_21, q_X10_forgetOldest_22, q_X10_forgetOldest_23, q_X10_forgetOldest_26, q_X10_forgetOldest_27, q_X10_forgetOldest_28, q_X10_forgetOldest_29, q_X10_forgetOldest_30, q_X10_forgetOldest_33, q_X10_forgetOldest_34, q_X10_forgetOldest_35, q_X10_forgetOldest_36, q_X10_forgetOldest_39, q_X10_forgetOldest_42, q_X10_forgetOldest_43, q_X10_forgetOldest_45, q_X10_forgetOldest_48, i_add, i_sub, i_mul, i_neg, i_lt, i_le, i_eq, i_tm, i_div, i_j, j_i, j_add, j_sub, j_mul, j_neg, j_lt, j_le, j_eq, j_div, c_lt, c_le, c_gt, c_ge, c_eq, i_nat, rz_k, Nat.add_zero, Nat.zero_add, Nat.add_assoc, Nat.reduceAdd, if_true, if_false, gf_eq hy, List.getElem?_cons_zero, List.getElem?_cons_succ, ai_eq h2, si_eq h2, hc1, hc2, sh_upd h1, gf_eq hy1, aa_eq h31, hgi', rf_none]
        rw [if_neg (by omega), q_X10_forgetOldest_35 (.inl rfl), sa_n h31 (by omega) (by omega) (by omega), hc1, ← hgi', sh_up h1]
        simp (disch := first | exact nl_i | exact nl_r | exact nl_0 | exact nl_n | exact nl_x | exact kd_r | exact kd_n | exact kd_x | exact kd_o | exact cats0 | exact cats1 | exact cats2 | exact cats3 | exact cats4 | exact nr_i | exact nr_l | exact nr_z0 | exact nr_z1 | exact ft_i | exact ft_l | omega | rfl | assumption | (refine i_ne0 ?_ ?_ ?_ <;> omega) | (refine j_ne0 ?_ ?_ ?_ <;> omega) | (refine i_new ?_ ?_ <;> omega) | (refine bl_t ?_; with_unfolding_all rfl) | exact ft_z0 | exact ft_z1) only [n_X10_forgetOldest, q_X10_forgetOldest_0, q_X10_forgetOldest_1, q_X10_forgetOldest_3, q_X10_forgetOldest_5, q_X10_forgetOldest_8, q_X10_forgetOldest_9, q_X10_forgetOldest_12, q_X10_forgetOldest_13, q_X10_forgetOldest_14, q_X10_forgetOldest_15, q_X10_forgetOldest_16, q_X10_forgetOldest_19, q_X10_forgetOldest_20, q_X10_forgetOldest_20x, q_X10_forgetOldest_21, q_X10_forgetOldest_22, q_X10_forgetOldest_23, q_X10_forgetOldest_26, q_X10_forgetOldest_27, q_X10_forgetOldest_28, q_X10_forgetOldest_29, q_X10_forgetOldest_30, q_X10_forgetOldest_33, q_X10_forgetOldest_34, q_X10_forgetOldest_35, q_X10_forgetOldest_36, q_X10_forgetOldest_39, q_X10_forgetOldest_42, q_X10_forgetOldest_43, q_X10_forgetOldest_45, q_X10_forgetOldest_48, i_add, i_sub, i_mul, i_neg, i_lt, i_le, i_eq, i_tm, i_div, i_j, j_i, j_add, j_sub, j_mul, j_neg, j_lt, j_le, j_eq, j_div, c_lt, c_le, c_gt, c_ge, c_eq, i_nat, rz_k, Nat.add_zero, Nat.zero_add, Nat.add_assoc, Nat.reduceAdd, if_true, if_false]
        rfl
      | some g =>
        have hgi' : zf_sh KG i i = some g := sh_at.trans hgi
        obtain ⟨hg4, fs, hob⟩ := hg i g (by omega) hgi
        have hob1 : v_ob (w.set 2 (.inl (.int, 10, .inl (zf_sh KS (i + 1))))) g 3 fs := (w_ne (by omega)).trans hob
        simp (disch := first | exact nl_i | exact nl_r | exact nl_0 | exact nl_n | exact nl_x | exact kd_r | exact kd_n | exact kd_x | exact kd_o | exact cats0 | exact cats1 | exact cats2 | exact cats3 | exact cats4 | exact nr_i | exact nr_l | exact nr_z0 | exact nr_z1 | exact ft_i | exact ft_l | omega | rfl | assumption | (refine i_ne0 ?_ ?_ ?_ <;> omega) | (refine j_ne0 ?_ ?_ ?_ <;> omega) | (refine i_new ?_ ?_ <;> omega) | (refine bl_t ?_; with_unfolding_all rfl) | exact ft_z0 | exact ft_z1) only [n_X10_forgetOldest, q_X10_forgetOldest_0, q_X10_forgetOldest_1, q_X10_forgetOldest_3, q_X10_forgetOldest_5, q_X10_forgetOldest_8, q_X10_forgetOldest_9, q_X10_forgetOldest_12, q_X10_forgetOldest_13, q_X10_forgetOldest_14, q_X10_forgetOldest_15, q_X10_forgetOldest_16, q_X10_forgetOldest_19, q_X10_forgetOldest_20, q_X10_forgetOldest_20x, q_X10_forgetOldest_21, q_X10_forgetOldest_22, q_X10_forgetOldest_23, q_X10_forgetOldest_26, q_X10_forgetOldest_27, q_X10_forgetOldest_28, q_X10_forgetOldest_29, q_X10_forgetOldest_30, q_X10_forgetOldest_33, q_X10_forgetOldest_34, q_X10_forgetOldest_35, q_X10_forgetOldest_36, q_X10_forgetOldest_39, q_X10_forgetOldest_42, q_X10_forgetOldest_43, q_X10_forgetOldest_45, q_X10_forgetOldest_48, i_add, i_sub, i_mul, i_neg, i_lt, i_le, i_eq, i_tm, i_div, i_j, j_i, j_add, j_sub, j_mul, j_neg, j_lt, j_le, j_eq, j_div, c_lt, c_le, c_gt, c_ge, c_eq, i_nat, rz_k, Nat.add_zero, Nat.zero_add, Nat.add_assoc, Nat.reduceAdd, if_true, if_false, gf_eq hy, List.getElem?_cons_zero, List.getElem?_cons_succ, ai_eq h2, si_eq h2, hc1, hc2, sh_upd h1, gf_eq hy1, aa_eq h31, hgi', rf_some]
        rw [if_neg (by omega), q_X10_forgetOldest_35 (.inr ⟨_, rfl⟩), sa_r h31 hob1 (by decide) (by omega) (by omega) (by omega), hc1, ← hgi', sh_up h1]
        simp (disch := first | exact nl_i | exact nl_r | exact nl_0 | exact nl_n | exact nl_x | exact kd_r | exact kd_n | exact kd_x | exact kd_o | exact cats0 | exact cats1 | exact cats2 | exact cats3 | exact cats4 | exact nr_i | exact nr_l | exact nr_z0 | exact nr_z1 | exact ft_i | exact ft_l | omega | rfl | assumption | (refine i_ne0 ?_ ?_ ?_ <;> omega) | (refine j_ne0 ?_ ?_ ?_ <;> omega) | (refine i_new ?_ ?_ <;> omega) | (refine bl_t ?_; with_unfolding_all rfl) | exact ft_z0 | exact ft_z1) only [n_X10_forgetOldest, q_X10_forgetOldest_0, q_X10_forgetOldest_1, q_X10_forgetOldest_3, q_X10_forgetOldest_5, q_X10_forgetOldest_8, q_X10_forgetOldest_9, q_X10_forgetOldest_12, q_X10_forgetOldest_13, q_X10_forgetOldest_14, q_X10_forgetOldest_15, q_X10_forgetOldest_16, q_X10_forgetOldest_19, q_X10_forgetOldest_20, q_X10_forgetOldest_20x, q_X10_forgetOldest_21, q_X10_forgetOldest_22, q_X10_forgetOldest_23, q_X10_forgetOldest_26, q_X10_forgetOldest_27, q_X10_forgetOldest_28, q_X10_forgetOldest_29, q_X10_forgetOldest_30, q_X10_forgetOldest_33, q_X10_forgetOldest_34, q_X10_forgetOldest_35, q_X10_forgetOldest_36, q_X10_forgetOldest_39, q_X10_forgetOldest_42, q_X10_forgetOldest_43, q_X10_forgetOldest_45, q_X10_forgetOldest_48, i_add, i_sub, i_mul, i_neg, i_lt, i_le, i_eq, i_tm, i_div, i_j, j_i, j_add, j_sub, j_mul, j_neg, j_lt, j_le, j_eq, j_div, c_lt, c_le, c_gt, c_ge, c_eq, i_nat, rz_k, Nat.add_zero, Nat.zero_add, Nat.add_assoc, Nat.reduceAdd, if_true, if_false]
        rfl
    obtain ⟨w2, e1, hw2⟩ := hw
    have f2 : rz_fr [0, 2, 3] w w2 := by
      rw [hw2]
      exact fr_trans (fr_set (by decide)) (fr_set (by decide))
    obtain ⟨w', e2, f3, r⟩ := ih (i + 1) w2 (by omega) (by omega) (by rw [hw2]; exact (w_ne (by decide)).trans hy1) (by rw [hw2]; exact (w_ne (by decide)).trans (w_eq l2)) (by rw [hw2]; exact w_eq (by rw [List.length_set]; exact l3)) (fun j g hj hg' => by
      obtain ⟨h4, fs, ho⟩ := hg j g hj hg'
      exact ⟨h4, fs, by rw [hw2]; exact (w_ne (by omega)).trans ((w_ne (by omega)).trans ho)⟩)
    exact ⟨w', e1.trans e2, fr_trans f2 f3, r⟩
end RZBC
