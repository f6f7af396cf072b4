/-! part 97z1: level 2: isSound: neighbours that are seen -/
section RZXA
variable {X : rz_X} {d : Nat} {w w1 : rz_W} {nc ns : Nat}
/-- neighbours span, and go no farther than u -/
def zu_chk (u : Nat) : List Nat → Bool
  | e :: f :: r => decide ((e / 100) * (f % 100) = (e % 100) * (f / 100) + 1 ∧ f / 100 ≤ u ∧ e ≤ 5000 ∧ f ≤ 5000) && zu_chk u (f :: r)
  | _ => true
theorem zu_get {u : Nat} : ∀ {r : List Nat}, zu_chk u r = true → ∀ {i e f : Nat}, r[i]? = some e → r[i + 1]? = some f → (e / 100) * (f % 100) = (e % 100) * (f / 100) + 1 ∧ f / 100 ≤ u ∧ e ≤ 5000 ∧ f ≤ 5000 := by
  intro r
  induction r with
  | nil => intro _ i e f h; cases h
  | cons a r ih =>
    intro h i e f h1 h2
    cases r with
    | nil => cases h2
    | cons b r =>
      unfold zu_chk at h
      rw [Bool.and_eq_true] at h
      cases i with
      | zero =>
        have e1 : a = e := by simpa using h1
        have e2 : b = f := by simpa using h2
        rw [← e1, ← e2]
        exact of_decide_eq_true h.1
      | succ i => exact ih h.2 (i := i) h1 h2
theorem zu_12 : zu_chk 12 (zs_tab 12).reverse = true ∧ (zs_tab 12).length = (zs_tab 12).reverse.length ∧ 2 ≤ (zs_tab 12).length ∧ (zs_tab 12).length ≤ 200 ∧ (zs_tab 12).reverse[(zs_tab 12).length - 1]? = some 101 := by decide +kernel
theorem l_span (m : Nat) : ∀ (i : Nat) (l3 l4 l5 : Option Value), rz_nl l3 = true → rz_nl l4 = true → 1 ≤ i → i + m = (zs_tab 12).length → rz_G X (d + 4) mz_X10_seenNeighboursSpan 7 [some (.int (Int32.ofInt 12)), some (.int (Int32.ofInt ((zs_tab 12).length : Int))), some (.int (Int32.ofInt (i : Int))), l3, l4, l5] [] w nc ns = some (.inl (some (.int (Int32.ofInt 1))), w, nc, ns) := by
  obtain ⟨hc, hl, h2, h200, hlast⟩ := zu_12
  have kl : ∀ (i e : Nat) (hi : i ≤ 1000) (he : (zs_tab 12).reverse[i]? = some e), rz_ex X (d + 4) 167 [.int (Int32.ofInt 12), .int (Int32.ofInt (i : Int))] w = some (.inl (some (.int (Int32.ofInt (e : Int)))), w, 0, 0) := fun i e hi he => x_findSeen (X := X) (d := d + 3) (w := w) (u := 12) (by omega) hi he
  generalize (zs_tab 12).reverse = R at *
  generalize (zs_tab 12).length = N at *
  induction m with
  | zero =>
    intro i l3 l4 l5 n3 n4 h1 hi
    obtain rfl : i = N := by omega
    have k1 : rz_ex X (d + 4) 167 [.int (Int32.ofInt 12), .int (Int32.ofInt ((i - 1 : Nat) : Int))] w = some (.inl (some (.int (Int32.ofInt 101))), w, 0, 0) := kl (i - 1) 101 (by omega) hlast
    rw [show ((i - 1 : Nat) : Int) = (i : Int) - 1 by omega] at k1
    rw [q_X10_seenNeighboursSpan_7]
    simp (disch := first | exact nl_i | exact nl_r | exact nl_0 | exact nl_n | exact nl_x | exact kd_r | exact kd_n | exact kd_x | exact kd_o | exact cats0 | exact cats1 | exact cats2 | exact cats3 | exact cats4 | exact nr_i | exact nr_l | exact nr_z0 | exact nr_z1 | exact ft_i | exact ft_l | omega | rfl | assumption | (refine i_ne0 ?_ ?_ ?_ <;> omega) | (refine j_ne0 ?_ ?_ ?_ <;> omega) | (refine i_new ?_ ?_ <;> omega) | (refine bl_t ?_; with_unfolding_all rfl) | exact ft_z0 | exact ft_z1) only [↓reduceIte, q_X10_seenNeighboursSpan_8, q_X10_seenNeighboursSpan_9, q_X10_seenNeighboursSpan_73, q_X10_seenNeighboursSpan_74, q_X10_seenNeighboursSpan_75, q_X10_seenNeighboursSpan_76, q_X10_seenNeighboursSpan_77, q_X10_seenNeighboursSpan_80, q_X10_seenNeighboursSpan_82, q_X10_seenNeighboursSpan_85, q_X10_seenNeighboursSpan_86, q_X10_seenNeighboursSpan_89, q_X10_seenNeighboursSpan_90, i_add, i_sub, i_mul, i_neg, i_lt, i_le, i_eq, i_tm, i_div, i_j, j_i, j_add, j_sub, j_mul, j_neg, j_lt, j_le, j_eq, j_div, c_lt, c_le, c_gt, c_ge, c_eq, i_nat, rz_k, Nat.add_zero, Nat.zero_add, Nat.add_assoc, Nat.reduceAdd, if_true, if_false, eq_true (show (i : Int) ≤ (i : Int) by omega), k1, not_true_eq_false, Int.reduceEq]
    all_goals rfl
  | succ m ih =>
    intro i l3 l4 l5 n3 n4 h1 hi
    have g1 := ze_get (L := R) (k := i - 1) (by omega)
    have g2 := ze_get (L := R) (k := i) (by omega)
    generalize R.getD (i - 1) 0 = e at g1
    generalize R.getD i 0 = f at g2
    have k1 := kl (i - 1) e (by omega) g1
    have k2 := kl i f (by omega) g2
    rw [show ((i - 1 : Nat) : Int) = (i : Int) - 1 by omega] at k1
    obtain ⟨c1, c2, c3, c4⟩ := zu_get hc (i := i - 1) g1 (by rw [show i - 1 + 1 = i by omega]; exact g2)
    have t1 : ((e : Nat) : Int).tdiv 100 = ((e / 100 : Nat) : Int) := by
      rw [Int.tdiv_eq_ediv_of_nonneg (by omega)]
      omega
    have t2 : ((f : Nat) : Int).tdiv 100 = ((f / 100 : Nat) : Int) := by
      rw [Int.tdiv_eq_ediv_of_nonneg (by omega)]
      omega
    have t3 : ((e : Nat) : Int) - ((e / 100 : Nat) : Int) * 100 = ((e % 100 : Nat) : Int) := by omega
    have t4 : ((f : Nat) : Int) - ((f / 100 : Nat) : Int) * 100 = ((f % 100 : Nat) : Int) := by omega
    have t5 : ((e : Nat) : Int).tmod 100 = ((e % 100 : Nat) : Int) := by
      rw [Int.tmod_eq_emod_of_nonneg (by omega)]
      omega
    have t6 : ((f : Nat) : Int).tmod 100 = ((f % 100 : Nat) : Int) := by
      rw [Int.tmod_eq_emod_of_nonneg (by omega)]
      omega
    have ht : ((e / 100 : Nat) : Int) * ((f % 100 : Nat) : Int) - ((e % 100 : Nat) : Int) * ((f / 100 : Nat) : Int) = 1 := by
      have : (((e / 100) * (f % 100) : Nat) : Int) = (((e % 100) * (f / 100) + 1 : Nat) : Int) := by rw [c1]
      rw [Int.natCast_mul, Int.natCast_add, Int.natCast_mul] at this
      omega
    have n1 := z_nmul (a := ((e / 100 : Nat) : Int)) (b := ((f % 100 : Nat) : Int)) (M := 100) (N := 100) (by omega) (by omega)
    rw [← ih (i + 1) (some (.int (Int32.ofInt (e : Int)))) (some (.int (Int32.ofInt (f : Int)))) (some (.int (Int32.ofInt 1))) nl_i nl_i (by omega) (by omega), q_X10_seenNeighboursSpan_7]
    clear ih kl
    simp (disch := first | exact n3 | exact n4 | first | exact nl_i | exact nl_r | exact nl_0 | exact nl_n | exact nl_x | exact kd_r | exact kd_n | exact kd_x | exact kd_o | exact cats0 | exact cats1 | exact cats2 | exact cats3 | exact cats4 | exact nr_i | exact nr_l | exact nr_z0 | exact nr_z1 | exact ft_i | exact ft_l | omega | rfl | assumption | (refine i_ne0 ?_ ?_ ?_ <;> omega) | (refine j_ne0 ?_ ?_ ?_ <;> omega) | (refine i_new ?_ ?_ <;> omega) | (refine bl_t ?_; with_unfolding_all rfl) | exact ft_z0 | exact ft_z1) only [↓reduceIte, q_X10_seenNeighboursSpan_8, q_X10_seenNeighboursSpan_9, q_X10_seenNeighboursSpan_12, q_X10_seenNeighboursSpan_13, q_X10_seenNeighboursSpan_14, q_X10_seenNeighboursSpan_15, q_X10_seenNeighboursSpan_16, q_X10_seenNeighboursSpan_19, q_X10_seenNeighboursSpan_20, q_X10_seenNeighboursSpan_21, q_X10_seenNeighboursSpan_22, q_X10_seenNeighboursSpan_25, q_X10_seenNeighboursSpan_27, q_X10_seenNeighboursSpan_28, q_X10_seenNeighboursSpan_30, q_X10_seenNeighboursSpan_31, q_X10_seenNeighboursSpan_33, q_X10_seenNeighboursSpan_35, q_X10_seenNeighboursSpan_36, q_X10_seenNeighboursSpan_37, q_X10_seenNeighboursSpan_38, q_X10_seenNeighboursSpan_40, q_X10_seenNeighboursSpan_41, q_X10_seenNeighboursSpan_43, q_X10_seenNeighboursSpan_45, q_X10_seenNeighboursSpan_46, q_X10_seenNeighboursSpan_47, q_X10_seenNeighboursSpan_48, q_X10_seenNeighboursSpan_50, q_X10_seenNeighboursSpan_52, q_X10_seenNeighboursSpan_53, q_X10_seenNeighboursSpan_56, q_X10_seenNeighboursSpan_58, q_X10_seenNeighboursSpan_60, q_X10_seenNeighboursSpan_61, q_X10_seenNeighboursSpan_62, q_X10_seenNeighboursSpan_65, q_X10_seenNeighboursSpan_66, q_X10_seenNeighboursSpan_67, q_X10_seenNeighboursSpan_70, i_add, i_sub, i_mul, i_neg, i_lt, i_le, i_eq, i_tm, i_div, i_j, j_i, j_add, j_sub, j_mul, j_neg, j_lt, j_le, j_eq, j_div, c_lt, c_le, c_gt, c_ge, c_eq, i_nat, rz_k, Nat.add_zero, Nat.zero_add, Nat.add_assoc, Nat.reduceAdd, if_true, if_false, eq_false (show ¬ (N : Int) ≤ (i : Int) by omega), k1, k2, t1, t2, t3, t4, t5, t6, ht, not_true_eq_false, eq_true (show ((f / 100 : Nat) : Int) ≤ 12 by omega)]
    rfl
theorem x_span : rz_ex X (d + 5) 171 [.int (Int32.ofInt 12)] w = some (.inl (some (.int (Int32.ofInt 1))), w, 0, 0) := by
  have hc := x_countSeen (X := X) (d := d) (w := w) (u := 12) (by omega)
  have h2 := zu_12.2.2.1
  rw [← l_span (X := X) (d := d) (nc := 0) (ns := 0) ((zs_tab 12).length - 1) 1 none none none nl_0 nl_0 (Nat.le_refl _) (by omega)]
  have hc' : rz_ex X (d + 4) 166 [.int (Int32.ofInt 12)] w = some (.inl (some (.int (Int32.ofInt ((zs_tab 12).length : Int)))), w, 0, 0) := hc
  simp (disch := first | exact nl_i | exact nl_r | exact nl_0 | exact nl_n | exact nl_x | exact kd_r | exact kd_n | exact kd_x | exact kd_o | exact cats0 | exact cats1 | exact cats2 | exact cats3 | exact cats4 | exact nr_i | exact nr_l | exact nr_z0 | exact nr_z1 | exact ft_i | exact ft_l | omega | rfl | assumption | (refine i_ne0 ?_ ?_ ?_ <;> omega) | (refine j_ne0 ?_ ?_ ?_ <;> omega) | (refine i_new ?_ ?_ <;> omega) | (refine bl_t ?_; with_unfolding_all rfl) | exact ft_z0 | exact ft_z1) only [n_X10_seenNeighboursSpan, q_X10_seenNeighboursSpan_0, q_X10_seenNeighboursSpan_1, q_X10_seenNeighboursSpan_4, q_X10_seenNeighboursSpan_5, q_X10_seenNeighboursSpan_6, i_add, i_sub, i_mul, i_neg, i_lt, i_le, i_eq, i_tm, i_div, i_j, j_i, j_add, j_sub, j_mul, j_neg, j_lt, j_le, j_eq, j_div, c_lt, c_le, c_gt, c_ge, c_eq, i_nat, rz_k, Nat.add_zero, Nat.zero_add, Nat.add_assoc, Nat.reduceAdd, if_true, if_false, hc']
  rfl
end RZXA
