/-! part 97z4: level 2: isSound: the least steps span, the class -/
section RZXD
variable {X : rz_X} {d : Nat} {w w1 : rz_W} {nc ns : Nat} {kp : Int}
def zz_in (a b c : Int) (x y : Int) : Prop := ∃ i j : Int, x = i * a ∧ y = i * b + j * c
theorem zz_red {a b c : Int} (n : Nat) : ∀ x y u v r1 r2 r3 r4 : Int, zr_red n x y u v = some (r1, r2, r3, r4) → zz_in a b c x y → zz_in a b c u v → zz_in a b c r1 r2 ∧ zz_in a b c r3 r4 := by
  have hsub : ∀ x y u v t : Int, zz_in a b c x y → zz_in a b c u v → zz_in a b c (x - t * u) (y - t * v) := by
    rintro x y u v t ⟨i, j, h1, h2⟩ ⟨k, l, h3, h4⟩
    exact ⟨i - t * k, j - t * l, by rw [h1, h3]; grind, by rw [h2, h4]; grind⟩
  induction n with
  | zero => intro x y u v r1 r2 r3 r4 h; cases h
  | succ n ih =>
    intro x y u v r1 r2 r3 r4 h hx hu
    unfold zr_red at h
    split at h
    · split at h
      · simp only [Option.some.injEq, Prod.mk.injEq] at h
        obtain ⟨rfl, rfl, rfl, rfl⟩ := h
        exact ⟨hu, hx⟩
      · exact ih _ _ _ _ _ _ _ _ h hu (hsub _ _ _ _ _ hx hu)
    · split at h
      · simp only [Option.some.injEq, Prod.mk.injEq] at h
        obtain ⟨rfl, rfl, rfl, rfl⟩ := h
        exact ⟨hx, hu⟩
      · exact ih _ _ _ _ _ _ _ _ h hx (hsub _ _ _ _ _ hu hx)
theorem zz_S {a b c r1 r2 r3 r4 : Int} (h1 : zz_in a b c r1 r2) (h2 : zz_in a b c r3 r4) {s : Int × Int} (hs : zt_S r1 r2 r3 r4 s) : zz_in a b c s.1 s.2 := by
  obtain ⟨-, i, j, -, -, rfl⟩ := hs
  obtain ⟨k, l, e1, e2⟩ := h1
  obtain ⟨m, n, e3, e4⟩ := h2
  exact ⟨i * k + j * m, i * l + j * n, by show i * r1 + j * r3 = _; rw [e1, e3]; grind, by show i * r2 + j * r4 = _; rw [e2, e4]; grind⟩
theorem zz_con {a b c x y : Int} (ha : 1 ≤ a) (hc : 1 ≤ c) (h : zz_in a b c x y) : x.tmod a = 0 ∧ (y - x.tdiv a * b).tmod c = 0 := by
  obtain ⟨i, j, rfl, rfl⟩ := h
  refine ⟨Int.mul_tmod_left i a, ?_⟩
  rw [Int.mul_tdiv_cancel _ (show a ≠ 0 by omega), show i * b + j * c - i * b = j * c by omega]
  exact Int.mul_tmod_left j c
theorem zz_as {r : Nat → Int × Int} (n : Nat) : ∀ k j, zt_as2 r n k = some j → k ≤ j ∧ j < k + n := by
  induction n with
  | zero => intro k j h; cases h
  | succ n ih =>
    intro k j h
    unfold zt_as2 at h
    split at h
    · have := ih (k + 1) j h
      omega
    · have := Option.some.inj h
      omega
/-- whether the least steps span: class and reference test this -/
def zz_ls (q : Nat → Int × Int) (I : Int) : Bool := match zt_as2 q 19 1 with
  | none => true
  | some k => decide ((((q 0).1 * (q k).2 - (q 0).2 * (q k).1).natAbs : Int) = I)
theorem x_lss {g' : Nat} {a b c r1 r2 r3 r4 : Int} (hy : v_yard w kp) (hmi : v_misc w) (ho : v_ob w g' 3 [.int (Int32.ofInt a), .int (Int32.ofInt b), .int (Int32.ofInt c)]) (hg : 49 ≤ g') (hr : 1 ≤ a ∧ 0 ≤ b ∧ b < c ∧ a * c ≤ 1000000) (hrr : zr_red 50 a b 0 c = some (r1, r2, r3, r4)) : ∃ w' r' q, rz_ex X (d + 5) 168 [.ref 0, .ref g'] w = some (.inl (some (.int (Int32.ofInt (zb (zz_ls q (a * c)))))), w', 0, 0) ∧ rz_fr [4, 5, 6, 7, 8] w w' ∧ v_misc w' ∧ zt_I (zt_S r1 r2 r3 r4) r' ∧ r'.length = 20 ∧ zt_bd r' ∧ ∀ k, k < 20 → r'.reverse[k]? = some (q k) := by
  obtain ⟨w1, r, e1, f1, hmi1, hs1', hI, hl, hbd⟩ := x_listSteps (X := X) (d := d) hy hmi ho hg hr hrr
  obtain ⟨q, hq⟩ := zt_all hl
  refine ⟨w1, r, q, ?_, f1, hmi1, hI, hl, hbd, hq⟩
  have kx := x_aside (X := X) (d := d + 3) hs1' hbd hq
  have hy1 : v_yard w1 kp := fr_get f1 (by decide) hy
  have ho1 := fr_get f1 (by simp; omega) ho
  obtain ⟨L, P, Q, h5, -⟩ := id hs1'
  have ki := x_index (X := X) (d := d + 3) ho1
  have hA : a ≤ 1000000 := Int.le_trans (by have := Int.mul_le_mul_of_nonneg_left (show (1 : Int) ≤ c by omega) (show 0 ≤ a by omega); omega) hr.2.2.2
  have hC : c ≤ 1000000 := Int.le_trans (by have := Int.mul_le_mul_of_nonneg_right (show (1 : Int) ≤ a by omega) (show 0 ≤ c by omega); omega) hr.2.2.2
  have hAC : 0 ≤ a * c := Int.mul_nonneg (by omega) (by omega)
  have hm := zz_red (a := a) (b := b) (c := c) 50 a b 0 c r1 r2 r3 r4 hrr ⟨1, 0, by omega, by omega⟩ ⟨0, 1, by omega, by omega⟩
  have hin : ∀ k, k < 20 → zz_in a b c (q k).1 (q k).2 ∧ (q k).1.natAbs ≤ 100000000 ∧ (q k).2.natAbs ≤ 100000000 := by
    intro k hk
    have hmem := List.mem_reverse.mp (List.mem_of_getElem? (hq k hk))
    exact ⟨zz_S hm.1 hm.2 (hI.2.1 _ hmem), hbd _ hmem⟩
  unfold zz_ls
  cases has : zt_as2 q 19 1 with
  | none =>
    rw [has] at kx
    have kx' : rz_ex X (d + 4) 95 [.ref 5] w1 = some (.inl (some (.int (Int32.ofInt (-1)))), w1, 0, 0) := kx
    simp (disch := first | exact nl_i | exact nl_r | exact nl_0 | exact nl_n | exact nl_x | exact kd_r | exact kd_n | exact kd_x | exact kd_o | exact cats0 | exact cats1 | exact cats2 | exact cats3 | exact cats4 | exact nr_i | exact nr_l | exact nr_z0 | exact nr_z1 | exact ft_i | exact ft_l | omega | rfl | assumption | (refine i_ne0 ?_ ?_ ?_ <;> omega) | (refine j_ne0 ?_ ?_ ?_ <;> omega) | (refine i_new ?_ ?_ <;> omega) | (refine bl_t ?_; with_unfolding_all rfl) | exact ft_z0 | exact ft_z1) only [↓reduceIte, n_X10_leastStepsSpan, q_X10_leastStepsSpan_0, q_X10_leastStepsSpan_1, q_X10_leastStepsSpan_2, q_X10_leastStepsSpan_5, q_X10_leastStepsSpan_6, q_X10_leastStepsSpan_9, q_X10_leastStepsSpan_12, q_X10_leastStepsSpan_13, q_X10_leastStepsSpan_14, q_X10_leastStepsSpan_17, q_X10_leastStepsSpan_18, i_add, i_sub, i_mul, i_neg, i_lt, i_le, i_eq, i_tm, i_div, i_j, j_i, j_add, j_sub, j_mul, j_neg, j_lt, j_le, j_eq, j_div, c_lt, c_le, c_gt, c_ge, c_eq, i_nat, rz_k, Nat.add_zero, Nat.zero_add, Nat.add_assoc, Nat.reduceAdd, if_true, if_false, vk_eq hy, vk_eq hy1, gf_eq hy1, List.getElem?_cons_zero, List.getElem?_cons_succ, vk_eq h5, e1, kx', Int.reduceLE, zb_t]
  | some k =>
    rw [has] at kx
    have kx' : rz_ex X (d + 4) 95 [.ref 5] w1 = some (.inl (some (.int (Int32.ofInt (k : Int)))), w1, 0, 0) := kx
    have hk := zz_as 19 1 k has
    dsimp only
    have kx0 := x_sx (X := X) (d := d + 3) (k := 0) hs1' (by omega) (hq 0 (by omega))
    have ky0 := x_sy (X := X) (d := d + 3) (k := 0) hs1' (by omega) (hq 0 (by omega))
    have kxk := x_sx (X := X) (d := d + 3) (k := k) hs1' (by omega) (hq k (by omega))
    have kyk := x_sy (X := X) (d := d + 3) (k := k) hs1' (by omega) (hq k (by omega))
    obtain ⟨i1, b1, b2⟩ := hin 0 (by omega)
    obtain ⟨i2, b3, b4⟩ := hin k (by omega)
    generalize (q 0).1 = x at *
    generalize (q 0).2 = y at *
    generalize (q k).1 = u at *
    generalize (q k).2 = v at *
    have c1 := x_contains (X := X) (d := d + 3) (x := x) (y := y) ho1 ⟨hr.1, hA⟩ ⟨hr.2.1, by omega⟩ ⟨by omega, hC⟩ (by omega) (by omega)
    have c2 := x_contains (X := X) (d := d + 3) (x := u) (y := v) ho1 ⟨hr.1, hA⟩ ⟨hr.2.1, by omega⟩ ⟨by omega, hC⟩ (by omega) (by omega)
    rw [if_pos (zz_con hr.1 (by omega) i1)] at c1
    rw [if_pos (zz_con hr.1 (by omega) i2)] at c2
    have n1 := z_nmul (a := x) (b := v) (M := 100000000) (N := 100000000) (by omega) (by omega)
    have n2 := z_nmul (a := y) (b := u) (M := 100000000) (N := 100000000) (by omega) (by omega)
    have habs := x_absJ (X := X) (d := d + 3) (w := w1) (a := x * v - y * u) (by omega) (by omega)
    have hab : (x * v - y * u).natAbs ≤ 30000000000000000 := by omega
    have kx0' : rz_ex X (d + 4) 93 [.ref 5, .int (Int32.ofInt 0)] w1 = some (.inl (some (.int (Int32.ofInt x))), w1, 0, 0) := kx0
    have ky0' : rz_ex X (d + 4) 94 [.ref 5, .int (Int32.ofInt 0)] w1 = some (.inl (some (.int (Int32.ofInt y))), w1, 0, 0) := ky0
    clear kx0 ky0 kx hin
    generalize (x * v - y * u).natAbs = W at *
    by_cases hW : (W : Int) = a * c
    · rw [decide_eq_true hW, zb_t]
      simp (disch := first | exact nl_i | exact nl_r | exact nl_0 | exact nl_n | exact nl_x | exact kd_r | exact kd_n | exact kd_x | exact kd_o | exact cats0 | exact cats1 | exact cats2 | exact cats3 | exact cats4 | exact nr_i | exact nr_l | exact nr_z0 | exact nr_z1 | exact ft_i | exact ft_l | omega | rfl | assumption | (refine i_ne0 ?_ ?_ ?_ <;> omega) | (refine j_ne0 ?_ ?_ ?_ <;> omega) | (refine i_new ?_ ?_ <;> omega) | (refine bl_t ?_; with_unfolding_all rfl) | exact ft_z0 | exact ft_z1) only [↓reduceIte, n_X10_leastStepsSpan, q_X10_leastStepsSpan_0, q_X10_leastStepsSpan_1, q_X10_leastStepsSpan_2, q_X10_leastStepsSpan_5, q_X10_leastStepsSpan_6, q_X10_leastStepsSpan_9, q_X10_leastStepsSpan_12, q_X10_leastStepsSpan_13, q_X10_leastStepsSpan_14, q_X10_leastStepsSpan_17, q_X10_leastStepsSpan_18, q_X10_leastStepsSpan_19, q_X10_leastStepsSpan_20, q_X10_leastStepsSpan_23, q_X10_leastStepsSpan_24, q_X10_leastStepsSpan_27, q_X10_leastStepsSpan_28, q_X10_leastStepsSpan_29, q_X10_leastStepsSpan_30, q_X10_leastStepsSpan_33, q_X10_leastStepsSpan_34, q_X10_leastStepsSpan_37, q_X10_leastStepsSpan_38, q_X10_leastStepsSpan_40, q_X10_leastStepsSpan_41, q_X10_leastStepsSpan_44, q_X10_leastStepsSpan_45, q_X10_leastStepsSpan_48, q_X10_leastStepsSpan_49, q_X10_leastStepsSpan_51, q_X10_leastStepsSpan_52, q_X10_leastStepsSpan_55, q_X10_leastStepsSpan_56, q_X10_leastStepsSpan_59, q_X10_leastStepsSpan_60, q_X10_leastStepsSpan_62, q_X10_leastStepsSpan_63, q_X10_leastStepsSpan_64, q_X10_leastStepsSpan_66, q_X10_leastStepsSpan_69, q_X10_leastStepsSpan_72, q_X10_leastStepsSpan_73, q_X10_leastStepsSpan_75, q_X10_leastStepsSpan_77, q_X10_leastStepsSpan_80, q_X10_leastStepsSpan_83, q_X10_leastStepsSpan_84, q_X10_leastStepsSpan_86, q_X10_leastStepsSpan_87, q_X10_leastStepsSpan_89, q_X10_leastStepsSpan_91, q_X10_leastStepsSpan_92, q_X10_leastStepsSpan_93, q_X10_leastStepsSpan_96, q_X10_leastStepsSpan_97, q_X10_leastStepsSpan_100, q_X10_leastStepsSpan_101, q_X10_leastStepsSpan_102, q_X10_leastStepsSpan_105, q_X10_leastStepsSpan_106, q_X10_leastStepsSpan_109, q_X10_leastStepsSpan_110, i_add, i_sub, i_mul, i_neg, i_lt, i_le, i_eq, i_tm, i_div, i_j, j_i, j_add, j_sub, j_mul, j_neg, j_lt, j_le, j_eq, j_div, c_lt, c_le, c_gt, c_ge, c_eq, i_nat, rz_k, Nat.add_zero, Nat.zero_add, Nat.add_assoc, Nat.reduceAdd, if_true, if_false, vk_eq hy, vk_eq hy1, gf_eq hy1, List.getElem?_cons_zero, List.getElem?_cons_succ, vk_eq h5, vk_eq ho1, e1, kx', kx0', ky0', kxk, kyk, c1, c2, habs, ki, eq_true (show 0 ≤ (k : Int) by omega), eq_true hW, Int.reduceEq, not_true_eq_false]
    · rw [decide_eq_false hW, zb_f]
      simp (disch := first | exact nl_i | exact nl_r | exact nl_0 | exact nl_n | exact nl_x | exact kd_r | exact kd_n | exact kd_x | exact kd_o | exact cats0 | exact cats1 | exact cats2 | exact cats3 | exact cats4 | exact nr_i | exact nr_l | exact nr_z0 | exact nr_z1 | exact ft_i | exact ft_l | omega | rfl | assumption | (refine i_ne0 ?_ ?_ ?_ <;> omega) | (refine j_ne0 ?_ ?_ ?_ <;> omega) | (refine i_new ?_ ?_ <;> omega) | (refine bl_t ?_; with_unfolding_all rfl) | exact ft_z0 | exact ft_z1) only [↓reduceIte, n_X10_leastStepsSpan, q_X10_leastStepsSpan_0, q_X10_leastStepsSpan_1, q_X10_leastStepsSpan_2, q_X10_leastStepsSpan_5, q_X10_leastStepsSpan_6, q_X10_leastStepsSpan_9, q_X10_leastStepsSpan_12, q_X10_leastStepsSpan_13, q_X10_leastStepsSpan_14, q_X10_leastStepsSpan_17, q_X10_leastStepsSpan_18, q_X10_leastStepsSpan_19, q_X10_leastStepsSpan_20, q_X10_leastStepsSpan_23, q_X10_leastStepsSpan_24, q_X10_leastStepsSpan_27, q_X10_leastStepsSpan_28, q_X10_leastStepsSpan_29, q_X10_leastStepsSpan_30, q_X10_leastStepsSpan_33, q_X10_leastStepsSpan_34, q_X10_leastStepsSpan_37, q_X10_leastStepsSpan_38, q_X10_leastStepsSpan_40, q_X10_leastStepsSpan_41, q_X10_leastStepsSpan_44, q_X10_leastStepsSpan_45, q_X10_leastStepsSpan_48, q_X10_leastStepsSpan_49, q_X10_leastStepsSpan_51, q_X10_leastStepsSpan_52, q_X10_leastStepsSpan_55, q_X10_leastStepsSpan_56, q_X10_leastStepsSpan_59, q_X10_leastStepsSpan_60, q_X10_leastStepsSpan_62, q_X10_leastStepsSpan_63, q_X10_leastStepsSpan_64, q_X10_leastStepsSpan_66, q_X10_leastStepsSpan_69, q_X10_leastStepsSpan_72, q_X10_leastStepsSpan_73, q_X10_leastStepsSpan_75, q_X10_leastStepsSpan_77, q_X10_leastStepsSpan_80, q_X10_leastStepsSpan_83, q_X10_leastStepsSpan_84, q_X10_leastStepsSpan_86, q_X10_leastStepsSpan_87, q_X10_leastStepsSpan_89, q_X10_leastStepsSpan_91, q_X10_leastStepsSpan_92, q_X10_leastStepsSpan_93, q_X10_leastStepsSpan_96, q_X10_leastStepsSpan_97, q_X10_leastStepsSpan_100, q_X10_leastStepsSpan_101, q_X10_leastStepsSpan_102, q_X10_leastStepsSpan_105, q_X10_leastStepsSpan_106, q_X10_leastStepsSpan_109, q_X10_leastStepsSpan_110, i_add, i_sub, i_mul, i_neg, i_lt, i_le, i_eq, i_tm, i_div, i_j, j_i, j_add, j_sub, j_mul, j_neg, j_lt, j_le, j_eq, j_div, c_lt, c_le, c_gt, c_ge, c_eq, i_nat, rz_k, Nat.add_zero, Nat.zero_add, Nat.add_assoc, Nat.reduceAdd, if_true, if_false, vk_eq hy, vk_eq hy1, gf_eq hy1, List.getElem?_cons_zero, List.getElem?_cons_succ, vk_eq h5, vk_eq ho1, e1, kx', kx0', ky0', kxk, kyk, c1, c2, habs, ki, eq_true (show 0 ≤ (k : Int) by omega), eq_false hW, Int.reduceEq, not_false_eq_true]
end RZXD
