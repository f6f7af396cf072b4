/-! part 97k: level 2: where -/
section RZWJ
variable {X : rz_X} {d : Nat} {w w1 : rz_W} {nc ns : Nat} {x y : Nat → Int} {n : Nat} {kp tl kd ty cl th : Int}
theorem zw_pl_on {on odd : Nat → Bool} {L : List Nat} : (∃ s, s ∈ L ∧ on s = true) → ∀ b, zw_pl on odd L b = 114 := by
  induction L with
  | nil => rintro ⟨s, h, -⟩; cases h
  | cons a L ih =>
    rintro ⟨s, h1, h2⟩ b
    unfold zw_pl
    by_cases h : on a = true
    · rw [if_pos h]
    · rw [if_neg h]
      rcases List.mem_cons.mp h1 with h3 | h3
      · rw [← h3] at h; exact absurd h2 h
      · exact ih ⟨s, h3, h2⟩ _
def zw_lx (odd : Nat → Bool) : List Nat → Bool
  | [] => false
  | s :: L => Bool.xor (odd s) (zw_lx odd L)
theorem zw_pl_off {on odd : Nat → Bool} {L : List Nat} : (∀ s, s ∈ L → on s = false) → ∀ b, zw_pl on odd L b = if Bool.xor b (zw_lx odd L) = true then 119 else 111 := by
  induction L with
  | nil => intro _ b; unfold zw_pl zw_lx; rw [Bool.xor_false]
  | cons a L ih =>
    intro h b
    unfold zw_pl zw_lx
    rw [if_neg (by rw [h a List.mem_cons_self]; decide), ih (fun s hs => h s (List.mem_cons_of_mem _ hs)), Bool.xor_assoc]
theorem zw_lx_app {odd : Nat → Bool} {A B : List Nat} : zw_lx odd (A ++ B) = Bool.xor (zw_lx odd A) (zw_lx odd B) := by
  induction A with
  | nil => rw [List.nil_append]; unfold zw_lx; rw [Bool.false_xor]
  | cons a A ih =>
    rw [List.cons_append]
    show Bool.xor (odd a) (zw_lx odd (A ++ B)) = Bool.xor (Bool.xor (odd a) (zw_lx odd A)) (zw_lx odd B)
    rw [ih, Bool.xor_assoc]
theorem zw_lx_l {odd p : Nat → Bool} (i : Nat) : (∀ j, j < i → odd j = true → p j = true) → zw_lx odd (zw_l p i) = zw_x odd i := by
  induction i with
  | zero => intro _; rfl
  | succ i ih =>
    intro h
    unfold zw_l zw_x
    by_cases hp : p i = true
    · rw [if_pos hp, zw_lx_app, ih (fun j hj => h j (Nat.lt_succ_of_lt hj))]
      show Bool.xor _ (Bool.xor (odd i) false) = _
      rw [Bool.xor_false]
    · rw [if_neg hp, ih (fun j hj => h j (Nat.lt_succ_of_lt hj))]
      have : odd i = false := by
        cases ho : odd i
        · rfl
        · exact absurd (h i (Nat.lt_succ_self i) ho) hp
      rw [this, Bool.xor_false]
theorem zw_mem_l {p : Nat → Bool} (i : Nat) : ∀ j, j < i → p j = true → j ∈ zw_l p i := by
  induction i with
  | zero => intro j hj; omega
  | succ i ih =>
    intro j hj hp
    unfold zw_l
    by_cases hji : j = i
    · rw [hji] at hp
      rw [if_pos hp, hji]
      exact List.mem_append_right _ (List.mem_singleton.mpr rfl)
    · have := ih j (by omega) hp
      split
      · exact List.mem_append_left _ this
      · exact this
theorem zw_near_on {Xx Y t : Int} {i : Nat} (h : zw_ons x y n Xx Y t i = true) : zw_nr y n Y t i := by
  unfold zw_ons at h
  have := of_decide_eq_true h
  obtain ⟨h1, h2, h3⟩ := this
  unfold zw_nr
  omega
theorem zw_near_H {Xx Y t : Int} {i : Nat} (h : zw_Hs x y n Xx Y t i = true) : zw_nr y n Y t i := by
  unfold zw_Hs zw_H at h
  have := of_decide_eq_true h
  obtain ⟨h1, h2⟩ := this
  have h3 : ¬ ((0 < t * y i - Y) ↔ (0 < t * y (zp_nx n i) - Y)) := fun c => h1 (propext c)
  unfold zw_nr
  omega
/-- what the class says of a place -/
def zw_v (x y : Nat → Int) (n : Nat) (Xx Y t : Int) : Int := zw_pl (zw_ons x y n Xx Y t) (zw_Hs x y n Xx Y t) (zw_l (fun i => decide (zw_nr y n Y t i)) n) false
theorem zw_pl_c {on odd : Nat → Bool} {L : List Nat} : ∀ b, 111 ≤ zw_pl on odd L b ∧ zw_pl on odd L b ≤ 119 := by
  induction L with
  | nil => intro b; unfold zw_pl; split <;> omega
  | cons a L ih =>
    intro b
    unfold zw_pl
    split
    · omega
    · exact ih _
theorem zw_v_c {Xx Y t : Int} : 111 ≤ zw_v x y n Xx Y t ∧ zw_v x y n Xx Y t ≤ 119 := zw_pl_c false
theorem zw_v_on {Xx Y t : Int} {i : Nat} (hi : i < n) (h : zw_ons x y n Xx Y t i = true) : zw_v x y n Xx Y t = 114 := zw_pl_on ⟨i, zw_mem_l n i hi (decide_eq_true (zw_near_on h)), h⟩ false
theorem zw_v_off {Xx Y t : Int} (h : ∀ i, i < n → zw_ons x y n Xx Y t i = false) : zw_v x y n Xx Y t = if zw_x (zw_Hs x y n Xx Y t) n = true then 119 else 111 := by
  unfold zw_v
  rw [zw_pl_off (fun s hs => h s ((zw_l_len _ n).2 s hs).1), Bool.false_xor, zw_lx_l n (fun j _ ho => decide_eq_true (zw_near_H ho))]
/-- a way up, for the doubles of a place -/
def zw_Vs (x y : Nat → Int) (n : Nat) (X2 Y2 : Int) (i : Nat) : Bool := zw_V (2 * x i - X2) (2 * y i - Y2) (2 * x (zp_nx n i) - X2) (2 * y (zp_nx n i) - Y2)
/-- off the rim both ways tell the same -/
theorem zw_same {Xx Y : Int} (h : ∀ i, i < n → zw_ons x y n Xx Y 1 i = false) : zw_x (zw_Hs x y n Xx Y 1) n = zw_x (zw_Vs x y n (2 * Xx) (2 * Y)) n := by
  have hx : zw_x (fun i => Bool.xor (zw_Hs x y n Xx Y 1 i) (zw_Vs x y n (2 * Xx) (2 * Y) i)) n = zw_x (fun i => Bool.xor (zw_f (1 * x i - Xx) (1 * y i - Y)) (zw_f (1 * x (zp_nx n i) - Xx) (1 * y (zp_nx n i) - Y))) n := by
    refine zw_cong (fun i hi => ?_)
    have hn : ¬ zw_on (1 * x i - Xx) (1 * y i - Y) (1 * x (zp_nx n i) - Xx) (1 * y (zp_nx n i) - Y) := of_decide_eq_false (h i hi)
    rw [← zw_side hn]
    unfold zw_Hs zw_Vs
    congr 1
    have e1 : 2 * x i - 2 * Xx = 2 * (1 * x i - Xx) := by omega
    have e2 : 2 * y i - 2 * Y = 2 * (1 * y i - Y) := by omega
    have e3 : 2 * x (zp_nx n i) - 2 * Xx = 2 * (1 * x (zp_nx n i) - Xx) := by omega
    have e4 : 2 * y (zp_nx n i) - 2 * Y = 2 * (1 * y (zp_nx n i) - Y) := by omega
    rw [e1, e2, e3, e4]
    generalize 1 * x i - Xx = p
    generalize 1 * y i - Y = u
    generalize 1 * x (zp_nx n i) - Xx = q
    generalize 1 * y (zp_nx n i) - Y = v
    unfold zw_V
    have e5 : 2 * p * (2 * v) - 2 * q * (2 * u) = 4 * (p * v - q * u) := by grind
    refine decide_eq_decide.mpr ?_
    rw [e5]
    omega
  have h2 := zw_round (fun i => zw_f (1 * x i - Xx) (1 * y i - Y)) n
  rw [h2, zw_xor] at hx
  cases ha : zw_x (zw_Hs x y n Xx Y 1) n <;> cases hb : zw_x (zw_Vs x y n (2 * Xx) (2 * Y)) n
  · rfl
  · exfalso
    have hx' : Bool.xor (zw_x (zw_Hs x y n Xx Y 1) n) (zw_x (zw_Vs x y n (2 * Xx) (2 * Y)) n) = false := hx
    rw [ha, hb] at hx'; cases hx'
  · exfalso
    have hx' : Bool.xor (zw_x (zw_Hs x y n Xx Y 1) n) (zw_x (zw_Vs x y n (2 * Xx) (2 * Y)) n) = false := hx
    rw [ha, hb] at hx'; cases hx'
  · rfl
theorem zw_x_false {p : Nat → Bool} : (∀ i, i < n → p i = false) → zw_x p n = false := by
  induction n with
  | zero => intro _; rfl
  | succ n ih =>
    intro h
    unfold zw_x
    rw [ih (fun i hi => h i (Nat.lt_succ_of_lt hi)), h n (Nat.lt_succ_self n)]
    rfl
/-- out of the square a place is outside -/
theorem zw_out {Xx Y : Int} (hr : ∀ k, (-20 ≤ x k ∧ x k ≤ 20) ∧ (-20 ≤ y k ∧ y k ≤ 20)) (h : Xx < -20 ∨ 20 < Xx ∨ Y < -20 ∨ 20 < Y) : zw_v x y n Xx Y 1 = 111 := by
  have hoff : ∀ i, i < n → zw_ons x y n Xx Y 1 i = false := by
    intro i hi
    have a := hr i
    have b := hr (zp_nx n i)
    unfold zw_ons
    refine decide_eq_false ?_
    rintro ⟨h1, h2, h3⟩
    omega
  rw [zw_v_off hoff]
  have : zw_x (zw_Hs x y n Xx Y 1) n = false := by
    rcases Int.lt_or_le Xx (-20) with h1 | h1
    · rw [zw_same hoff]
      refine zw_x_false (fun i hi => decide_eq_false ?_)
      have a := hr i
      have b := hr (zp_nx n i)
      omega
    · rcases Int.lt_or_le 20 Xx with h2 | h2
      · rw [zw_same hoff]
        refine zw_x_false (fun i hi => decide_eq_false ?_)
        have a := hr i
        have b := hr (zp_nx n i)
        omega
      · refine zw_x_false (fun i hi => decide_eq_false ?_)
        have a := hr i
        have b := hr (zp_nx n i)
        rintro ⟨h3, -⟩
        exact h3 (propext (by omega))
  rw [this]
  rfl
theorem zw_along {p u q v : Int} (h : p * v - q * u = 0) : (p * q + u * v ≤ 0) ↔ ((min p q ≤ 0 ∧ 0 ≤ max p q) ∧ (min u v ≤ 0 ∧ 0 ≤ max u v)) := by
  have sg : ∀ {a b : Int}, a * b ≤ 0 ↔ (min a b ≤ 0 ∧ 0 ≤ max a b) := by
    intro a b
    constructor
    · intro h
      rcases Int.lt_or_le 0 a with h1 | h1 <;> rcases Int.lt_or_le 0 b with h2 | h2
      · have := Int.mul_pos h1 h2; omega
      · omega
      · omega
      · rcases Int.lt_or_le a 0 with h3 | h3
        · rcases Int.lt_or_le b 0 with h4 | h4
          · have := Int.mul_pos_of_neg_of_neg h3 h4; omega
          · omega
        · omega
    · intro h
      rcases Int.le_total 0 a with h1 | h1 <;> rcases Int.le_total 0 b with h2 | h2
      · have : a = 0 ∨ b = 0 := by omega
        rcases this with h3 | h3 <;> rw [h3] <;> simp
      · exact Int.mul_nonpos_of_nonneg_of_nonpos h1 h2
      · exact Int.mul_nonpos_of_nonpos_of_nonneg h1 h2
      · have : a = 0 ∨ b = 0 := by omega
        rcases this with h3 | h3 <;> rw [h3] <;> simp
  rw [← sg, ← sg]
  constructor
  · intro hs
    have e1 : (p * q) * (v * v) = (q * q) * (u * v) := by
      have : (p * q) * (v * v) - (q * q) * (u * v) = q * v * (p * v - q * u) := by grind
      rw [h, Int.mul_zero] at this
      omega
    have e2 : (u * v) * (p * p) = (u * u) * (p * q) := by
      have : (u * v) * (p * p) - (u * u) * (p * q) = u * p * (p * v - q * u) := by grind
      rw [h, Int.mul_zero] at this
      omega
    constructor
    · rcases Int.lt_or_le 0 (p * q) with h1 | h1
      · exfalso
        have h2 : u * v < 0 := by omega
        have hp : 0 < p * p := by
          have := zr_sqn p
          rcases Int.lt_or_le 0 (p * p) with h3 | h3
          · exact h3
          · have := zr_sq h3
            rw [this, Int.zero_mul] at h1
            omega
        have h3 := Int.mul_neg_of_neg_of_pos h2 hp
        have h4 := Int.mul_nonneg (zr_sqn u) (Int.le_of_lt h1)
        omega
      · exact h1
    · rcases Int.lt_or_le 0 (u * v) with h1 | h1
      · exfalso
        have h2 : p * q < 0 := by omega
        have hv : 0 < v * v := by
          have := zr_sqn v
          rcases Int.lt_or_le 0 (v * v) with h3 | h3
          · exact h3
          · have := zr_sq h3
            rw [this, Int.mul_zero] at h1
            omega
        have h3 := Int.mul_neg_of_neg_of_pos h2 hv
        have h4 := Int.mul_nonneg (zr_sqn q) (Int.le_of_lt h1)
        omega
      · exact h1
  · rintro ⟨h1, h2⟩
    omega
/-- the reference: a place on a side -/
theorem y_pon {Xx Y : Int} {i : Nat} (h : v_rp w x y n) (hi : i < n) (hX : -20 ≤ Xx ∧ Xx ≤ 20) (hY : -20 ≤ Y ∧ Y ≤ 20) : rz_ex X (d + 2) 232 [.ref 32, .int (Int32.ofInt (i : Int)), .long (Int64.ofInt Xx), .long (Int64.ofInt Y)] w = some (.inl (some (.int (Int32.ofInt (zb (zw_ons x y n Xx Y 1 i))))), w, 0, 0) := by
  have hnx := nx_lt hi
  have kx := y_nx (X := X) (d := d) h hi
  obtain ⟨kp, tl, kd, cl, th, R, S, hm, h44, h45, hn, hr, he⟩ := id h
  have b1 := hr i
  have b2 := hr (zp_nx n i)
  have eT : (x (zp_nx n i) - x i) * (Y - y i) - (y (zp_nx n i) - y i) * (Xx - x i) = (x i - Xx) * (y (zp_nx n i) - Y) - (x (zp_nx n i) - Xx) * (y i - Y) := by grind
  have eA : (Xx - x i) * (Xx - x (zp_nx n i)) + (Y - y i) * (Y - y (zp_nx n i)) = (x i - Xx) * (x (zp_nx n i) - Xx) + (y i - Y) * (y (zp_nx n i) - Y) := by grind
  have n1 := z_nmul (a := x i - Xx) (b := y (zp_nx n i) - Y) (M := 40) (N := 40) (by omega) (by omega)
  have n2 := z_nmul (a := x (zp_nx n i) - Xx) (b := y i - Y) (M := 40) (N := 40) (by omega) (by omega)
  have n3 := z_nmul (a := x i - Xx) (b := x (zp_nx n i) - Xx) (M := 40) (N := 40) (by omega) (by omega)
  have n4 := z_nmul (a := y i - Y) (b := y (zp_nx n i) - Y) (M := 40) (N := 40) (by omega) (by omega)
  have hOn : zw_ons x y n Xx Y 1 i = decide ((x i - Xx) * (y (zp_nx n i) - Y) - (x (zp_nx n i) - Xx) * (y i - Y) = 0 ∧ (x i - Xx) * (x (zp_nx n i) - Xx) + (y i - Y) * (y (zp_nx n i) - Y) ≤ 0) := by
    unfold zw_ons
    refine decide_eq_decide.mpr ?_
    rw [Int.one_mul, Int.one_mul, Int.one_mul, Int.one_mul]
    constructor
    · rintro ⟨h1, h2⟩
      exact ⟨h1, (zw_along h1).mpr h2⟩
    · rintro ⟨h1, h2⟩
      exact ⟨h1, (zw_along h1).mp h2⟩
  rw [hOn]
  have r1 := (he i hi).1
  have r2 := (he i hi).2
  have r3 := (he _ hnx).1
  have r4 := (he _ hnx).2
  by_cases h0 : (x i - Xx) * (y (zp_nx n i) - Y) - (x (zp_nx n i) - Xx) * (y i - Y) = 0
  · by_cases h1 : (x i - Xx) * (x (zp_nx n i) - Xx) + (y i - Y) * (y (zp_nx n i) - Y) ≤ 0
    · rw [decide_eq_true ⟨h0, h1⟩, zb_t]
      simp (disch := first | exact nl_i | exact nl_r | exact nl_0 | exact nl_n | exact nl_x | exact kd_r | exact kd_n | exact kd_x | exact kd_o | exact cats0 | exact cats1 | exact cats2 | exact cats3 | exact cats4 | exact nr_i | exact nr_l | exact nr_z0 | exact nr_z1 | exact ft_i | exact ft_l | omega | rfl | assumption | (refine i_ne0 ?_ ?_ ?_ <;> omega) | (refine j_ne0 ?_ ?_ ?_ <;> omega) | (refine i_new ?_ ?_ <;> omega) | (refine bl_t ?_; with_unfolding_all rfl) | exact ft_z0 | exact ft_z1) only [n_X11_isOn, q_X11_isOn_0, q_X11_isOn_1, q_X11_isOn_2, q_X11_isOn_5, q_X11_isOn_7, q_X11_isOn_8, q_X11_isOn_11, q_X11_isOn_13, q_X11_isOn_13x, q_X11_isOn_14, q_X11_isOn_15, q_X11_isOn_18, q_X11_isOn_19, q_X11_isOn_19x, q_X11_isOn_20, q_X11_isOn_21, q_X11_isOn_22, q_X11_isOn_24, q_X11_isOn_25, q_X11_isOn_28, q_X11_isOn_29, q_X11_isOn_29x, q_X11_isOn_30, q_X11_isOn_31, q_X11_isOn_32, q_X11_isOn_33, q_X11_isOn_34, q_X11_isOn_37, q_X11_isOn_39, q_X11_isOn_39x, q_X11_isOn_40, q_X11_isOn_41, q_X11_isOn_44, q_X11_isOn_45, q_X11_isOn_45x, q_X11_isOn_46, q_X11_isOn_47, q_X11_isOn_48, q_X11_isOn_49, q_X11_isOn_50, q_X11_isOn_53, q_X11_isOn_54, q_X11_isOn_54x, q_X11_isOn_55, q_X11_isOn_56, q_X11_isOn_57, q_X11_isOn_58, q_X11_isOn_59, q_X11_isOn_61, q_X11_isOn_62, q_X11_isOn_63, q_X11_isOn_66, q_X11_isOn_67, q_X11_isOn_67x, q_X11_isOn_68, q_X11_isOn_69, q_X11_isOn_70, q_X11_isOn_71, q_X11_isOn_72, q_X11_isOn_75, q_X11_isOn_77, q_X11_isOn_77x, q_X11_isOn_78, q_X11_isOn_79, q_X11_isOn_80, q_X11_isOn_81, q_X11_isOn_83, q_X11_isOn_84, q_X11_isOn_87, q_X11_isOn_88, q_X11_isOn_88x, q_X11_isOn_89, q_X11_isOn_90, q_X11_isOn_91, q_X11_isOn_93, q_X11_isOn_94, q_X11_isOn_97, q_X11_isOn_99, q_X11_isOn_99x, q_X11_isOn_100, q_X11_isOn_101, q_X11_isOn_102, q_X11_isOn_103, q_X11_isOn_104, q_X11_isOn_106, q_X11_isOn_108, q_X11_isOn_109, q_X11_isOn_110, q_X11_isOn_113, q_X11_isOn_115, q_X11_isOn_116, q_X11_isOn_117, q_X11_isOn_120, q_X11_isOn_121, q_X11_isOn_124, q_X11_isOn_125, i_add, i_sub, i_mul, i_neg, i_lt, i_le, i_eq, i_tm, i_div, i_j, j_i, j_add, j_sub, j_mul, j_neg, j_lt, j_le, j_eq, j_div, c_lt, c_le, c_gt, c_ge, c_eq, i_nat, rz_k, Nat.add_zero, Nat.zero_add, Nat.add_assoc, Nat.reduceAdd, if_true, if_false, vk_eq hm, kx, gf_eq hm, List.getElem?_cons_zero, List.getElem?_cons_succ, ai_eq h44, ai_eq h45, Int.toNat_natCast, r1, r2, r3, r4, eT, eA, if_neg (show ¬ ¬ (x i - Xx) * (y (zp_nx n i) - Y) - (x (zp_nx n i) - Xx) * (y i - Y) = 0 by omega), if_neg (show ¬ 0 < (x i - Xx) * (x (zp_nx n i) - Xx) + (y i - Y) * (y (zp_nx n i) - Y) by omega), nr_z1]
    · rw [decide_eq_false (fun c => h1 c.2), zb_f]
      simp (disch := first | exact nl_i | exact nl_r | exact nl_0 | exact nl_n | exact nl_x | exact kd_r | exact kd_n | exact kd_x | exact kd_o | exact cats0 | exact cats1 | exact cats2 | exact cats3 | exact cats4 | exact nr_i | exact nr_l | exact nr_z0 | exact nr_z1 | exact ft_i | exact ft_l | omega | rfl | assumption | (refine i_ne0 ?_ ?_ ?_ <;> omega) | (refine j_ne0 ?_ ?_ ?_ <;> omega) | (refine i_new ?_ ?_ <;> omega) | (refine bl_t ?_; with_unfolding_all rfl) | exact ft_z0 | exact ft_z1) only [n_X11_isOn, q_X11_isOn_0, q_X11_isOn_1, q_X11_isOn_2, q_X11_isOn_5, q_X11_isOn_7, q_X11_isOn_8, q_X11_isOn_11, q_X11_isOn_13, q_X11_isOn_13x, q_X11_isOn_14, q_X11_isOn_15, q_X11_isOn_18, q_X11_isOn_19, q_X11_isOn_19x, q_X11_isOn_20, q_X11_isOn_21, q_X11_isOn_22, q_X11_isOn_24, q_X11_isOn_25, q_X11_isOn_28, q_X11_isOn_29, q_X11_isOn_29x, q_X11_isOn_30, q_X11_isOn_31, q_X11_isOn_32, q_X11_isOn_33, q_X11_isOn_34, q_X11_isOn_37, q_X11_isOn_39, q_X11_isOn_39x, q_X11_isOn_40, q_X11_isOn_41, q_X11_isOn_44, q_X11_isOn_45, q_X11_isOn_45x, q_X11_isOn_46, q_X11_isOn_47, q_X11_isOn_48, q_X11_isOn_49, q_X11_isOn_50, q_X11_isOn_53, q_X11_isOn_54, q_X11_isOn_54x, q_X11_isOn_55, q_X11_isOn_56, q_X11_isOn_57, q_X11_isOn_58, q_X11_isOn_59, q_X11_isOn_61, q_X11_isOn_62, q_X11_isOn_63, q_X11_isOn_66, q_X11_isOn_67, q_X11_isOn_67x, q_X11_isOn_68, q_X11_isOn_69, q_X11_isOn_70, q_X11_isOn_71, q_X11_isOn_72, q_X11_isOn_75, q_X11_isOn_77, q_X11_isOn_77x, q_X11_isOn_78, q_X11_isOn_79, q_X11_isOn_80, q_X11_isOn_81, q_X11_isOn_83, q_X11_isOn_84, q_X11_isOn_87, q_X11_isOn_88, q_X11_isOn_88x, q_X11_isOn_89, q_X11_isOn_90, q_X11_isOn_91, q_X11_isOn_93, q_X11_isOn_94, q_X11_isOn_97, q_X11_isOn_99, q_X11_isOn_99x, q_X11_isOn_100, q_X11_isOn_101, q_X11_isOn_102, q_X11_isOn_103, q_X11_isOn_104, q_X11_isOn_106, q_X11_isOn_108, q_X11_isOn_109, q_X11_isOn_110, q_X11_isOn_113, q_X11_isOn_115, q_X11_isOn_116, q_X11_isOn_117, q_X11_isOn_120, q_X11_isOn_121, q_X11_isOn_124, q_X11_isOn_125, i_add, i_sub, i_mul, i_neg, i_lt, i_le, i_eq, i_tm, i_div, i_j, j_i, j_add, j_sub, j_mul, j_neg, j_lt, j_le, j_eq, j_div, c_lt, c_le, c_gt, c_ge, c_eq, i_nat, rz_k, Nat.add_zero, Nat.zero_add, Nat.add_assoc, Nat.reduceAdd, if_true, if_false, vk_eq hm, kx, gf_eq hm, List.getElem?_cons_zero, List.getElem?_cons_succ, ai_eq h44, ai_eq h45, Int.toNat_natCast, r1, r2, r3, r4, eT, eA, if_neg (show ¬ ¬ (x i - Xx) * (y (zp_nx n i) - Y) - (x (zp_nx n i) - Xx) * (y i - Y) = 0 by omega), if_pos (show 0 < (x i - Xx) * (x (zp_nx n i) - Xx) + (y i - Y) * (y (zp_nx n i) - Y) by omega), nr_z0]
  · rw [decide_eq_false (fun c => h0 c.1), zb_f]
    simp (disch := first | exact nl_i | exact nl_r | exact nl_0 | exact nl_n | exact nl_x | exact kd_r | exact kd_n | exact kd_x | exact kd_o | exact cats0 | exact cats1 | exact cats2 | exact cats3 | exact cats4 | exact nr_i | exact nr_l | exact nr_z0 | exact nr_z1 | exact ft_i | exact ft_l | omega | rfl | assumption | (refine i_ne0 ?_ ?_ ?_ <;> omega) | (refine j_ne0 ?_ ?_ ?_ <;> omega) | (refine i_new ?_ ?_ <;> omega) | (refine bl_t ?_; with_unfolding_all rfl) | exact ft_z0 | exact ft_z1) only [n_X11_isOn, q_X11_isOn_0, q_X11_isOn_1, q_X11_isOn_2, q_X11_isOn_5, q_X11_isOn_7, q_X11_isOn_8, q_X11_isOn_11, q_X11_isOn_13, q_X11_isOn_13x, q_X11_isOn_14, q_X11_isOn_15, q_X11_isOn_18, q_X11_isOn_19, q_X11_isOn_19x, q_X11_isOn_20, q_X11_isOn_21, q_X11_isOn_22, q_X11_isOn_24, q_X11_isOn_25, q_X11_isOn_28, q_X11_isOn_29, q_X11_isOn_29x, q_X11_isOn_30, q_X11_isOn_31, q_X11_isOn_32, q_X11_isOn_33, q_X11_isOn_34, q_X11_isOn_37, q_X11_isOn_39, q_X11_isOn_39x, q_X11_isOn_40, q_X11_isOn_41, q_X11_isOn_44, q_X11_isOn_45, q_X11_isOn_45x, q_X11_isOn_46, q_X11_isOn_47, q_X11_isOn_48, q_X11_isOn_49, q_X11_isOn_50, q_X11_isOn_53, q_X11_isOn_54, q_X11_isOn_54x, q_X11_isOn_55, q_X11_isOn_56, q_X11_isOn_57, q_X11_isOn_58, q_X11_isOn_59, q_X11_isOn_61, q_X11_isOn_62, q_X11_isOn_63, q_X11_isOn_66, q_X11_isOn_67, q_X11_isOn_67x, q_X11_isOn_68, q_X11_isOn_69, q_X11_isOn_70, q_X11_isOn_71, q_X11_isOn_72, q_X11_isOn_75, q_X11_isOn_77, q_X11_isOn_77x, q_X11_isOn_78, q_X11_isOn_79, q_X11_isOn_80, q_X11_isOn_81, q_X11_isOn_83, q_X11_isOn_84, q_X11_isOn_87, q_X11_isOn_88, q_X11_isOn_88x, q_X11_isOn_89, q_X11_isOn_90, q_X11_isOn_91, q_X11_isOn_93, q_X11_isOn_94, q_X11_isOn_97, q_X11_isOn_99, q_X11_isOn_99x, q_X11_isOn_100, q_X11_isOn_101, q_X11_isOn_102, q_X11_isOn_103, q_X11_isOn_104, q_X11_isOn_106, q_X11_isOn_108, q_X11_isOn_109, q_X11_isOn_110, q_X11_isOn_113, q_X11_isOn_115, q_X11_isOn_116, q_X11_isOn_117, q_X11_isOn_120, q_X11_isOn_121, q_X11_isOn_124, q_X11_isOn_125, i_add, i_sub, i_mul, i_neg, i_lt, i_le, i_eq, i_tm, i_div, i_j, j_i, j_add, j_sub, j_mul, j_neg, j_lt, j_le, j_eq, j_div, c_lt, c_le, c_gt, c_ge, c_eq, i_nat, rz_k, Nat.add_zero, Nat.zero_add, Nat.add_assoc, Nat.reduceAdd, if_true, if_false, vk_eq hm, kx, gf_eq hm, List.getElem?_cons_zero, List.getElem?_cons_succ, ai_eq h44, ai_eq h45, Int.toNat_natCast, r1, r2, r3, r4, eT, eA, if_pos h0, nr_z0]
/-- the reference: the way up -/
theorem l_inside {X2 Y2 : Int} (h : v_rp w x y n) (h3 : 3 ≤ n) (hX : -40 ≤ X2 ∧ X2 ≤ 40) (hY : -40 ≤ Y2 ∧ Y2 ≤ 40) (m : Nat) : ∀ (i : Nat) (b : Bool) (l7 l8 l9 l10 l11 : Option Value), i + m = n → b = zw_x (zw_Vs x y n X2 Y2) i → rz_G X (d + 1) mz_X11_isInside 6 [some (.ref 32), some (.long (Int64.ofInt X2)), none, some (.long (Int64.ofInt Y2)), none, some (.int (Int32.ofInt (zb b))), some (.int (Int32.ofInt (i : Int))), l7, l8, l9, l10, l11] [] w nc ns = some (.inl (some (.int (Int32.ofInt (zb (zw_x (zw_Vs x y n X2 Y2) n))))), w, nc, ns) := by
  obtain ⟨kp, tl, kd, cl, th, R, S, hm, h44, h45, hn, hr, he⟩ := id h
  induction m with
  | zero =>
    intro i b l7 l8 l9 l10 l11 hi hb
    obtain rfl : i = n := by omega
    rw [← hb, q_X11_isInside_6]
    cases b <;> simp (disch := first | exact nl_i | exact nl_r | exact nl_0 | exact nl_n | exact nl_x | exact kd_r | exact kd_n | exact kd_x | exact kd_o | exact cats0 | exact cats1 | exact cats2 | exact cats3 | exact cats4 | exact nr_i | exact nr_l | exact nr_z0 | exact nr_z1 | exact ft_i | exact ft_l | omega | rfl | assumption | (refine i_ne0 ?_ ?_ ?_ <;> omega) | (refine j_ne0 ?_ ?_ ?_ <;> omega) | (refine i_new ?_ ?_ <;> omega) | (refine bl_t ?_; with_unfolding_all rfl) | exact ft_z0 | exact ft_z1) only [q_X11_isInside_8, q_X11_isInside_9, q_X11_isInside_12, q_X11_isInside_194, q_X11_isInside_196, i_add, i_sub, i_mul, i_neg, i_lt, i_le, i_eq, i_tm, i_div, i_j, j_i, j_add, j_sub, j_mul, j_neg, j_lt, j_le, j_eq, j_div, c_lt, c_le, c_gt, c_ge, c_eq, i_nat, rz_k, Nat.add_zero, Nat.zero_add, Nat.add_assoc, Nat.reduceAdd, if_true, if_false, gf_eq hm, List.getElem?_cons_zero, List.getElem?_cons_succ, if_pos (show (i : Int) ≤ (i : Int) by omega), zb_t, zb_f, nr_z0, nr_z1]
  | succ m ih =>
    intro i b l7 l8 l9 l10 l11 hi hb
    have hin : i < n := by omega
    have hnx := nx_lt hin
    have hne : zp_nx n i ≠ i := by unfold zp_nx; split <;> omega
    have kx := y_nx (X := X) (d := d) h hin
    have b1 := hr i
    have b2 := hr (zp_nx n i)
    have r1 := (he i hin).1
    have r2 := (he i hin).2
    have r3 := (he _ hnx).1
    have r4 := (he _ hnx).2
    have ihf := fun (b' : Bool) l7 l8 l9 l10 l11 h => ih (i + 1) b' l7 l8 l9 l10 l11 (by omega) h
    clear ih
    have hxs : ∀ b', (b' = Bool.xor b (zw_Vs x y n X2 Y2 i)) → b' = zw_x (zw_Vs x y n X2 Y2) (i + 1) := by
      intro b' h
      rw [h, hb]
      rfl
    have n1 := z_nmul (a := 2 * x i - X2) (b := 2 * y (zp_nx n i) - Y2) (M := 80) (N := 80) (by omega) (by omega)
    have n2 := z_nmul (a := 2 * x (zp_nx n i) - X2) (b := 2 * y i - Y2) (M := 80) (N := 80) (by omega) (by omega)
    have eA : 2 * ((x (zp_nx n i) - x i) * (Y2 - 2 * y i) - (y (zp_nx n i) - y i) * (X2 - 2 * x i)) = (2 * x i - X2) * (2 * y (zp_nx n i) - Y2) - (2 * x (zp_nx n i) - X2) * (2 * y i - Y2) := by grind
    have eB : 2 * ((x i - x (zp_nx n i)) * (Y2 - 2 * y (zp_nx n i)) - (y i - y (zp_nx n i)) * (X2 - 2 * x (zp_nx n i))) = -((2 * x i - X2) * (2 * y (zp_nx n i) - Y2) - (2 * x (zp_nx n i) - X2) * (2 * y i - Y2)) := by grind
    have hV : zw_Vs x y n X2 Y2 i = decide ((2 * x i - X2 ≤ 0 ∧ 0 < 2 * x (zp_nx n i) - X2 ∧ (x (zp_nx n i) - x i) * (Y2 - 2 * y i) - (y (zp_nx n i) - y i) * (X2 - 2 * x i) < 0) ∨ (2 * x (zp_nx n i) - X2 ≤ 0 ∧ 0 < 2 * x i - X2 ∧ (x i - x (zp_nx n i)) * (Y2 - 2 * y (zp_nx n i)) - (y i - y (zp_nx n i)) * (X2 - 2 * x (zp_nx n i)) < 0)) := by
      unfold zw_Vs zw_V
      refine decide_eq_decide.mpr ?_
      omega
    rw [q_X11_isInside_6]
    generalize hac : (x (zp_nx n i) - x i) * (Y2 - 2 * y i) - (y (zp_nx n i) - y i) * (X2 - 2 * x i) = ac at *
    generalize had : (x i - x (zp_nx n i)) * (Y2 - 2 * y (zp_nx n i)) - (y i - y (zp_nx n i)) * (X2 - 2 * x (zp_nx n i)) = ad at *
    have hac2 : -10000 ≤ ac ∧ ac ≤ 10000 := by omega
    have had2 : -10000 ≤ ad ∧ ad ≤ 10000 := by omega
    clear n1 n2 eA eB
    by_cases c1 : x i < x (zp_nx n i)
    · by_cases c2 : 2 * x i ≤ X2 ∧ X2 < 2 * x (zp_nx n i)
      · by_cases c3 : ac < 0
        · have hVt : zw_Vs x y n X2 Y2 i = true := by rw [hV]; exact decide_eq_true (by omega)
          rw [← ihf (!b) (some (.int (Int32.ofInt ((zp_nx n i : Nat) : Int)))) (some (.int (Int32.ofInt (i : Int)))) (some (.int (Int32.ofInt ((zp_nx n i : Nat) : Int)))) (some (.long (Int64.ofInt ac))) none (hxs _ (by rw [hVt, Bool.xor_true]))]
          cases b <;> simp (disch := first | exact nl_i | exact nl_r | exact nl_0 | exact nl_n | exact nl_x | exact kd_r | exact kd_n | exact kd_x | exact kd_o | exact cats0 | exact cats1 | exact cats2 | exact cats3 | exact cats4 | exact nr_i | exact nr_l | exact nr_z0 | exact nr_z1 | exact ft_i | exact ft_l | omega | rfl | assumption | (refine i_ne0 ?_ ?_ ?_ <;> omega) | (refine j_ne0 ?_ ?_ ?_ <;> omega) | (refine i_new ?_ ?_ <;> omega) | (refine bl_t ?_; with_unfolding_all rfl) | exact ft_z0 | exact ft_z1) only [↓reduceIte, q_X11_isInside_8, q_X11_isInside_9, q_X11_isInside_12, q_X11_isInside_15, q_X11_isInside_16, q_X11_isInside_18, q_X11_isInside_21, q_X11_isInside_23, q_X11_isInside_24, q_X11_isInside_27, q_X11_isInside_29, q_X11_isInside_29x, q_X11_isInside_30, q_X11_isInside_31, q_X11_isInside_34, q_X11_isInside_36, q_X11_isInside_36x, q_X11_isInside_37, q_X11_isInside_40, q_X11_isInside_42, q_X11_isInside_45, q_X11_isInside_47, q_X11_isInside_49, q_X11_isInside_51, q_X11_isInside_53, q_X11_isInside_56, q_X11_isInside_58, q_X11_isInside_61, q_X11_isInside_63, q_X11_isInside_65, q_X11_isInside_68, q_X11_isInside_69, q_X11_isInside_72, q_X11_isInside_74, q_X11_isInside_74x, q_X11_isInside_75, q_X11_isInside_76, q_X11_isInside_77, q_X11_isInside_78, q_X11_isInside_79, q_X11_isInside_82, q_X11_isInside_83, q_X11_isInside_86, q_X11_isInside_87, q_X11_isInside_90, q_X11_isInside_92, q_X11_isInside_92x, q_X11_isInside_93, q_X11_isInside_94, q_X11_isInside_95, q_X11_isInside_96, q_X11_isInside_99, q_X11_isInside_100, q_X11_isInside_103, q_X11_isInside_105, q_X11_isInside_105x, q_X11_isInside_106, q_X11_isInside_107, q_X11_isInside_110, q_X11_isInside_112, q_X11_isInside_112x, q_X11_isInside_113, q_X11_isInside_114, q_X11_isInside_115, q_X11_isInside_116, q_X11_isInside_119, q_X11_isInside_120, q_X11_isInside_123, q_X11_isInside_125, q_X11_isInside_125x, q_X11_isInside_126, q_X11_isInside_127, q_X11_isInside_128, q_X11_isInside_129, q_X11_isInside_130, q_X11_isInside_131, q_X11_isInside_134, q_X11_isInside_136, q_X11_isInside_136x, q_X11_isInside_137, q_X11_isInside_138, q_X11_isInside_141, q_X11_isInside_143, q_X11_isInside_143x, q_X11_isInside_144, q_X11_isInside_145, q_X11_isInside_146, q_X11_isInside_147, q_X11_isInside_150, q_X11_isInside_151, q_X11_isInside_154, q_X11_isInside_156, q_X11_isInside_156x, q_X11_isInside_157, q_X11_isInside_158, q_X11_isInside_159, q_X11_isInside_160, q_X11_isInside_161, q_X11_isInside_162, q_X11_isInside_164, q_X11_isInside_166, q_X11_isInside_167, q_X11_isInside_168, q_X11_isInside_171, q_X11_isInside_172, q_X11_isInside_175, q_X11_isInside_176, q_X11_isInside_178, q_X11_isInside_181, q_X11_isInside_182, q_X11_isInside_185, q_X11_isInside_186, q_X11_isInside_188, q_X11_isInside_191, i_add, i_sub, i_mul, i_neg, i_lt, i_le, i_eq, i_tm, i_div, i_j, j_i, j_add, j_sub, j_mul, j_neg, j_lt, j_le, j_eq, j_div, c_lt, c_le, c_gt, c_ge, c_eq, i_nat, rz_k, Nat.add_zero, Nat.zero_add, Nat.add_assoc, Nat.reduceAdd, if_true, if_false, vk_eq hm, Int.reduceEq, not_true_eq_false, not_false_eq_true, gf_eq hm, List.getElem?_cons_zero, List.getElem?_cons_succ, eq_false (show ¬ (n : Int) ≤ (i : Int) by omega), kx, ai_eq h44, ai_eq h45, Int.toNat_natCast, r1, r2, r3, r4, eq_false (show ¬ x (zp_nx n i) ≤ x i by omega), eq_true (show (i : Int) = (i : Int) by omega), eq_false (show ¬ X2 < 2 * x i by omega), eq_false (show ¬ 2 * x (zp_nx n i) ≤ X2 by omega), hac, eq_false (show ¬ 0 ≤ ac by omega), zb_t, zb_f, Bool.not_true, Bool.not_false] <;> rfl
        · have hVt : zw_Vs x y n X2 Y2 i = false := by rw [hV]; exact decide_eq_false (by omega)
          rw [← ihf b (some (.int (Int32.ofInt ((zp_nx n i : Nat) : Int)))) (some (.int (Int32.ofInt (i : Int)))) (some (.int (Int32.ofInt ((zp_nx n i : Nat) : Int)))) (some (.long (Int64.ofInt ac))) none (hxs _ (by rw [hVt, Bool.xor_false]))]
          cases b <;> simp (disch := first | exact nl_i | exact nl_r | exact nl_0 | exact nl_n | exact nl_x | exact kd_r | exact kd_n | exact kd_x | exact kd_o | exact cats0 | exact cats1 | exact cats2 | exact cats3 | exact cats4 | exact nr_i | exact nr_l | exact nr_z0 | exact nr_z1 | exact ft_i | exact ft_l | omega | rfl | assumption | (refine i_ne0 ?_ ?_ ?_ <;> omega) | (refine j_ne0 ?_ ?_ ?_ <;> omega) | (refine i_new ?_ ?_ <;> omega) | (refine bl_t ?_; with_unfolding_all rfl) | exact ft_z0 | exact ft_z1) only [↓reduceIte, q_X11_isInside_8, q_X11_isInside_9, q_X11_isInside_12, q_X11_isInside_15, q_X11_isInside_16, q_X11_isInside_18, q_X11_isInside_21, q_X11_isInside_23, q_X11_isInside_24, q_X11_isInside_27, q_X11_isInside_29, q_X11_isInside_29x, q_X11_isInside_30, q_X11_isInside_31, q_X11_isInside_34, q_X11_isInside_36, q_X11_isInside_36x, q_X11_isInside_37, q_X11_isInside_40, q_X11_isInside_42, q_X11_isInside_45, q_X11_isInside_47, q_X11_isInside_49, q_X11_isInside_51, q_X11_isInside_53, q_X11_isInside_56, q_X11_isInside_58, q_X11_isInside_61, q_X11_isInside_63, q_X11_isInside_65, q_X11_isInside_68, q_X11_isInside_69, q_X11_isInside_72, q_X11_isInside_74, q_X11_isInside_74x, q_X11_isInside_75, q_X11_isInside_76, q_X11_isInside_77, q_X11_isInside_78, q_X11_isInside_79, q_X11_isInside_82, q_X11_isInside_83, q_X11_isInside_86, q_X11_isInside_87, q_X11_isInside_90, q_X11_isInside_92, q_X11_isInside_92x, q_X11_isInside_93, q_X11_isInside_94, q_X11_isInside_95, q_X11_isInside_96, q_X11_isInside_99, q_X11_isInside_100, q_X11_isInside_103, q_X11_isInside_105, q_X11_isInside_105x, q_X11_isInside_106, q_X11_isInside_107, q_X11_isInside_110, q_X11_isInside_112, q_X11_isInside_112x, q_X11_isInside_113, q_X11_isInside_114, q_X11_isInside_115, q_X11_isInside_116, q_X11_isInside_119, q_X11_isInside_120, q_X11_isInside_123, q_X11_isInside_125, q_X11_isInside_125x, q_X11_isInside_126, q_X11_isInside_127, q_X11_isInside_128, q_X11_isInside_129, q_X11_isInside_130, q_X11_isInside_131, q_X11_isInside_134, q_X11_isInside_136, q_X11_isInside_136x, q_X11_isInside_137, q_X11_isInside_138, q_X11_isInside_141, q_X11_isInside_143, q_X11_isInside_143x, q_X11_isInside_144, q_X11_isInside_145, q_X11_isInside_146, q_X11_isInside_147, q_X11_isInside_150, q_X11_isInside_151, q_X11_isInside_154, q_X11_isInside_156, q_X11_isInside_156x, q_X11_isInside_157, q_X11_isInside_158, q_X11_isInside_159, q_X11_isInside_160, q_X11_isInside_161, q_X11_isInside_162, q_X11_isInside_164, q_X11_isInside_166, q_X11_isInside_167, q_X11_isInside_168, q_X11_isInside_171, q_X11_isInside_172, q_X11_isInside_175, q_X11_isInside_176, q_X11_isInside_178, q_X11_isInside_181, q_X11_isInside_182, q_X11_isInside_185, q_X11_isInside_186, q_X11_isInside_188, q_X11_isInside_191, i_add, i_sub, i_mul, i_neg, i_lt, i_le, i_eq, i_tm, i_div, i_j, j_i, j_add, j_sub, j_mul, j_neg, j_lt, j_le, j_eq, j_div, c_lt, c_le, c_gt, c_ge, c_eq, i_nat, rz_k, Nat.add_zero, Nat.zero_add, Nat.add_assoc, Nat.reduceAdd, if_true, if_false, vk_eq hm, Int.reduceEq, not_true_eq_false, not_false_eq_true, gf_eq hm, List.getElem?_cons_zero, List.getElem?_cons_succ, eq_false (show ¬ (n : Int) ≤ (i : Int) by omega), kx, ai_eq h44, ai_eq h45, Int.toNat_natCast, r1, r2, r3, r4, eq_false (show ¬ x (zp_nx n i) ≤ x i by omega), eq_true (show (i : Int) = (i : Int) by omega), eq_false (show ¬ X2 < 2 * x i by omega), eq_false (show ¬ 2 * x (zp_nx n i) ≤ X2 by omega), hac, eq_true (show 0 ≤ ac by omega), zb_t, zb_f] <;> rfl
      · have hVt : zw_Vs x y n X2 Y2 i = false := by rw [hV]; exact decide_eq_false (by omega)
        rw [← ihf b (some (.int (Int32.ofInt ((zp_nx n i : Nat) : Int)))) (some (.int (Int32.ofInt (i : Int)))) (some (.int (Int32.ofInt ((zp_nx n i : Nat) : Int)))) l10 l11 (hxs _ (by rw [hVt, Bool.xor_false]))]
        by_cases c4 : X2 < 2 * x i
        · simp (disch := first | exact nl_i | exact nl_r | exact nl_0 | exact nl_n | exact nl_x | exact kd_r | exact kd_n | exact kd_x | exact kd_o | exact cats0 | exact cats1 | exact cats2 | exact cats3 | exact cats4 | exact nr_i | exact nr_l | exact nr_z0 | exact nr_z1 | exact ft_i | exact ft_l | omega | rfl | assumption | (refine i_ne0 ?_ ?_ ?_ <;> omega) | (refine j_ne0 ?_ ?_ ?_ <;> omega) | (refine i_new ?_ ?_ <;> omega) | (refine bl_t ?_; with_unfolding_all rfl) | exact ft_z0 | exact ft_z1) only [↓reduceIte, q_X11_isInside_8, q_X11_isInside_9, q_X11_isInside_12, q_X11_isInside_15, q_X11_isInside_16, q_X11_isInside_18, q_X11_isInside_21, q_X11_isInside_23, q_X11_isInside_24, q_X11_isInside_27, q_X11_isInside_29, q_X11_isInside_29x, q_X11_isInside_30, q_X11_isInside_31, q_X11_isInside_34, q_X11_isInside_36, q_X11_isInside_36x, q_X11_isInside_37, q_X11_isInside_40, q_X11_isInside_42, q_X11_isInside_45, q_X11_isInside_47, q_X11_isInside_49, q_X11_isInside_51, q_X11_isInside_53, q_X11_isInside_56, q_X11_isInside_58, q_X11_isInside_61, q_X11_isInside_63, q_X11_isInside_65, q_X11_isInside_68, q_X11_isInside_69, q_X11_isInside_72, q_X11_isInside_74, q_X11_isInside_74x, q_X11_isInside_75, q_X11_isInside_76, q_X11_isInside_77, q_X11_isInside_78, q_X11_isInside_79, q_X11_isInside_82, q_X11_isInside_83, q_X11_isInside_86, q_X11_isInside_87, q_X11_isInside_90, q_X11_isInside_92, q_X11_isInside_92x, q_X11_isInside_93, q_X11_isInside_94, q_X11_isInside_95, q_X11_isInside_96, q_X11_isInside_188, q_X11_isInside_191, i_add, i_sub, i_mul, i_neg, i_lt, i_le, i_eq, i_tm, i_div, i_j, j_i, j_add, j_sub, j_mul, j_neg, j_lt, j_le, j_eq, j_div, c_lt, c_le, c_gt, c_ge, c_eq, i_nat, rz_k, Nat.add_zero, Nat.zero_add, Nat.add_assoc, Nat.reduceAdd, if_true, if_false, vk_eq hm, Int.reduceEq, not_true_eq_false, not_false_eq_true, gf_eq hm, List.getElem?_cons_zero, List.getElem?_cons_succ, eq_false (show ¬ (n : Int) ≤ (i : Int) by omega), kx, ai_eq h44, Int.toNat_natCast, r1, r3, eq_false (show ¬ x (zp_nx n i) ≤ x i by omega), eq_true (show (i : Int) = (i : Int) by omega), eq_true c4]
          rfl
        · simp (disch := first | exact nl_i | exact nl_r | exact nl_0 | exact nl_n | exact nl_x | exact kd_r | exact kd_n | exact kd_x | exact kd_o | exact cats0 | exact cats1 | exact cats2 | exact cats3 | exact cats4 | exact nr_i | exact nr_l | exact nr_z0 | exact nr_z1 | exact ft_i | exact ft_l | omega | rfl | assumption | (refine i_ne0 ?_ ?_ ?_ <;> omega) | (refine j_ne0 ?_ ?_ ?_ <;> omega) | (refine i_new ?_ ?_ <;> omega) | (refine bl_t ?_; with_unfolding_all rfl) | exact ft_z0 | exact ft_z1) only [↓reduceIte, q_X11_isInside_8, q_X11_isInside_9, q_X11_isInside_12, q_X11_isInside_15, q_X11_isInside_16, q_X11_isInside_18, q_X11_isInside_21, q_X11_isInside_23, q_X11_isInside_24, q_X11_isInside_27, q_X11_isInside_29, q_X11_isInside_29x, q_X11_isInside_30, q_X11_isInside_31, q_X11_isInside_34, q_X11_isInside_36, q_X11_isInside_36x, q_X11_isInside_37, q_X11_isInside_40, q_X11_isInside_42, q_X11_isInside_45, q_X11_isInside_47, q_X11_isInside_49, q_X11_isInside_51, q_X11_isInside_53, q_X11_isInside_56, q_X11_isInside_58, q_X11_isInside_61, q_X11_isInside_63, q_X11_isInside_65, q_X11_isInside_68, q_X11_isInside_69, q_X11_isInside_72, q_X11_isInside_74, q_X11_isInside_74x, q_X11_isInside_75, q_X11_isInside_76, q_X11_isInside_77, q_X11_isInside_78, q_X11_isInside_79, q_X11_isInside_82, q_X11_isInside_83, q_X11_isInside_86, q_X11_isInside_87, q_X11_isInside_90, q_X11_isInside_92, q_X11_isInside_92x, q_X11_isInside_93, q_X11_isInside_94, q_X11_isInside_95, q_X11_isInside_96, q_X11_isInside_188, q_X11_isInside_191, i_add, i_sub, i_mul, i_neg, i_lt, i_le, i_eq, i_tm, i_div, i_j, j_i, j_add, j_sub, j_mul, j_neg, j_lt, j_le, j_eq, j_div, c_lt, c_le, c_gt, c_ge, c_eq, i_nat, rz_k, Nat.add_zero, Nat.zero_add, Nat.add_assoc, Nat.reduceAdd, if_true, if_false, vk_eq hm, Int.reduceEq, not_true_eq_false, not_false_eq_true, gf_eq hm, List.getElem?_cons_zero, List.getElem?_cons_succ, eq_false (show ¬ (n : Int) ≤ (i : Int) by omega), kx, ai_eq h44, Int.toNat_natCast, r1, r3, eq_false (show ¬ x (zp_nx n i) ≤ x i by omega), eq_true (show (i : Int) = (i : Int) by omega), eq_false c4, eq_true (show 2 * x (zp_nx n i) ≤ X2 by omega)]
          rfl
    · by_cases c2 : 2 * x (zp_nx n i) ≤ X2 ∧ X2 < 2 * x i
      · by_cases c3 : ad < 0
        · have hVt : zw_Vs x y n X2 Y2 i = true := by rw [hV]; exact decide_eq_true (by omega)
          rw [← ihf (!b) (some (.int (Int32.ofInt ((zp_nx n i : Nat) : Int)))) (some (.int (Int32.ofInt ((zp_nx n i : Nat) : Int)))) (some (.int (Int32.ofInt (i : Int)))) (some (.long (Int64.ofInt ad))) none (hxs _ (by rw [hVt, Bool.xor_true]))]
          cases b <;> simp (disch := first | exact nl_i | exact nl_r | exact nl_0 | exact nl_n | exact nl_x | exact kd_r | exact kd_n | exact kd_x | exact kd_o | exact cats0 | exact cats1 | exact cats2 | exact cats3 | exact cats4 | exact nr_i | exact nr_l | exact nr_z0 | exact nr_z1 | exact ft_i | exact ft_l | omega | rfl | assumption | (refine i_ne0 ?_ ?_ ?_ <;> omega) | (refine j_ne0 ?_ ?_ ?_ <;> omega) | (refine i_new ?_ ?_ <;> omega) | (refine bl_t ?_; with_unfolding_all rfl) | exact ft_z0 | exact ft_z1) only [↓reduceIte, q_X11_isInside_8, q_X11_isInside_9, q_X11_isInside_12, q_X11_isInside_15, q_X11_isInside_16, q_X11_isInside_18, q_X11_isInside_21, q_X11_isInside_23, q_X11_isInside_24, q_X11_isInside_27, q_X11_isInside_29, q_X11_isInside_29x, q_X11_isInside_30, q_X11_isInside_31, q_X11_isInside_34, q_X11_isInside_36, q_X11_isInside_36x, q_X11_isInside_37, q_X11_isInside_40, q_X11_isInside_42, q_X11_isInside_45, q_X11_isInside_47, q_X11_isInside_49, q_X11_isInside_51, q_X11_isInside_53, q_X11_isInside_56, q_X11_isInside_58, q_X11_isInside_61, q_X11_isInside_63, q_X11_isInside_65, q_X11_isInside_68, q_X11_isInside_69, q_X11_isInside_72, q_X11_isInside_74, q_X11_isInside_74x, q_X11_isInside_75, q_X11_isInside_76, q_X11_isInside_77, q_X11_isInside_78, q_X11_isInside_79, q_X11_isInside_82, q_X11_isInside_83, q_X11_isInside_86, q_X11_isInside_87, q_X11_isInside_90, q_X11_isInside_92, q_X11_isInside_92x, q_X11_isInside_93, q_X11_isInside_94, q_X11_isInside_95, q_X11_isInside_96, q_X11_isInside_99, q_X11_isInside_100, q_X11_isInside_103, q_X11_isInside_105, q_X11_isInside_105x, q_X11_isInside_106, q_X11_isInside_107, q_X11_isInside_110, q_X11_isInside_112, q_X11_isInside_112x, q_X11_isInside_113, q_X11_isInside_114, q_X11_isInside_115, q_X11_isInside_116, q_X11_isInside_119, q_X11_isInside_120, q_X11_isInside_123, q_X11_isInside_125, q_X11_isInside_125x, q_X11_isInside_126, q_X11_isInside_127, q_X11_isInside_128, q_X11_isInside_129, q_X11_isInside_130, q_X11_isInside_131, q_X11_isInside_134, q_X11_isInside_136, q_X11_isInside_136x, q_X11_isInside_137, q_X11_isInside_138, q_X11_isInside_141, q_X11_isInside_143, q_X11_isInside_143x, q_X11_isInside_144, q_X11_isInside_145, q_X11_isInside_146, q_X11_isInside_147, q_X11_isInside_150, q_X11_isInside_151, q_X11_isInside_154, q_X11_isInside_156, q_X11_isInside_156x, q_X11_isInside_157, q_X11_isInside_158, q_X11_isInside_159, q_X11_isInside_160, q_X11_isInside_161, q_X11_isInside_162, q_X11_isInside_164, q_X11_isInside_166, q_X11_isInside_167, q_X11_isInside_168, q_X11_isInside_171, q_X11_isInside_172, q_X11_isInside_175, q_X11_isInside_176, q_X11_isInside_178, q_X11_isInside_181, q_X11_isInside_182, q_X11_isInside_185, q_X11_isInside_186, q_X11_isInside_188, q_X11_isInside_191, i_add, i_sub, i_mul, i_neg, i_lt, i_le, i_eq, i_tm, i_div, i_j, j_i, j_add, j_sub, j_mul, j_neg, j_lt, j_le, j_eq, j_div, c_lt, c_le, c_gt, c_ge, c_eq, i_nat, rz_k, Nat.add_zero, Nat.zero_add, Nat.add_assoc, Nat.reduceAdd, if_true, if_false, vk_eq hm, Int.reduceEq, not_true_eq_false, not_false_eq_true, gf_eq hm, List.getElem?_cons_zero, List.getElem?_cons_succ, eq_false (show ¬ (n : Int) ≤ (i : Int) by omega), kx, ai_eq h44, ai_eq h45, Int.toNat_natCast, r1, r2, r3, r4, eq_true (show x (zp_nx n i) ≤ x i by omega), eq_false (show ¬ ((zp_nx n i : Nat) : Int) = (i : Int) by omega), eq_false (show ¬ X2 < 2 * x (zp_nx n i) by omega), eq_false (show ¬ 2 * x i ≤ X2 by omega), had, eq_false (show ¬ 0 ≤ ad by omega), zb_t, zb_f, Bool.not_true, Bool.not_false] <;> rfl
        · have hVt : zw_Vs x y n X2 Y2 i = false := by rw [hV]; exact decide_eq_false (by omega)
          rw [← ihf b (some (.int (Int32.ofInt ((zp_nx n i : Nat) : Int)))) (some (.int (Int32.ofInt ((zp_nx n i : Nat) : Int)))) (some (.int (Int32.ofInt (i : Int)))) (some (.long (Int64.ofInt ad))) none (hxs _ (by rw [hVt, Bool.xor_false]))]
          cases b <;> simp (disch := first | exact nl_i | exact nl_r | exact nl_0 | exact nl_n | exact nl_x | exact kd_r | exact kd_n | exact kd_x | exact kd_o | exact cats0 | exact cats1 | exact cats2 | exact cats3 | exact cats4 | exact nr_i | exact nr_l | exact nr_z0 | exact nr_z1 | exact ft_i | exact ft_l | omega | rfl | assumption | (refine i_ne0 ?_ ?_ ?_ <;> omega) | (refine j_ne0 ?_ ?_ ?_ <;> omega) | (refine i_new ?_ ?_ <;> omega) | (refine bl_t ?_; with_unfolding_all rfl) | exact ft_z0 | exact ft_z1) only [↓reduceIte, q_X11_isInside_8, q_X11_isInside_9, q_X11_isInside_12, q_X11_isInside_15, q_X11_isInside_16, q_X11_isInside_18, q_X11_isInside_21, q_X11_isInside_23, q_X11_isInside_24, q_X11_isInside_27, q_X11_isInside_29, q_X11_isInside_29x, q_X11_isInside_30, q_X11_isInside_31, q_X11_isInside_34, q_X11_isInside_36, q_X11_isInside_36x, q_X11_isInside_37, q_X11_isInside_40, q_X11_isInside_42, q_X11_isInside_45, q_X11_isInside_47, q_X11_isInside_49, q_X11_isInside_51, q_X11_isInside_53, q_X11_isInside_56, q_X11_isInside_58, q_X11_isInside_61, q_X11_isInside_63, q_X11_isInside_65, q_X11_isInside_68, q_X11_isInside_69, q_X11_isInside_72, q_X11_isInside_74, q_X11_isInside_74x, q_X11_isInside_75, q_X11_isInside_76, q_X11_isInside_77, q_X11_isInside_78, q_X11_isInside_79, q_X11_isInside_82, q_X11_isInside_83, q_X11_isInside_86, q_X11_isInside_87, q_X11_isInside_90, q_X11_isInside_92, q_X11_isInside_92x, q_X11_isInside_93, q_X11_isInside_94, q_X11_isInside_95, q_X11_isInside_96, q_X11_isInside_99, q_X11_isInside_100, q_X11_isInside_103, q_X11_isInside_105, q_X11_isInside_105x, q_X11_isInside_106, q_X11_isInside_107, q_X11_isInside_110, q_X11_isInside_112, q_X11_isInside_112x, q_X11_isInside_113, q_X11_isInside_114, q_X11_isInside_115, q_X11_isInside_116, q_X11_isInside_119, q_X11_isInside_120, q_X11_isInside_123, q_X11_isInside_125, q_X11_isInside_125x, q_X11_isInside_126, q_X11_isInside_127, q_X11_isInside_128, q_X11_isInside_129, q_X11_isInside_130, q_X11_isInside_131, q_X11_isInside_134, q_X11_isInside_136, q_X11_isInside_136x, q_X11_isInside_137, q_X11_isInside_138, q_X11_isInside_141, q_X11_isInside_143, q_X11_isInside_143x, q_X11_isInside_144, q_X11_isInside_145, q_X11_isInside_146, q_X11_isInside_147, q_X11_isInside_150, q_X11_isInside_151, q_X11_isInside_154, q_X11_isInside_156, q_X11_isInside_156x, q_X11_isInside_157, q_X11_isInside_158, q_X11_isInside_159, q_X11_isInside_160, q_X11_isInside_161, q_X11_isInside_162, q_X11_isInside_164, q_X11_isInside_166, q_X11_isInside_167, q_X11_isInside_168, q_X11_isInside_171, q_X11_isInside_172, q_X11_isInside_175, q_X11_isInside_176, q_X11_isInside_178, q_X11_isInside_181, q_X11_isInside_182, q_X11_isInside_185, q_X11_isInside_186, q_X11_isInside_188, q_X11_isInside_191, i_add, i_sub, i_mul, i_neg, i_lt, i_le, i_eq, i_tm, i_div, i_j, j_i, j_add, j_sub, j_mul, j_neg, j_lt, j_le, j_eq, j_div, c_lt, c_le, c_gt, c_ge, c_eq, i_nat, rz_k, Nat.add_zero, Nat.zero_add, Nat.add_assoc, Nat.reduceAdd, if_true, if_false, vk_eq hm, Int.reduceEq, not_true_eq_false, not_false_eq_true, gf_eq hm, List.getElem?_cons_zero, List.getElem?_cons_succ, eq_false (show ¬ (n : Int) ≤ (i : Int) by omega), kx, ai_eq h44, ai_eq h45, Int.toNat_natCast, r1, r2, r3, r4, eq_true (show x (zp_nx n i) ≤ x i by omega), eq_false (show ¬ ((zp_nx n i : Nat) : Int) = (i : Int) by omega), eq_false (show ¬ X2 < 2 * x (zp_nx n i) by omega), eq_false (show ¬ 2 * x i ≤ X2 by omega), had, eq_true (show 0 ≤ ad by omega), zb_t, zb_f] <;> rfl
      · have hVt : zw_Vs x y n X2 Y2 i = false := by rw [hV]; exact decide_eq_false (by omega)
        rw [← ihf b (some (.int (Int32.ofInt ((zp_nx n i : Nat) : Int)))) (some (.int (Int32.ofInt ((zp_nx n i : Nat) : Int)))) (some (.int (Int32.ofInt (i : Int)))) l10 l11 (hxs _ (by rw [hVt, Bool.xor_false]))]
        by_cases c4 : X2 < 2 * x (zp_nx n i)
        · simp (disch := first | exact nl_i | exact nl_r | exact nl_0 | exact nl_n | exact nl_x | exact kd_r | exact kd_n | exact kd_x | exact kd_o | exact cats0 | exact cats1 | exact cats2 | exact cats3 | exact cats4 | exact nr_i | exact nr_l | exact nr_z0 | exact nr_z1 | exact ft_i | exact ft_l | omega | rfl | assumption | (refine i_ne0 ?_ ?_ ?_ <;> omega) | (refine j_ne0 ?_ ?_ ?_ <;> omega) | (refine i_new ?_ ?_ <;> omega) | (refine bl_t ?_; with_unfolding_all rfl) | exact ft_z0 | exact ft_z1) only [↓reduceIte, q_X11_isInside_8, q_X11_isInside_9, q_X11_isInside_12, q_X11_isInside_15, q_X11_isInside_16, q_X11_isInside_18, q_X11_isInside_21, q_X11_isInside_23, q_X11_isInside_24, q_X11_isInside_27, q_X11_isInside_29, q_X11_isInside_29x, q_X11_isInside_30, q_X11_isInside_31, q_X11_isInside_34, q_X11_isInside_36, q_X11_isInside_36x, q_X11_isInside_37, q_X11_isInside_40, q_X11_isInside_42, q_X11_isInside_45, q_X11_isInside_47, q_X11_isInside_49, q_X11_isInside_51, q_X11_isInside_53, q_X11_isInside_56, q_X11_isInside_58, q_X11_isInside_61, q_X11_isInside_63, q_X11_isInside_65, q_X11_isInside_68, q_X11_isInside_69, q_X11_isInside_72, q_X11_isInside_74, q_X11_isInside_74x, q_X11_isInside_75, q_X11_isInside_76, q_X11_isInside_77, q_X11_isInside_78, q_X11_isInside_79, q_X11_isInside_82, q_X11_isInside_83, q_X11_isInside_86, q_X11_isInside_87, q_X11_isInside_90, q_X11_isInside_92, q_X11_isInside_92x, q_X11_isInside_93, q_X11_isInside_94, q_X11_isInside_95, q_X11_isInside_96, q_X11_isInside_188, q_X11_isInside_191, i_add, i_sub, i_mul, i_neg, i_lt, i_le, i_eq, i_tm, i_div, i_j, j_i, j_add, j_sub, j_mul, j_neg, j_lt, j_le, j_eq, j_div, c_lt, c_le, c_gt, c_ge, c_eq, i_nat, rz_k, Nat.add_zero, Nat.zero_add, Nat.add_assoc, Nat.reduceAdd, if_true, if_false, vk_eq hm, Int.reduceEq, not_true_eq_false, not_false_eq_true, gf_eq hm, List.getElem?_cons_zero, List.getElem?_cons_succ, eq_false (show ¬ (n : Int) ≤ (i : Int) by omega), kx, ai_eq h44, Int.toNat_natCast, r1, r3, eq_true (show x (zp_nx n i) ≤ x i by omega), eq_false (show ¬ ((zp_nx n i : Nat) : Int) = (i : Int) by omega), eq_true c4]
          rfl
        · simp (disch := first | exact nl_i | exact nl_r | exact nl_0 | exact nl_n | exact nl_x | exact kd_r | exact kd_n | exact kd_x | exact kd_o | exact cats0 | exact cats1 | exact cats2 | exact cats3 | exact cats4 | exact nr_i | exact nr_l | exact nr_z0 | exact nr_z1 | exact ft_i | exact ft_l | omega | rfl | assumption | (refine i_ne0 ?_ ?_ ?_ <;> omega) | (refine j_ne0 ?_ ?_ ?_ <;> omega) | (refine i_new ?_ ?_ <;> omega) | (refine bl_t ?_; with_unfolding_all rfl) | exact ft_z0 | exact ft_z1) only [↓reduceIte, q_X11_isInside_8, q_X11_isInside_9, q_X11_isInside_12, q_X11_isInside_15, q_X11_isInside_16, q_X11_isInside_18, q_X11_isInside_21, q_X11_isInside_23, q_X11_isInside_24, q_X11_isInside_27, q_X11_isInside_29, q_X11_isInside_29x, q_X11_isInside_30, q_X11_isInside_31, q_X11_isInside_34, q_X11_isInside_36, q_X11_isInside_36x, q_X11_isInside_37, q_X11_isInside_40, q_X11_isInside_42, q_X11_isInside_45, q_X11_isInside_47, q_X11_isInside_49, q_X11_isInside_51, q_X11_isInside_53, q_X11_isInside_56, q_X11_isInside_58, q_X11_isInside_61, q_X11_isInside_63, q_X11_isInside_65, q_X11_isInside_68, q_X11_isInside_69, q_X11_isInside_72, q_X11_isInside_74, q_X11_isInside_74x, q_X11_isInside_75, q_X11_isInside_76, q_X11_isInside_77, q_X11_isInside_78, q_X11_isInside_79, q_X11_isInside_82, q_X11_isInside_83, q_X11_isInside_86, q_X11_isInside_87, q_X11_isInside_90, q_X11_isInside_92, q_X11_isInside_92x, q_X11_isInside_93, q_X11_isInside_94, q_X11_isInside_95, q_X11_isInside_96, q_X11_isInside_188, q_X11_isInside_191, i_add, i_sub, i_mul, i_neg, i_lt, i_le, i_eq, i_tm, i_div, i_j, j_i, j_add, j_sub, j_mul, j_neg, j_lt, j_le, j_eq, j_div, c_lt, c_le, c_gt, c_ge, c_eq, i_nat, rz_k, Nat.add_zero, Nat.zero_add, Nat.add_assoc, Nat.reduceAdd, if_true, if_false, vk_eq hm, Int.reduceEq, not_true_eq_false, not_false_eq_true, gf_eq hm, List.getElem?_cons_zero, List.getElem?_cons_succ, eq_false (show ¬ (n : Int) ≤ (i : Int) by omega), kx, ai_eq h44, Int.toNat_natCast, r1, r3, eq_true (show x (zp_nx n i) ≤ x i by omega), eq_false (show ¬ ((zp_nx n i : Nat) : Int) = (i : Int) by omega), eq_false c4, eq_true (show 2 * x i ≤ X2 by omega)]
          rfl
theorem y_inside {X2 Y2 : Int} (h : v_rp w x y n) (h3 : 3 ≤ n) (hX : -40 ≤ X2 ∧ X2 ≤ 40) (hY : -40 ≤ Y2 ∧ Y2 ≤ 40) : rz_ex X (d + 2) 239 [.ref 32, .long (Int64.ofInt X2), .long (Int64.ofInt Y2)] w = some (.inl (some (.int (Int32.ofInt (zb (zw_x (zw_Vs x y n X2 Y2) n))))), w, 0, 0) := by
  have e := l_inside (X := X) (d := d) (nc := 0) (ns := 0) h h3 hX hY n 0 false none none none none none (by omega) rfl
  rw [← e]
  simp (disch := first | exact nl_i | exact nl_r | exact nl_0 | exact nl_n | exact nl_x | exact kd_r | exact kd_n | exact kd_x | exact kd_o | exact cats0 | exact cats1 | exact cats2 | exact cats3 | exact cats4 | exact nr_i | exact nr_l | exact nr_z0 | exact nr_z1 | exact ft_i | exact ft_l | omega | rfl | assumption | (refine i_ne0 ?_ ?_ ?_ <;> omega) | (refine j_ne0 ?_ ?_ ?_ <;> omega) | (refine i_new ?_ ?_ <;> omega) | (refine bl_t ?_; with_unfolding_all rfl) | exact ft_z0 | exact ft_z1) only [n_X11_isInside, q_X11_isInside_0, q_X11_isInside_1, q_X11_isInside_3, q_X11_isInside_4, i_add, i_sub, i_mul, i_neg, i_lt, i_le, i_eq, i_tm, i_div, i_j, j_i, j_add, j_sub, j_mul, j_neg, j_lt, j_le, j_eq, j_div, c_lt, c_le, c_gt, c_ge, c_eq, i_nat, rz_k, Nat.add_zero, Nat.zero_add, Nat.add_assoc, Nat.reduceAdd, if_true, if_false, zb_f]
  rfl
end RZWJ
