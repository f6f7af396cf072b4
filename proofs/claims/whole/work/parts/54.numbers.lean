/-! part 54: level 2: the reference's gcd, mod, floor, times; Bezout -/
section RZNB
variable {X : rz_X} {d : Nat} {w : rz_W} {nc ns : Nat} {kp tl kd ty cl th : Int}
theorem y_times {x y u v : Int} : rz_ex X (d + 1) 198 [.long (Int64.ofInt x), .long (Int64.ofInt y), .long (Int64.ofInt u), .long (Int64.ofInt v)] w = some (.inl (some (.long (Int64.ofInt (x * u + y * v)))), w, 0, 0) := by
  simp (disch := first | exact nl_i | exact nl_r | exact nl_0 | exact nl_n | exact nl_x | exact kd_r | exact kd_n | exact kd_x | exact kd_o | exact cats0 | exact cats1 | exact cats2 | exact cats3 | exact cats4 | exact nr_i | exact nr_l | exact nr_z0 | exact nr_z1 | exact ft_i | exact ft_l | omega | rfl | assumption | (refine i_ne0 ?_ ?_ ?_ <;> omega) | (refine j_ne0 ?_ ?_ ?_ <;> omega) | (refine i_new ?_ ?_ <;> omega) | (refine bl_t ?_; with_unfolding_all rfl) | exact ft_z0 | exact ft_z1) only [n_X11_times, q_X11_times_0, q_X11_times_1, q_X11_times_3, q_X11_times_4, q_X11_times_5, q_X11_times_7, q_X11_times_8, q_X11_times_9, i_add, i_sub, i_mul, i_neg, i_lt, i_le, i_eq, i_tm, i_div, i_j, j_i, j_add, j_sub, j_mul, j_neg, j_lt, j_le, j_eq, j_div, c_lt, c_le, c_gt, c_ge, c_eq, i_nat, rz_k, Nat.add_zero, Nat.zero_add, Nat.add_assoc, Nat.reduceAdd, if_true, if_false]
theorem y_mod {a b : Int} (h1 : -9223372036854775807 ≤ a) (h2 : a ≤ 9223372036854775807) (h3 : 0 < b) (h4 : b ≤ 4611686018427387904) : rz_ex X (d + 1) 179 [.long (Int64.ofInt a), .long (Int64.ofInt b)] w = some (.inl (some (.long (Int64.ofInt (a % b)))), w, 0, 0) := by
  have hm := z_tm (a := a) h3
  simp (disch := first | exact nl_i | exact nl_r | exact nl_0 | exact nl_n | exact nl_x | exact kd_r | exact kd_n | exact kd_x | exact kd_o | exact cats0 | exact cats1 | exact cats2 | exact cats3 | exact cats4 | exact nr_i | exact nr_l | exact nr_z0 | exact nr_z1 | exact ft_i | exact ft_l | omega | rfl | assumption | (refine i_ne0 ?_ ?_ ?_ <;> omega) | (refine j_ne0 ?_ ?_ ?_ <;> omega) | (refine i_new ?_ ?_ <;> omega) | (refine bl_t ?_; with_unfolding_all rfl) | exact ft_z0 | exact ft_z1) only [n_X11_mod, q_X11_mod_0, q_X11_mod_1, q_X11_mod_2, q_X11_mod_3, q_X11_mod_5, q_X11_mod_7, q_X11_mod_8, q_X11_mod_9, q_X11_mod_12, q_X11_mod_14, q_X11_mod_15, q_X11_mod_16, q_X11_mod_19, q_X11_mod_21, i_add, i_sub, i_mul, i_neg, i_lt, i_le, i_eq, i_tm, i_div, i_j, j_i, j_add, j_sub, j_mul, j_neg, j_lt, j_le, j_eq, j_div, c_lt, c_le, c_gt, c_ge, c_eq, i_nat, rz_k, Nat.add_zero, Nat.zero_add, Nat.add_assoc, Nat.reduceAdd, if_true, if_false]
  rw [z_emod h3]
  split <;> rename_i h
  · rw [if_neg (by omega)]
  · rw [if_pos (by omega)]
theorem y_floor {a b : Int} (h1 : -9223372036854775807 ≤ a) (h2 : a ≤ 9223372036854775807) (h3 : 0 < b) (h4 : b ≤ 9223372036854775807) : rz_ex X (d + 1) 199 [.long (Int64.ofInt a), .long (Int64.ofInt b)] w = some (.inl (some (.long (Int64.ofInt (a / b)))), w, 0, 0) := by
  have hr := z_div (N := 9223372036854775807) h3 (a := a) (by omega) (by omega)
  have hm := z_tm (a := a) h3
  have hd := z_dm a b
  have he : a = b * (a / b) + a % b := by have := Int.mul_ediv_add_emod a b; omega
  have he2 := z_emod (a := a) h3
  simp (disch := first | exact nl_i | exact nl_r | exact nl_0 | exact nl_n | exact nl_x | exact kd_r | exact kd_n | exact kd_x | exact kd_o | exact cats0 | exact cats1 | exact cats2 | exact cats3 | exact cats4 | exact nr_i | exact nr_l | exact nr_z0 | exact nr_z1 | exact ft_i | exact ft_l | omega | rfl | assumption | (refine i_ne0 ?_ ?_ ?_ <;> omega) | (refine j_ne0 ?_ ?_ ?_ <;> omega) | (refine i_new ?_ ?_ <;> omega) | (refine bl_t ?_; with_unfolding_all rfl) | exact ft_z0 | exact ft_z1) only [n_X11_floor, q_X11_floor_0, q_X11_floor_1, q_X11_floor_2, q_X11_floor_3, q_X11_floor_5, q_X11_floor_7, q_X11_floor_8, q_X11_floor_9, q_X11_floor_10, q_X11_floor_11, q_X11_floor_14, q_X11_floor_16, q_X11_floor_17, q_X11_floor_18, q_X11_floor_21, q_X11_floor_23, i_add, i_sub, i_mul, i_neg, i_lt, i_le, i_eq, i_tm, i_div, i_j, j_i, j_add, j_sub, j_mul, j_neg, j_lt, j_le, j_eq, j_div, c_lt, c_le, c_gt, c_ge, c_eq, i_nat, rz_k, Nat.add_zero, Nat.zero_add, Nat.add_assoc, Nat.reduceAdd, if_true, if_false]
  have key : a / b = if a.tdiv b * b ≤ a then a.tdiv b else a.tdiv b - 1 := by
    rcases z_tb (a := a) h3 with e | ⟨e0, e1, e⟩
    · rw [e]
      rw [if_pos (by rw [Int.mul_comm]; have := Int.emod_nonneg a (by omega : b ≠ 0); omega)]
    · rw [if_neg, e]
      · omega
      · rw [e, Int.add_mul, Int.one_mul, Int.mul_comm]
        have := Int.emod_lt_of_pos a h3
        omega
  rw [key]
  split <;> rfl
theorem l_ygcd {b1 b2 : Int64} : ∀ (q p : Nat) (l8 l9 : Option Value), p ≤ 9223372036854775807 → q ≤ 9223372036854775807 → rz_G X d mz_X11_gcd 28 [some (.long b1), none, some (.long b2), none, some (.long (Int64.ofInt p)), none, some (.long (Int64.ofInt q)), none, l8, l9] [] w nc ns = some (.inl (some (.long (Int64.ofInt (Nat.gcd p q : Nat)))), w, nc, ns) := by
  intro q
  induction q using Nat.strongRecOn with
  | ind q ih =>
    intro p l8 l9 hp hq
    rw [q_X11_gcd_28]
    by_cases h0 : q = 0
    · subst h0
      simp (disch := first | exact nl_i | exact nl_r | exact nl_0 | exact nl_n | exact nl_x | exact kd_r | exact kd_n | exact kd_x | exact kd_o | exact cats0 | exact cats1 | exact cats2 | exact cats3 | exact cats4 | exact nr_i | exact nr_l | exact nr_z0 | exact nr_z1 | exact ft_i | exact ft_l | omega | rfl | assumption | (refine i_ne0 ?_ ?_ ?_ <;> omega) | (refine j_ne0 ?_ ?_ ?_ <;> omega) | (refine i_new ?_ ?_ <;> omega) | (refine bl_t ?_; with_unfolding_all rfl) | exact ft_z0 | exact ft_z1) only [n_X11_gcd, q_X11_gcd_0, q_X11_gcd_1, q_X11_gcd_2, q_X11_gcd_3, q_X11_gcd_6, q_X11_gcd_7, q_X11_gcd_8, q_X11_gcd_11, q_X11_gcd_12, q_X11_gcd_14, q_X11_gcd_15, q_X11_gcd_16, q_X11_gcd_17, q_X11_gcd_20, q_X11_gcd_21, q_X11_gcd_22, q_X11_gcd_25, q_X11_gcd_26, q_X11_gcd_30, q_X11_gcd_31, q_X11_gcd_32, q_X11_gcd_35, q_X11_gcd_37, q_X11_gcd_39, q_X11_gcd_40, q_X11_gcd_42, q_X11_gcd_44, q_X11_gcd_46, q_X11_gcd_48, q_X11_gcd_50, q_X11_gcd_53, q_X11_gcd_55, i_add, i_sub, i_mul, i_neg, i_lt, i_le, i_eq, i_tm, i_div, i_j, j_i, j_add, j_sub, j_mul, j_neg, j_lt, j_le, j_eq, j_div, c_lt, c_le, c_gt, c_ge, c_eq, i_nat, rz_k, Nat.add_zero, Nat.zero_add, Nat.add_assoc, Nat.reduceAdd, if_true, if_false]
      rw [if_pos (by omega), Nat.gcd_zero_right]
    · simp (disch := first | exact nl_i | exact nl_r | exact nl_0 | exact nl_n | exact nl_x | exact kd_r | exact kd_n | exact kd_x | exact kd_o | exact cats0 | exact cats1 | exact cats2 | exact cats3 | exact cats4 | exact nr_i | exact nr_l | exact nr_z0 | exact nr_z1 | exact ft_i | exact ft_l | omega | rfl | assumption | (refine i_ne0 ?_ ?_ ?_ <;> omega) | (refine j_ne0 ?_ ?_ ?_ <;> omega) | (refine i_new ?_ ?_ <;> omega) | (refine bl_t ?_; with_unfolding_all rfl) | exact ft_z0 | exact ft_z1) only [n_X11_gcd, q_X11_gcd_0, q_X11_gcd_1, q_X11_gcd_2, q_X11_gcd_3, q_X11_gcd_6, q_X11_gcd_7, q_X11_gcd_8, q_X11_gcd_11, q_X11_gcd_12, q_X11_gcd_14, q_X11_gcd_15, q_X11_gcd_16, q_X11_gcd_17, q_X11_gcd_20, q_X11_gcd_21, q_X11_gcd_22, q_X11_gcd_25, q_X11_gcd_26, q_X11_gcd_30, q_X11_gcd_31, q_X11_gcd_32, q_X11_gcd_35, q_X11_gcd_37, q_X11_gcd_39, q_X11_gcd_40, q_X11_gcd_42, q_X11_gcd_44, q_X11_gcd_46, q_X11_gcd_48, q_X11_gcd_50, q_X11_gcd_53, q_X11_gcd_55, i_add, i_sub, i_mul, i_neg, i_lt, i_le, i_eq, i_tm, i_div, i_j, j_i, j_add, j_sub, j_mul, j_neg, j_lt, j_le, j_eq, j_div, c_lt, c_le, c_gt, c_ge, c_eq, i_nat, rz_k, Nat.add_zero, Nat.zero_add, Nat.add_assoc, Nat.reduceAdd, if_true, if_false]
      rw [if_neg (by omega), z_ctm, ← z_gcd_step h0]
      have := Nat.mod_lt p (show q > 0 by omega)
      exact ih (p % q) this q _ _ hq (by omega)
theorem y_gcd {a b : Int} (h1 : -9223372036854775807 ≤ a) (h2 : a ≤ 9223372036854775807) (h3 : -9223372036854775807 ≤ b) (h4 : b ≤ 9223372036854775807) : rz_ex X (d + 1) 178 [.long (Int64.ofInt a), .long (Int64.ofInt b)] w = some (.inl (some (.long (Int64.ofInt (Int.gcd a b)))), w, 0, 0) := by
  unfold Int.gcd
  have hA : a.natAbs ≤ 9223372036854775807 := by omega
  have hB : b.natAbs ≤ 9223372036854775807 := by omega
  have := l_ygcd (X := X) (d := d) (w := w) (nc := 0) (ns := 0) (b1 := Int64.ofInt a) (b2 := Int64.ofInt b) b.natAbs a.natAbs none none hA hB
  rw [← this]
  by_cases ha : 0 ≤ a
  · by_cases hb : 0 ≤ b
    · simp (disch := first | exact nl_i | exact nl_r | exact nl_0 | exact nl_n | exact nl_x | exact kd_r | exact kd_n | exact kd_x | exact kd_o | exact cats0 | exact cats1 | exact cats2 | exact cats3 | exact cats4 | exact nr_i | exact nr_l | exact nr_z0 | exact nr_z1 | exact ft_i | exact ft_l | omega | rfl | assumption | (refine i_ne0 ?_ ?_ ?_ <;> omega) | (refine j_ne0 ?_ ?_ ?_ <;> omega) | (refine i_new ?_ ?_ <;> omega) | (refine bl_t ?_; with_unfolding_all rfl) | exact ft_z0 | exact ft_z1) only [n_X11_gcd, q_X11_gcd_0, q_X11_gcd_1, q_X11_gcd_2, q_X11_gcd_3, q_X11_gcd_6, q_X11_gcd_7, q_X11_gcd_8, q_X11_gcd_11, q_X11_gcd_12, q_X11_gcd_14, q_X11_gcd_15, q_X11_gcd_16, q_X11_gcd_17, q_X11_gcd_20, q_X11_gcd_21, q_X11_gcd_22, q_X11_gcd_25, q_X11_gcd_26, q_X11_gcd_30, q_X11_gcd_31, q_X11_gcd_32, q_X11_gcd_35, q_X11_gcd_37, q_X11_gcd_39, q_X11_gcd_40, q_X11_gcd_42, q_X11_gcd_44, q_X11_gcd_46, q_X11_gcd_48, q_X11_gcd_50, q_X11_gcd_53, q_X11_gcd_55, i_add, i_sub, i_mul, i_neg, i_lt, i_le, i_eq, i_tm, i_div, i_j, j_i, j_add, j_sub, j_mul, j_neg, j_lt, j_le, j_eq, j_div, c_lt, c_le, c_gt, c_ge, c_eq, i_nat, rz_k, Nat.add_zero, Nat.zero_add, Nat.add_assoc, Nat.reduceAdd, if_true, if_false]
      rw [if_pos ha, if_pos hb, show ((a.natAbs : Nat) : Int) = a by omega, show ((b.natAbs : Nat) : Int) = b by omega]
    · simp (disch := first | exact nl_i | exact nl_r | exact nl_0 | exact nl_n | exact nl_x | exact kd_r | exact kd_n | exact kd_x | exact kd_o | exact cats0 | exact cats1 | exact cats2 | exact cats3 | exact cats4 | exact nr_i | exact nr_l | exact nr_z0 | exact nr_z1 | exact ft_i | exact ft_l | omega | rfl | assumption | (refine i_ne0 ?_ ?_ ?_ <;> omega) | (refine j_ne0 ?_ ?_ ?_ <;> omega) | (refine i_new ?_ ?_ <;> omega) | (refine bl_t ?_; with_unfolding_all rfl) | exact ft_z0 | exact ft_z1) only [n_X11_gcd, q_X11_gcd_0, q_X11_gcd_1, q_X11_gcd_2, q_X11_gcd_3, q_X11_gcd_6, q_X11_gcd_7, q_X11_gcd_8, q_X11_gcd_11, q_X11_gcd_12, q_X11_gcd_14, q_X11_gcd_15, q_X11_gcd_16, q_X11_gcd_17, q_X11_gcd_20, q_X11_gcd_21, q_X11_gcd_22, q_X11_gcd_25, q_X11_gcd_26, q_X11_gcd_30, q_X11_gcd_31, q_X11_gcd_32, q_X11_gcd_35, q_X11_gcd_37, q_X11_gcd_39, q_X11_gcd_40, q_X11_gcd_42, q_X11_gcd_44, q_X11_gcd_46, q_X11_gcd_48, q_X11_gcd_50, q_X11_gcd_53, q_X11_gcd_55, i_add, i_sub, i_mul, i_neg, i_lt, i_le, i_eq, i_tm, i_div, i_j, j_i, j_add, j_sub, j_mul, j_neg, j_lt, j_le, j_eq, j_div, c_lt, c_le, c_gt, c_ge, c_eq, i_nat, rz_k, Nat.add_zero, Nat.zero_add, Nat.add_assoc, Nat.reduceAdd, if_true, if_false]
      rw [if_pos ha, if_neg hb, show ((a.natAbs : Nat) : Int) = a by omega, show ((b.natAbs : Nat) : Int) = -b by omega]
  · by_cases hb : 0 ≤ b
    · simp (disch := first | exact nl_i | exact nl_r | exact nl_0 | exact nl_n | exact nl_x | exact kd_r | exact kd_n | exact kd_x | exact kd_o | exact cats0 | exact cats1 | exact cats2 | exact cats3 | exact cats4 | exact nr_i | exact nr_l | exact nr_z0 | exact nr_z1 | exact ft_i | exact ft_l | omega | rfl | assumption | (refine i_ne0 ?_ ?_ ?_ <;> omega) | (refine j_ne0 ?_ ?_ ?_ <;> omega) | (refine i_new ?_ ?_ <;> omega) | (refine bl_t ?_; with_unfolding_all rfl) | exact ft_z0 | exact ft_z1) only [n_X11_gcd, q_X11_gcd_0, q_X11_gcd_1, q_X11_gcd_2, q_X11_gcd_3, q_X11_gcd_6, q_X11_gcd_7, q_X11_gcd_8, q_X11_gcd_11, q_X11_gcd_12, q_X11_gcd_14, q_X11_gcd_15, q_X11_gcd_16, q_X11_gcd_17, q_X11_gcd_20, q_X11_gcd_21, q_X11_gcd_22, q_X11_gcd_25, q_X11_gcd_26, q_X11_gcd_30, q_X11_gcd_31, q_X11_gcd_32, q_X11_gcd_35, q_X11_gcd_37, q_X11_gcd_39, q_X11_gcd_40, q_X11_gcd_42, q_X11_gcd_44, q_X11_gcd_46, q_X11_gcd_48, q_X11_gcd_50, q_X11_gcd_53, q_X11_gcd_55, i_add, i_sub, i_mul, i_neg, i_lt, i_le, i_eq, i_tm, i_div, i_j, j_i, j_add, j_sub, j_mul, j_neg, j_lt, j_le, j_eq, j_div, c_lt, c_le, c_gt, c_ge, c_eq, i_nat, rz_k, Nat.add_zero, Nat.zero_add, Nat.add_assoc, Nat.reduceAdd, if_true, if_false]
      rw [if_neg ha, if_pos hb, show ((a.natAbs : Nat) : Int) = -a by omega, show ((b.natAbs : Nat) : Int) = b by omega]
    · simp (disch := first | exact nl_i | exact nl_r | exact nl_0 | exact nl_n | exact nl_x | exact kd_r | exact kd_n | exact kd_x | exact kd_o | exact cats0 | exact cats1 | exact cats2 | exact cats3 | exact cats4 | exact nr_i | exact nr_l | exact nr_z0 | exact nr_z1 | exact ft_i | exact ft_l | omega | rfl | assumption | (refine i_ne0 ?_ ?_ ?_ <;> omega) | (refine j_ne0 ?_ ?_ ?_ <;> omega) | (refine i_new ?_ ?_ <;> omega) | (refine bl_t ?_; with_unfolding_all rfl) | exact ft_z0 | exact ft_z1) only [n_X11_gcd, q_X11_gcd_0, q_X11_gcd_1, q_X11_gcd_2, q_X11_gcd_3, q_X11_gcd_6, q_X11_gcd_7, q_X11_gcd_8, q_X11_gcd_11, q_X11_gcd_12, q_X11_gcd_14, q_X11_gcd_15, q_X11_gcd_16, q_X11_gcd_17, q_X11_gcd_20, q_X11_gcd_21, q_X11_gcd_22, q_X11_gcd_25, q_X11_gcd_26, q_X11_gcd_30, q_X11_gcd_31, q_X11_gcd_32, q_X11_gcd_35, q_X11_gcd_37, q_X11_gcd_39, q_X11_gcd_40, q_X11_gcd_42, q_X11_gcd_44, q_X11_gcd_46, q_X11_gcd_48, q_X11_gcd_50, q_X11_gcd_53, q_X11_gcd_55, i_add, i_sub, i_mul, i_neg, i_lt, i_le, i_eq, i_tm, i_div, i_j, j_i, j_add, j_sub, j_mul, j_neg, j_lt, j_le, j_eq, j_div, c_lt, c_le, c_gt, c_ge, c_eq, i_nat, rz_k, Nat.add_zero, Nat.zero_add, Nat.add_assoc, Nat.reduceAdd, if_true, if_false]
      rw [if_neg ha, if_neg hb, show ((a.natAbs : Nat) : Int) = -a by omega, show ((b.natAbs : Nat) : Int) = -b by omega]
/-- Bezout -/
theorem z_bez (m n : Nat) : ∃ u v : Int, (m : Int) * u + (n : Int) * v = (Nat.gcd m n : Nat) := by
  induction m, n using Nat.gcd.induction with
  | H0 n => exact ⟨0, 1, by simp⟩
  | H1 m n hm ih =>
    obtain ⟨u, v, h⟩ := ih
    refine ⟨v - (n / m : Nat) * u, u, ?_⟩
    rw [Nat.gcd_rec, ← h]
    have h2 : (n : Int) = (m : Int) * ((n / m : Nat) : Int) + ((n % m : Nat) : Int) := by
      rw [← Int.natCast_mul, ← Int.natCast_add, Nat.div_add_mod]
    generalize ((n / m : Nat) : Int) = q at *
    generalize ((n % m : Nat) : Int) = r at *
    rw [h2, Int.mul_sub, Int.add_mul]
    have : (m : Int) * (q * u) = (m : Int) * q * u := (Int.mul_assoc _ _ _).symm
    omega
theorem z_bezI (a b : Int) : ∃ u v : Int, a * u + b * v = (Int.gcd a b : Nat) := by
  obtain ⟨u, v, h⟩ := z_bez a.natAbs b.natAbs
  have hs : ∀ c : Int, ∃ e : Int, c * e = (c.natAbs : Int) := by
    intro c
    rcases Int.natAbs_eq c with h | h
    · exact ⟨1, by rw [Int.mul_one]; exact h⟩
    · exact ⟨-1, by rw [Int.mul_neg, Int.mul_one]; omega⟩
  obtain ⟨e, he⟩ := hs a
  obtain ⟨f, hf⟩ := hs b
  refine ⟨e * u, f * v, ?_⟩
  rw [← Int.mul_assoc, ← Int.mul_assoc, he, hf]
  exact h
end RZNB
