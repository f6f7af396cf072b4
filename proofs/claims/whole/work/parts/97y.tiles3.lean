/-! part 97y: level 2: tiles: the reference's squares -/
section RZWX
variable {X : rz_X} {d : Nat} {w w1 : rz_W} {nc ns : Nat} {x y : Nat → Int} {n : Nat} {kp tl kd ty cl th : Int}
theorem zj_half {Xx Y : Int} (hup : ∀ k, k < n → zt_upb x y n k = true) : zw_x (zw_Vs x y n (2 * Xx + 1) (2 * Y + 1)) n = zw_x (zt_sq x y n Xx Y) n := by
  have hoff : ∀ i, i < n → ¬ zw_on (2 * x i - (2 * Xx + 1)) (2 * y i - (2 * Y + 1)) (2 * x (zp_nx n i) - (2 * Xx + 1)) (2 * y (zp_nx n i) - (2 * Y + 1)) := by
    rintro i hi ⟨h1, h2, h3⟩
    rcases of_decide_eq_true (hup i hi) with h | h <;> omega
  have hH : ∀ i, i < n → zw_H (2 * x i - (2 * Xx + 1)) (2 * y i - (2 * Y + 1)) (2 * x (zp_nx n i) - (2 * Xx + 1)) (2 * y (zp_nx n i) - (2 * Y + 1)) = zt_sq x y n Xx Y i := by
    intro i hi
    unfold zw_H zt_sq
    refine decide_eq_decide.mpr ?_
    rcases of_decide_eq_true (hup i hi) with h | h
    · rw [h]
      have e : (2 * x (zp_nx n i) - (2 * Xx + 1)) * (2 * y (zp_nx n i) - (2 * Y + 1)) - (2 * x (zp_nx n i) - (2 * Xx + 1)) * (2 * y i - (2 * Y + 1)) = 2 * ((2 * x (zp_nx n i) - (2 * Xx + 1)) * (y (zp_nx n i) - y i)) := by grind
      rw [e]
      have s1 : 0 < 2 * x (zp_nx n i) - (2 * Xx + 1) → 0 < y (zp_nx n i) - y i → 0 < (2 * x (zp_nx n i) - (2 * Xx + 1)) * (y (zp_nx n i) - y i) := fun a b => Int.mul_pos a b
      have s2 : 2 * x (zp_nx n i) - (2 * Xx + 1) < 0 → y (zp_nx n i) - y i < 0 → 0 < (2 * x (zp_nx n i) - (2 * Xx + 1)) * (y (zp_nx n i) - y i) := fun a b => Int.mul_pos_of_neg_of_neg a b
      have s3 : 0 < 2 * x (zp_nx n i) - (2 * Xx + 1) → y (zp_nx n i) - y i < 0 → (2 * x (zp_nx n i) - (2 * Xx + 1)) * (y (zp_nx n i) - y i) < 0 := fun a b => Int.mul_neg_of_pos_of_neg a b
      have s4 : 2 * x (zp_nx n i) - (2 * Xx + 1) < 0 → 0 < y (zp_nx n i) - y i → (2 * x (zp_nx n i) - (2 * Xx + 1)) * (y (zp_nx n i) - y i) < 0 := fun a b => Int.mul_neg_of_neg_of_pos a b
      generalize (2 * x (zp_nx n i) - (2 * Xx + 1)) * (y (zp_nx n i) - y i) = T at *
      constructor
      · rintro ⟨a1, a2⟩
        have b1 : ¬ ((0 < 2 * y i - (2 * Y + 1)) ↔ (0 < 2 * y (zp_nx n i) - (2 * Y + 1))) := fun c => a1 (propext c)
        have b2 : (2 * y i - (2 * Y + 1) < 2 * y (zp_nx n i) - (2 * Y + 1)) ↔ (0 < 2 * T) := by rw [a2]
        omega
      · rintro ⟨a1, a2⟩
        refine ⟨fun c => a1 ?_, propext ?_⟩
        · have c2 : (0 < 2 * y i - (2 * Y + 1)) ↔ (0 < 2 * y (zp_nx n i) - (2 * Y + 1)) := by rw [c]
          omega
        · omega
    · rw [h]
      constructor
      · rintro ⟨a1, -⟩
        exact absurd rfl a1
      · rintro ⟨a1, -⟩
        exact absurd Iff.rfl a1
  have hx : zw_x (fun i => Bool.xor (zw_H (2 * x i - (2 * Xx + 1)) (2 * y i - (2 * Y + 1)) (2 * x (zp_nx n i) - (2 * Xx + 1)) (2 * y (zp_nx n i) - (2 * Y + 1))) (zw_Vs x y n (2 * Xx + 1) (2 * Y + 1) i)) n = zw_x (fun i => Bool.xor (zw_f (2 * x i - (2 * Xx + 1)) (2 * y i - (2 * Y + 1))) (zw_f (2 * x (zp_nx n i) - (2 * Xx + 1)) (2 * y (zp_nx n i) - (2 * Y + 1)))) n := zw_cong (fun i hi => zw_side (hoff i hi))
  have h2 := zw_round (fun i => zw_f (2 * x i - (2 * Xx + 1)) (2 * y i - (2 * Y + 1))) n
  rw [h2, zw_xor (fun i => zw_H (2 * x i - (2 * Xx + 1)) (2 * y i - (2 * Y + 1)) (2 * x (zp_nx n i) - (2 * Xx + 1)) (2 * y (zp_nx n i) - (2 * Y + 1))) (zw_Vs x y n (2 * Xx + 1) (2 * Y + 1)), zw_cong hH] at hx
  cases ha : zw_x (zt_sq x y n Xx Y) n <;> cases hb : zw_x (zw_Vs x y n (2 * Xx + 1) (2 * Y + 1)) n
  · rfl
  · rw [ha, hb] at hx; cases hx
  · rw [ha, hb] at hx; cases hx
  · rfl
theorem l_yup {s : Int32} (h : v_rp w x y n) (m : Nat) : ∀ (i : Nat) (b : Bool) (l4 l5 l6 l7 : Option Value), i + m = n → ∃ (b' : Bool) (l3' l4' : Option Value), rz_G X (d + 2) mz_X11_tiles 44 [some (.ref 32), some (.int s), some (.int (Int32.ofInt (zb b))), some (.int (Int32.ofInt (i : Int))), l4, l5, l6, l7] [] w nc ns = rz_G X (d + 2) mz_X11_tiles 107 [some (.ref 32), some (.int s), some (.int (Int32.ofInt (zb b'))), l3', l4', l5, l6, l7] [] w nc ns ∧ (b' = true ↔ b = true ∧ ∀ k, i ≤ k → k < n → zt_upb x y n k = true) := by
  obtain ⟨kp, tl, kd, cl, th, R, S, hm, h44, h45, hn, hr, he⟩ := id h
  induction m with
  | zero =>
    intro i b l4 l5 l6 l7 hi
    obtain rfl : i = n := by omega
    refine ⟨b, some (.int (Int32.ofInt (i : Int))), l4, ?_, ⟨fun hb => ⟨hb, fun k h1 h2 => by omega⟩, fun hb => hb.1⟩⟩
    rw [q_X11_tiles_44]
    simp (disch := first | exact nl_i | exact nl_r | exact nl_0 | exact nl_n | exact nl_x | exact kd_r | exact kd_n | exact kd_x | exact kd_o | exact cats0 | exact cats1 | exact cats2 | exact cats3 | exact cats4 | exact nr_i | exact nr_l | exact nr_z0 | exact nr_z1 | exact ft_i | exact ft_l | omega | rfl | assumption | (refine i_ne0 ?_ ?_ ?_ <;> omega) | (refine j_ne0 ?_ ?_ ?_ <;> omega) | (refine i_new ?_ ?_ <;> omega) | (refine bl_t ?_; with_unfolding_all rfl) | exact ft_z0 | exact ft_z1) only [↓reduceIte, q_X11_tiles_45, q_X11_tiles_46, q_X11_tiles_49, i_add, i_sub, i_mul, i_neg, i_lt, i_le, i_eq, i_tm, i_div, i_j, j_i, j_add, j_sub, j_mul, j_neg, j_lt, j_le, j_eq, j_div, c_lt, c_le, c_gt, c_ge, c_eq, i_nat, rz_k, Nat.add_zero, Nat.zero_add, Nat.add_assoc, Nat.reduceAdd, if_true, if_false, gf_eq hm, List.getElem?_cons_zero, List.getElem?_cons_succ, eq_true (show (i : Int) ≤ (i : Int) by omega)]
  | succ m ih =>
    intro i b l4 l5 l6 l7 hi
    have hin : i < n := by omega
    have hnx := nx_lt hin
    have k1 := y_nx (X := X) (d := d + 1) h hin
    have r1 := he i hin
    have r2 := he _ hnx
    have b1 := hr i
    have b2 := hr (zp_nx n i)
    have key : rz_G X (d + 2) mz_X11_tiles 44 [some (.ref 32), some (.int s), some (.int (Int32.ofInt (zb b))), some (.int (Int32.ofInt (i : Int))), l4, l5, l6, l7] [] w nc ns = rz_G X (d + 2) mz_X11_tiles 44 [some (.ref 32), some (.int s), some (.int (Int32.ofInt (zb (b && zt_upb x y n i)))), some (.int (Int32.ofInt ((i + 1 : Nat) : Int))), some (.int (Int32.ofInt ((zp_nx n i : Nat) : Int))), l5, l6, l7] [] w nc ns := by
      rw [q_X11_tiles_44]
      cases b
      · simp (disch := first | exact nl_i | exact nl_r | exact nl_0 | exact nl_n | exact nl_x | exact kd_r | exact kd_n | exact kd_x | exact kd_o | exact cats0 | exact cats1 | exact cats2 | exact cats3 | exact cats4 | exact nr_i | exact nr_l | exact nr_z0 | exact nr_z1 | exact ft_i | exact ft_l | omega | rfl | assumption | (refine i_ne0 ?_ ?_ ?_ <;> omega) | (refine j_ne0 ?_ ?_ ?_ <;> omega) | (refine i_new ?_ ?_ <;> omega) | (refine bl_t ?_; with_unfolding_all rfl) | exact ft_z0 | exact ft_z1) only [↓reduceIte, q_X11_tiles_45, q_X11_tiles_46, q_X11_tiles_49, q_X11_tiles_52, q_X11_tiles_53, q_X11_tiles_54, q_X11_tiles_57, q_X11_tiles_59, q_X11_tiles_60, q_X11_tiles_63, q_X11_tiles_64, q_X11_tiles_67, q_X11_tiles_68, q_X11_tiles_68x, q_X11_tiles_69, q_X11_tiles_70, q_X11_tiles_73, q_X11_tiles_75, q_X11_tiles_75x, q_X11_tiles_76, q_X11_tiles_79, q_X11_tiles_80, q_X11_tiles_83, q_X11_tiles_84, q_X11_tiles_84x, q_X11_tiles_85, q_X11_tiles_86, q_X11_tiles_89, q_X11_tiles_91, q_X11_tiles_91x, q_X11_tiles_92, q_X11_tiles_95, q_X11_tiles_96, q_X11_tiles_99, q_X11_tiles_100, q_X11_tiles_101, q_X11_tiles_104, i_add, i_sub, i_mul, i_neg, i_lt, i_le, i_eq, i_tm, i_div, i_j, j_i, j_add, j_sub, j_mul, j_neg, j_lt, j_le, j_eq, j_div, c_lt, c_le, c_gt, c_ge, c_eq, i_nat, rz_k, Nat.add_zero, Nat.zero_add, Nat.add_assoc, Nat.reduceAdd, if_true, if_false, gf_eq hm, vk_eq hm, List.getElem?_cons_zero, List.getElem?_cons_succ, eq_false (show ¬ (n : Int) ≤ (i : Int) by omega), k1, zb_f, Bool.false_and, Int.reduceEq]
        rfl
      · by_cases hx : x i = x (zp_nx n i)
        · rw [show zt_upb x y n i = true from decide_eq_true (.inl hx)]
          simp (disch := first | exact nl_i | exact nl_r | exact nl_0 | exact nl_n | exact nl_x | exact kd_r | exact kd_n | exact kd_x | exact kd_o | exact cats0 | exact cats1 | exact cats2 | exact cats3 | exact cats4 | exact nr_i | exact nr_l | exact nr_z0 | exact nr_z1 | exact ft_i | exact ft_l | omega | rfl | assumption | (refine i_ne0 ?_ ?_ ?_ <;> omega) | (refine j_ne0 ?_ ?_ ?_ <;> omega) | (refine i_new ?_ ?_ <;> omega) | (refine bl_t ?_; with_unfolding_all rfl) | exact ft_z0 | exact ft_z1) only [↓reduceIte, q_X11_tiles_45, q_X11_tiles_46, q_X11_tiles_49, q_X11_tiles_52, q_X11_tiles_53, q_X11_tiles_54, q_X11_tiles_57, q_X11_tiles_59, q_X11_tiles_60, q_X11_tiles_63, q_X11_tiles_64, q_X11_tiles_67, q_X11_tiles_68, q_X11_tiles_68x, q_X11_tiles_69, q_X11_tiles_70, q_X11_tiles_73, q_X11_tiles_75, q_X11_tiles_75x, q_X11_tiles_76, q_X11_tiles_79, q_X11_tiles_80, q_X11_tiles_83, q_X11_tiles_84, q_X11_tiles_84x, q_X11_tiles_85, q_X11_tiles_86, q_X11_tiles_89, q_X11_tiles_91, q_X11_tiles_91x, q_X11_tiles_92, q_X11_tiles_95, q_X11_tiles_96, q_X11_tiles_99, q_X11_tiles_100, q_X11_tiles_101, q_X11_tiles_104, i_add, i_sub, i_mul, i_neg, i_lt, i_le, i_eq, i_tm, i_div, i_j, j_i, j_add, j_sub, j_mul, j_neg, j_lt, j_le, j_eq, j_div, c_lt, c_le, c_gt, c_ge, c_eq, i_nat, rz_k, Nat.add_zero, Nat.zero_add, Nat.add_assoc, Nat.reduceAdd, if_true, if_false, gf_eq hm, vk_eq hm, List.getElem?_cons_zero, List.getElem?_cons_succ, eq_false (show ¬ (n : Int) ≤ (i : Int) by omega), k1, zb_t, Bool.and_true, Int.reduceEq, ai_eq h44, ai_eq h45, Int.toNat_natCast, r1, r2, eq_true hx]
          rfl
        · by_cases hy : y i = y (zp_nx n i)
          · rw [show zt_upb x y n i = true from decide_eq_true (.inr hy)]
            simp (disch := first | exact nl_i | exact nl_r | exact nl_0 | exact nl_n | exact nl_x | exact kd_r | exact kd_n | exact kd_x | exact kd_o | exact cats0 | exact cats1 | exact cats2 | exact cats3 | exact cats4 | exact nr_i | exact nr_l | exact nr_z0 | exact nr_z1 | exact ft_i | exact ft_l | omega | rfl | assumption | (refine i_ne0 ?_ ?_ ?_ <;> omega) | (refine j_ne0 ?_ ?_ ?_ <;> omega) | (refine i_new ?_ ?_ <;> omega) | (refine bl_t ?_; with_unfolding_all rfl) | exact ft_z0 | exact ft_z1) only [↓reduceIte, q_X11_tiles_45, q_X11_tiles_46, q_X11_tiles_49, q_X11_tiles_52, q_X11_tiles_53, q_X11_tiles_54, q_X11_tiles_57, q_X11_tiles_59, q_X11_tiles_60, q_X11_tiles_63, q_X11_tiles_64, q_X11_tiles_67, q_X11_tiles_68, q_X11_tiles_68x, q_X11_tiles_69, q_X11_tiles_70, q_X11_tiles_73, q_X11_tiles_75, q_X11_tiles_75x, q_X11_tiles_76, q_X11_tiles_79, q_X11_tiles_80, q_X11_tiles_83, q_X11_tiles_84, q_X11_tiles_84x, q_X11_tiles_85, q_X11_tiles_86, q_X11_tiles_89, q_X11_tiles_91, q_X11_tiles_91x, q_X11_tiles_92, q_X11_tiles_95, q_X11_tiles_96, q_X11_tiles_99, q_X11_tiles_100, q_X11_tiles_101, q_X11_tiles_104, i_add, i_sub, i_mul, i_neg, i_lt, i_le, i_eq, i_tm, i_div, i_j, j_i, j_add, j_sub, j_mul, j_neg, j_lt, j_le, j_eq, j_div, c_lt, c_le, c_gt, c_ge, c_eq, i_nat, rz_k, Nat.add_zero, Nat.zero_add, Nat.add_assoc, Nat.reduceAdd, if_true, if_false, gf_eq hm, vk_eq hm, List.getElem?_cons_zero, List.getElem?_cons_succ, eq_false (show ¬ (n : Int) ≤ (i : Int) by omega), k1, zb_t, Bool.and_true, Int.reduceEq, ai_eq h44, ai_eq h45, Int.toNat_natCast, r1, r2, eq_false hx, eq_true hy, not_true_eq_false]
            rfl
          · rw [show zt_upb x y n i = false from decide_eq_false (fun c => c.elim hx hy)]
            simp (disch := first | exact nl_i | exact nl_r | exact nl_0 | exact nl_n | exact nl_x | exact kd_r | exact kd_n | exact kd_x | exact kd_o | exact cats0 | exact cats1 | exact cats2 | exact cats3 | exact cats4 | exact nr_i | exact nr_l | exact nr_z0 | exact nr_z1 | exact ft_i | exact ft_l | omega | rfl | assumption | (refine i_ne0 ?_ ?_ ?_ <;> omega) | (refine j_ne0 ?_ ?_ ?_ <;> omega) | (refine i_new ?_ ?_ <;> omega) | (refine bl_t ?_; with_unfolding_all rfl) | exact ft_z0 | exact ft_z1) only [↓reduceIte, q_X11_tiles_45, q_X11_tiles_46, q_X11_tiles_49, q_X11_tiles_52, q_X11_tiles_53, q_X11_tiles_54, q_X11_tiles_57, q_X11_tiles_59, q_X11_tiles_60, q_X11_tiles_63, q_X11_tiles_64, q_X11_tiles_67, q_X11_tiles_68, q_X11_tiles_68x, q_X11_tiles_69, q_X11_tiles_70, q_X11_tiles_73, q_X11_tiles_75, q_X11_tiles_75x, q_X11_tiles_76, q_X11_tiles_79, q_X11_tiles_80, q_X11_tiles_83, q_X11_tiles_84, q_X11_tiles_84x, q_X11_tiles_85, q_X11_tiles_86, q_X11_tiles_89, q_X11_tiles_91, q_X11_tiles_91x, q_X11_tiles_92, q_X11_tiles_95, q_X11_tiles_96, q_X11_tiles_99, q_X11_tiles_100, q_X11_tiles_101, q_X11_tiles_104, i_add, i_sub, i_mul, i_neg, i_lt, i_le, i_eq, i_tm, i_div, i_j, j_i, j_add, j_sub, j_mul, j_neg, j_lt, j_le, j_eq, j_div, c_lt, c_le, c_gt, c_ge, c_eq, i_nat, rz_k, Nat.add_zero, Nat.zero_add, Nat.add_assoc, Nat.reduceAdd, if_true, if_false, gf_eq hm, vk_eq hm, List.getElem?_cons_zero, List.getElem?_cons_succ, eq_false (show ¬ (n : Int) ≤ (i : Int) by omega), k1, zb_t, zb_f, Bool.and_false, Int.reduceEq, ai_eq h44, ai_eq h45, Int.toNat_natCast, r1, r2, eq_false hx, eq_false hy, not_false_eq_true]
            rfl
    obtain ⟨b', l3', l4', e, hb⟩ := ih (i + 1) (b && zt_upb x y n i) (some (.int (Int32.ofInt ((zp_nx n i : Nat) : Int)))) l5 l6 l7 (by omega)
    refine ⟨b', l3', l4', key.trans e, hb.trans ?_⟩
    rw [Bool.and_eq_true]
    constructor
    · rintro ⟨⟨a1, a2⟩, a3⟩
      refine ⟨a1, fun k k1 k2 => ?_⟩
      by_cases hk : k = i
      · rw [hk]; exact a2
      · exact a3 k (by omega) k2
    · rintro ⟨a1, a3⟩
      exact ⟨⟨a1, a3 i (Nat.le_refl _) hin⟩, fun k k1 k2 => a3 k (by omega) k2⟩
/-- the squares' numbers, in their order -/
def zj_L (sq : Nat → Nat → Bool) : Nat → List Nat
  | 0 => []
  | s + 1 => if sq (s / 40) (s % 40) then zj_L sq s ++ [100 * (s / 40) + s % 40] else zj_L sq s
theorem zj_L_len {sq : Nat → Nat → Bool} (s : Nat) : (zj_L sq s).length ≤ s := by
  induction s with
  | zero => exact Nat.le_refl _
  | succ s ih =>
    unfold zj_L
    split
    · rw [List.length_append]; simp; omega
    · omega
def v_sq (w : rz_W) (q : Nat) (L : List Nat) : Prop := ∃ F : Nat → Int32, v_ia w q 1700 F ∧ ∀ k e, L[k]? = some e → F k = Int32.ofInt ((e : Nat) : Int)
theorem l_yfrow {s up : Int32} {q : Nat} (hup : ∀ k, k < n → zt_upb x y n k = true) (h3 : 3 ≤ n) (hq : q ∉ [32, 44, 45]) {k : Nat} (hk : k < 40) {l7 : Option Value} (m : Nat) : ∀ (j : Nat) (w : rz_W), j + m = 40 → v_rp w x y n → v_sq w q (zj_L (zj_s x y n) (40 * k + j)) → ∃ w', rz_fr [q] w w' ∧ v_sq w' q (zj_L (zj_s x y n) (40 * (k + 1))) ∧ rz_G X (d + 3) mz_X11_tiles 171 [some (.ref 32), some (.int s), some (.int up), some (.ref q), some (.int (Int32.ofInt ((zj_L (zj_s x y n) (40 * k + j)).length : Int))), some (.int (Int32.ofInt (-20 + (k : Int)))), some (.int (Int32.ofInt (-20 + (j : Int)))), l7] [] w nc ns = rz_G X (d + 3) mz_X11_tiles 230 [some (.ref 32), some (.int s), some (.int up), some (.ref q), some (.int (Int32.ofInt ((zj_L (zj_s x y n) (40 * (k + 1))).length : Int))), some (.int (Int32.ofInt (-20 + (k : Int)))), some (.int (Int32.ofInt 20)), l7] [] w' nc ns := by
  have hne : ∀ c, c ∈ [32, 44, 45] → c ∉ [q] := fun c hc hc2 => hq (List.mem_singleton.mp hc2 ▸ hc)
  induction m with
  | zero =>
    intro j w hj h hV
    obtain rfl : j = 40 := by omega
    have e40 : 40 * k + 40 = 40 * (k + 1) := by omega
    rw [e40] at hV ⊢
    refine ⟨w, fr_refl, hV, ?_⟩
    rw [q_X11_tiles_171]
    simp (disch := first | exact nl_i | exact nl_r | exact nl_0 | exact nl_n | exact nl_x | exact kd_r | exact kd_n | exact kd_x | exact kd_o | exact cats0 | exact cats1 | exact cats2 | exact cats3 | exact cats4 | exact nr_i | exact nr_l | exact nr_z0 | exact nr_z1 | exact ft_i | exact ft_l | omega | rfl | assumption | (refine i_ne0 ?_ ?_ ?_ <;> omega) | (refine j_ne0 ?_ ?_ ?_ <;> omega) | (refine i_new ?_ ?_ <;> omega) | (refine bl_t ?_; with_unfolding_all rfl) | exact ft_z0 | exact ft_z1) only [↓reduceIte, q_X11_tiles_173, q_X11_tiles_175, i_add, i_sub, i_mul, i_neg, i_lt, i_le, i_eq, i_tm, i_div, i_j, j_i, j_add, j_sub, j_mul, j_neg, j_lt, j_le, j_eq, j_div, c_lt, c_le, c_gt, c_ge, c_eq, i_nat, rz_k, Nat.add_zero, Nat.zero_add, Nat.add_assoc, Nat.reduceAdd, if_true, if_false, eq_true (show 20 ≤ -20 + ((40 : Nat) : Int) by omega)]
    rfl
  | succ m ih =>
    intro j w hj h hV
    obtain ⟨kp, tl, kd, cl, th, R, S, hm, h44, h45, hn, hr, he⟩ := id h
    have hi := y_inside (X := X) (d := d + 1) (X2 := 2 * (-20 + (k : Int)) + 1) (Y2 := 2 * (-20 + (j : Int)) + 1) h h3 (by omega) (by omega)
    rw [zj_half hup] at hi
    have hs1 : (40 * k + j) / 40 = k := by omega
    have hs2 : (40 * k + j) % 40 = j := by omega
    have hL : zj_L (zj_s x y n) (40 * k + (j + 1)) = if zj_s x y n k j then zj_L (zj_s x y n) (40 * k + j) ++ [100 * k + j] else zj_L (zj_s x y n) (40 * k + j) := by
      show zj_L (zj_s x y n) (40 * k + j + 1) = _
      rw [zj_L, hs1, hs2]
    have hlen := zj_L_len (sq := zj_s x y n) (40 * k + j)
    have hjj : -20 + ((j + 1 : Nat) : Int) = -20 + ((j : Int) + 1) := by omega
    obtain ⟨F, hA, hF⟩ := id hV
    cases hz : zj_s x y n k j
    · have hz' : zw_x (zt_sq x y n (-20 + (k : Int)) (-20 + (j : Int))) n = false := hz
      rw [hz', zb_f] at hi
      rw [hz] at hL
      obtain ⟨w', f, a1, a2⟩ := ih (j + 1) w (by omega) h (by rw [hL]; exact hV)
      refine ⟨w', f, a1, ?_⟩
      rw [← a2, q_X11_tiles_171, hL, hjj]
      simp (disch := first | exact nl_i | exact nl_r | exact nl_0 | exact nl_n | exact nl_x | exact kd_r | exact kd_n | exact kd_x | exact kd_o | exact cats0 | exact cats1 | exact cats2 | exact cats3 | exact cats4 | exact nr_i | exact nr_l | exact nr_z0 | exact nr_z1 | exact ft_i | exact ft_l | omega | rfl | assumption | (refine i_ne0 ?_ ?_ ?_ <;> omega) | (refine j_ne0 ?_ ?_ ?_ <;> omega) | (refine i_new ?_ ?_ <;> omega) | (refine bl_t ?_; with_unfolding_all rfl) | exact ft_z0 | exact ft_z1) only [↓reduceIte, q_X11_tiles_173, q_X11_tiles_175, q_X11_tiles_178, q_X11_tiles_179, q_X11_tiles_182, q_X11_tiles_184, q_X11_tiles_185, q_X11_tiles_186, q_X11_tiles_187, q_X11_tiles_188, q_X11_tiles_191, q_X11_tiles_193, q_X11_tiles_194, q_X11_tiles_195, q_X11_tiles_196, q_X11_tiles_197, q_X11_tiles_200, q_X11_tiles_203, q_X11_tiles_204, q_X11_tiles_206, q_X11_tiles_208, q_X11_tiles_210, q_X11_tiles_212, q_X11_tiles_213, q_X11_tiles_214, q_X11_tiles_216, q_X11_tiles_217, q_X11_tiles_219, q_X11_tiles_220, q_X11_tiles_221, q_X11_tiles_224, q_X11_tiles_227, i_add, i_sub, i_mul, i_neg, i_lt, i_le, i_eq, i_tm, i_div, i_j, j_i, j_add, j_sub, j_mul, j_neg, j_lt, j_le, j_eq, j_div, c_lt, c_le, c_gt, c_ge, c_eq, i_nat, rz_k, Nat.add_zero, Nat.zero_add, Nat.add_assoc, Nat.reduceAdd, if_true, if_false, vk_eq hm, eq_false (show ¬ 20 ≤ -20 + (j : Int) by omega), hi, Int.add_assoc, Bool.false_eq_true]
    · have hz' : zw_x (zt_sq x y n (-20 + (k : Int)) (-20 + (j : Int))) n = true := hz
      rw [hz', zb_t] at hi
      rw [hz] at hL
      rw [if_pos rfl] at hL
      generalize zj_L (zj_s x y n) (40 * k + j) = L at *
      have hl2 : ((L ++ [100 * k + j]).length : Int) = (L.length : Int) + 1 := by rw [List.length_append]; simp
      have f1 : rz_fr [q] w (w.set q (.inl (.int, 1700, .inl (upd F L.length (Int32.ofInt ((100 * k + j : Nat) : Int)))))) := fr_set (List.mem_singleton.mpr rfl)
      have hrp1 : v_rp (w.set q (.inl (.int, 1700, .inl (upd F L.length (Int32.ofInt ((100 * k + j : Nat) : Int)))))) x y n := ⟨kp, tl, kd, cl, th, R, S, fr_get f1 (hne _ (by decide)) hm, fr_get f1 (hne _ (by decide)) h44, fr_get f1 (hne _ (by decide)) h45, hn, hr, he⟩
      obtain ⟨w', f, a1, a2⟩ := ih (j + 1) _ (by omega) hrp1 (by
        rw [hL]
        refine ⟨_, w_eq (w_lt hA), fun c e hc => ?_⟩
        by_cases hcl : c = L.length
        · rw [hcl, List.getElem?_append_right (Nat.le_refl _), Nat.sub_self] at hc
          have : 100 * k + j = e := by simpa using hc
          rw [hcl, upd_eq, this]
        · have hlt : c < L.length := by
            have := (List.getElem?_eq_some_iff.mp hc).1
            rw [List.length_append] at this
            simp at this
            omega
          rw [List.getElem?_append_left hlt] at hc
          rw [upd_ne hcl]
          exact hF c e hc)
      refine ⟨w', fr_trans f1 f, a1, ?_⟩
      rw [← a2, q_X11_tiles_171, hL, hjj, hl2]
      simp (disch := first | exact nl_i | exact nl_r | exact nl_0 | exact nl_n | exact nl_x | exact kd_r | exact kd_n | exact kd_x | exact kd_o | exact cats0 | exact cats1 | exact cats2 | exact cats3 | exact cats4 | exact nr_i | exact nr_l | exact nr_z0 | exact nr_z1 | exact ft_i | exact ft_l | omega | rfl | assumption | (refine i_ne0 ?_ ?_ ?_ <;> omega) | (refine j_ne0 ?_ ?_ ?_ <;> omega) | (refine i_new ?_ ?_ <;> omega) | (refine bl_t ?_; with_unfolding_all rfl) | exact ft_z0 | exact ft_z1) only [↓reduceIte, q_X11_tiles_173, q_X11_tiles_175, q_X11_tiles_178, q_X11_tiles_179, q_X11_tiles_182, q_X11_tiles_184, q_X11_tiles_185, q_X11_tiles_186, q_X11_tiles_187, q_X11_tiles_188, q_X11_tiles_191, q_X11_tiles_193, q_X11_tiles_194, q_X11_tiles_195, q_X11_tiles_196, q_X11_tiles_197, q_X11_tiles_200, q_X11_tiles_203, q_X11_tiles_204, q_X11_tiles_206, q_X11_tiles_208, q_X11_tiles_210, q_X11_tiles_212, q_X11_tiles_213, q_X11_tiles_214, q_X11_tiles_216, q_X11_tiles_217, q_X11_tiles_219, q_X11_tiles_220, q_X11_tiles_221, q_X11_tiles_224, q_X11_tiles_227, i_add, i_sub, i_mul, i_neg, i_lt, i_le, i_eq, i_tm, i_div, i_j, j_i, j_add, j_sub, j_mul, j_neg, j_lt, j_le, j_eq, j_div, c_lt, c_le, c_gt, c_ge, c_eq, i_nat, rz_k, Nat.add_zero, Nat.zero_add, Nat.add_assoc, Nat.reduceAdd, if_true, if_false, vk_eq hm, eq_false (show ¬ 20 ≤ -20 + (j : Int) by omega), hi, Int.reduceEq, show 100 * (-20 + ((k : Int) + 20)) + (-20 + ((j : Int) + 20)) = ((100 * k + j : Nat) : Int) by omega, si_eq hA, Int.toNat_natCast, Int.add_assoc]
theorem l_yfall {s up : Int32} {q : Nat} (hup : ∀ k, k < n → zt_upb x y n k = true) (h3 : 3 ≤ n) (hq : q ∉ [32, 44, 45]) {l7 : Option Value} (m : Nat) : ∀ (k : Nat) (w : rz_W) (l6 : Option Value), k + m = 40 → v_rp w x y n → v_sq w q (zj_L (zj_s x y n) (40 * k)) → ∃ (w' : rz_W) (l6' : Option Value), rz_fr [q] w w' ∧ v_sq w' q (zj_L (zj_s x y n) 1600) ∧ rz_G X (d + 3) mz_X11_tiles 160 [some (.ref 32), some (.int s), some (.int up), some (.ref q), some (.int (Int32.ofInt ((zj_L (zj_s x y n) (40 * k)).length : Int))), some (.int (Int32.ofInt (-20 + (k : Int)))), l6, l7] [] w nc ns = rz_G X (d + 3) mz_X11_tiles 236 [some (.ref 32), some (.int s), some (.int up), some (.ref q), some (.int (Int32.ofInt ((zj_L (zj_s x y n) 1600).length : Int))), some (.int (Int32.ofInt 20)), l6', l7] [] w' nc ns := by
  have hne : ∀ c, c ∈ [32, 44, 45] → c ∉ [q] := fun c hc hc2 => hq (List.mem_singleton.mp hc2 ▸ hc)
  induction m with
  | zero =>
    intro k w l6 hk h hV
    obtain rfl : k = 40 := by omega
    refine ⟨w, l6, fr_refl, hV, ?_⟩
    rw [q_X11_tiles_160]
    simp (disch := first | exact nl_i | exact nl_r | exact nl_0 | exact nl_n | exact nl_x | exact kd_r | exact kd_n | exact kd_x | exact kd_o | exact cats0 | exact cats1 | exact cats2 | exact cats3 | exact cats4 | exact nr_i | exact nr_l | exact nr_z0 | exact nr_z1 | exact ft_i | exact ft_l | omega | rfl | assumption | (refine i_ne0 ?_ ?_ ?_ <;> omega) | (refine j_ne0 ?_ ?_ ?_ <;> omega) | (refine i_new ?_ ?_ <;> omega) | (refine bl_t ?_; with_unfolding_all rfl) | exact ft_z0 | exact ft_z1) only [↓reduceIte, q_X11_tiles_162, q_X11_tiles_164, q_X11_tiles_167, q_X11_tiles_169, i_add, i_sub, i_mul, i_neg, i_lt, i_le, i_eq, i_tm, i_div, i_j, j_i, j_add, j_sub, j_mul, j_neg, j_lt, j_le, j_eq, j_div, c_lt, c_le, c_gt, c_ge, c_eq, i_nat, rz_k, Nat.add_zero, Nat.zero_add, Nat.add_assoc, Nat.reduceAdd, if_true, if_false, eq_true (show 20 ≤ -20 + ((40 : Nat) : Int) by omega)]
    rfl
  | succ m ih =>
    intro k w l6 hk h hV
    obtain ⟨w1, f1, a1, e1⟩ := l_yfrow (X := X) (d := d) (nc := nc) (ns := ns) (s := s) (up := up) (l7 := l7) hup h3 hq (show k < 40 by omega) 40 0 w (by omega) h hV
    obtain ⟨kp, tl, kd, cl, th, R, S, hm, h44, h45, r⟩ := id h
    have hrp1 : v_rp w1 x y n := ⟨kp, tl, kd, cl, th, R, S, fr_get f1 (hne _ (by decide)) hm, fr_get f1 (hne _ (by decide)) h44, fr_get f1 (hne _ (by decide)) h45, r⟩
    obtain ⟨w', l6', f2, b1, e2⟩ := ih (k + 1) w1 (some (.int (Int32.ofInt 20))) (by omega) hrp1 a1
    have e0 : rz_G X (d + 3) mz_X11_tiles 160 [some (.ref 32), some (.int s), some (.int up), some (.ref q), some (.int (Int32.ofInt ((zj_L (zj_s x y n) (40 * k)).length : Int))), some (.int (Int32.ofInt (-20 + (k : Int)))), l6, l7] [] w nc ns = rz_G X (d + 3) mz_X11_tiles 171 [some (.ref 32), some (.int s), some (.int up), some (.ref q), some (.int (Int32.ofInt ((zj_L (zj_s x y n) (40 * k + 0)).length : Int))), some (.int (Int32.ofInt (-20 + (k : Int)))), some (.int (Int32.ofInt (-20 + ((0 : Nat) : Int)))), l7] [] w nc ns := by
      rw [q_X11_tiles_160]
      simp (disch := first | exact nl_i | exact nl_r | exact nl_0 | exact nl_n | exact nl_x | exact kd_r | exact kd_n | exact kd_x | exact kd_o | exact cats0 | exact cats1 | exact cats2 | exact cats3 | exact cats4 | exact nr_i | exact nr_l | exact nr_z0 | exact nr_z1 | exact ft_i | exact ft_l | omega | rfl | assumption | (refine i_ne0 ?_ ?_ ?_ <;> omega) | (refine j_ne0 ?_ ?_ ?_ <;> omega) | (refine i_new ?_ ?_ <;> omega) | (refine bl_t ?_; with_unfolding_all rfl) | exact ft_z0 | exact ft_z1) only [↓reduceIte, q_X11_tiles_162, q_X11_tiles_164, q_X11_tiles_167, q_X11_tiles_169, i_add, i_sub, i_mul, i_neg, i_lt, i_le, i_eq, i_tm, i_div, i_j, j_i, j_add, j_sub, j_mul, j_neg, j_lt, j_le, j_eq, j_div, c_lt, c_le, c_gt, c_ge, c_eq, i_nat, rz_k, Nat.add_zero, Nat.zero_add, Nat.add_assoc, Nat.reduceAdd, if_true, if_false, eq_false (show ¬ 20 ≤ -20 + (k : Int) by omega)]
      rfl
    refine ⟨w', l6', fr_trans f1 f2, b1, ?_⟩
    have hkk : -20 + ((k + 1 : Nat) : Int) = -20 + ((k : Int) + 1) := by omega
    rw [e0, e1, ← e2, hkk, q_X11_tiles_230 nl_i]
    simp (disch := first | exact nl_i | exact nl_r | exact nl_0 | exact nl_n | exact nl_x | exact kd_r | exact kd_n | exact kd_x | exact kd_o | exact cats0 | exact cats1 | exact cats2 | exact cats3 | exact cats4 | exact nr_i | exact nr_l | exact nr_z0 | exact nr_z1 | exact ft_i | exact ft_l | omega | rfl | assumption | (refine i_ne0 ?_ ?_ ?_ <;> omega) | (refine j_ne0 ?_ ?_ ?_ <;> omega) | (refine i_new ?_ ?_ <;> omega) | (refine bl_t ?_; with_unfolding_all rfl) | exact ft_z0 | exact ft_z1) only [q_X11_tiles_233, i_add, i_sub, i_mul, i_neg, i_lt, i_le, i_eq, i_tm, i_div, i_j, j_i, j_add, j_sub, j_mul, j_neg, j_lt, j_le, j_eq, j_div, c_lt, c_le, c_gt, c_ge, c_eq, i_nat, rz_k, Nat.add_zero, Nat.zero_add, Nat.add_assoc, Nat.reduceAdd, if_true, if_false, Int.add_assoc]
end RZWX
