/-! part 92b: level 2: leaps: the class -/
section RZLB
variable {X : rz_X} {d : Nat} {w : rz_W} {nc ns : Nat} {kp tl kd ty cl th : Int}
def v_cl (w : rz_W) (cnt : Nat → Int) (q : Nat → Nat) (m : Nat) : Prop := ∃ F Q : Nat → Int32, v_ob w 26 5 [.ref 27, .ref 28, .int (Int32.ofInt m)] ∧ v_ia w 27 3721 F ∧ v_ia w 28 3721 Q ∧ (∀ p, p < 3721 → F p = Int32.ofInt (cnt p)) ∧ ∀ j, j < m → Q j = Int32.ofInt ((q j : Nat) : Int)
theorem v_misc_lp {w' : rz_W} {S : List Nat} {n : Int32} {f g : Nat → Int32} (hv : v_misc w) (hf : rz_fr S w w') (hS : ∀ q, q ∈ S → q ∈ [26, 27, 28]) (h1 : v_ob w' 26 5 [.ref 27, .ref 28, .int n]) (h2 : v_ia w' 27 3721 f) (h3 : v_ia w' 28 3721 g) : v_misc w' := by
  obtain ⟨⟨a1, a2, a3, a4, a5, a6, a7, p1⟩, ⟨b1, b2, b3, b4, p2, p3, p4, p5⟩, ⟨c1, c2, c3, c4, c5, p6, p7, p8⟩, -, ⟨e1, e2, e3, p9, p10, p11⟩, ⟨f1, f2, p12, p13⟩, ⟨f3, p14⟩⟩ := hv
  have k : ∀ {q : Nat} {u : rz_E}, q ∉ [26, 27, 28] → w[q]? = some u → w'[q]? = some u := fun hq h => fr_get hf (fun c => hq (hS _ c)) h
  exact ⟨⟨a1, a2, a3, a4, a5, a6, a7, k (by decide) p1⟩, ⟨b1, b2, b3, b4, k (by decide) p2, k (by decide) p3, k (by decide) p4, k (by decide) p5⟩, ⟨c1, c2, c3, c4, c5, k (by decide) p6, k (by decide) p7, k (by decide) p8⟩, ⟨n, f, g, h1, h2, h3⟩, ⟨e1, e2, e3, k (by decide) p9, k (by decide) p10, k (by decide) p11⟩, ⟨f1, f2, k (by decide) p12, k (by decide) p13⟩, ⟨f3, k (by decide) p14⟩⟩
theorem x_place {x y : Int} (hx : -1000 ≤ x ∧ x ≤ 1000) (hy : -1000 ≤ y ∧ y ≤ 1000) : rz_ex X (d + 1) 49 [.int (Int32.ofInt x), .int (Int32.ofInt y)] w = some (.inl (some (.int (Int32.ofInt (if (-30 ≤ x ∧ x ≤ 30) ∧ -30 ≤ y ∧ y ≤ 30 then (x + 30) * 61 + y + 30 else -1)))), w, 0, 0) := by
  by_cases h1 : x < -30
  · rw [if_neg (by omega)]
    simp (disch := first | exact nl_i | exact nl_r | exact nl_0 | exact nl_n | exact nl_x | exact kd_r | exact kd_n | exact kd_x | exact kd_o | exact cats0 | exact cats1 | exact cats2 | exact cats3 | exact cats4 | exact nr_i | exact nr_l | exact nr_z0 | exact nr_z1 | exact ft_i | exact ft_l | omega | rfl | assumption | (refine i_ne0 ?_ ?_ ?_ <;> omega) | (refine j_ne0 ?_ ?_ ?_ <;> omega) | (refine i_new ?_ ?_ <;> omega) | (refine bl_t ?_; with_unfolding_all rfl) | exact ft_z0 | exact ft_z1) only [n_X5_placeOfPoint, q_X5_placeOfPoint_0, q_X5_placeOfPoint_1, q_X5_placeOfPoint_3, q_X5_placeOfPoint_6, q_X5_placeOfPoint_7, q_X5_placeOfPoint_9, q_X5_placeOfPoint_12, q_X5_placeOfPoint_13, q_X5_placeOfPoint_15, q_X5_placeOfPoint_18, q_X5_placeOfPoint_19, q_X5_placeOfPoint_21, q_X5_placeOfPoint_24, q_X5_placeOfPoint_25, q_X5_placeOfPoint_26, q_X5_placeOfPoint_27, q_X5_placeOfPoint_29, q_X5_placeOfPoint_30, q_X5_placeOfPoint_32, q_X5_placeOfPoint_33, q_X5_placeOfPoint_34, q_X5_placeOfPoint_35, q_X5_placeOfPoint_37, q_X5_placeOfPoint_38, i_add, i_sub, i_mul, i_neg, i_lt, i_le, i_eq, i_tm, i_div, i_j, j_i, j_add, j_sub, j_mul, j_neg, j_lt, j_le, j_eq, j_div, c_lt, c_le, c_gt, c_ge, c_eq, i_nat, rz_k, Nat.add_zero, Nat.zero_add, Nat.add_assoc, Nat.reduceAdd, if_true, if_false, if_pos h1]
  · by_cases h2 : 30 < x
    · rw [if_neg (by omega)]
      simp (disch := first | exact nl_i | exact nl_r | exact nl_0 | exact nl_n | exact nl_x | exact kd_r | exact kd_n | exact kd_x | exact kd_o | exact cats0 | exact cats1 | exact cats2 | exact cats3 | exact cats4 | exact nr_i | exact nr_l | exact nr_z0 | exact nr_z1 | exact ft_i | exact ft_l | omega | rfl | assumption | (refine i_ne0 ?_ ?_ ?_ <;> omega) | (refine j_ne0 ?_ ?_ ?_ <;> omega) | (refine i_new ?_ ?_ <;> omega) | (refine bl_t ?_; with_unfolding_all rfl) | exact ft_z0 | exact ft_z1) only [n_X5_placeOfPoint, q_X5_placeOfPoint_0, q_X5_placeOfPoint_1, q_X5_placeOfPoint_3, q_X5_placeOfPoint_6, q_X5_placeOfPoint_7, q_X5_placeOfPoint_9, q_X5_placeOfPoint_12, q_X5_placeOfPoint_13, q_X5_placeOfPoint_15, q_X5_placeOfPoint_18, q_X5_placeOfPoint_19, q_X5_placeOfPoint_21, q_X5_placeOfPoint_24, q_X5_placeOfPoint_25, q_X5_placeOfPoint_26, q_X5_placeOfPoint_27, q_X5_placeOfPoint_29, q_X5_placeOfPoint_30, q_X5_placeOfPoint_32, q_X5_placeOfPoint_33, q_X5_placeOfPoint_34, q_X5_placeOfPoint_35, q_X5_placeOfPoint_37, q_X5_placeOfPoint_38, i_add, i_sub, i_mul, i_neg, i_lt, i_le, i_eq, i_tm, i_div, i_j, j_i, j_add, j_sub, j_mul, j_neg, j_lt, j_le, j_eq, j_div, c_lt, c_le, c_gt, c_ge, c_eq, i_nat, rz_k, Nat.add_zero, Nat.zero_add, Nat.add_assoc, Nat.reduceAdd, if_true, if_false, if_neg h1, if_pos h2]
    · by_cases h3 : y < -30
      · rw [if_neg (by omega)]
        simp (disch := first | exact nl_i | exact nl_r | exact nl_0 | exact nl_n | exact nl_x | exact kd_r | exact kd_n | exact kd_x | exact kd_o | exact cats0 | exact cats1 | exact cats2 | exact cats3 | exact cats4 | exact nr_i | exact nr_l | exact nr_z0 | exact nr_z1 | exact ft_i | exact ft_l | omega | rfl | assumption | (refine i_ne0 ?_ ?_ ?_ <;> omega) | (refine j_ne0 ?_ ?_ ?_ <;> omega) | (refine i_new ?_ ?_ <;> omega) | (refine bl_t ?_; with_unfolding_all rfl) | exact ft_z0 | exact ft_z1) only [n_X5_placeOfPoint, q_X5_placeOfPoint_0, q_X5_placeOfPoint_1, q_X5_placeOfPoint_3, q_X5_placeOfPoint_6, q_X5_placeOfPoint_7, q_X5_placeOfPoint_9, q_X5_placeOfPoint_12, q_X5_placeOfPoint_13, q_X5_placeOfPoint_15, q_X5_placeOfPoint_18, q_X5_placeOfPoint_19, q_X5_placeOfPoint_21, q_X5_placeOfPoint_24, q_X5_placeOfPoint_25, q_X5_placeOfPoint_26, q_X5_placeOfPoint_27, q_X5_placeOfPoint_29, q_X5_placeOfPoint_30, q_X5_placeOfPoint_32, q_X5_placeOfPoint_33, q_X5_placeOfPoint_34, q_X5_placeOfPoint_35, q_X5_placeOfPoint_37, q_X5_placeOfPoint_38, i_add, i_sub, i_mul, i_neg, i_lt, i_le, i_eq, i_tm, i_div, i_j, j_i, j_add, j_sub, j_mul, j_neg, j_lt, j_le, j_eq, j_div, c_lt, c_le, c_gt, c_ge, c_eq, i_nat, rz_k, Nat.add_zero, Nat.zero_add, Nat.add_assoc, Nat.reduceAdd, if_true, if_false, if_neg h1, if_neg h2, if_pos h3]
      · by_cases h4 : y ≤ 30
        · rw [if_pos (by omega)]
          simp (disch := first | exact nl_i | exact nl_r | exact nl_0 | exact nl_n | exact nl_x | exact kd_r | exact kd_n | exact kd_x | exact kd_o | exact cats0 | exact cats1 | exact cats2 | exact cats3 | exact cats4 | exact nr_i | exact nr_l | exact nr_z0 | exact nr_z1 | exact ft_i | exact ft_l | omega | rfl | assumption | (refine i_ne0 ?_ ?_ ?_ <;> omega) | (refine j_ne0 ?_ ?_ ?_ <;> omega) | (refine i_new ?_ ?_ <;> omega) | (refine bl_t ?_; with_unfolding_all rfl) | exact ft_z0 | exact ft_z1) only [n_X5_placeOfPoint, q_X5_placeOfPoint_0, q_X5_placeOfPoint_1, q_X5_placeOfPoint_3, q_X5_placeOfPoint_6, q_X5_placeOfPoint_7, q_X5_placeOfPoint_9, q_X5_placeOfPoint_12, q_X5_placeOfPoint_13, q_X5_placeOfPoint_15, q_X5_placeOfPoint_18, q_X5_placeOfPoint_19, q_X5_placeOfPoint_21, q_X5_placeOfPoint_24, q_X5_placeOfPoint_25, q_X5_placeOfPoint_26, q_X5_placeOfPoint_27, q_X5_placeOfPoint_29, q_X5_placeOfPoint_30, q_X5_placeOfPoint_32, q_X5_placeOfPoint_33, q_X5_placeOfPoint_34, q_X5_placeOfPoint_35, q_X5_placeOfPoint_37, q_X5_placeOfPoint_38, i_add, i_sub, i_mul, i_neg, i_lt, i_le, i_eq, i_tm, i_div, i_j, j_i, j_add, j_sub, j_mul, j_neg, j_lt, j_le, j_eq, j_div, c_lt, c_le, c_gt, c_ge, c_eq, i_nat, rz_k, Nat.add_zero, Nat.zero_add, Nat.add_assoc, Nat.reduceAdd, if_true, if_false, if_neg h1, if_neg h2, if_neg h3, if_pos h4]
        · rw [if_neg (by omega)]
          simp (disch := first | exact nl_i | exact nl_r | exact nl_0 | exact nl_n | exact nl_x | exact kd_r | exact kd_n | exact kd_x | exact kd_o | exact cats0 | exact cats1 | exact cats2 | exact cats3 | exact cats4 | exact nr_i | exact nr_l | exact nr_z0 | exact nr_z1 | exact ft_i | exact ft_l | omega | rfl | assumption | (refine i_ne0 ?_ ?_ ?_ <;> omega) | (refine j_ne0 ?_ ?_ ?_ <;> omega) | (refine i_new ?_ ?_ <;> omega) | (refine bl_t ?_; with_unfolding_all rfl) | exact ft_z0 | exact ft_z1) only [n_X5_placeOfPoint, q_X5_placeOfPoint_0, q_X5_placeOfPoint_1, q_X5_placeOfPoint_3, q_X5_placeOfPoint_6, q_X5_placeOfPoint_7, q_X5_placeOfPoint_9, q_X5_placeOfPoint_12, q_X5_placeOfPoint_13, q_X5_placeOfPoint_15, q_X5_placeOfPoint_18, q_X5_placeOfPoint_19, q_X5_placeOfPoint_21, q_X5_placeOfPoint_24, q_X5_placeOfPoint_25, q_X5_placeOfPoint_26, q_X5_placeOfPoint_27, q_X5_placeOfPoint_29, q_X5_placeOfPoint_30, q_X5_placeOfPoint_32, q_X5_placeOfPoint_33, q_X5_placeOfPoint_34, q_X5_placeOfPoint_35, q_X5_placeOfPoint_37, q_X5_placeOfPoint_38, i_add, i_sub, i_mul, i_neg, i_lt, i_le, i_eq, i_tm, i_div, i_j, j_i, j_add, j_sub, j_mul, j_neg, j_lt, j_le, j_eq, j_div, c_lt, c_le, c_gt, c_ge, c_eq, i_nat, rz_k, Nat.add_zero, Nat.zero_add, Nat.add_assoc, Nat.reduceAdd, if_true, if_false, if_neg h1, if_neg h2, if_neg h3, if_neg h4]
/-- an unvisited place is written down -/
theorem x_come1 {cnt : Nat → Int} {q : Nat → Nat} {m : Nat} {x y c : Int} (hl : v_cl w cnt q m) (hx : -30 ≤ x ∧ x ≤ 30) (hy : -30 ≤ y ∧ y ≤ 30) {p : Nat} (hp : (p : Int) = (x + 30) * 61 + y + 30) (hm : m < 3721) (hc : cnt p < 0) (hc1 : -1 ≤ cnt p) : ∃ w', rz_ex X (d + 2) 48 [.ref 26, .int (Int32.ofInt x), .int (Int32.ofInt y), .int (Int32.ofInt c)] w = some (.inl none, w', 0, 0) ∧ rz_fr [26, 27, 28] w w' ∧ v_cl w' (zb_u cnt p c) (zb_u q m p) (m + 1) := by
  obtain ⟨F, Q, h26, h27, h28, hF, hQ⟩ := hl
  have hpl := x_place (X := X) (d := d) (w := w) (x := x) (y := y) (by omega) (by omega)
  rw [if_pos ⟨hx, hy⟩, ← hp] at hpl
  have hFp := hF p (by omega)
  have l26 := w_lt h26
  have l27 := w_lt h27
  have l28 := w_lt h28
  refine ⟨((w.set 27 (.inl (.int, 3721, .inl (upd F p (Int32.ofInt c))))).set 28 (.inl (.int, 3721, .inl (upd Q m (Int32.ofInt p))))).set 26 (.inr (5, [.ref 27, .ref 28, .int (Int32.ofInt ((m : Int) + 1))])), ?_, ?_, ?_⟩
  · have g1 : v_ob (w.set 27 (.inl (.int, 3721, .inl (upd F p (Int32.ofInt c))))) 26 5 [.ref 27, .ref 28, .int (Int32.ofInt m)] := (w_ne (by omega)).trans h26
    have g2 : v_ia (w.set 27 (.inl (.int, 3721, .inl (upd F p (Int32.ofInt c))))) 28 3721 Q := (w_ne (by omega)).trans h28
    have g3 : v_ob ((w.set 27 (.inl (.int, 3721, .inl (upd F p (Int32.ofInt c))))).set 28 (.inl (.int, 3721, .inl (upd Q m (Int32.ofInt p))))) 26 5 [.ref 27, .ref 28, .int (Int32.ofInt m)] := (w_ne (by omega)).trans g1
    simp (disch := first | exact nl_i | exact nl_r | exact nl_0 | exact nl_n | exact nl_x | exact kd_r | exact kd_n | exact kd_x | exact kd_o | exact cats0 | exact cats1 | exact cats2 | exact cats3 | exact cats4 | exact nr_i | exact nr_l | exact nr_z0 | exact nr_z1 | exact ft_i | exact ft_l | omega | rfl | assumption | (refine i_ne0 ?_ ?_ ?_ <;> omega) | (refine j_ne0 ?_ ?_ ?_ <;> omega) | (refine i_new ?_ ?_ <;> omega) | (refine bl_t ?_; with_unfolding_all rfl) | exact ft_z0 | exact ft_z1) only [n_X5_comeTo, q_X5_comeTo_0, q_X5_comeTo_1, q_X5_comeTo_2, q_X5_comeTo_5, q_X5_comeTo_7, q_X5_comeTo_9, q_X5_comeTo_12, q_X5_comeTo_13, q_X5_comeTo_16, q_X5_comeTo_18, q_X5_comeTo_18x, q_X5_comeTo_19, q_X5_comeTo_22, q_X5_comeTo_23, q_X5_comeTo_26, q_X5_comeTo_27, q_X5_comeTo_30, q_X5_comeTo_30x, q_X5_comeTo_31, q_X5_comeTo_34, q_X5_comeTo_35, q_X5_comeTo_38, q_X5_comeTo_40, q_X5_comeTo_41, q_X5_comeTo_42, q_X5_comeTo_43, q_X5_comeTo_46, q_X5_comeTo_47, q_X5_comeTo_50, q_X5_comeTo_52, q_X5_comeTo_53, q_X5_comeTo_54, q_X5_comeTo_54r, q_X5_comeTo_55, q_X5_comeTo_58, q_X5_comeTo_59, q_X5_comeTo_60, q_X5_comeTo_63, i_add, i_sub, i_mul, i_neg, i_lt, i_le, i_eq, i_tm, i_div, i_j, j_i, j_add, j_sub, j_mul, j_neg, j_lt, j_le, j_eq, j_div, c_lt, c_le, c_gt, c_ge, c_eq, i_nat, rz_k, Nat.add_zero, Nat.zero_add, Nat.add_assoc, Nat.reduceAdd, if_true, if_false, hpl, gf_eq h26, List.getElem?_cons_zero, List.getElem?_cons_succ, if_neg (show ¬ (p : Int) < 0 by omega), if_neg (show ¬ 0 ≤ cnt p by omega), if_neg (show ¬ ((3721 : Nat) : Int) ≤ (m : Int) by omega), ai_eq h27, ln_eq h28, Int.toNat_natCast, hFp, si_eq h27, gf_eq g1, si_eq g2, gf_eq g3, pf_eq g3, List.set_cons_zero, List.set_cons_succ, Int.reduceNeg]
  · exact fr_trans (fr_trans (fr_set (by decide)) (fr_set (by decide))) (fr_set (by decide))
  · refine ⟨upd F p (Int32.ofInt c), upd Q m (Int32.ofInt p), ?_, ?_, ?_, ?_, ?_⟩
    · unfold v_ob
      rw [w_eq (by simpa using l26), Int.natCast_add]
      rfl
    · exact (w_ne (by omega)).trans ((w_ne (by omega)).trans (w_eq l27))
    · exact (w_ne (by omega)).trans (w_eq (by simpa using l28))
    · intro z hz
      unfold zb_u
      by_cases h : z = p
      · rw [if_pos h, h, upd_eq]
      · rw [if_neg h, upd_ne h, hF z hz]
    · intro j hj
      unfold zb_u
      by_cases h : j = m
      · rw [if_pos h, h, upd_eq]
      · rw [if_neg h, upd_ne h, hQ j (by omega)]
theorem zb_bd {a b : Nat} {cnt : Nat → Int} {q : Nat → Nat} {m h p : Nat} (hB : zb_B a b cnt q m h) (hp : p < 3721) : -1 ≤ cnt p ∧ cnt p ≤ 3721 ∧ m ≤ 3721 := by
  obtain ⟨b1, b2, b3, b4, b5, b6, b7, b8, b9, b10⟩ := hB
  have h1 := b9 p hp
  have h2 := zb_v_le cnt 3721
  rcases Int.lt_or_le (cnt p) 0 with h | h
  · omega
  · obtain ⟨j, hj, e⟩ := b2 p hp h
    have := (b1 j hj).2.2
    rw [e] at this
    omega
theorem zb_top {a b : Nat} {cnt : Nat → Int} {q : Nat → Nat} {m h p : Nat} (hB : zb_B a b cnt q m h) (hp : p < 3721) (hh : h < m) (hc : 0 ≤ cnt p) : cnt p ≤ cnt (q h) + 1 := by
  obtain ⟨b1, b2, b3, b4, b5, b6, b7, b8, b9, b10⟩ := hB
  obtain ⟨j, hj, e⟩ := b2 p hp hc
  rw [← e]
  exact b4 hh j hj
theorem zb_pl {p : Nat} {x y : Int} (h1 : ((p / 61 : Nat) : Int) = x) (h2 : ((p % 61 : Nat) : Int) = y) : (p : Int) = x * 61 + y := by omega
theorem x_come {a b : Nat} {cnt : Nat → Int} {q : Nat → Nat} {m h : Nat} {x y c : Int} (hl : v_cl w cnt q m) (hB : zb_B a b cnt q m h) (hh : h < m) (hx : -100 ≤ x ∧ x ≤ 100) (hy : -100 ≤ y ∧ y ≤ 100) (hN : ∀ p, p < 3721 → ((p / 61 : Nat) : Int) = x + 30 → ((p % 61 : Nat) : Int) = y + 30 → zb_N a b (q h) p) (hc : cnt (q h) + 1 = c) : ∃ w' cnt' q' m', rz_ex X (d + 2) 48 [.ref 26, .int (Int32.ofInt x), .int (Int32.ofInt y), .int (Int32.ofInt c)] w = some (.inl none, w', 0, 0) ∧ rz_fr [26, 27, 28] w w' ∧ v_cl w' cnt' q' m' ∧ zb_B a b cnt' q' m' h ∧ h < m' ∧ q' h = q h ∧ (∀ p, 0 ≤ cnt p → cnt' p = cnt p) ∧ (∀ p, p < 3721 → ((p / 61 : Nat) : Int) = x + 30 → ((p % 61 : Nat) : Int) = y + 30 → 0 ≤ cnt' p ∧ cnt' p ≤ c) := by
  have hpl := x_place (X := X) (d := d) (w := w) (x := x) (y := y) (by omega) (by omega)
  by_cases hin : (-30 ≤ x ∧ x ≤ 30) ∧ -30 ≤ y ∧ y ≤ 30
  · rw [if_pos hin] at hpl
    obtain ⟨p, hp⟩ := Int.eq_ofNat_of_zero_le (show 0 ≤ (x + 30) * 61 + y + 30 by omega)
    have hpb : p < 3721 := by omega
    have e1 : ((p / 61 : Nat) : Int) = x + 30 := by omega
    have e2 : ((p % 61 : Nat) : Int) = y + 30 := by omega
    have hu : ∀ z, z < 3721 → ((z / 61 : Nat) : Int) = x + 30 → ((z % 61 : Nat) : Int) = y + 30 → z = p := fun z _ h1 h2 => by have := zb_pl h1 h2; omega
    have hbd := zb_bd hB hpb
    by_cases hv : 0 ≤ cnt p
    · obtain ⟨F, Q, h26, h27, h28, hF, hQ⟩ := id hl
      have htop := zb_top hB hpb hh hv
      refine ⟨w, cnt, q, m, ?_, fr_refl, hl, hB, hh, rfl, fun _ _ => rfl, fun z hz h1 h2 => ?_⟩
      · rw [hp] at hpl
        simp (disch := first | exact nl_i | exact nl_r | exact nl_0 | exact nl_n | exact nl_x | exact kd_r | exact kd_n | exact kd_x | exact kd_o | exact cats0 | exact cats1 | exact cats2 | exact cats3 | exact cats4 | exact nr_i | exact nr_l | exact nr_z0 | exact nr_z1 | exact ft_i | exact ft_l | omega | rfl | assumption | (refine i_ne0 ?_ ?_ ?_ <;> omega) | (refine j_ne0 ?_ ?_ ?_ <;> omega) | (refine i_new ?_ ?_ <;> omega) | (refine bl_t ?_; with_unfolding_all rfl) | exact ft_z0 | exact ft_z1) only [n_X5_comeTo, q_X5_comeTo_0, q_X5_comeTo_1, q_X5_comeTo_2, q_X5_comeTo_5, q_X5_comeTo_7, q_X5_comeTo_9, q_X5_comeTo_12, q_X5_comeTo_13, q_X5_comeTo_16, q_X5_comeTo_18, q_X5_comeTo_18x, q_X5_comeTo_19, q_X5_comeTo_22, q_X5_comeTo_23, q_X5_comeTo_26, q_X5_comeTo_27, q_X5_comeTo_30, q_X5_comeTo_30x, q_X5_comeTo_31, q_X5_comeTo_34, q_X5_comeTo_35, q_X5_comeTo_38, q_X5_comeTo_40, q_X5_comeTo_41, q_X5_comeTo_42, q_X5_comeTo_43, q_X5_comeTo_46, q_X5_comeTo_47, q_X5_comeTo_50, q_X5_comeTo_52, q_X5_comeTo_53, q_X5_comeTo_54, q_X5_comeTo_54r, q_X5_comeTo_55, q_X5_comeTo_58, q_X5_comeTo_59, q_X5_comeTo_60, q_X5_comeTo_63, i_add, i_sub, i_mul, i_neg, i_lt, i_le, i_eq, i_tm, i_div, i_j, j_i, j_add, j_sub, j_mul, j_neg, j_lt, j_le, j_eq, j_div, c_lt, c_le, c_gt, c_ge, c_eq, i_nat, rz_k, Nat.add_zero, Nat.zero_add, Nat.add_assoc, Nat.reduceAdd, if_true, if_false, hpl, gf_eq h26, List.getElem?_cons_zero, List.getElem?_cons_succ, if_neg (show ¬ (p : Int) < 0 by omega), ai_eq h27, Int.toNat_natCast, hF p hpb, if_pos hv]
      · rw [hu z hz h1 h2]
        omega
    · have hN' := hN p hpb e1 e2
      obtain ⟨hm3, hB', hq'⟩ := zb_come hB hh hpb hN' (by omega)
      obtain ⟨w', e, f, hl'⟩ := x_come1 (X := X) (d := d) (c := c) hl hin.1 hin.2 (p := p) hp.symm hm3 (by omega) hbd.1
      rw [hc] at hB' hq'
      refine ⟨w', zb_u cnt p c, zb_u q m p, m + 1, e, f, hl', hB', by omega, if_neg (by omega), fun z hz => if_neg (fun hzp => hv (by rw [← hzp]; exact hz)), fun z hz h1 h2 => ?_⟩
      rw [hu z hz h1 h2, show zb_u cnt p c p = c from if_pos rfl]
      have := hB.1 h hh
      omega
  · rw [if_neg hin] at hpl
    obtain ⟨F, Q, h26, h27, h28, hF, hQ⟩ := id hl
    refine ⟨w, cnt, q, m, ?_, fr_refl, hl, hB, hh, rfl, fun _ _ => rfl, fun z hz h1 h2 => ?_⟩
    · simp (disch := first | exact nl_i | exact nl_r | exact nl_0 | exact nl_n | exact nl_x | exact kd_r | exact kd_n | exact kd_x | exact kd_o | exact cats0 | exact cats1 | exact cats2 | exact cats3 | exact cats4 | exact nr_i | exact nr_l | exact nr_z0 | exact nr_z1 | exact ft_i | exact ft_l | omega | rfl | assumption | (refine i_ne0 ?_ ?_ ?_ <;> omega) | (refine j_ne0 ?_ ?_ ?_ <;> omega) | (refine i_new ?_ ?_ <;> omega) | (refine bl_t ?_; with_unfolding_all rfl) | exact ft_z0 | exact ft_z1) only [n_X5_comeTo, q_X5_comeTo_0, q_X5_comeTo_1, q_X5_comeTo_2, q_X5_comeTo_5, q_X5_comeTo_7, q_X5_comeTo_9, q_X5_comeTo_12, q_X5_comeTo_13, q_X5_comeTo_16, q_X5_comeTo_18, q_X5_comeTo_18x, q_X5_comeTo_19, q_X5_comeTo_22, q_X5_comeTo_23, q_X5_comeTo_26, q_X5_comeTo_27, q_X5_comeTo_30, q_X5_comeTo_30x, q_X5_comeTo_31, q_X5_comeTo_34, q_X5_comeTo_35, q_X5_comeTo_38, q_X5_comeTo_40, q_X5_comeTo_41, q_X5_comeTo_42, q_X5_comeTo_43, q_X5_comeTo_46, q_X5_comeTo_47, q_X5_comeTo_50, q_X5_comeTo_52, q_X5_comeTo_53, q_X5_comeTo_54, q_X5_comeTo_54r, q_X5_comeTo_55, q_X5_comeTo_58, q_X5_comeTo_59, q_X5_comeTo_60, q_X5_comeTo_63, i_add, i_sub, i_mul, i_neg, i_lt, i_le, i_eq, i_tm, i_div, i_j, j_i, j_add, j_sub, j_mul, j_neg, j_lt, j_le, j_eq, j_div, c_lt, c_le, c_gt, c_ge, c_eq, i_nat, rz_k, Nat.add_zero, Nat.zero_add, Nat.add_assoc, Nat.reduceAdd, if_true, if_false, hpl, if_pos (show (-1 : Int) < 0 by omega)]
    · exfalso
      omega
theorem ax_eq2 {e n : Nat} {f : Nat → Int32} {i : Int} {Ki : Int32 → Option rz_R} (h : X e = some (n, f)) (h1 : 0 ≤ i) (h2 : i < n) (h3 : i ≤ 2147483647) : rz_ax X e (Int32.ofInt i) Ki = Ki (f i.toNat) := by
  unfold rz_ax; rw [h]; dsimp only; rw [if_neg (i_in h1 h2 h3), i_nat h1 h3]
theorem lx_eq2 {e n : Nat} {f : Nat → Int32} {Ki : Int32 → Option rz_R} (h : X e = some (n, f)) : rz_lx X e Ki = Ki (Int32.ofInt n) := by
  unfold rz_lx; rw [h]; rfl
theorem l_way {a b : Nat} {cnt : Nat → Int} {q : Nat → Nat} {m h : Nat} {x y c sx sy k : Int} {f g : Nat → Int32} (hX1 : X 1 = some (4, f)) (hX2 : X 2 = some (4, g)) (hk : 0 ≤ k ∧ k ≤ 3) (hsx : f k.toNat = Int32.ofInt sx) (hsy : g k.toNat = Int32.ofInt sy) (tx : sx = 1 ∨ sx = -1) (ty : sy = 1 ∨ sy = -1) (ha : a ≤ 4) (hb : b ≤ 4) (hl : v_cl w cnt q m) (hB : zb_B a b cnt q m h) (hh : h < m) (hx : ((q h / 61 : Nat) : Int) = x + 30) (hy : ((q h % 61 : Nat) : Int) = y + 30) (hc : cnt (q h) + 1 = c) : ∃ w' cnt' q' m', rz_G X (d + 3) mz_X5_leapFrom 45 [some (.ref 26), some (.int (Int32.ofInt ((q h : Nat) : Int))), some (.int (Int32.ofInt (a : Int))), some (.int (Int32.ofInt (b : Int))), some (.int (Int32.ofInt x)), some (.int (Int32.ofInt y)), some (.int (Int32.ofInt c)), some (.int (Int32.ofInt k))] [] w nc ns = rz_G X (d + 3) mz_X5_leapFrom 45 [some (.ref 26), some (.int (Int32.ofInt ((q h : Nat) : Int))), some (.int (Int32.ofInt (a : Int))), some (.int (Int32.ofInt (b : Int))), some (.int (Int32.ofInt x)), some (.int (Int32.ofInt y)), some (.int (Int32.ofInt c)), some (.int (Int32.ofInt (k + 1)))] [] w' nc ns ∧ rz_fr [26, 27, 28] w w' ∧ v_cl w' cnt' q' m' ∧ zb_B a b cnt' q' m' h ∧ h < m' ∧ q' h = q h ∧ (∀ p, 0 ≤ cnt p → cnt' p = cnt p) ∧ (∀ p, p < 3721 → (((p / 61 : Nat) : Int) = x + sx * a + 30 ∧ ((p % 61 : Nat) : Int) = y + sy * b + 30) ∨ (((p / 61 : Nat) : Int) = x + sx * b + 30 ∧ ((p % 61 : Nat) : Int) = y + sy * a + 30) → 0 ≤ cnt' p ∧ cnt' p ≤ c) := by
  have ga : ∀ {s : Int}, (s = 1 ∨ s = -1) → ∀ n : Nat, s * (n : Int) = n ∨ s * (n : Int) = -n := by
    rintro s (rfl | rfl) n
    · left; omega
    · right; omega
  have a1 := ga tx a
  have a2 := ga tx b
  have a3 := ga ty a
  have a4 := ga ty b
  have hq61 := (hB.1 h hh).1
  have q1 : q h / 61 ≤ 60 := by omega
  have q2 : q h % 61 ≤ 60 := by omega
  generalize hs1 : sx * (a : Int) = sa at *
  generalize hs2 : sx * (b : Int) = sb at *
  generalize hs3 : sy * (a : Int) = ta at *
  generalize hs4 : sy * (b : Int) = tb at *
  obtain ⟨w1, c1, q1', m1, e1, f1, l1, B1, h1, k1, n1, v1⟩ := x_come (X := X) (d := d + 1) (x := x + sa) (y := y + tb) hl hB hh (by omega) (by omega) (by
    intro p hp z1 z2
    refine ⟨hp, .inl ⟨?_, ?_⟩⟩ <;> omega) hc
  have hc0 := (hB.1 h hh).2.1
  have hc1 : c1 (q1' h) + 1 = c := by rw [k1, n1 _ hc0]; exact hc
  obtain ⟨w2, c2, q2', m2, e2, f2, l2, B2, h2, k2, n2, v2⟩ := x_come (X := X) (d := d + 1) (x := x + sb) (y := y + ta) l1 B1 h1 (by omega) (by omega) (by
    intro p hp z1 z2
    rw [k1]
    refine ⟨hp, .inr ⟨?_, ?_⟩⟩ <;> omega) hc1
  refine ⟨w2, c2, q2', m2, ?_, fr_trans f1 f2, l2, B2, h2, k2.trans k1, fun p hp => ?_, ?_⟩
  · obtain ⟨F, Q, h26, h27, h28, hF, hQ⟩ := hl
    obtain ⟨F1, Q1, g26, g27, g28, hF1, hQ1⟩ := l1
    rw [q_X5_leapFrom_45]
    simp (disch := first | exact nl_i | exact nl_r | exact nl_0 | exact nl_n | exact nl_x | exact kd_r | exact kd_n | exact kd_x | exact kd_o | exact cats0 | exact cats1 | exact cats2 | exact cats3 | exact cats4 | exact nr_i | exact nr_l | exact nr_z0 | exact nr_z1 | exact ft_i | exact ft_l | omega | rfl | assumption | (refine i_ne0 ?_ ?_ ?_ <;> omega) | (refine j_ne0 ?_ ?_ ?_ <;> omega) | (refine i_new ?_ ?_ <;> omega) | (refine bl_t ?_; with_unfolding_all rfl) | exact ft_z0 | exact ft_z1) only [q_X5_leapFrom_47, q_X5_leapFrom_50, q_X5_leapFrom_50x, q_X5_leapFrom_51, q_X5_leapFrom_54, q_X5_leapFrom_55, q_X5_leapFrom_57, q_X5_leapFrom_60, q_X5_leapFrom_62, q_X5_leapFrom_62x, q_X5_leapFrom_63, q_X5_leapFrom_64, q_X5_leapFrom_65, q_X5_leapFrom_66, q_X5_leapFrom_68, q_X5_leapFrom_71, q_X5_leapFrom_73, q_X5_leapFrom_73x, q_X5_leapFrom_74, q_X5_leapFrom_75, q_X5_leapFrom_76, q_X5_leapFrom_77, q_X5_leapFrom_79, q_X5_leapFrom_82, q_X5_leapFrom_83, q_X5_leapFrom_85, q_X5_leapFrom_88, q_X5_leapFrom_90, q_X5_leapFrom_90x, q_X5_leapFrom_91, q_X5_leapFrom_92, q_X5_leapFrom_93, q_X5_leapFrom_94, q_X5_leapFrom_96, q_X5_leapFrom_99, q_X5_leapFrom_101, q_X5_leapFrom_101x, q_X5_leapFrom_102, q_X5_leapFrom_103, q_X5_leapFrom_104, q_X5_leapFrom_105, q_X5_leapFrom_107, q_X5_leapFrom_110, q_X5_leapFrom_113, i_add, i_sub, i_mul, i_neg, i_lt, i_le, i_eq, i_tm, i_div, i_j, j_i, j_add, j_sub, j_mul, j_neg, j_lt, j_le, j_eq, j_div, c_lt, c_le, c_gt, c_ge, c_eq, i_nat, rz_k, Nat.add_zero, Nat.zero_add, Nat.add_assoc, Nat.reduceAdd, if_true, if_false, lx_eq2 hX1, ax_eq2 hX1, ax_eq2 hX2, hsx, hsy, hs1, hs2, hs3, hs4, vk_eq h26, vk_eq g26, e1, e2, if_neg (show ¬ ((4 : Nat) : Int) ≤ k by omega)]
  · rw [n2 p (by rw [n1 p hp]; exact hp), n1 p hp]
  · rintro p hp (⟨z1, z2⟩ | ⟨z1, z2⟩)
    · have := v1 p hp z1 z2
      rw [n2 p this.1]
      exact this
    · exact v2 p hp z1 z2
theorem x_leapFrom {a b : Nat} {cnt : Nat → Int} {q : Nat → Nat} {m h : Nat} {f g : Nat → Int32} (hX1 : X 1 = some (4, f)) (hX2 : X 2 = some (4, g)) (hf : f 0 = Int32.ofInt 1 ∧ f 1 = Int32.ofInt 1 ∧ f 2 = Int32.ofInt (-1) ∧ f 3 = Int32.ofInt (-1)) (hg : g 0 = Int32.ofInt 1 ∧ g 1 = Int32.ofInt (-1) ∧ g 2 = Int32.ofInt 1 ∧ g 3 = Int32.ofInt (-1)) (ha : a ≤ 4) (hb : b ≤ 4) (hl : v_cl w cnt q m) (hB : zb_B a b cnt q m h) (hh : h < m) : ∃ w' cnt' q' m', rz_ex X (d + 4) 47 [.ref 26, .int (Int32.ofInt ((q h : Nat) : Int)), .int (Int32.ofInt (a : Int)), .int (Int32.ofInt (b : Int))] w = some (.inl none, w', 0, 0) ∧ rz_fr [26, 27, 28] w w' ∧ v_cl w' cnt' q' m' ∧ zb_B a b cnt' q' m' (h + 1) := by
  have hq := hB.1 h hh
  have hx : ((q h / 61 : Nat) : Int) = ((q h / 61 : Nat) : Int) - 30 + 30 := by omega
  have hy : ((q h % 61 : Nat) : Int) = ((q h % 61 : Nat) : Int) - 30 + 30 := by omega
  have hbd := zb_bd hB hq.1
  obtain ⟨w1, c1, q1, m1, e1, f1, l1, B1, h1, k1, n1, v1⟩ := l_way (X := X) (d := d) (nc := 0) (ns := 0) (k := 0) (sx := 1) (sy := 1) hX1 hX2 (by omega) hf.1 hg.1 (.inl rfl) (.inl rfl) ha hb hl hB hh hx hy rfl
  have c0 : 0 ≤ cnt (q h) := hq.2.1
  have z1 : c1 (q1 h) = cnt (q h) := by rw [k1, n1 _ c0]
  obtain ⟨w2, c2, q2, m2, e2, f2, l2, B2, h2, k2, n2, v2⟩ := l_way (X := X) (d := d) (nc := 0) (ns := 0) (k := 1) (sx := 1) (sy := -1) hX1 hX2 (by omega) hf.2.1 hg.2.1 (.inl rfl) (.inr rfl) ha hb l1 B1 h1 (by rw [k1]; exact hx) (by rw [k1]; exact hy) (by rw [z1])
  have z2 : c2 (q2 h) = cnt (q h) := by rw [k2, n2 _ (by rw [z1]; exact c0), z1]
  obtain ⟨w3, c3, q3, m3, e3, f3, l3, B3, h3, k3, n3, v3⟩ := l_way (X := X) (d := d) (nc := 0) (ns := 0) (k := 2) (sx := -1) (sy := 1) hX1 hX2 (by omega) hf.2.2.1 hg.2.2.1 (.inr rfl) (.inl rfl) ha hb l2 B2 h2 (by rw [k2, k1]; exact hx) (by rw [k2, k1]; exact hy) (by rw [z2])
  have z3 : c3 (q3 h) = cnt (q h) := by rw [k3, n3 _ (by rw [z2]; exact c0), z2]
  obtain ⟨w4, c4, q4, m4, e4, f4, l4, B4, h4, k4, n4, v4⟩ := l_way (X := X) (d := d) (nc := 0) (ns := 0) (k := 3) (sx := -1) (sy := -1) hX1 hX2 (by omega) hf.2.2.2 hg.2.2.2 (.inr rfl) (.inr rfl) ha hb l3 B3 h3 (by rw [k3, k2, k1]; exact hx) (by rw [k3, k2, k1]; exact hy) (by rw [z3])
  have z4 : c4 (q4 h) = cnt (q h) := by rw [k4, n4 _ (by rw [z3]; exact c0), z3]
  refine ⟨w4, c4, q4, m4, ?_, fr_trans (fr_trans f1 f2) (fr_trans f3 f4), l4, zb_next B4 h4 ?_⟩
  · obtain ⟨F, Q, h26, h27, h28, hF, hQ⟩ := hl
    rw [k1] at e2
    rw [k2, k1] at e3
    rw [k3, k2, k1] at e4
    have t1 : (((q h : Nat) : Int)).tdiv 61 = ((q h / 61 : Nat) : Int) := (Int.ofNat_tdiv _ _).symm
    have t2 : ((q h : Nat) : Int) - ((q h / 61 : Nat) : Int) * 61 = ((q h % 61 : Nat) : Int) := by omega
    have t3 : ((3721 : Nat) : Int) = 3721 := rfl
    simp (disch := first | exact nl_i | exact nl_r | exact nl_0 | exact nl_n | exact nl_x | exact kd_r | exact kd_n | exact kd_x | exact kd_o | exact cats0 | exact cats1 | exact cats2 | exact cats3 | exact cats4 | exact nr_i | exact nr_l | exact nr_z0 | exact nr_z1 | exact ft_i | exact ft_l | omega | rfl | assumption | (refine i_ne0 ?_ ?_ ?_ <;> omega) | (refine j_ne0 ?_ ?_ ?_ <;> omega) | (refine i_new ?_ ?_ <;> omega) | (refine bl_t ?_; with_unfolding_all rfl) | exact ft_z0 | exact ft_z1) only [n_X5_leapFrom, q_X5_leapFrom_0, q_X5_leapFrom_1, q_X5_leapFrom_4, q_X5_leapFrom_5, q_X5_leapFrom_6, q_X5_leapFrom_9, q_X5_leapFrom_9x, q_X5_leapFrom_10, q_X5_leapFrom_13, q_X5_leapFrom_14, q_X5_leapFrom_15, q_X5_leapFrom_17, q_X5_leapFrom_18, q_X5_leapFrom_20, q_X5_leapFrom_21, q_X5_leapFrom_23, q_X5_leapFrom_24, q_X5_leapFrom_26, q_X5_leapFrom_27, q_X5_leapFrom_29, q_X5_leapFrom_30, q_X5_leapFrom_32, q_X5_leapFrom_33, q_X5_leapFrom_36, q_X5_leapFrom_37, q_X5_leapFrom_37x, q_X5_leapFrom_38, q_X5_leapFrom_39, q_X5_leapFrom_40, q_X5_leapFrom_42, q_X5_leapFrom_43, i_add, i_sub, i_mul, i_neg, i_lt, i_le, i_eq, i_tm, i_div, i_j, j_i, j_add, j_sub, j_mul, j_neg, j_lt, j_le, j_eq, j_div, c_lt, c_le, c_gt, c_ge, c_eq, i_nat, rz_k, Nat.add_zero, Nat.zero_add, Nat.add_assoc, Nat.reduceAdd, if_true, if_false, gf_eq h26, List.getElem?_cons_zero, List.getElem?_cons_succ, ln_eq h27, ai_eq h27, Int.toNat_natCast, hF _ hq.1, if_neg (show ¬ ((q h : Nat) : Int) < 0 by omega), if_pos (show ((q h : Nat) : Int) < ((3721 : Nat) : Int) by omega), t1, t2, if_pos (show ((q h : Nat) : Int) < 3721 by omega)]
    refine Eq.trans e1 ?_
    refine Eq.trans e2 ?_
    refine Eq.trans e3 ?_
    refine Eq.trans e4 ?_
    rw [q_X5_leapFrom_45]
    simp (disch := first | exact nl_i | exact nl_r | exact nl_0 | exact nl_n | exact nl_x | exact kd_r | exact kd_n | exact kd_x | exact kd_o | exact cats0 | exact cats1 | exact cats2 | exact cats3 | exact cats4 | exact nr_i | exact nr_l | exact nr_z0 | exact nr_z1 | exact ft_i | exact ft_l | omega | rfl | assumption | (refine i_ne0 ?_ ?_ ?_ <;> omega) | (refine j_ne0 ?_ ?_ ?_ <;> omega) | (refine i_new ?_ ?_ <;> omega) | (refine bl_t ?_; with_unfolding_all rfl) | exact ft_z0 | exact ft_z1) only [q_X5_leapFrom_47, q_X5_leapFrom_50, q_X5_leapFrom_50x, q_X5_leapFrom_51, q_X5_leapFrom_116, i_add, i_sub, i_mul, i_neg, i_lt, i_le, i_eq, i_tm, i_div, i_j, j_i, j_add, j_sub, j_mul, j_neg, j_lt, j_le, j_eq, j_div, c_lt, c_le, c_gt, c_ge, c_eq, i_nat, rz_k, Nat.add_zero, Nat.zero_add, Nat.add_assoc, Nat.reduceAdd, if_true, if_false, lx_eq2 hX1, if_pos (show ((4 : Nat) : Int) ≤ 3 + 1 by omega)]
  · intro p hp
    rw [k4, k3, k2, k1] at hp
    obtain ⟨hp1, hp2⟩ := hp
    rw [z4]
    have m4 : ∀ z, 0 ≤ c3 z → c4 z = c3 z := n4
    have w3' : ∀ z, 0 ≤ c2 z → c4 z = c2 z := fun z hz => by rw [n4 z (by rw [n3 z hz]; exact hz), n3 z hz]
    have w2' : ∀ z, 0 ≤ c1 z → c4 z = c1 z := fun z hz => by rw [w3' z (by rw [n2 z hz]; exact hz), n2 z hz]
    have V1 := v1 p hp1
    have V2 := v2 p hp1
    have V3 := v3 p hp1
    have V4 := v4 p hp1
    have go1 : (0 ≤ c1 p ∧ c1 p ≤ cnt (q h) + 1) → 0 ≤ c4 p ∧ c4 p ≤ cnt (q h) + 1 := fun hh => by rw [w2' p hh.1]; exact hh
    have go2 : (0 ≤ c2 p ∧ c2 p ≤ cnt (q h) + 1) → 0 ≤ c4 p ∧ c4 p ≤ cnt (q h) + 1 := fun hh => by rw [w3' p hh.1]; exact hh
    have go3 : (0 ≤ c3 p ∧ c3 p ≤ cnt (q h) + 1) → 0 ≤ c4 p ∧ c4 p ≤ cnt (q h) + 1 := fun hh => by rw [n4 p hh.1]; exact hh
    clear v1 v2 v3 v4 n1 n2 n3 n4 m4 w3' w2'
    have key : ∀ (u v : Int) (s t : Nat), u.natAbs = s → v.natAbs = t → (u = 1 * (s : Int) ∨ u = -1 * (s : Int)) ∧ (v = 1 * (t : Int) ∨ v = -1 * (t : Int)) := by
      intro u v s t h1 h2
      omega
    rcases hp2 with ⟨r1, r2⟩ | ⟨r1, r2⟩
    · obtain ⟨u1 | u1, u2 | u2⟩ := key _ _ _ _ r1 r2
      · exact go1 (V1 (.inl ⟨by omega, by omega⟩))
      · exact go2 (V2 (.inl ⟨by omega, by omega⟩))
      · exact go3 (V3 (.inl ⟨by omega, by omega⟩))
      · exact V4 (.inl ⟨by omega, by omega⟩)
    · obtain ⟨u1 | u1, u2 | u2⟩ := key _ _ _ _ r1 r2
      · exact go1 (V1 (.inr ⟨by omega, by omega⟩))
      · exact go2 (V2 (.inr ⟨by omega, by omega⟩))
      · exact go3 (V3 (.inr ⟨by omega, by omega⟩))
      · exact V4 (.inr ⟨by omega, by omega⟩)
theorem l_count {a b p : Nat} {x1 y1 : Int32} {f g : Nat → Int32} (hX1 : X 1 = some (4, f)) (hX2 : X 2 = some (4, g)) (hf : f 0 = Int32.ofInt 1 ∧ f 1 = Int32.ofInt 1 ∧ f 2 = Int32.ofInt (-1) ∧ f 3 = Int32.ofInt (-1)) (hg : g 0 = Int32.ofInt 1 ∧ g 1 = Int32.ofInt (-1) ∧ g 2 = Int32.ofInt 1 ∧ g 3 = Int32.ofInt (-1)) (ha : a ≤ 4) (hb : b ≤ 4) (hp : p < 3721) (n : Nat) : ∀ (w : rz_W) (cnt : Nat → Int) (q : Nat → Nat) (m h : Nat), 3721 - h = n → v_cl w cnt q m → zb_B a b cnt q m h → ∃ w' cnt', rz_G X (d + 4) mz_X5_countTo 38 [some (.ref 26), some (.int (Int32.ofInt (a : Int))), some (.int (Int32.ofInt (b : Int))), some (.int x1), some (.int y1), some (.int (Int32.ofInt (p : Int))), some (.int (Int32.ofInt (h : Int)))] [] w nc ns = some (.inl (some (.int (Int32.ofInt (cnt' p)))), w', nc, ns) ∧ rz_fr [26, 27, 28] w w' ∧ (∃ q' m', v_cl w' cnt' q' m') ∧ -1 ≤ cnt' p ∧ cnt' p ≤ 3721 ∧ ((0 ≤ cnt' p ∧ zb_R a b (cnt' p).toNat p ∧ ∀ k, zb_R a b k p → cnt' p ≤ k) ∨ (cnt' p = -1 ∧ ∀ k, ¬ zb_R a b k p)) := by
  induction n with
  | zero =>
    intro w cnt q m h hn hl hB
    have hbd := zb_bd hB hp
    have h10 := hB.2.2.2.2.2.2.2.2.2
    obtain rfl : h = m := by omega
    refine ⟨w, cnt, ?_, fr_refl, ⟨q, h, hl⟩, hbd.1, hbd.2.1, ?_⟩
    · obtain ⟨F, Q, h26, h27, h28, hF, hQ⟩ := hl
      rw [q_X5_countTo_38]
      simp (disch := first | exact nl_i | exact nl_r | exact nl_0 | exact nl_n | exact nl_x | exact kd_r | exact kd_n | exact kd_x | exact kd_o | exact cats0 | exact cats1 | exact cats2 | exact cats3 | exact cats4 | exact nr_i | exact nr_l | exact nr_z0 | exact nr_z1 | exact ft_i | exact ft_l | omega | rfl | assumption | (refine i_ne0 ?_ ?_ ?_ <;> omega) | (refine j_ne0 ?_ ?_ ?_ <;> omega) | (refine i_new ?_ ?_ <;> omega) | (refine bl_t ?_; with_unfolding_all rfl) | exact ft_z0 | exact ft_z1) only [q_X5_countTo_40, q_X5_countTo_41, q_X5_countTo_44, q_X5_countTo_76, q_X5_countTo_77, q_X5_countTo_80, q_X5_countTo_82, q_X5_countTo_82x, q_X5_countTo_83, i_add, i_sub, i_mul, i_neg, i_lt, i_le, i_eq, i_tm, i_div, i_j, j_i, j_add, j_sub, j_mul, j_neg, j_lt, j_le, j_eq, j_div, c_lt, c_le, c_gt, c_ge, c_eq, i_nat, rz_k, Nat.add_zero, Nat.zero_add, Nat.add_assoc, Nat.reduceAdd, if_true, if_false, gf_eq h26, List.getElem?_cons_zero, List.getElem?_cons_succ, ai_eq h27, Int.toNat_natCast, hF _ hp, if_pos (show (h : Int) ≤ h by omega)]
    · rcases Int.lt_or_le (cnt p) 0 with hc | hc
      · exact .inr ⟨by omega, zb_end hB hc⟩
      · exact .inl ⟨hc, zb_is hB hp hc⟩
  | succ n ih =>
    intro w cnt q m h hn hl hB
    have hbd := zb_bd hB hp
    have h10 := hB.2.2.2.2.2.2.2.2.2
    rcases Nat.lt_or_ge h m with hlt | hge
    · rcases Int.lt_or_le (cnt p) 0 with hc | hc
      · obtain ⟨w1, c1, q1, m1, e1, f1, l1, B1⟩ := x_leapFrom (X := X) (d := d) hX1 hX2 hf hg ha hb hl hB hlt
        obtain ⟨w2, c2, e2, f2, r2⟩ := ih w1 c1 q1 m1 (h + 1) (by omega) l1 B1
        refine ⟨w2, c2, ?_, fr_trans f1 f2, r2⟩
        obtain ⟨F, Q, h26, h27, h28, hF, hQ⟩ := hl
        rw [← e2, q_X5_countTo_38]
        simp (disch := first | exact nl_i | exact nl_r | exact nl_0 | exact nl_n | exact nl_x | exact kd_r | exact kd_n | exact kd_x | exact kd_o | exact cats0 | exact cats1 | exact cats2 | exact cats3 | exact cats4 | exact nr_i | exact nr_l | exact nr_z0 | exact nr_z1 | exact ft_i | exact ft_l | omega | rfl | assumption | (refine i_ne0 ?_ ?_ ?_ <;> omega) | (refine j_ne0 ?_ ?_ ?_ <;> omega) | (refine i_new ?_ ?_ <;> omega) | (refine bl_t ?_; with_unfolding_all rfl) | exact ft_z0 | exact ft_z1) only [q_X5_countTo_40, q_X5_countTo_41, q_X5_countTo_44, q_X5_countTo_47, q_X5_countTo_48, q_X5_countTo_51, q_X5_countTo_53, q_X5_countTo_53x, q_X5_countTo_54, q_X5_countTo_57, q_X5_countTo_58, q_X5_countTo_59, q_X5_countTo_62, q_X5_countTo_64, q_X5_countTo_64x, q_X5_countTo_65, q_X5_countTo_66, q_X5_countTo_67, q_X5_countTo_70, q_X5_countTo_73, i_add, i_sub, i_mul, i_neg, i_lt, i_le, i_eq, i_tm, i_div, i_j, j_i, j_add, j_sub, j_mul, j_neg, j_lt, j_le, j_eq, j_div, c_lt, c_le, c_gt, c_ge, c_eq, i_nat, rz_k, Nat.add_zero, Nat.zero_add, Nat.add_assoc, Nat.reduceAdd, if_true, if_false, gf_eq h26, List.getElem?_cons_zero, List.getElem?_cons_succ, ai_eq h27, ai_eq h28, Int.toNat_natCast, hF _ hp, hQ _ hlt, if_neg (show ¬ (m : Int) ≤ h by omega), if_neg (show ¬ 0 ≤ cnt p by omega), vk_eq h26, e1]
        rfl
      · refine ⟨w, cnt, ?_, fr_refl, ⟨q, m, hl⟩, hbd.1, hbd.2.1, .inl ⟨hc, zb_is hB hp hc⟩⟩
        obtain ⟨F, Q, h26, h27, h28, hF, hQ⟩ := hl
        rw [q_X5_countTo_38]
        simp (disch := first | exact nl_i | exact nl_r | exact nl_0 | exact nl_n | exact nl_x | exact kd_r | exact kd_n | exact kd_x | exact kd_o | exact cats0 | exact cats1 | exact cats2 | exact cats3 | exact cats4 | exact nr_i | exact nr_l | exact nr_z0 | exact nr_z1 | exact ft_i | exact ft_l | omega | rfl | assumption | (refine i_ne0 ?_ ?_ ?_ <;> omega) | (refine j_ne0 ?_ ?_ ?_ <;> omega) | (refine i_new ?_ ?_ <;> omega) | (refine bl_t ?_; with_unfolding_all rfl) | exact ft_z0 | exact ft_z1) only [q_X5_countTo_40, q_X5_countTo_41, q_X5_countTo_44, q_X5_countTo_47, q_X5_countTo_48, q_X5_countTo_51, q_X5_countTo_53, q_X5_countTo_53x, q_X5_countTo_54, q_X5_countTo_57, q_X5_countTo_58, q_X5_countTo_59, q_X5_countTo_62, q_X5_countTo_64, q_X5_countTo_64x, q_X5_countTo_65, q_X5_countTo_66, q_X5_countTo_67, q_X5_countTo_70, q_X5_countTo_73, q_X5_countTo_76, q_X5_countTo_77, q_X5_countTo_80, q_X5_countTo_82, q_X5_countTo_82x, q_X5_countTo_83, i_add, i_sub, i_mul, i_neg, i_lt, i_le, i_eq, i_tm, i_div, i_j, j_i, j_add, j_sub, j_mul, j_neg, j_lt, j_le, j_eq, j_div, c_lt, c_le, c_gt, c_ge, c_eq, i_nat, rz_k, Nat.add_zero, Nat.zero_add, Nat.add_assoc, Nat.reduceAdd, if_true, if_false, gf_eq h26, List.getElem?_cons_zero, List.getElem?_cons_succ, ai_eq h27, Int.toNat_natCast, hF _ hp, if_neg (show ¬ (m : Int) ≤ h by omega), if_pos hc]
    · obtain rfl : h = m := by omega
      refine ⟨w, cnt, ?_, fr_refl, ⟨q, h, hl⟩, hbd.1, hbd.2.1, ?_⟩
      · obtain ⟨F, Q, h26, h27, h28, hF, hQ⟩ := hl
        rw [q_X5_countTo_38]
        simp (disch := first | exact nl_i | exact nl_r | exact nl_0 | exact nl_n | exact nl_x | exact kd_r | exact kd_n | exact kd_x | exact kd_o | exact cats0 | exact cats1 | exact cats2 | exact cats3 | exact cats4 | exact nr_i | exact nr_l | exact nr_z0 | exact nr_z1 | exact ft_i | exact ft_l | omega | rfl | assumption | (refine i_ne0 ?_ ?_ ?_ <;> omega) | (refine j_ne0 ?_ ?_ ?_ <;> omega) | (refine i_new ?_ ?_ <;> omega) | (refine bl_t ?_; with_unfolding_all rfl) | exact ft_z0 | exact ft_z1) only [q_X5_countTo_40, q_X5_countTo_41, q_X5_countTo_44, q_X5_countTo_76, q_X5_countTo_77, q_X5_countTo_80, q_X5_countTo_82, q_X5_countTo_82x, q_X5_countTo_83, i_add, i_sub, i_mul, i_neg, i_lt, i_le, i_eq, i_tm, i_div, i_j, j_i, j_add, j_sub, j_mul, j_neg, j_lt, j_le, j_eq, j_div, c_lt, c_le, c_gt, c_ge, c_eq, i_nat, rz_k, Nat.add_zero, Nat.zero_add, Nat.add_assoc, Nat.reduceAdd, if_true, if_false, gf_eq h26, List.getElem?_cons_zero, List.getElem?_cons_succ, ai_eq h27, Int.toNat_natCast, hF _ hp, if_pos (show (h : Int) ≤ h by omega)]
      · rcases Int.lt_or_le (cnt p) 0 with hc | hc
        · exact .inr ⟨by omega, zb_end hB hc⟩
        · exact .inl ⟨hc, zb_is hB hp hc⟩
theorem x_countTo {a b : Nat} {x y : Int} {n0 : Int32} {F Q : Nat → Int32} {f g : Nat → Int32} (hX1 : X 1 = some (4, f)) (hX2 : X 2 = some (4, g)) (hf : f 0 = Int32.ofInt 1 ∧ f 1 = Int32.ofInt 1 ∧ f 2 = Int32.ofInt (-1) ∧ f 3 = Int32.ofInt (-1)) (hg : g 0 = Int32.ofInt 1 ∧ g 1 = Int32.ofInt (-1) ∧ g 2 = Int32.ofInt 1 ∧ g 3 = Int32.ofInt (-1)) (ha : a ≤ 4) (hb : b ≤ 4) (hx : -12 ≤ x ∧ x ≤ 12) (hy : -12 ≤ y ∧ y ≤ 12) (h26 : v_ob w 26 5 [.ref 27, .ref 28, .int n0]) (h27 : v_ia w 27 3721 F) (h28 : v_ia w 28 3721 Q) (hv : v_misc w) : ∃ (w' : rz_W) (r : Int), rz_ex X (d + 5) 46 [.ref 26, .int (Int32.ofInt (a : Int)), .int (Int32.ofInt (b : Int)), .int (Int32.ofInt x), .int (Int32.ofInt y)] w = some (.inl (some (.int (Int32.ofInt r))), w', 0, 0) ∧ rz_fr [26, 27, 28] w w' ∧ v_misc w' ∧ -1 ≤ r ∧ r ≤ 3721 ∧ ((0 ≤ r ∧ zb_R a b r.toNat ((x + 30) * 61 + y + 30).toNat ∧ ∀ k, zb_R a b k ((x + 30) * 61 + y + 30).toNat → r ≤ k) ∨ (r = -1 ∧ ∀ k, ¬ zb_R a b k ((x + 30) * 61 + y + 30).toNat)) := by
  have hpl := fun w => x_place (X := X) (d := d + 3) (w := w) (x := x) (y := y)
  obtain ⟨p, hp⟩ := Int.eq_ofNat_of_zero_le (show 0 ≤ (x + 30) * 61 + y + 30 by omega)
  rw [hp]
  show ∃ (w' : rz_W) (r : Int), _ ∧ _ ∧ _ ∧ _ ∧ _ ∧ ((0 ≤ r ∧ zb_R a b r.toNat p ∧ ∀ k, zb_R a b k p → r ≤ k) ∨ (r = -1 ∧ ∀ k, ¬ zb_R a b k p))
  obtain ⟨F1, e1, hF1⟩ := x_fill (X := X) (d := d + 3) (x := Int32.ofInt (-1)) (show 3721 ≤ 5000 by omega) h27
  have l26 := w_lt h26
  have l27 := w_lt h27
  -- the counts are all -1, the row is empty
  have g26 : v_ob (w.set 27 (.inl (.int, 3721, .inl F1))) 26 5 [.ref 27, .ref 28, .int n0] := (w_ne (by omega)).trans h26
  have k26 : v_ob ((w.set 27 (.inl (.int, 3721, .inl F1))).set 26 (.inr (5, [.ref 27, .ref 28, .int (Int32.ofInt 0)]))) 26 5 [.ref 27, .ref 28, .int (Int32.ofInt ((0 : Nat) : Int))] := w_eq (by simpa using l26)
  have hl0 : v_cl ((w.set 27 (.inl (.int, 3721, .inl F1))).set 26 (.inr (5, [.ref 27, .ref 28, .int (Int32.ofInt 0)]))) (fun _ => -1) (fun _ => 1860) 0 := ⟨F1, Q, k26, (w_ne (by omega)).trans (w_eq l27), (w_ne (by omega)).trans ((w_ne (by omega)).trans h28), fun p hp => hF1 p hp, fun j hj => by omega⟩
  have f0 : rz_fr [26, 27, 28] w ((w.set 27 (.inl (.int, 3721, .inl F1))).set 26 (.inr (5, [.ref 27, .ref 28, .int (Int32.ofInt 0)]))) := fr_trans (fr_set (by decide)) (fr_set (by decide))
  generalize hw0 : (w.set 27 (.inl (.int, 3721, .inl F1))).set 26 (.inr (5, [.ref 27, .ref 28, .int (Int32.ofInt 0)])) = w0 at *
  obtain ⟨w1, e2, f1, hl1⟩ := x_come1 (X := X) (d := d + 2) (x := 0) (y := 0) (c := 0) (p := 1860) hl0 (by omega) (by omega) (by omega) (by omega) (by omega) (by omega)
  have hq0 : zb_u (fun _ => 1860) 0 1860 = (fun _ => 1860 : Nat → Nat) := by
    funext j
    unfold zb_u
    split <;> rfl
  rw [hq0] at hl1
  obtain ⟨w2, c2, e3, f2, ⟨q2, m2, hl2⟩, r1, r2, r3⟩ := l_count (X := X) (d := d) (nc := 0) (ns := 0) (x1 := Int32.ofInt x) (y1 := Int32.ofInt y) hX1 hX2 hf hg ha hb (show p < 3721 by omega) 3721 w1 _ _ _ 0 rfl hl1 zb_start
  have f3 := fr_trans f0 (fr_trans f1 f2)
  refine ⟨w2, c2 p, ?_, f3, ?_, r1, r2, r3⟩
  · have hpl := hpl w0 (by omega) (by omega)
    rw [if_pos (by omega), hp] at hpl
    simp (disch := first | exact nl_i | exact nl_r | exact nl_0 | exact nl_n | exact nl_x | exact kd_r | exact kd_n | exact kd_x | exact kd_o | exact cats0 | exact cats1 | exact cats2 | exact cats3 | exact cats4 | exact nr_i | exact nr_l | exact nr_z0 | exact nr_z1 | exact ft_i | exact ft_l | omega | rfl | assumption | (refine i_ne0 ?_ ?_ ?_ <;> omega) | (refine j_ne0 ?_ ?_ ?_ <;> omega) | (refine i_new ?_ ?_ <;> omega) | (refine bl_t ?_; with_unfolding_all rfl) | exact ft_z0 | exact ft_z1) only [n_X5_countTo, q_X5_countTo_0, q_X5_countTo_1, q_X5_countTo_4, q_X5_countTo_5, q_X5_countTo_8, q_X5_countTo_9, q_X5_countTo_10, q_X5_countTo_13, q_X5_countTo_14, q_X5_countTo_16, q_X5_countTo_19, q_X5_countTo_21, q_X5_countTo_23, q_X5_countTo_26, q_X5_countTo_27, q_X5_countTo_28, q_X5_countTo_29, q_X5_countTo_30, q_X5_countTo_31, q_X5_countTo_32, q_X5_countTo_35, q_X5_countTo_36, i_add, i_sub, i_mul, i_neg, i_lt, i_le, i_eq, i_tm, i_div, i_j, j_i, j_add, j_sub, j_mul, j_neg, j_lt, j_le, j_eq, j_div, c_lt, c_le, c_gt, c_ge, c_eq, i_nat, rz_k, Nat.add_zero, Nat.zero_add, Nat.add_assoc, Nat.reduceAdd, if_true, if_false, gf_eq h26, List.getElem?_cons_zero, List.getElem?_cons_succ, e1, gf_eq g26, pf_eq g26, List.set_cons_zero, List.set_cons_succ, hw0, hpl, if_pos (show 0 ≤ (p : Int) by omega), vk_eq k26, e2]
    exact e3
  · obtain ⟨F, Q, h26, h27, h28, hF, hQ⟩ := hl2
    exact v_misc_lp hv f3 (fun q h => h) h26 h27 h28
end RZLB
