/-! part 45: level 2: calls that change the state: how the invariant comes back; clear, corner -/
section RZCO
variable {X : rz_X} {d : Nat} {w : rz_W} {nc ns : Nat} {kp tl kd ty cl th : Int}
theorem bl_t {k n : Nat} (h : Nat.blt k n = true) : Nat.blt k n = true := h
theorem ft_z0 : fits .boolean (.int (Int32.ofInt 0)) = true := by rfl
theorem ft_z1 : fits .boolean (.int (Int32.ofInt 1)) = true := by rfl
/-- the frame of what is made anew, the law's own cell aside -/
theorem v_misc_fr48 {S : List Nat} {w w' : rz_W} {f : Nat → Int64} (hm : v_misc w) (hf : rz_fr S w w') (hS : ∀ q, q ∈ S → q ∉ [4, 5, 6, 7, 8, 9, 10, 11, 26, 27, 28, 29, 30, 31, 46, 47]) (hl : v_la w' 48 1 f) : v_misc w' := by
  have hn : ∀ q, q ∈ [4, 5, 6, 7, 8, 9, 10, 11, 26, 27, 28, 29, 30, 31, 46, 47] → q ∉ S := fun q h c => hS q c h
  obtain ⟨⟨a, b, c, e, f, g, h, a1⟩, ⟨n2, f2, g2, h2, b1, b2, b3, b4⟩, ⟨n3, m3, u3, f3, g3, c1, c2, c3⟩, ⟨n4, f4, g4, d1, d2, d3⟩, ⟨n5, f5, g5, e1, e2, e3⟩, ⟨f6, g6, k1, k2⟩, f7, l1⟩ := hm
  exact ⟨⟨a, b, c, e, f, g, h, fr_get hf (hn _ (by decide)) a1⟩, ⟨n2, f2, g2, h2, fr_get hf (hn _ (by decide)) b1, fr_get hf (hn _ (by decide)) b2, fr_get hf (hn _ (by decide)) b3, fr_get hf (hn _ (by decide)) b4⟩, ⟨n3, m3, u3, f3, g3, fr_get hf (hn _ (by decide)) c1, fr_get hf (hn _ (by decide)) c2, fr_get hf (hn _ (by decide)) c3⟩, ⟨n4, f4, g4, fr_get hf (hn _ (by decide)) d1, fr_get hf (hn _ (by decide)) d2, fr_get hf (hn _ (by decide)) d3⟩, ⟨n5, f5, g5, fr_get hf (hn _ (by decide)) e1, fr_get hf (hn _ (by decide)) e2, fr_get hf (hn _ (by decide)) e3⟩, ⟨f6, g6, fr_get hf (hn _ (by decide)) k1, fr_get hf (hn _ (by decide)) k2⟩, _, hl⟩
/-- clear -/
theorem ag_clear (hv : v_inv w) : rz_agv X d 133 229 w ∧ ∀ v w1 c1 s1, rz_ex X (d + 30) 133 [.ref 0] w = some (.inl (some v), w1, c1, s1) → ∃ r : Int32, v = .int r := by
  obtain ⟨kp, tl, kd, ty, cl, th, hy, hm, hs, ht, hp, hq, hmi⟩ := id hv
  obtain ⟨px, py, P, Q, R, S, M, O, L, U, pa, pb, pc, ⟨g18, g19, g20, g21, g22, g23, g24, g25, g44, g45⟩, hty, hxy, hcl⟩ := id hq
  have l18 := w_lt g18
  have l32 := w_lt hm
  have e1 : rz_ex X (d + 30) 133 [.ref 0] w = some (.inl (some (.int (Int32.ofInt ty))), w.set 18 (.inr (6, [.int (Int32.ofInt 0), .int (Int32.ofInt 0), .ref 19, .ref 22, .ref 23, .ref 24, .ref 25, .int pa])), 0, 0) := by
    simp (disch := first | exact nl_i | exact nl_r | exact nl_0 | exact nl_n | exact nl_x | exact kd_r | exact kd_n | exact kd_x | exact kd_o | exact cats0 | exact cats1 | exact cats2 | exact cats3 | exact cats4 | exact nr_i | exact nr_l | exact nr_z0 | exact nr_z1 | exact ft_i | exact ft_l | omega | rfl | assumption | (refine i_ne0 ?_ ?_ ?_ <;> omega) | (refine j_ne0 ?_ ?_ ?_ <;> omega) | (refine i_new ?_ ?_ <;> omega) | (refine bl_t ?_; with_unfolding_all rfl) | exact ft_z0 | exact ft_z1) only [n_X10_clear, q_X10_clear_0, q_X10_clear_1, q_X10_clear_4, q_X10_clear_7, n_X6_takeAway, q_X6_takeAway_0, q_X6_takeAway_1, q_X6_takeAway_4, q_X6_takeAway_5, q_X6_takeAway_6, q_X6_takeAway_7, q_X6_takeAway_10, q_X6_takeAway_11, q_X6_takeAway_12, q_X6_takeAway_15, q_X6_takeAway_16, i_add, i_sub, i_mul, i_neg, i_lt, i_le, i_eq, i_tm, i_div, i_j, j_i, j_add, j_sub, j_mul, j_neg, j_lt, j_le, j_eq, j_div, c_lt, c_le, c_gt, c_ge, c_eq, i_nat, rz_k, Nat.add_zero, Nat.zero_add, Nat.add_assoc, Nat.reduceAdd, if_true, if_false, gf_eq hy, gf_eq g18, vk_eq g18, pf_eq g18, List.getElem?_cons_zero, List.getElem?_cons_succ, List.set_cons_zero, List.set_cons_succ, pf_self]
  refine ⟨⟨_, _, 0, 0, _, (w.set 18 (.inr (6, [.int (Int32.ofInt 0), .int (Int32.ofInt 0), .ref 19, .ref 22, .ref 23, .ref 24, .ref 25, .int pa]))).set 32 (rz_mo kp tl kd 0 0 0), 0, 0, e1, (w_ne (by decide)).trans hm, ?_, ?_, by omega, by omega, .inl ⟨_, rfl⟩⟩, ?_⟩
  · have hm1 : v_model (w.set 18 (.inr (6, [.int (Int32.ofInt 0), .int (Int32.ofInt 0), .ref 19, .ref 22, .ref 23, .ref 24, .ref 25, .int pa]))) kp tl kd ty cl th := (w_ne (by decide)).trans hm
    have lm1 := w_lt hm1
    have hm3 : v_model ((w.set 18 (.inr (6, [.int (Int32.ofInt 0), .int (Int32.ofInt 0), .ref 19, .ref 22, .ref 23, .ref 24, .ref 25, .int pa]))).set 32 (rz_mo kp tl kd 0 cl 0)) kp tl kd 0 cl 0 := w_eq (w_lt hm1)
    simp (disch := first | exact nl_i | exact nl_r | exact nl_0 | exact nl_n | exact nl_x | exact kd_r | exact kd_n | exact kd_x | exact kd_o | exact cats0 | exact cats1 | exact cats2 | exact cats3 | exact cats4 | exact nr_i | exact nr_l | exact nr_z0 | exact nr_z1 | exact ft_i | exact ft_l | omega | rfl | assumption | (refine i_ne0 ?_ ?_ ?_ <;> omega) | (refine j_ne0 ?_ ?_ ?_ <;> omega) | (refine i_new ?_ ?_ <;> omega) | (refine bl_t ?_; with_unfolding_all rfl) | exact ft_z0 | exact ft_z1) only [n_X11_clear, q_X11_clear_0, q_X11_clear_1, q_X11_clear_2, q_X11_clear_5, q_X11_clear_6, q_X11_clear_9, q_X11_clear_10, q_X11_clear_11, q_X11_clear_12, q_X11_clear_15, q_X11_clear_16, q_X11_clear_17, q_X11_clear_20, q_X11_clear_21, i_add, i_sub, i_mul, i_neg, i_lt, i_le, i_eq, i_tm, i_div, i_j, j_i, j_add, j_sub, j_mul, j_neg, j_lt, j_le, j_eq, j_div, c_lt, c_le, c_gt, c_ge, c_eq, i_nat, rz_k, Nat.add_zero, Nat.zero_add, Nat.add_assoc, Nat.reduceAdd, if_true, if_false, pf_eq hm1, List.set_cons_zero, List.set_cons_succ, gf_self, List.getElem?_cons_zero, List.getElem?_cons_succ, pf_self]
    rfl
  · have hf : rz_fr [18, 32] w ((w.set 18 (.inr (6, [.int (Int32.ofInt 0), .int (Int32.ofInt 0), .ref 19, .ref 22, .ref 23, .ref 24, .ref 25, .int pa]))).set 32 (rz_mo kp tl kd 0 0 0)) := fr_trans (fr_set (by decide)) (fr_set (by decide))
    refine ⟨kp, tl, kd, 0, 0, 0, fr_get hf (by decide) hy, w_eq (by rw [List.length_set]; exact l32), v_slots_fr hf (by decide) hs, v_text_fr hf (by decide) (by decide) (by decide) ht, v_purse_fr hf (by decide) hp, ?_, v_misc_fr hf (by decide) hmi⟩
    refine ⟨px, py, P, Q, R, S, M, O, L, U, pa, pb, pc, ⟨?_, fr_get hf (by decide) g19, fr_get hf (by decide) g20, fr_get hf (by decide) g21, fr_get hf (by decide) g22, fr_get hf (by decide) g23, fr_get hf (by decide) g24, fr_get hf (by decide) g25, fr_get hf (by decide) g44, fr_get hf (by decide) g45⟩, by omega, fun k => ⟨(hxy k).1, fun h => by omega⟩, .inl rfl⟩
    exact (w_ne (by decide)).trans (w_eq l18)
  · intro v w1 c1 s1 h
    rw [e1] at h
    injection h with h
    injection h with h
    injection h with h
    injection h with h
    exact ⟨_, h.symm⟩
end RZCO
