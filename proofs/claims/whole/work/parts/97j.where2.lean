/-! part 97j: level 2: where: the class -/
section RZWI
variable {X : rz_X} {d : Nat} {w w1 : rz_W} {nc ns : Nat} {x y : Nat → Int} {n : Nat} {kp tl kd ty cl th : Int}
/-- a call that keeps the state, the invariant behind it being known -/
theorem ag_retv {S2 : List Nat} {mx my : Nat} {as : List Value} {es : List String} {z : Bool} {c1 s1 : Nat} {r : Int32} (hv1 : v_inv w1) (hmw1 : v_model w1 kp tl kd ty cl th) (e1 : rz_ex X (d + 29) mx (.ref 0 :: as) w = some (.inl (some (.int r)), w1, c1, s1)) (hS2 : ∀ q, q ∈ S2 → q ∈ rz_scr ∧ q ≠ 48) (hz : z = true → r = Int32.ofInt 0 ∨ r = Int32.ofInt 1)
    (H : ∀ (wr : rz_W), rz_fr [48] w1 wr → v_model wr kp tl kd ty cl th → v_inv wr → ∃ (w2 : rz_W) (c2 s2 : Nat), rz_ex X (d + 30) my (.ref 32 :: as) wr = some (.inl (some (.int r)), w2, c2, s2) ∧ rz_fr (32 :: S2) wr w2 ∧ v_model w2 kp tl kd ty cl 0 ∧ v_misc w2 ∧ c1 + c2 ≤ 1100 ∧ s1 + s2 ≤ 14000) : rz_ag X d mx my z as es w := by
  obtain ⟨f, ho⟩ := v_inv_out hv1
  have l48 := w_lt ho
  have hout : v_la (w1.set 48 (.inl (.long, 1, .inr (.inl (vp_updL f 0 r.toInt64))))) 48 1 (vp_updL f 0 r.toInt64) := w_eq l48
  have hfr : rz_fr [48] w1 (w1.set 48 (.inl (.long, 1, .inr (.inl (vp_updL f 0 r.toInt64))))) := fr_set (by decide)
  have hvr := v_inv_fr hv1 hfr (by decide) (v_misc_out (v_inv_misc hv1) hfr hout)
  have hmr : v_model (w1.set 48 (.inl (.long, 1, .inr (.inl (vp_updL f 0 r.toInt64))))) kp tl kd ty cl th := fr_get hfr (by decide) hmw1
  obtain ⟨w2, c2, s2, e2, f2, m2, hm2, b1, b2⟩ := H _ hfr hmr hvr
  obtain ⟨i1, t1⟩ := v_inv_th hvr hmr 0 f2 (fun q h => (hS2 q h).1) hm2 m2
  refine .inl ⟨r, w1, c1, s1, f, _, w2, c2, s2, e1, ho, hmw1, e2, t1, ⟨_, fr_get f2 ?_ hout, vp_updL_self⟩, i1, b1, b2, hz⟩
  intro hc
  rcases List.mem_cons.mp hc with hc | hc
  · exact absurd hc (by decide)
  · exact (hS2 _ hc).2 rfl
/-- the sides that a row meets -/
abbrev zw_nr (y : Nat → Int) (n : Nat) (Y t : Int) (i : Nat) : Prop := min (t * y i) (t * y (zp_nx n i)) ≤ Y ∧ Y ≤ max (t * y i) (t * y (zp_nx n i))
def zw_l (p : Nat → Bool) : Nat → List Nat
  | 0 => []
  | i + 1 => if p i then zw_l p i ++ [i] else zw_l p i
theorem zw_l_len (p : Nat → Bool) : ∀ i, (zw_l p i).length ≤ i ∧ ∀ k, k ∈ zw_l p i → k < i ∧ p k = true := by
  intro i
  induction i with
  | zero => exact ⟨Nat.le_refl _, fun k h => by cases h⟩
  | succ i ih =>
    unfold zw_l
    by_cases h : p i = true
    · rw [if_pos h]
      refine ⟨by rw [List.length_append]; simp; omega, fun k hk => ?_⟩
      rcases List.mem_append.mp hk with h1 | h1
      · have := ih.2 k h1
        exact ⟨by omega, this.2⟩
      · rw [List.mem_singleton.mp h1]
        exact ⟨Nat.lt_succ_self _, h⟩
    · rw [if_neg h]
      exact ⟨by omega, fun k hk => by have := ih.2 k hk; exact ⟨by omega, this.2⟩⟩
/-- the polygon's row of sides -/
def v_ro (cl : Int32) (w : rz_W) (l : List Nat) : Prop := ∃ (nn : Int32) (O : Nat → Int32), v_ob w 18 6 [.int nn, .int cl, .ref 19, .ref 22, .ref 23, .ref 24, .ref 25, .int (Int32.ofInt (l.length : Int))] ∧ v_ia w 25 12 O ∧ ∀ k i, l[k]? = some i → O k = Int32.ofInt ((i : Nat) : Int)
theorem v_cp_fr {S : List Nat} {w' : rz_W} (h : v_cp w x y n) (hf : rz_fr S w w') (hS : ∀ q, q ∈ S → q ∉ [18, 22, 23]) : v_cp w' x y n := by
  obtain ⟨cl, a, P, Q, h18, h22, h23, r⟩ := h
  have k : ∀ q, q ∈ [18, 22, 23] → q ∉ S := fun q h1 h2 => hS q h2 h1
  exact ⟨cl, a, P, Q, fr_get hf (k _ (by decide)) h18, fr_get hf (k _ (by decide)) h22, fr_get hf (k _ (by decide)) h23, r⟩
theorem l_fsides {Y t : Int} {clv : Int32} (hY : -3000000000 ≤ Y ∧ Y ≤ 3000000000) (ht : 1 ≤ t ∧ t ≤ 3) (m : Nat) : ∀ (w : rz_W) (i : Nat) (l5 l6 l7 l8 l9 : Option Value), i + m = n → v_cp w x y n → v_ro clv w (zw_l (fun i => decide (zw_nr y n Y t i)) i) → ∃ w', rz_G X (d + 2) mz_X6_findSidesAt 8 [some (.ref 18), some (.long (Int64.ofInt Y)), none, some (.int (Int32.ofInt t)), some (.int (Int32.ofInt (i : Int))), l5, l6, l7, l8, l9] [] w nc ns = some (.inl none, w', nc, ns) ∧ rz_fr [18, 25] w w' ∧ v_cp w' x y n ∧ v_ro clv w' (zw_l (fun i => decide (zw_nr y n Y t i)) n) := by
  induction m with
  | zero =>
    intro w i l5 l6 l7 l8 l9 hi hc hr
    obtain rfl : i = n := by omega
    refine ⟨w, ?_, fr_refl, hc, hr⟩
    obtain ⟨cl, a, P, Q, h18, h22, h23, hn, hrg, he⟩ := id hc
    rw [q_X6_findSidesAt_8]
    simp (disch := first | exact nl_i | exact nl_r | exact nl_0 | exact nl_n | exact nl_x | exact kd_r | exact kd_n | exact kd_x | exact kd_o | exact cats0 | exact cats1 | exact cats2 | exact cats3 | exact cats4 | exact nr_i | exact nr_l | exact nr_z0 | exact nr_z1 | exact ft_i | exact ft_l | omega | rfl | assumption | (refine i_ne0 ?_ ?_ ?_ <;> omega) | (refine j_ne0 ?_ ?_ ?_ <;> omega) | (refine i_new ?_ ?_ <;> omega) | (refine bl_t ?_; with_unfolding_all rfl) | exact ft_z0 | exact ft_z1) only [q_X6_findSidesAt_10, q_X6_findSidesAt_11, q_X6_findSidesAt_14, q_X6_findSidesAt_120, i_add, i_sub, i_mul, i_neg, i_lt, i_le, i_eq, i_tm, i_div, i_j, j_i, j_add, j_sub, j_mul, j_neg, j_lt, j_le, j_eq, j_div, c_lt, c_le, c_gt, c_ge, c_eq, i_nat, rz_k, Nat.add_zero, Nat.zero_add, Nat.add_assoc, Nat.reduceAdd, if_true, if_false, gf_eq h18, List.getElem?_cons_zero, List.getElem?_cons_succ, if_pos (show (i : Int) ≤ (i : Int) by omega)]
  | succ m ih =>
    intro w i l5 l6 l7 l8 l9 hi hc hr
    have hin : i < n := by omega
    have hnx := nx_lt hin
    have kx := x_nx (X := X) (d := d + 1) hc hin
    have ky1 := x_pY (X := X) (d := d + 1) hc hin
    have ky2 := x_pY (X := X) (d := d + 1) hc hnx
    obtain ⟨cl, a, P, Q, h18, h22, h23, hn, hrg, he⟩ := id hc
    have b1 := hrg i
    have b2 := hrg (zp_nx n i)
    have m1 : -60 ≤ t * y i ∧ t * y i ≤ 60 := by
      have := z_nmul (a := t) (b := y i) (M := 3) (N := 20) (by omega) (by omega)
      omega
    have m2 : -60 ≤ t * y (zp_nx n i) ∧ t * y (zp_nx n i) ≤ 60 := by
      have := z_nmul (a := t) (b := y (zp_nx n i)) (M := 3) (N := 20) (by omega) (by omega)
      omega
    have kmin := x_minJ (X := X) (d := d + 1) (w := w) (a := t * y i) (b := t * y (zp_nx n i)) (by omega) (by omega) (by omega) (by omega)
    have kmax := x_maxJ (X := X) (d := d + 1) (w := w) (a := t * y i) (b := t * y (zp_nx n i)) (by omega) (by omega) (by omega) (by omega)
    have mb1 : -60 ≤ min (t * y i) (t * y (zp_nx n i)) ∧ min (t * y i) (t * y (zp_nx n i)) ≤ 60 := by omega
    have mb2 : -60 ≤ max (t * y i) (t * y (zp_nx n i)) ∧ max (t * y i) (t * y (zp_nx n i)) ≤ 60 := by omega
    have hln := zw_l_len (fun i => decide (zw_nr y n Y t i)) i
    have hs : zw_l (fun i => decide (zw_nr y n Y t i)) (i + 1) = if decide (zw_nr y n Y t i) then zw_l (fun i => decide (zw_nr y n Y t i)) i ++ [i] else zw_l (fun i => decide (zw_nr y n Y t i)) i := rfl
    obtain ⟨nn2, O, r18, r25, hO⟩ := id hr
    have hob := h18.symm.trans r18
    simp only [Option.some.injEq, Sum.inr.injEq, Prod.mk.injEq, List.cons.injEq, Value.int.injEq, true_and, and_true] at hob
    obtain ⟨rfl, rfl, rfl⟩ := hob
    by_cases hnr : zw_nr y n Y t i
    · have hs2 : zw_l (fun i => decide (zw_nr y n Y t i)) (i + 1) = zw_l (fun i => decide (zw_nr y n Y t i)) i ++ [i] := by rw [hs, if_pos (decide_eq_true hnr)]
      generalize hL : zw_l (fun i => decide (zw_nr y n Y t i)) i = L at *
      unfold zw_nr at hnr
      have a18 : v_ob (w.set 25 (.inl (.int, 12, .inl (upd O L.length (Int32.ofInt (i : Int)))))) 18 6 [.int (Int32.ofInt n), .int cl, .ref 19, .ref 22, .ref 23, .ref 24, .ref 25, .int (Int32.ofInt (L.length : Int))] := (w_ne (by omega)).trans h18
      have fa : rz_fr [18, 25] w ((w.set 25 (.inl (.int, 12, .inl (upd O L.length (Int32.ofInt (i : Int)))))).set 18 (.inr (6, [.int (Int32.ofInt n), .int cl, .ref 19, .ref 22, .ref 23, .ref 24, .ref 25, .int (Int32.ofInt ((L.length : Int) + 1))]))) := fr_trans (fr_set (by decide)) (fr_set (by decide))
      have hc' : v_cp ((w.set 25 (.inl (.int, 12, .inl (upd O L.length (Int32.ofInt (i : Int)))))).set 18 (.inr (6, [.int (Int32.ofInt n), .int cl, .ref 19, .ref 22, .ref 23, .ref 24, .ref 25, .int (Int32.ofInt ((L.length : Int) + 1))]))) x y n := ⟨cl, _, P, Q, w_eq (w_lt a18), fr_get fa (by decide) h22, fr_get fa (by decide) h23, hn, hrg, he⟩
      obtain ⟨w', e, f, r1, r2⟩ := ih _ (i + 1) (some (.long (Int64.ofInt (t * y i)))) none (some (.long (Int64.ofInt (t * y (zp_nx n i))))) none (some (.int (Int32.ofInt 1))) (by omega) hc' (by
        rw [hs2]
        refine ⟨Int32.ofInt n, upd O L.length (Int32.ofInt (i : Int)), ?_, (w_ne (by omega)).trans (w_eq (w_lt r25)), ?_⟩
        · rw [List.length_append, Int.natCast_add]
          exact w_eq (w_lt a18)
        · intro k j hk
          by_cases hkl : k = L.length
          · rw [hkl, List.getElem?_append_right (Nat.le_refl _), Nat.sub_self] at hk
            have : i = j := by simpa using hk
            rw [hkl, upd_eq, this]
          · have hlt : k < L.length := by
              have := (List.getElem?_eq_some_iff.mp hk).1
              rw [List.length_append] at this
              simp at this
              omega
            rw [List.getElem?_append_left hlt] at hk
            rw [upd_ne hkl]
            exact hO k j hk)
      refine ⟨w', ?_, fr_trans fa f, r1, r2⟩
      rw [← e, q_X6_findSidesAt_8]
      simp (disch := first | exact nl_i | exact nl_r | exact nl_0 | exact nl_n | exact nl_x | exact kd_r | exact kd_n | exact kd_x | exact kd_o | exact cats0 | exact cats1 | exact cats2 | exact cats3 | exact cats4 | exact nr_i | exact nr_l | exact nr_z0 | exact nr_z1 | exact ft_i | exact ft_l | omega | rfl | assumption | (refine i_ne0 ?_ ?_ ?_ <;> omega) | (refine j_ne0 ?_ ?_ ?_ <;> omega) | (refine i_new ?_ ?_ <;> omega) | (refine bl_t ?_; with_unfolding_all rfl) | exact ft_z0 | exact ft_z1) only [q_X6_findSidesAt_10, q_X6_findSidesAt_11, q_X6_findSidesAt_14, q_X6_findSidesAt_17, q_X6_findSidesAt_18, q_X6_findSidesAt_19, q_X6_findSidesAt_20, q_X6_findSidesAt_22, q_X6_findSidesAt_25, q_X6_findSidesAt_26, q_X6_findSidesAt_27, q_X6_findSidesAt_29, q_X6_findSidesAt_30, q_X6_findSidesAt_31, q_X6_findSidesAt_32, q_X6_findSidesAt_33, q_X6_findSidesAt_35, q_X6_findSidesAt_38, q_X6_findSidesAt_41, q_X6_findSidesAt_42, q_X6_findSidesAt_43, q_X6_findSidesAt_45, q_X6_findSidesAt_46, q_X6_findSidesAt_48, q_X6_findSidesAt_50, q_X6_findSidesAt_53, q_X6_findSidesAt_54, q_X6_findSidesAt_57, q_X6_findSidesAt_58, q_X6_findSidesAt_60, q_X6_findSidesAt_62, q_X6_findSidesAt_65, q_X6_findSidesAt_66, q_X6_findSidesAt_69, q_X6_findSidesAt_70, q_X6_findSidesAt_73, q_X6_findSidesAt_74, q_X6_findSidesAt_76, q_X6_findSidesAt_78, q_X6_findSidesAt_81, q_X6_findSidesAt_82, q_X6_findSidesAt_85, q_X6_findSidesAt_86, q_X6_findSidesAt_89, q_X6_findSidesAt_89x, q_X6_findSidesAt_90, q_X6_findSidesAt_93, q_X6_findSidesAt_94, q_X6_findSidesAt_97, q_X6_findSidesAt_98, q_X6_findSidesAt_101, q_X6_findSidesAt_103, q_X6_findSidesAt_104, q_X6_findSidesAt_105, q_X6_findSidesAt_105r, q_X6_findSidesAt_106, q_X6_findSidesAt_109, q_X6_findSidesAt_110, q_X6_findSidesAt_111, q_X6_findSidesAt_114, q_X6_findSidesAt_117, i_add, i_sub, i_mul, i_neg, i_lt, i_le, i_eq, i_tm, i_div, i_j, j_i, j_add, j_sub, j_mul, j_neg, j_lt, j_le, j_eq, j_div, c_lt, c_le, c_gt, c_ge, c_eq, i_nat, rz_k, Nat.add_zero, Nat.zero_add, Nat.add_assoc, Nat.reduceAdd, if_true, if_false, gf_eq h18, vk_eq h18, List.getElem?_cons_zero, List.getElem?_cons_succ, if_neg (show ¬ (n : Int) ≤ (i : Int) by omega), kx, ky1, ky2, kmin, kmax, if_neg (show ¬ Y < min (t * y i) (t * y (zp_nx n i)) by omega), if_neg (show ¬ max (t * y i) (t * y (zp_nx n i)) < Y by omega), if_neg (show ¬ (1 : Int) = 0 by omega), ln_eq r25, if_neg (show ¬ ((12 : Nat) : Int) ≤ (L.length : Int) by omega), si_eq r25, Int.toNat_natCast, gf_eq a18, pf_eq a18, List.set_cons_zero, List.set_cons_succ]
      rfl
    · have hs2 : zw_l (fun i => decide (zw_nr y n Y t i)) (i + 1) = zw_l (fun i => decide (zw_nr y n Y t i)) i := by rw [hs, if_neg (by simp [hnr])]
      obtain ⟨w', e, f, r1, r2⟩ := ih w (i + 1) (some (.long (Int64.ofInt (t * y i)))) none (some (.long (Int64.ofInt (t * y (zp_nx n i))))) none (some (.int (Int32.ofInt 0))) (by omega) hc (by rw [hs2]; exact hr)
      refine ⟨w', ?_, f, r1, r2⟩
      unfold zw_nr at hnr
      rw [← e, q_X6_findSidesAt_8]
      by_cases h1 : Y < min (t * y i) (t * y (zp_nx n i))
      · simp (disch := first | exact nl_i | exact nl_r | exact nl_0 | exact nl_n | exact nl_x | exact kd_r | exact kd_n | exact kd_x | exact kd_o | exact cats0 | exact cats1 | exact cats2 | exact cats3 | exact cats4 | exact nr_i | exact nr_l | exact nr_z0 | exact nr_z1 | exact ft_i | exact ft_l | omega | rfl | assumption | (refine i_ne0 ?_ ?_ ?_ <;> omega) | (refine j_ne0 ?_ ?_ ?_ <;> omega) | (refine i_new ?_ ?_ <;> omega) | (refine bl_t ?_; with_unfolding_all rfl) | exact ft_z0 | exact ft_z1) only [q_X6_findSidesAt_10, q_X6_findSidesAt_11, q_X6_findSidesAt_14, q_X6_findSidesAt_17, q_X6_findSidesAt_18, q_X6_findSidesAt_19, q_X6_findSidesAt_20, q_X6_findSidesAt_22, q_X6_findSidesAt_25, q_X6_findSidesAt_26, q_X6_findSidesAt_27, q_X6_findSidesAt_29, q_X6_findSidesAt_30, q_X6_findSidesAt_31, q_X6_findSidesAt_32, q_X6_findSidesAt_33, q_X6_findSidesAt_35, q_X6_findSidesAt_38, q_X6_findSidesAt_41, q_X6_findSidesAt_42, q_X6_findSidesAt_43, q_X6_findSidesAt_45, q_X6_findSidesAt_46, q_X6_findSidesAt_48, q_X6_findSidesAt_50, q_X6_findSidesAt_53, q_X6_findSidesAt_54, q_X6_findSidesAt_57, q_X6_findSidesAt_58, q_X6_findSidesAt_60, q_X6_findSidesAt_62, q_X6_findSidesAt_65, q_X6_findSidesAt_66, q_X6_findSidesAt_69, q_X6_findSidesAt_70, q_X6_findSidesAt_73, q_X6_findSidesAt_74, q_X6_findSidesAt_76, q_X6_findSidesAt_78, q_X6_findSidesAt_81, q_X6_findSidesAt_82, q_X6_findSidesAt_85, q_X6_findSidesAt_86, q_X6_findSidesAt_89, q_X6_findSidesAt_89x, q_X6_findSidesAt_90, q_X6_findSidesAt_93, q_X6_findSidesAt_94, q_X6_findSidesAt_97, q_X6_findSidesAt_98, q_X6_findSidesAt_101, q_X6_findSidesAt_103, q_X6_findSidesAt_104, q_X6_findSidesAt_105, q_X6_findSidesAt_105r, q_X6_findSidesAt_106, q_X6_findSidesAt_109, q_X6_findSidesAt_110, q_X6_findSidesAt_111, q_X6_findSidesAt_114, q_X6_findSidesAt_117, i_add, i_sub, i_mul, i_neg, i_lt, i_le, i_eq, i_tm, i_div, i_j, j_i, j_add, j_sub, j_mul, j_neg, j_lt, j_le, j_eq, j_div, c_lt, c_le, c_gt, c_ge, c_eq, i_nat, rz_k, Nat.add_zero, Nat.zero_add, Nat.add_assoc, Nat.reduceAdd, if_true, if_false, gf_eq h18, vk_eq h18, List.getElem?_cons_zero, List.getElem?_cons_succ, if_neg (show ¬ (n : Int) ≤ (i : Int) by omega), kx, ky1, ky2, kmin, kmax, if_pos h1, if_pos (show (0 : Int) = 0 by omega)]
        rfl
      · simp (disch := first | exact nl_i | exact nl_r | exact nl_0 | exact nl_n | exact nl_x | exact kd_r | exact kd_n | exact kd_x | exact kd_o | exact cats0 | exact cats1 | exact cats2 | exact cats3 | exact cats4 | exact nr_i | exact nr_l | exact nr_z0 | exact nr_z1 | exact ft_i | exact ft_l | omega | rfl | assumption | (refine i_ne0 ?_ ?_ ?_ <;> omega) | (refine j_ne0 ?_ ?_ ?_ <;> omega) | (refine i_new ?_ ?_ <;> omega) | (refine bl_t ?_; with_unfolding_all rfl) | exact ft_z0 | exact ft_z1) only [q_X6_findSidesAt_10, q_X6_findSidesAt_11, q_X6_findSidesAt_14, q_X6_findSidesAt_17, q_X6_findSidesAt_18, q_X6_findSidesAt_19, q_X6_findSidesAt_20, q_X6_findSidesAt_22, q_X6_findSidesAt_25, q_X6_findSidesAt_26, q_X6_findSidesAt_27, q_X6_findSidesAt_29, q_X6_findSidesAt_30, q_X6_findSidesAt_31, q_X6_findSidesAt_32, q_X6_findSidesAt_33, q_X6_findSidesAt_35, q_X6_findSidesAt_38, q_X6_findSidesAt_41, q_X6_findSidesAt_42, q_X6_findSidesAt_43, q_X6_findSidesAt_45, q_X6_findSidesAt_46, q_X6_findSidesAt_48, q_X6_findSidesAt_50, q_X6_findSidesAt_53, q_X6_findSidesAt_54, q_X6_findSidesAt_57, q_X6_findSidesAt_58, q_X6_findSidesAt_60, q_X6_findSidesAt_62, q_X6_findSidesAt_65, q_X6_findSidesAt_66, q_X6_findSidesAt_69, q_X6_findSidesAt_70, q_X6_findSidesAt_73, q_X6_findSidesAt_74, q_X6_findSidesAt_76, q_X6_findSidesAt_78, q_X6_findSidesAt_81, q_X6_findSidesAt_82, q_X6_findSidesAt_85, q_X6_findSidesAt_86, q_X6_findSidesAt_89, q_X6_findSidesAt_89x, q_X6_findSidesAt_90, q_X6_findSidesAt_93, q_X6_findSidesAt_94, q_X6_findSidesAt_97, q_X6_findSidesAt_98, q_X6_findSidesAt_101, q_X6_findSidesAt_103, q_X6_findSidesAt_104, q_X6_findSidesAt_105, q_X6_findSidesAt_105r, q_X6_findSidesAt_106, q_X6_findSidesAt_109, q_X6_findSidesAt_110, q_X6_findSidesAt_111, q_X6_findSidesAt_114, q_X6_findSidesAt_117, i_add, i_sub, i_mul, i_neg, i_lt, i_le, i_eq, i_tm, i_div, i_j, j_i, j_add, j_sub, j_mul, j_neg, j_lt, j_le, j_eq, j_div, c_lt, c_le, c_gt, c_ge, c_eq, i_nat, rz_k, Nat.add_zero, Nat.zero_add, Nat.add_assoc, Nat.reduceAdd, if_true, if_false, gf_eq h18, vk_eq h18, List.getElem?_cons_zero, List.getElem?_cons_succ, if_neg (show ¬ (n : Int) ≤ (i : Int) by omega), kx, ky1, ky2, kmin, kmax, if_neg h1, if_pos (show max (t * y i) (t * y (zp_nx n i)) < Y by omega), if_pos (show (0 : Int) = 0 by omega)]
        rfl
theorem x_fsides {Y t : Int} {O : Nat → Int32} {clv nnv av : Int32} (hY : -3000000000 ≤ Y ∧ Y ≤ 3000000000) (ht : 1 ≤ t ∧ t ≤ 3) (hc : v_cp w x y n) (g18 : v_ob w 18 6 [.int nnv, .int clv, .ref 19, .ref 22, .ref 23, .ref 24, .ref 25, .int av]) (h25 : v_ia w 25 12 O) : ∃ w', rz_ex X (d + 3) 67 [.ref 18, .long (Int64.ofInt Y), .int (Int32.ofInt t)] w = some (.inl none, w', 0, 0) ∧ rz_fr [18, 25] w w' ∧ v_cp w' x y n ∧ v_ro clv w' (zw_l (fun i => decide (zw_nr y n Y t i)) n) := by
  obtain ⟨cl, a, P, Q, h18, h22, h23, hn, hrg, he⟩ := id hc
  have hob := h18.symm.trans g18
  simp only [Option.some.injEq, Sum.inr.injEq, Prod.mk.injEq, List.cons.injEq, Value.int.injEq, true_and, and_true] at hob
  obtain ⟨-, rfl, -⟩ := hob
  have fa : rz_fr [18, 25] w (w.set 18 (.inr (6, [.int (Int32.ofInt n), .int cl, .ref 19, .ref 22, .ref 23, .ref 24, .ref 25, .int (Int32.ofInt 0)]))) := fr_set (by decide)
  have a18 : v_ob (w.set 18 (.inr (6, [.int (Int32.ofInt n), .int cl, .ref 19, .ref 22, .ref 23, .ref 24, .ref 25, .int (Int32.ofInt 0)]))) 18 6 [.int (Int32.ofInt n), .int cl, .ref 19, .ref 22, .ref 23, .ref 24, .ref 25, .int (Int32.ofInt 0)] := w_eq (w_lt h18)
  have hc' : v_cp (w.set 18 (.inr (6, [.int (Int32.ofInt n), .int cl, .ref 19, .ref 22, .ref 23, .ref 24, .ref 25, .int (Int32.ofInt 0)]))) x y n := ⟨cl, _, P, Q, a18, (w_ne (by omega)).trans h22, (w_ne (by omega)).trans h23, hn, hrg, he⟩
  obtain ⟨w', e, f, r1, r2⟩ := l_fsides (X := X) (d := d) (nc := 0) (ns := 0) hY ht n _ 0 none none none none none (by omega) hc' ⟨_, O, a18, (w_ne (by omega)).trans h25, fun k i h => by cases h⟩
  refine ⟨w', ?_, fr_trans fa f, r1, r2⟩
  rw [← e]
  simp (disch := first | exact nl_i | exact nl_r | exact nl_0 | exact nl_n | exact nl_x | exact kd_r | exact kd_n | exact kd_x | exact kd_o | exact cats0 | exact cats1 | exact cats2 | exact cats3 | exact cats4 | exact nr_i | exact nr_l | exact nr_z0 | exact nr_z1 | exact ft_i | exact ft_l | omega | rfl | assumption | (refine i_ne0 ?_ ?_ ?_ <;> omega) | (refine j_ne0 ?_ ?_ ?_ <;> omega) | (refine i_new ?_ ?_ <;> omega) | (refine bl_t ?_; with_unfolding_all rfl) | exact ft_z0 | exact ft_z1) only [n_X6_findSidesAt, q_X6_findSidesAt_0, q_X6_findSidesAt_1, q_X6_findSidesAt_2, q_X6_findSidesAt_5, q_X6_findSidesAt_6, i_add, i_sub, i_mul, i_neg, i_lt, i_le, i_eq, i_tm, i_div, i_j, j_i, j_add, j_sub, j_mul, j_neg, j_lt, j_le, j_eq, j_div, c_lt, c_le, c_gt, c_ge, c_eq, i_nat, rz_k, Nat.add_zero, Nat.zero_add, Nat.add_assoc, Nat.reduceAdd, if_true, if_false, pf_eq h18, List.set_cons_zero, List.set_cons_succ]
  rfl
/-- what the class says of a place, by a row of sides -/
def zw_pl (on odd : Nat → Bool) : List Nat → Bool → Int
  | [], b => if b = true then 119 else 111
  | s :: l, b => if on s = true then 114 else zw_pl on odd l (Bool.xor b (odd s))
def zw_ons (x y : Nat → Int) (n : Nat) (Xx Y t : Int) (i : Nat) : Bool := decide (zw_on (t * x i - Xx) (t * y i - Y) (t * x (zp_nx n i) - Xx) (t * y (zp_nx n i) - Y))
def zw_Hs (x y : Nat → Int) (n : Nat) (Xx Y t : Int) (i : Nat) : Bool := zw_H (t * x i - Xx) (t * y i - Y) (t * x (zp_nx n i) - Xx) (t * y (zp_nx n i) - Y)
theorem l_pir {Xx Y t : Int} {L : List Nat} {clv : Int32} (hX : -3000000000 ≤ Xx ∧ Xx ≤ 3000000000) (hY : -3000000000 ≤ Y ∧ Y ≤ 3000000000) (ht : 1 ≤ t ∧ t ≤ 3) (hc : v_cp w x y n) (hro : v_ro clv w L) (hL : L.length ≤ 12) (hLn : ∀ k, k ∈ L → k < n ∧ zw_nr y n Y t k) (m : Nat) : ∀ (k : Nat) (b : Bool) (l8 l9 l10 l11 l12 l13 l14 l15 l16 l17 l18 l19 : Option Value), k + m = L.length → rz_G X (d + 2) mz_X6_placeInRow 6 [some (.ref 18), some (.long (Int64.ofInt Xx)), none, some (.long (Int64.ofInt Y)), none, some (.int (Int32.ofInt t)), some (.int (Int32.ofInt (zb b))), some (.int (Int32.ofInt (k : Int))), l8, l9, l10, l11, l12, l13, l14, l15, l16, l17, l18, l19] [] w nc ns = some (.inl (some (.int (Int32.ofInt (zw_pl (zw_ons x y n Xx Y t) (zw_Hs x y n Xx Y t) (L.drop k) b)))), w, nc, ns) := by
  obtain ⟨cl, a, P, Q, h18, h22, h23, hn, hrg, he⟩ := id hc
  obtain ⟨nn2, O, r18, r25, hO⟩ := id hro
  have h114 : narrow .char (.int (Int32.ofInt 114)) = .int (Int32.ofInt 114) := nr_c (by omega) (by omega)
  have h119 : narrow .char (.int (Int32.ofInt 119)) = .int (Int32.ofInt 119) := nr_c (by omega) (by omega)
  have h111 : narrow .char (.int (Int32.ofInt 111)) = .int (Int32.ofInt 111) := nr_c (by omega) (by omega)
  induction m with
  | zero =>
    intro k b l8 l9 l10 l11 l12 l13 l14 l15 l16 l17 l18 l19 hk
    obtain rfl : k = L.length := by omega
    rw [List.drop_length, q_X6_placeInRow_6]
    cases b
    · simp (disch := first | exact nl_i | exact nl_r | exact nl_0 | exact nl_n | exact nl_x | exact kd_r | exact kd_n | exact kd_x | exact kd_o | exact cats0 | exact cats1 | exact cats2 | exact cats3 | exact cats4 | exact nr_i | exact nr_l | exact nr_z0 | exact nr_z1 | exact ft_i | exact ft_l | omega | rfl | assumption | (refine i_ne0 ?_ ?_ ?_ <;> omega) | (refine j_ne0 ?_ ?_ ?_ <;> omega) | (refine i_new ?_ ?_ <;> omega) | (refine bl_t ?_; with_unfolding_all rfl) | exact ft_z0 | exact ft_z1) only [q_X6_placeInRow_8, q_X6_placeInRow_9, q_X6_placeInRow_12, q_X6_placeInRow_224, q_X6_placeInRow_226, q_X6_placeInRow_229, q_X6_placeInRow_231, q_X6_placeInRow_234, q_X6_placeInRow_236, i_add, i_sub, i_mul, i_neg, i_lt, i_le, i_eq, i_tm, i_div, i_j, j_i, j_add, j_sub, j_mul, j_neg, j_lt, j_le, j_eq, j_div, c_lt, c_le, c_gt, c_ge, c_eq, i_nat, rz_k, Nat.add_zero, Nat.zero_add, Nat.add_assoc, Nat.reduceAdd, if_true, if_false, gf_eq r18, List.getElem?_cons_zero, List.getElem?_cons_succ, if_pos (show (L.length : Int) ≤ (L.length : Int) by omega), zb_f, if_pos (show (0 : Int) = 0 by omega)]
      rfl
    · simp (disch := first | exact nl_i | exact nl_r | exact nl_0 | exact nl_n | exact nl_x | exact kd_r | exact kd_n | exact kd_x | exact kd_o | exact cats0 | exact cats1 | exact cats2 | exact cats3 | exact cats4 | exact nr_i | exact nr_l | exact nr_z0 | exact nr_z1 | exact ft_i | exact ft_l | omega | rfl | assumption | (refine i_ne0 ?_ ?_ ?_ <;> omega) | (refine j_ne0 ?_ ?_ ?_ <;> omega) | (refine i_new ?_ ?_ <;> omega) | (refine bl_t ?_; with_unfolding_all rfl) | exact ft_z0 | exact ft_z1) only [q_X6_placeInRow_8, q_X6_placeInRow_9, q_X6_placeInRow_12, q_X6_placeInRow_224, q_X6_placeInRow_226, q_X6_placeInRow_229, q_X6_placeInRow_231, q_X6_placeInRow_234, q_X6_placeInRow_236, i_add, i_sub, i_mul, i_neg, i_lt, i_le, i_eq, i_tm, i_div, i_j, j_i, j_add, j_sub, j_mul, j_neg, j_lt, j_le, j_eq, j_div, c_lt, c_le, c_gt, c_ge, c_eq, i_nat, rz_k, Nat.add_zero, Nat.zero_add, Nat.add_assoc, Nat.reduceAdd, if_true, if_false, gf_eq r18, List.getElem?_cons_zero, List.getElem?_cons_succ, if_pos (show (L.length : Int) ≤ (L.length : Int) by omega), zb_t, if_neg (show ¬ (1 : Int) = 0 by omega)]
      rfl
  | succ m ih =>
    intro k b l8 l9 l10 l11 l12 l13 l14 l15 l16 l17 l18 l19 hk
    have hkl : k < L.length := by omega
    have hget : L[k]? = some L[k] := List.getElem?_eq_getElem hkl
    have hdrop : L.drop k = L[k] :: L.drop (k + 1) := List.drop_eq_getElem_cons hkl
    obtain ⟨hin, hnr⟩ := hLn L[k] (List.getElem_mem hkl)
    have hOk := hO k _ hget
    rw [hdrop]
    generalize L[k] = i at *
    have hnx := nx_lt hin
    have kx := x_nx (X := X) (d := d + 1) hc hin
    have ky1 := x_pY (X := X) (d := d + 1) hc hin
    have ky2 := x_pY (X := X) (d := d + 1) hc hnx
    have kx1 := x_pX (X := X) (d := d + 1) hc hin
    have kx2 := x_pX (X := X) (d := d + 1) hc hnx
    have b1 := hrg i
    have b2 := hrg (zp_nx n i)
    have mm : ∀ z : Int, (-20 ≤ z ∧ z ≤ 20) → -60 ≤ t * z ∧ t * z ≤ 60 := fun z hz => by
      have := z_nmul (a := t) (b := z) (M := 3) (N := 20) (by omega) (by omega)
      omega
    have m1 := mm _ b1.1
    have m2 := mm _ b1.2
    have m3 := mm _ b2.1
    have m4 := mm _ b2.2
    unfold zw_nr at hnr
    unfold zw_pl
    have hH : ∀ {P Q : Prop} [Decidable P] [Decidable Q], (P ↔ Q) → decide P = decide Q := fun h => decide_eq_decide.mpr h
    have hOn : zw_ons x y n Xx Y t i = decide ((t * x i - Xx) * (t * y (zp_nx n i) - Y) - (t * x (zp_nx n i) - Xx) * (t * y i - Y) = 0 ∧ min (t * x i) (t * x (zp_nx n i)) ≤ Xx ∧ Xx ≤ max (t * x i) (t * x (zp_nx n i))) := by
      unfold zw_ons
      refine hH ⟨?_, ?_⟩
      · rintro ⟨h1, h2, h3⟩
        exact ⟨h1, by omega, by omega⟩
      · rintro ⟨h1, h2, h3⟩
        exact ⟨h1, by omega, by omega⟩
    have hHv : zw_Hs x y n Xx Y t i = decide (¬ (Y < t * y i ↔ Y < t * y (zp_nx n i)) ∧ (t * y i < t * y (zp_nx n i) ↔ 0 < (t * x i - Xx) * (t * y (zp_nx n i) - Y) - (t * x (zp_nx n i) - Xx) * (t * y i - Y))) := by
      unfold zw_Hs zw_H
      refine hH ?_
      constructor
      · rintro ⟨h1, h2⟩
        refine ⟨fun c => h1 (propext ⟨fun _ => by omega, fun _ => by omega⟩), ?_⟩
        rw [← h2]
        omega
      · rintro ⟨h1, h2⟩
        refine ⟨fun c => h1 ?_, propext (by rw [← h2]; omega)⟩
        have h3 : (0 < t * y i - Y) ↔ (0 < t * y (zp_nx n i) - Y) := by rw [c]
        omega
    generalize zw_ons x y n Xx Y t i = onb at *
    generalize zw_Hs x y n Xx Y t i = hsb at *
    generalize hx1 : t * x i = x1 at *
    generalize hy1 : t * y i = y1 at *
    generalize hx2 : t * x (zp_nx n i) = x2 at *
    generalize hy2 : t * y (zp_nx n i) = y2 at *
    have kmin := x_minJ (X := X) (d := d + 1) (w := w) (a := x1) (b := x2) (by omega) (by omega) (by omega) (by omega)
    have kmax := x_maxJ (X := X) (d := d + 1) (w := w) (a := x1) (b := x2) (by omega) (by omega) (by omega) (by omega)
    have eT : (x2 - x1) * (Y - y1) - (y2 - y1) * (Xx - x1) = (x1 - Xx) * (y2 - Y) - (x2 - Xx) * (y1 - Y) := by grind
    have n1 := z_nmul (a := x1 - Xx) (b := y2 - Y) (M := 3000000060) (N := 3000000060) (by omega) (by omega)
    have n2 := z_nmul (a := x2 - Xx) (b := y1 - Y) (M := 3000000060) (N := 3000000060) (by omega) (by omega)
    have n3 := z_nmul (a := x2 - x1) (b := Y - y1) (M := 120) (N := 3000000060) (by omega) (by omega)
    have n4 := z_nmul (a := y2 - y1) (b := Xx - x1) (M := 120) (N := 3000000060) (by omega) (by omega)
    have hTb : -1000000000000 ≤ (x1 - Xx) * (y2 - Y) - (x2 - Xx) * (y1 - Y) ∧ (x1 - Xx) * (y2 - Y) - (x2 - Xx) * (y1 - Y) ≤ 1000000000000 := by omega
    have ihf : ∀ (b' : Bool), rz_G X (d + 2) mz_X6_placeInRow 6 [some (.ref 18), some (.long (Int64.ofInt Xx)), none, some (.long (Int64.ofInt Y)), none, some (.int (Int32.ofInt t)), some (.int (Int32.ofInt (zb b'))), some (.int (Int32.ofInt ((k : Int) + 1))), some (.int (Int32.ofInt (i : Int))), some (.int (Int32.ofInt ((zp_nx n i : Nat) : Int))), some (.long (Int64.ofInt x1)), none, some (.long (Int64.ofInt y1)), none, some (.long (Int64.ofInt x2)), none, some (.long (Int64.ofInt y2)), none, some (.long (Int64.ofInt ((x1 - Xx) * (y2 - Y) - (x2 - Xx) * (y1 - Y)))), none] [] w nc ns = some (.inl (some (.int (Int32.ofInt (zw_pl (zw_ons x y n Xx Y t) (zw_Hs x y n Xx Y t) (L.drop (k + 1)) b')))), w, nc, ns) := by
      intro b'
      exact ih (k + 1) b' _ _ _ _ _ _ _ _ _ _ _ _ (by omega)
    clear ih
    have hpre : rz_G X (d + 2) mz_X6_placeInRow 6 [some (.ref 18), some (.long (Int64.ofInt Xx)), none, some (.long (Int64.ofInt Y)), none, some (.int (Int32.ofInt t)), some (.int (Int32.ofInt (zb b))), some (.int (Int32.ofInt (k : Int))), l8, l9, l10, l11, l12, l13, l14, l15, l16, l17, l18, l19] [] w nc ns = rz_G X (d + 2) mz_X6_placeInRow 117 [some (.ref 18), some (.long (Int64.ofInt Xx)), none, some (.long (Int64.ofInt Y)), none, some (.int (Int32.ofInt t)), some (.int (Int32.ofInt (zb b))), some (.int (Int32.ofInt (k : Int))), some (.int (Int32.ofInt (i : Int))), some (.int (Int32.ofInt ((zp_nx n i : Nat) : Int))), some (.long (Int64.ofInt x1)), none, some (.long (Int64.ofInt y1)), none, some (.long (Int64.ofInt x2)), none, some (.long (Int64.ofInt y2)), none, some (.long (Int64.ofInt ((x1 - Xx) * (y2 - Y) - (x2 - Xx) * (y1 - Y)))), none] [] w nc ns := by
      rw [q_X6_placeInRow_6]
      simp (disch := first | exact nl_i | exact nl_r | exact nl_0 | exact nl_n | exact nl_x | exact kd_r | exact kd_n | exact kd_x | exact kd_o | exact cats0 | exact cats1 | exact cats2 | exact cats3 | exact cats4 | exact nr_i | exact nr_l | exact nr_z0 | exact nr_z1 | exact ft_i | exact ft_l | omega | rfl | assumption | (refine i_ne0 ?_ ?_ ?_ <;> omega) | (refine j_ne0 ?_ ?_ ?_ <;> omega) | (refine i_new ?_ ?_ <;> omega) | (refine bl_t ?_; with_unfolding_all rfl) | exact ft_z0 | exact ft_z1) only [q_X6_placeInRow_8, q_X6_placeInRow_9, q_X6_placeInRow_12, q_X6_placeInRow_15, q_X6_placeInRow_17, q_X6_placeInRow_18, q_X6_placeInRow_21, q_X6_placeInRow_21x, q_X6_placeInRow_22, q_X6_placeInRow_25, q_X6_placeInRow_26, q_X6_placeInRow_29, q_X6_placeInRow_31, q_X6_placeInRow_31x, q_X6_placeInRow_32, q_X6_placeInRow_34, q_X6_placeInRow_35, q_X6_placeInRow_37, q_X6_placeInRow_40, q_X6_placeInRow_42, q_X6_placeInRow_44, q_X6_placeInRow_45, q_X6_placeInRow_46, q_X6_placeInRow_48, q_X6_placeInRow_51, q_X6_placeInRow_52, q_X6_placeInRow_53, q_X6_placeInRow_55, q_X6_placeInRow_57, q_X6_placeInRow_58, q_X6_placeInRow_59, q_X6_placeInRow_61, q_X6_placeInRow_64, q_X6_placeInRow_65, q_X6_placeInRow_66, q_X6_placeInRow_68, q_X6_placeInRow_70, q_X6_placeInRow_71, q_X6_placeInRow_72, q_X6_placeInRow_74, q_X6_placeInRow_77, q_X6_placeInRow_78, q_X6_placeInRow_79, q_X6_placeInRow_81, q_X6_placeInRow_83, q_X6_placeInRow_84, q_X6_placeInRow_85, q_X6_placeInRow_87, q_X6_placeInRow_90, q_X6_placeInRow_91, q_X6_placeInRow_92, q_X6_placeInRow_94, q_X6_placeInRow_96, q_X6_placeInRow_98, q_X6_placeInRow_99, q_X6_placeInRow_100, q_X6_placeInRow_102, q_X6_placeInRow_103, q_X6_placeInRow_104, q_X6_placeInRow_106, q_X6_placeInRow_108, q_X6_placeInRow_109, q_X6_placeInRow_110, q_X6_placeInRow_112, q_X6_placeInRow_113, q_X6_placeInRow_114, q_X6_placeInRow_115, i_add, i_sub, i_mul, i_neg, i_lt, i_le, i_eq, i_tm, i_div, i_j, j_i, j_add, j_sub, j_mul, j_neg, j_lt, j_le, j_eq, j_div, c_lt, c_le, c_gt, c_ge, c_eq, i_nat, rz_k, Nat.add_zero, Nat.zero_add, Nat.add_assoc, Nat.reduceAdd, if_true, if_false, gf_eq r18, vk_eq r18, List.getElem?_cons_zero, List.getElem?_cons_succ, if_neg (show ¬ (L.length : Int) ≤ (k : Int) by omega), ln_eq r25, if_neg (show ¬ ((12 : Nat) : Int) ≤ (k : Int) by omega), ai_eq r25, Int.toNat_natCast, hOk, kx, ky1, ky2, kx1, kx2, hx1, hy1, hx2, hy2, eT]
    rw [hpre]
    clear hpre
    clear n1 n2 n3 n4 eT
    obtain ⟨T, hT'⟩ : ∃ T : Int, T = (x1 - Xx) * (y2 - Y) - (x2 - Xx) * (y1 - Y) := ⟨_, rfl⟩
    rw [← hT'] at hTb ihf hOn hHv ⊢
    have hT := hT'.symm
    clear hT'
    by_cases hon : T = 0 ∧ min x1 x2 ≤ Xx ∧ Xx ≤ max x1 x2
    · rw [if_pos (hOn.trans (decide_eq_true hon))]
      simp (disch := first | exact nl_i | exact nl_r | exact nl_0 | exact nl_n | exact nl_x | exact kd_r | exact kd_n | exact kd_x | exact kd_o | exact cats0 | exact cats1 | exact cats2 | exact cats3 | exact cats4 | exact nr_i | exact nr_l | exact nr_z0 | exact nr_z1 | exact ft_i | exact ft_l | omega | rfl | assumption | (refine i_ne0 ?_ ?_ ?_ <;> omega) | (refine j_ne0 ?_ ?_ ?_ <;> omega) | (refine i_new ?_ ?_ <;> omega) | (refine bl_t ?_; with_unfolding_all rfl) | exact ft_z0 | exact ft_z1) only [q_X6_placeInRow_117, q_X6_placeInRow_119, q_X6_placeInRow_120, q_X6_placeInRow_121, q_X6_placeInRow_124, q_X6_placeInRow_125, q_X6_placeInRow_127, q_X6_placeInRow_129, q_X6_placeInRow_132, q_X6_placeInRow_133, q_X6_placeInRow_136, q_X6_placeInRow_137, q_X6_placeInRow_139, q_X6_placeInRow_141, q_X6_placeInRow_144, q_X6_placeInRow_145, q_X6_placeInRow_148, q_X6_placeInRow_150, i_add, i_sub, i_mul, i_neg, i_lt, i_le, i_eq, i_tm, i_div, i_j, j_i, j_add, j_sub, j_mul, j_neg, j_lt, j_le, j_eq, j_div, c_lt, c_le, c_gt, c_ge, c_eq, i_nat, rz_k, Nat.add_zero, Nat.zero_add, Nat.add_assoc, Nat.reduceAdd, if_true, if_false, if_neg (show ¬ ¬ T = 0 by omega), kmin, kmax, if_neg (show ¬ Xx < min x1 x2 by omega), if_neg (show ¬ max x1 x2 < Xx by omega)]
    · rw [if_neg (by rw [hOn]; simp only [decide_eq_true_eq]; exact hon)]
      have h151 : rz_G X (d + 2) mz_X6_placeInRow 151 [some (.ref 18), some (.long (Int64.ofInt Xx)), none, some (.long (Int64.ofInt Y)), none, some (.int (Int32.ofInt t)), some (.int (Int32.ofInt (zb b))), some (.int (Int32.ofInt (k : Int))), some (.int (Int32.ofInt (i : Int))), some (.int (Int32.ofInt ((zp_nx n i : Nat) : Int))), some (.long (Int64.ofInt x1)), none, some (.long (Int64.ofInt y1)), none, some (.long (Int64.ofInt x2)), none, some (.long (Int64.ofInt y2)), none, some (.long (Int64.ofInt (T))), none] [] w nc ns = rz_G X (d + 2) mz_X6_placeInRow 6 [some (.ref 18), some (.long (Int64.ofInt Xx)), none, some (.long (Int64.ofInt Y)), none, some (.int (Int32.ofInt t)), some (.int (Int32.ofInt (zb (Bool.xor b hsb)))), some (.int (Int32.ofInt ((k : Int) + 1))), some (.int (Int32.ofInt (i : Int))), some (.int (Int32.ofInt ((zp_nx n i : Nat) : Int))), some (.long (Int64.ofInt x1)), none, some (.long (Int64.ofInt y1)), none, some (.long (Int64.ofInt x2)), none, some (.long (Int64.ofInt y2)), none, some (.long (Int64.ofInt (T))), none] [] w nc ns := by
        rw [hHv]
        by_cases a1 : Y < y1 <;> by_cases a2 : Y < y2
        · have hf : decide (¬ (Y < y1 ↔ Y < y2) ∧ (y1 < y2 ↔ 0 < T)) = false := decide_eq_false (by omega)
          rw [hf, Bool.xor_false]
          simp (disch := first | exact nl_i | exact nl_r | exact nl_0 | exact nl_n | exact nl_x | exact kd_r | exact kd_n | exact kd_x | exact kd_o | exact cats0 | exact cats1 | exact cats2 | exact cats3 | exact cats4 | exact nr_i | exact nr_l | exact nr_z0 | exact nr_z1 | exact ft_i | exact ft_l | omega | rfl | assumption | (refine i_ne0 ?_ ?_ ?_ <;> omega) | (refine j_ne0 ?_ ?_ ?_ <;> omega) | (refine i_new ?_ ?_ <;> omega) | (refine bl_t ?_; with_unfolding_all rfl) | exact ft_z0 | exact ft_z1) only [q_X6_placeInRow_151, q_X6_placeInRow_153, q_X6_placeInRow_154, q_X6_placeInRow_155, q_X6_placeInRow_158, q_X6_placeInRow_159, q_X6_placeInRow_162, q_X6_placeInRow_163, q_X6_placeInRow_165, q_X6_placeInRow_166, q_X6_placeInRow_167, q_X6_placeInRow_170, q_X6_placeInRow_171, q_X6_placeInRow_174, q_X6_placeInRow_175, q_X6_placeInRow_178, q_X6_placeInRow_180, q_X6_placeInRow_182, q_X6_placeInRow_183, q_X6_placeInRow_186, q_X6_placeInRow_187, q_X6_placeInRow_190, q_X6_placeInRow_191, q_X6_placeInRow_193, q_X6_placeInRow_194, q_X6_placeInRow_195, q_X6_placeInRow_198, q_X6_placeInRow_199, q_X6_placeInRow_202, q_X6_placeInRow_203, q_X6_placeInRow_206, q_X6_placeInRow_208, q_X6_placeInRow_211, q_X6_placeInRow_212, q_X6_placeInRow_215, q_X6_placeInRow_216, q_X6_placeInRow_218, q_X6_placeInRow_221, i_add, i_sub, i_mul, i_neg, i_lt, i_le, i_eq, i_tm, i_div, i_j, j_i, j_add, j_sub, j_mul, j_neg, j_lt, j_le, j_eq, j_div, c_lt, c_le, c_gt, c_ge, c_eq, i_nat, rz_k, Nat.add_zero, Nat.zero_add, Nat.add_assoc, Nat.reduceAdd, if_true, if_false, Int.reduceEq, not_true_eq_false, not_false_eq_true, if_neg (show ¬ y1 ≤ Y by omega), if_neg (show ¬ y2 ≤ Y by omega), if_pos (show (1 : Int) = 1 by omega)]
        · by_cases a4 : 0 < T
          · have hf : decide (¬ (Y < y1 ↔ Y < y2) ∧ (y1 < y2 ↔ 0 < T)) = false := decide_eq_false (by omega)
            rw [hf, Bool.xor_false]
            simp (disch := first | exact nl_i | exact nl_r | exact nl_0 | exact nl_n | exact nl_x | exact kd_r | exact kd_n | exact kd_x | exact kd_o | exact cats0 | exact cats1 | exact cats2 | exact cats3 | exact cats4 | exact nr_i | exact nr_l | exact nr_z0 | exact nr_z1 | exact ft_i | exact ft_l | omega | rfl | assumption | (refine i_ne0 ?_ ?_ ?_ <;> omega) | (refine j_ne0 ?_ ?_ ?_ <;> omega) | (refine i_new ?_ ?_ <;> omega) | (refine bl_t ?_; with_unfolding_all rfl) | exact ft_z0 | exact ft_z1) only [q_X6_placeInRow_151, q_X6_placeInRow_153, q_X6_placeInRow_154, q_X6_placeInRow_155, q_X6_placeInRow_158, q_X6_placeInRow_159, q_X6_placeInRow_162, q_X6_placeInRow_163, q_X6_placeInRow_165, q_X6_placeInRow_166, q_X6_placeInRow_167, q_X6_placeInRow_170, q_X6_placeInRow_171, q_X6_placeInRow_174, q_X6_placeInRow_175, q_X6_placeInRow_178, q_X6_placeInRow_180, q_X6_placeInRow_182, q_X6_placeInRow_183, q_X6_placeInRow_186, q_X6_placeInRow_187, q_X6_placeInRow_190, q_X6_placeInRow_191, q_X6_placeInRow_193, q_X6_placeInRow_194, q_X6_placeInRow_195, q_X6_placeInRow_198, q_X6_placeInRow_199, q_X6_placeInRow_202, q_X6_placeInRow_203, q_X6_placeInRow_206, q_X6_placeInRow_208, q_X6_placeInRow_211, q_X6_placeInRow_212, q_X6_placeInRow_215, q_X6_placeInRow_216, q_X6_placeInRow_218, q_X6_placeInRow_221, i_add, i_sub, i_mul, i_neg, i_lt, i_le, i_eq, i_tm, i_div, i_j, j_i, j_add, j_sub, j_mul, j_neg, j_lt, j_le, j_eq, j_div, c_lt, c_le, c_gt, c_ge, c_eq, i_nat, rz_k, Nat.add_zero, Nat.zero_add, Nat.add_assoc, Nat.reduceAdd, if_true, if_false, Int.reduceEq, not_true_eq_false, not_false_eq_true, if_neg (show ¬ y1 ≤ Y by omega), if_pos (show y2 ≤ Y by omega), if_neg (show ¬ (1 : Int) = 0 by omega), if_pos (show y2 ≤ y1 by omega), if_neg (show ¬ T ≤ 0 by omega), if_pos (show ¬ (0 : Int) = 1 by omega)]
          · have hf : decide (¬ (Y < y1 ↔ Y < y2) ∧ (y1 < y2 ↔ 0 < T)) = true := decide_eq_true (by omega)
            rw [hf, Bool.xor_true]
            cases b <;> simp (disch := first | exact nl_i | exact nl_r | exact nl_0 | exact nl_n | exact nl_x | exact kd_r | exact kd_n | exact kd_x | exact kd_o | exact cats0 | exact cats1 | exact cats2 | exact cats3 | exact cats4 | exact nr_i | exact nr_l | exact nr_z0 | exact nr_z1 | exact ft_i | exact ft_l | omega | rfl | assumption | (refine i_ne0 ?_ ?_ ?_ <;> omega) | (refine j_ne0 ?_ ?_ ?_ <;> omega) | (refine i_new ?_ ?_ <;> omega) | (refine bl_t ?_; with_unfolding_all rfl) | exact ft_z0 | exact ft_z1) only [q_X6_placeInRow_151, q_X6_placeInRow_153, q_X6_placeInRow_154, q_X6_placeInRow_155, q_X6_placeInRow_158, q_X6_placeInRow_159, q_X6_placeInRow_162, q_X6_placeInRow_163, q_X6_placeInRow_165, q_X6_placeInRow_166, q_X6_placeInRow_167, q_X6_placeInRow_170, q_X6_placeInRow_171, q_X6_placeInRow_174, q_X6_placeInRow_175, q_X6_placeInRow_178, q_X6_placeInRow_180, q_X6_placeInRow_182, q_X6_placeInRow_183, q_X6_placeInRow_186, q_X6_placeInRow_187, q_X6_placeInRow_190, q_X6_placeInRow_191, q_X6_placeInRow_193, q_X6_placeInRow_194, q_X6_placeInRow_195, q_X6_placeInRow_198, q_X6_placeInRow_199, q_X6_placeInRow_202, q_X6_placeInRow_203, q_X6_placeInRow_206, q_X6_placeInRow_208, q_X6_placeInRow_211, q_X6_placeInRow_212, q_X6_placeInRow_215, q_X6_placeInRow_216, q_X6_placeInRow_218, q_X6_placeInRow_221, i_add, i_sub, i_mul, i_neg, i_lt, i_le, i_eq, i_tm, i_div, i_j, j_i, j_add, j_sub, j_mul, j_neg, j_lt, j_le, j_eq, j_div, c_lt, c_le, c_gt, c_ge, c_eq, i_nat, rz_k, Nat.add_zero, Nat.zero_add, Nat.add_assoc, Nat.reduceAdd, if_true, if_false, Int.reduceEq, not_true_eq_false, not_false_eq_true, zb_t, zb_f, Bool.not_true, Bool.not_false, if_neg (show ¬ y1 ≤ Y by omega), if_pos (show y2 ≤ Y by omega), if_neg (show ¬ (1 : Int) = 0 by omega), if_pos (show y2 ≤ y1 by omega), if_pos (show T ≤ 0 by omega), if_neg (show ¬ ¬ (0 : Int) = 0 by omega), if_pos (show ¬ (1 : Int) = 0 by omega)]
        · by_cases a4 : 0 < T
          · have hf : decide (¬ (Y < y1 ↔ Y < y2) ∧ (y1 < y2 ↔ 0 < T)) = true := decide_eq_true (by omega)
            rw [hf, Bool.xor_true]
            cases b <;> simp (disch := first | exact nl_i | exact nl_r | exact nl_0 | exact nl_n | exact nl_x | exact kd_r | exact kd_n | exact kd_x | exact kd_o | exact cats0 | exact cats1 | exact cats2 | exact cats3 | exact cats4 | exact nr_i | exact nr_l | exact nr_z0 | exact nr_z1 | exact ft_i | exact ft_l | omega | rfl | assumption | (refine i_ne0 ?_ ?_ ?_ <;> omega) | (refine j_ne0 ?_ ?_ ?_ <;> omega) | (refine i_new ?_ ?_ <;> omega) | (refine bl_t ?_; with_unfolding_all rfl) | exact ft_z0 | exact ft_z1) only [q_X6_placeInRow_151, q_X6_placeInRow_153, q_X6_placeInRow_154, q_X6_placeInRow_155, q_X6_placeInRow_158, q_X6_placeInRow_159, q_X6_placeInRow_162, q_X6_placeInRow_163, q_X6_placeInRow_165, q_X6_placeInRow_166, q_X6_placeInRow_167, q_X6_placeInRow_170, q_X6_placeInRow_171, q_X6_placeInRow_174, q_X6_placeInRow_175, q_X6_placeInRow_178, q_X6_placeInRow_180, q_X6_placeInRow_182, q_X6_placeInRow_183, q_X6_placeInRow_186, q_X6_placeInRow_187, q_X6_placeInRow_190, q_X6_placeInRow_191, q_X6_placeInRow_193, q_X6_placeInRow_194, q_X6_placeInRow_195, q_X6_placeInRow_198, q_X6_placeInRow_199, q_X6_placeInRow_202, q_X6_placeInRow_203, q_X6_placeInRow_206, q_X6_placeInRow_208, q_X6_placeInRow_211, q_X6_placeInRow_212, q_X6_placeInRow_215, q_X6_placeInRow_216, q_X6_placeInRow_218, q_X6_placeInRow_221, i_add, i_sub, i_mul, i_neg, i_lt, i_le, i_eq, i_tm, i_div, i_j, j_i, j_add, j_sub, j_mul, j_neg, j_lt, j_le, j_eq, j_div, c_lt, c_le, c_gt, c_ge, c_eq, i_nat, rz_k, Nat.add_zero, Nat.zero_add, Nat.add_assoc, Nat.reduceAdd, if_true, if_false, Int.reduceEq, not_true_eq_false, not_false_eq_true, zb_t, zb_f, Bool.not_true, Bool.not_false, if_pos (show y1 ≤ Y by omega), if_neg (show ¬ y2 ≤ Y by omega), if_neg (show ¬ (0 : Int) = 1 by omega), if_neg (show ¬ y2 ≤ y1 by omega), if_neg (show ¬ T ≤ 0 by omega), if_neg (show ¬ ¬ (1 : Int) = 1 by omega), if_neg (show ¬ ¬ (0 : Int) = 0 by omega), if_pos (show ¬ (1 : Int) = 0 by omega)]
          · have hf : decide (¬ (Y < y1 ↔ Y < y2) ∧ (y1 < y2 ↔ 0 < T)) = false := decide_eq_false (by omega)
            rw [hf, Bool.xor_false]
            simp (disch := first | exact nl_i | exact nl_r | exact nl_0 | exact nl_n | exact nl_x | exact kd_r | exact kd_n | exact kd_x | exact kd_o | exact cats0 | exact cats1 | exact cats2 | exact cats3 | exact cats4 | exact nr_i | exact nr_l | exact nr_z0 | exact nr_z1 | exact ft_i | exact ft_l | omega | rfl | assumption | (refine i_ne0 ?_ ?_ ?_ <;> omega) | (refine j_ne0 ?_ ?_ ?_ <;> omega) | (refine i_new ?_ ?_ <;> omega) | (refine bl_t ?_; with_unfolding_all rfl) | exact ft_z0 | exact ft_z1) only [q_X6_placeInRow_151, q_X6_placeInRow_153, q_X6_placeInRow_154, q_X6_placeInRow_155, q_X6_placeInRow_158, q_X6_placeInRow_159, q_X6_placeInRow_162, q_X6_placeInRow_163, q_X6_placeInRow_165, q_X6_placeInRow_166, q_X6_placeInRow_167, q_X6_placeInRow_170, q_X6_placeInRow_171, q_X6_placeInRow_174, q_X6_placeInRow_175, q_X6_placeInRow_178, q_X6_placeInRow_180, q_X6_placeInRow_182, q_X6_placeInRow_183, q_X6_placeInRow_186, q_X6_placeInRow_187, q_X6_placeInRow_190, q_X6_placeInRow_191, q_X6_placeInRow_193, q_X6_placeInRow_194, q_X6_placeInRow_195, q_X6_placeInRow_198, q_X6_placeInRow_199, q_X6_placeInRow_202, q_X6_placeInRow_203, q_X6_placeInRow_206, q_X6_placeInRow_208, q_X6_placeInRow_211, q_X6_placeInRow_212, q_X6_placeInRow_215, q_X6_placeInRow_216, q_X6_placeInRow_218, q_X6_placeInRow_221, i_add, i_sub, i_mul, i_neg, i_lt, i_le, i_eq, i_tm, i_div, i_j, j_i, j_add, j_sub, j_mul, j_neg, j_lt, j_le, j_eq, j_div, c_lt, c_le, c_gt, c_ge, c_eq, i_nat, rz_k, Nat.add_zero, Nat.zero_add, Nat.add_assoc, Nat.reduceAdd, if_true, if_false, Int.reduceEq, not_true_eq_false, not_false_eq_true, if_pos (show y1 ≤ Y by omega), if_neg (show ¬ y2 ≤ Y by omega), if_neg (show ¬ (0 : Int) = 1 by omega), if_neg (show ¬ y2 ≤ y1 by omega), if_pos (show T ≤ 0 by omega), if_pos (show ¬ (1 : Int) = 0 by omega)]
        · have hf : decide (¬ (Y < y1 ↔ Y < y2) ∧ (y1 < y2 ↔ 0 < T)) = false := decide_eq_false (by omega)
          rw [hf, Bool.xor_false]
          simp (disch := first | exact nl_i | exact nl_r | exact nl_0 | exact nl_n | exact nl_x | exact kd_r | exact kd_n | exact kd_x | exact kd_o | exact cats0 | exact cats1 | exact cats2 | exact cats3 | exact cats4 | exact nr_i | exact nr_l | exact nr_z0 | exact nr_z1 | exact ft_i | exact ft_l | omega | rfl | assumption | (refine i_ne0 ?_ ?_ ?_ <;> omega) | (refine j_ne0 ?_ ?_ ?_ <;> omega) | (refine i_new ?_ ?_ <;> omega) | (refine bl_t ?_; with_unfolding_all rfl) | exact ft_z0 | exact ft_z1) only [q_X6_placeInRow_151, q_X6_placeInRow_153, q_X6_placeInRow_154, q_X6_placeInRow_155, q_X6_placeInRow_158, q_X6_placeInRow_159, q_X6_placeInRow_162, q_X6_placeInRow_163, q_X6_placeInRow_165, q_X6_placeInRow_166, q_X6_placeInRow_167, q_X6_placeInRow_170, q_X6_placeInRow_171, q_X6_placeInRow_174, q_X6_placeInRow_175, q_X6_placeInRow_178, q_X6_placeInRow_180, q_X6_placeInRow_182, q_X6_placeInRow_183, q_X6_placeInRow_186, q_X6_placeInRow_187, q_X6_placeInRow_190, q_X6_placeInRow_191, q_X6_placeInRow_193, q_X6_placeInRow_194, q_X6_placeInRow_195, q_X6_placeInRow_198, q_X6_placeInRow_199, q_X6_placeInRow_202, q_X6_placeInRow_203, q_X6_placeInRow_206, q_X6_placeInRow_208, q_X6_placeInRow_211, q_X6_placeInRow_212, q_X6_placeInRow_215, q_X6_placeInRow_216, q_X6_placeInRow_218, q_X6_placeInRow_221, i_add, i_sub, i_mul, i_neg, i_lt, i_le, i_eq, i_tm, i_div, i_j, j_i, j_add, j_sub, j_mul, j_neg, j_lt, j_le, j_eq, j_div, c_lt, c_le, c_gt, c_ge, c_eq, i_nat, rz_k, Nat.add_zero, Nat.zero_add, Nat.add_assoc, Nat.reduceAdd, if_true, if_false, Int.reduceEq, not_true_eq_false, not_false_eq_true, if_pos (show y1 ≤ Y by omega), if_pos (show y2 ≤ Y by omega), if_pos (show (0 : Int) = 0 by omega)]
      rw [← ihf, ← h151]
      by_cases h0 : T = 0
      · by_cases h1 : Xx < min x1 x2
        · simp (disch := first | exact nl_i | exact nl_r | exact nl_0 | exact nl_n | exact nl_x | exact kd_r | exact kd_n | exact kd_x | exact kd_o | exact cats0 | exact cats1 | exact cats2 | exact cats3 | exact cats4 | exact nr_i | exact nr_l | exact nr_z0 | exact nr_z1 | exact ft_i | exact ft_l | omega | rfl | assumption | (refine i_ne0 ?_ ?_ ?_ <;> omega) | (refine j_ne0 ?_ ?_ ?_ <;> omega) | (refine i_new ?_ ?_ <;> omega) | (refine bl_t ?_; with_unfolding_all rfl) | exact ft_z0 | exact ft_z1) only [q_X6_placeInRow_117, q_X6_placeInRow_119, q_X6_placeInRow_120, q_X6_placeInRow_121, q_X6_placeInRow_124, q_X6_placeInRow_125, q_X6_placeInRow_127, q_X6_placeInRow_129, q_X6_placeInRow_132, q_X6_placeInRow_133, q_X6_placeInRow_136, q_X6_placeInRow_137, q_X6_placeInRow_139, q_X6_placeInRow_141, q_X6_placeInRow_144, q_X6_placeInRow_145, q_X6_placeInRow_148, q_X6_placeInRow_150, i_add, i_sub, i_mul, i_neg, i_lt, i_le, i_eq, i_tm, i_div, i_j, j_i, j_add, j_sub, j_mul, j_neg, j_lt, j_le, j_eq, j_div, c_lt, c_le, c_gt, c_ge, c_eq, i_nat, rz_k, Nat.add_zero, Nat.zero_add, Nat.add_assoc, Nat.reduceAdd, if_true, if_false, if_neg (show ¬ ¬ T = 0 by omega), kmin, kmax, if_pos h1]
        · simp (disch := first | exact nl_i | exact nl_r | exact nl_0 | exact nl_n | exact nl_x | exact kd_r | exact kd_n | exact kd_x | exact kd_o | exact cats0 | exact cats1 | exact cats2 | exact cats3 | exact cats4 | exact nr_i | exact nr_l | exact nr_z0 | exact nr_z1 | exact ft_i | exact ft_l | omega | rfl | assumption | (refine i_ne0 ?_ ?_ ?_ <;> omega) | (refine j_ne0 ?_ ?_ ?_ <;> omega) | (refine i_new ?_ ?_ <;> omega) | (refine bl_t ?_; with_unfolding_all rfl) | exact ft_z0 | exact ft_z1) only [q_X6_placeInRow_117, q_X6_placeInRow_119, q_X6_placeInRow_120, q_X6_placeInRow_121, q_X6_placeInRow_124, q_X6_placeInRow_125, q_X6_placeInRow_127, q_X6_placeInRow_129, q_X6_placeInRow_132, q_X6_placeInRow_133, q_X6_placeInRow_136, q_X6_placeInRow_137, q_X6_placeInRow_139, q_X6_placeInRow_141, q_X6_placeInRow_144, q_X6_placeInRow_145, q_X6_placeInRow_148, q_X6_placeInRow_150, i_add, i_sub, i_mul, i_neg, i_lt, i_le, i_eq, i_tm, i_div, i_j, j_i, j_add, j_sub, j_mul, j_neg, j_lt, j_le, j_eq, j_div, c_lt, c_le, c_gt, c_ge, c_eq, i_nat, rz_k, Nat.add_zero, Nat.zero_add, Nat.add_assoc, Nat.reduceAdd, if_true, if_false, if_neg (show ¬ ¬ T = 0 by omega), kmin, kmax, if_neg h1, if_pos (show max x1 x2 < Xx by omega)]
      · simp (disch := first | exact nl_i | exact nl_r | exact nl_0 | exact nl_n | exact nl_x | exact kd_r | exact kd_n | exact kd_x | exact kd_o | exact cats0 | exact cats1 | exact cats2 | exact cats3 | exact cats4 | exact nr_i | exact nr_l | exact nr_z0 | exact nr_z1 | exact ft_i | exact ft_l | omega | rfl | assumption | (refine i_ne0 ?_ ?_ ?_ <;> omega) | (refine j_ne0 ?_ ?_ ?_ <;> omega) | (refine i_new ?_ ?_ <;> omega) | (refine bl_t ?_; with_unfolding_all rfl) | exact ft_z0 | exact ft_z1) only [q_X6_placeInRow_117, q_X6_placeInRow_119, q_X6_placeInRow_120, q_X6_placeInRow_121, q_X6_placeInRow_124, q_X6_placeInRow_125, q_X6_placeInRow_127, q_X6_placeInRow_129, q_X6_placeInRow_132, q_X6_placeInRow_133, q_X6_placeInRow_136, q_X6_placeInRow_137, q_X6_placeInRow_139, q_X6_placeInRow_141, q_X6_placeInRow_144, q_X6_placeInRow_145, q_X6_placeInRow_148, q_X6_placeInRow_150, i_add, i_sub, i_mul, i_neg, i_lt, i_le, i_eq, i_tm, i_div, i_j, j_i, j_add, j_sub, j_mul, j_neg, j_lt, j_le, j_eq, j_div, c_lt, c_le, c_gt, c_ge, c_eq, i_nat, rz_k, Nat.add_zero, Nat.zero_add, Nat.add_assoc, Nat.reduceAdd, if_true, if_false, if_pos h0]
end RZWI
