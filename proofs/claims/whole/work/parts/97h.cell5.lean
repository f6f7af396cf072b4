/-! part 97h: level 2: tellCorner -/
section RZCI
variable {X : rz_X} {d : Nat} {w : rz_W} {nc ns : Nat} {kp tl kd ty cl th : Int}
theorem zc_first0 (q : Nat → Int × Int) (m : Nat) (hm : m = 4 ∨ m = 6) : zc_first q m 0 0 = zc_first q (m - 1) 1 0 := by
  have h : ∀ n, zc_first q (n + 1) 0 0 = zc_first q n 1 0 := by
    intro n
    show zc_first q n 1 (if zc_gt (q 0) (q 0) then 0 else 0) = _
    split <;> rfl
  rcases hm with rfl | rfl
  · exact h 3
  · exact h 5
theorem y_cellOf {A B C : Nat → Int64} {i a b c r1 r2 r3 r4 x y u v : Int} (hm : v_model w kp tl kd ty cl th) (g34 : v_la w 34 8 A) (g35 : v_la w 35 8 B) (g36 : v_la w 36 8 C) (hi : 0 ≤ i ∧ i ≤ 7) (ea : A i.toNat = Int64.ofInt a) (eb : B i.toNat = Int64.ofInt b) (ec : C i.toNat = Int64.ofInt c) (hr : 1 ≤ a ∧ 0 ≤ b ∧ b < c ∧ a * c ≤ 1000000) (hrr : zr_red 50 a b 0 c = some (r1, r2, r3, r4)) (hb4 : r1.natAbs ≤ 1500000 ∧ r2.natAbs ≤ 1500000 ∧ r3.natAbs ≤ 1500000 ∧ r4.natAbs ≤ 1500000) (hq : (x, y, u, v) = zr_fl (r1, r2, r3, r4)) (hD0 : r1 * r4 - r2 * r3 ≠ 0) (hD : 0 < x * v - y * u) (hN1 : 0 < zr_N x y) (hN2 : 0 < zr_N u v) (hp : zr_p x y u v ≤ 0) (hp1 : -zr_N x y ≤ 2 * zr_p x y u v) (hp2 : -zr_N u v ≤ 2 * zr_p x y u v) (hsm : ∀ k, k < zc_m x y u v → (zc_q x y u v k).1.natAbs ≤ 100000000000000 ∧ (zc_q x y u v k).2.natAbs ≤ 100000000000000) : ∃ (l : rz_W) (p : Nat) (T : Nat → Int64), rz_ex X (d + 4) 215 [.ref 32, .int (Int32.ofInt i)] w = some (.inl (some (.ref p)), w ++ l, 4, 4 + 6 * zc_m x y u v) ∧ v_la (w ++ l) p (2 * zc_m x y u v) T ∧ ∀ n, n < zc_m x y u v → T (2 * n) = Int64.ofInt (zc_q x y u v ((zc_first (zc_q x y u v) (zc_m x y u v - 1) 1 0 + n) % zc_m x y u v)).1 ∧ T (2 * n + 1) = Int64.ofInt (zc_q x y u v ((zc_first (zc_q x y u v) (zc_m x y u v - 1) 1 0 + n) % zc_m x y u v)).2 := by
  obtain ⟨l, p, m, F, em, e2, hF, hFP⟩ := y_around (X := X) (d := d) hm g34 g35 g36 hi ea eb ec hr hrr hb4
  rw [zc_m_eq hq] at em
  have hm6 : m = 4 ∨ m = 6 := by rw [em]; unfold zc_m; split <;> omega
  -- the reference's row is the class's, turned on
  have hlp := zc_l_p (r1 := r1) (r2 := r2) (r3 := r3) (r4 := r4)
  have hpp := zr_fl_p (r1 := r1) (r2 := r2) (r3 := r3) (r4 := r4)
  rw [← hq] at hpp
  dsimp only at hpp
  have hturn : ∃ s : Nat, ∀ k, k < m → zc_qq (zc_Q (zc_l (r1, r2, r3, r4)).1 (zc_l (r1, r2, r3, r4)).2.1 (zc_l (r1, r2, r3, r4)).2.2.1 (zc_l (r1, r2, r3, r4)).2.2.2) m k = zc_q x y u v ((k + s) % m) := by
    by_cases h0 : zr_p r1 r2 r3 r4 = 0
    · have hm4 : m = 4 := by rw [em]; exact if_pos (by omega)
      obtain ⟨s, hs⟩ := zc_R4 (r := (r1, r2, r3, r4)) h0
      rw [← hq] at hs
      dsimp only at hs
      refine ⟨s, fun k hk => ?_⟩
      have hQ : zc_Q (zc_l (r1, r2, r3, r4)).1 (zc_l (r1, r2, r3, r4)).2.1 (zc_l (r1, r2, r3, r4)).2.2.1 (zc_l (r1, r2, r3, r4)).2.2.2 = zc_P4 (zc_l (r1, r2, r3, r4)).1 (zc_l (r1, r2, r3, r4)).2.1 (zc_l (r1, r2, r3, r4)).2.2.1 (zc_l (r1, r2, r3, r4)).2.2.2 := if_pos (by omega)
      have hqc : zc_q x y u v ((k + s) % m) = zc_q4 x y u v ((k + s) % m) := if_pos (by omega)
      rw [hQ, hqc, hm4]
      rw [hm4] at hk
      unfold zc_qq zc_q4
      rw [hs k hk, hs _ (Nat.mod_lt _ (by omega))]
      congr 2
      omega
    · have hm4 : m = 6 := by rw [em]; exact if_neg (by omega)
      obtain ⟨s, hs⟩ := zc_R6 (r := (r1, r2, r3, r4)) h0 hD0
      rw [← hq] at hs
      dsimp only at hs
      refine ⟨s, fun k hk => ?_⟩
      have hQ : zc_Q (zc_l (r1, r2, r3, r4)).1 (zc_l (r1, r2, r3, r4)).2.1 (zc_l (r1, r2, r3, r4)).2.2.1 (zc_l (r1, r2, r3, r4)).2.2.2 = zc_R (zc_l (r1, r2, r3, r4)).1 (zc_l (r1, r2, r3, r4)).2.1 (zc_l (r1, r2, r3, r4)).2.2.1 (zc_l (r1, r2, r3, r4)).2.2.2 := if_neg (by omega)
      have hqc : zc_q x y u v ((k + s) % m) = zc_q6 x y u v ((k + s) % m) := if_neg (by omega)
      rw [hQ, hqc, hm4]
      rw [hm4] at hk
      unfold zc_qq zc_q6
      rw [hs k hk, hs _ (Nat.mod_lt _ (by omega))]
      congr 2
      omega
  obtain ⟨s, hs⟩ := hturn
  have hinj : ∀ i j, i < m → j < m → zc_q x y u v i = zc_q x y u v j → i = j := by
    intro i j h1 h2 h3
    by_cases h0 : zr_p x y u v = 0
    · have e1 : zc_q x y u v i = zc_q4 x y u v i := if_pos h0
      have e2 : zc_q x y u v j = zc_q4 x y u v j := if_pos h0
      have hm4 : m = 4 := by rw [em]; exact if_pos h0
      rw [e1, e2] at h3
      exact zc_inj4 hD hN1 hN2 h0 i j (by omega) (by omega) h3
    · have e1 : zc_q x y u v i = zc_q6 x y u v i := if_neg h0
      have e2 : zc_q x y u v j = zc_q6 x y u v j := if_neg h0
      have hm4 : m = 6 := by rw [em]; exact if_neg h0
      rw [e1, e2] at h3
      exact zc_inj6 hD hN1 (Int.le_total _ _) hN2 (by omega) hp1 hp2 i j (by omega) (by omega) h3
  have hturned := fun n => zc_turned hm6 hinj hs n
  generalize hP : zc_Q (zc_l (r1, r2, r3, r4)).1 (zc_l (r1, r2, r3, r4)).2.1 (zc_l (r1, r2, r3, r4)).2.2.1 (zc_l (r1, r2, r3, r4)).2.2.2 = P at *
  rw [← em] at hsm ⊢
  have hb : ∀ k, k < m → (zc_qq P m k).1.natAbs ≤ 100000000000000 ∧ (zc_qq P m k).2.natAbs ≤ 100000000000000 := by
    intro k hk
    rw [hs k hk]
    exact hsm _ (Nat.mod_lt _ (by omega))
  -- the reference's loops
  have a3 : v_la ((w ++ l) ++ ([.inl (.long, 2 * m, .inr (.inl fun _ => 0))] : rz_W)) p (2 * m) F := (w_old (w_lt hF)).trans hF
  have a4 : v_la ((w ++ l) ++ ([.inl (.long, 2 * m, .inr (.inl fun _ => 0))] : rz_W)) (w ++ l).length (2 * m) (fun _ => 0) := w_new
  have hpl : p < (w ++ l).length := w_lt hF
  obtain ⟨F1, m7, m8, m9, m10, m11, m12, e3, hF1⟩ := l_cell1 (X := X) (d := d + 2) (nc := 3) (ns := 4 + (2 * m + 2 * m)) (i1 := Int32.ofInt i) hm6 hFP hb (show p ≠ (w ++ l).length by omega) m _ (fun _ => 0) 0 0 none none none none none none (by omega) (by omega) (by omega) a3 a4 (fun j hj => by omega)
  rw [w_snew, zc_first0 _ _ hm6] at e3
  have hf1 := (zc_first_ok (zc_qq P m) (m - 1) 1 0 (by omega) (fun i hi => by
    obtain rfl : i = 0 := by omega
    unfold zc_gt
    omega)).1
  have a5 : v_la ((w ++ l) ++ ([.inl (.long, 2 * m, .inr (.inl F1))] : rz_W)) (w ++ l).length (2 * m) F1 := w_new
  generalize hw2 : (w ++ l) ++ ([.inl (.long, 2 * m, .inr (.inl F1))] : rz_W) = w2 at *
  have hl2 : w2.length = (w ++ l).length + 1 := by rw [← hw2, List.length_append]; rfl
  have a6 : v_la (w2 ++ ([.inl (.long, 2 * m, .inr (.inl fun _ => 0))] : rz_W)) (w ++ l).length (2 * m) F1 := (w_old (by omega)).trans a5
  have a7 : v_la (w2 ++ ([.inl (.long, 2 * m, .inr (.inl fun _ => 0))] : rz_W)) w2.length (2 * m) (fun _ => 0) := w_new
  obtain ⟨T, e4, hT⟩ := l_cell2 (X := X) (d := d + 2) (nc := 4) (ns := 4 + (2 * m + (2 * m + 2 * m))) (i1 := Int32.ofInt i) (its := p) (q := zc_qq P m) (f := zc_first (zc_qq P m) (m - 1) 1 0) (l8 := m8) (l9 := m9) (l10 := m10) (l11 := m11) (l12 := m12) hm6 hF1 (show (w ++ l).length ≠ w2.length by omega) (by omega) m _ (fun _ => 0) 0 (by omega) a6 a7 (fun j hj => by omega)
  rw [w_snew] at e4
  have hww : w ++ (l ++ ([.inl (.long, 2 * m, .inr (.inl F1)), .inl (.long, 2 * m, .inr (.inl T))] : rz_W)) = w2 ++ ([.inl (.long, 2 * m, .inr (.inl T))] : rz_W) := by
    rw [← hw2]
    simp only [List.append_assoc]
    rfl
  refine ⟨l ++ ([.inl (.long, 2 * m, .inr (.inl F1)), .inl (.long, 2 * m, .inr (.inl T))] : rz_W), w2.length, T, ?_, ?_, ?_⟩
  · have t : (((2 * m : Nat) : Int)).tdiv 2 = (m : Int) := by
      rw [show (((2 * m : Nat) : Int)).tdiv 2 = ((2 * m / 2 : Nat) : Int) from (Int.ofNat_tdiv _ _).symm]
      omega
    have t2 : (2 * (m : Int)).toNat = 2 * m := by omega
    rw [hww, show 4 + 6 * m = 4 + (2 * m + (2 * m + 2 * m)) by omega, ← e4]
    simp (disch := first | exact nl_i | exact nl_r | exact nl_0 | exact nl_n | exact nl_x | exact kd_r | exact kd_n | exact kd_x | exact kd_o | exact cats0 | exact cats1 | exact cats2 | exact cats3 | exact cats4 | exact nr_i | exact nr_l | exact nr_z0 | exact nr_z1 | exact ft_i | exact ft_l | omega | rfl | assumption | (refine i_ne0 ?_ ?_ ?_ <;> omega) | (refine j_ne0 ?_ ?_ ?_ <;> omega) | (refine i_new ?_ ?_ <;> omega) | (refine bl_t ?_; with_unfolding_all rfl) | exact ft_z0 | exact ft_z1) only [n_X11_cellOf, q_X11_cellOf_0, q_X11_cellOf_1, q_X11_cellOf_2, q_X11_cellOf_5, q_X11_cellOf_6, q_X11_cellOf_7, q_X11_cellOf_7x, q_X11_cellOf_8, q_X11_cellOf_9, q_X11_cellOf_10, q_X11_cellOf_11, q_X11_cellOf_12, q_X11_cellOf_13, q_X11_cellOf_14, q_X11_cellOf_16, q_X11_cellOf_18, q_X11_cellOf_19, q_X11_cellOf_21, q_X11_cellOf_22, i_add, i_sub, i_mul, i_neg, i_lt, i_le, i_eq, i_tm, i_div, i_j, j_i, j_add, j_sub, j_mul, j_neg, j_lt, j_le, j_eq, j_div, c_lt, c_le, c_gt, c_ge, c_eq, i_nat, rz_k, Nat.add_zero, Nat.zero_add, Nat.add_assoc, Nat.reduceAdd, if_true, if_false, vk_eq hm, e2, ln_eq hF, t, t2]
    refine Eq.trans e3 ?_
    simp (disch := first | exact nl_i | exact nl_r | exact nl_0 | exact nl_n | exact nl_x | exact kd_r | exact kd_n | exact kd_x | exact kd_o | exact cats0 | exact cats1 | exact cats2 | exact cats3 | exact cats4 | exact nr_i | exact nr_l | exact nr_z0 | exact nr_z1 | exact ft_i | exact ft_l | omega | rfl | assumption | (refine i_ne0 ?_ ?_ ?_ <;> omega) | (refine j_ne0 ?_ ?_ ?_ <;> omega) | (refine i_new ?_ ?_ <;> omega) | (refine bl_t ?_; with_unfolding_all rfl) | exact ft_z0 | exact ft_z1) only [q_X11_cellOf_247, q_X11_cellOf_248, q_X11_cellOf_249, q_X11_cellOf_250, q_X11_cellOf_252, q_X11_cellOf_254, q_X11_cellOf_255, i_add, i_sub, i_mul, i_neg, i_lt, i_le, i_eq, i_tm, i_div, i_j, j_i, j_add, j_sub, j_mul, j_neg, j_lt, j_le, j_eq, j_div, c_lt, c_le, c_gt, c_ge, c_eq, i_nat, rz_k, Nat.add_zero, Nat.zero_add, Nat.add_assoc, Nat.reduceAdd, if_true, if_false, t2]
    rfl
  · rw [hww]
    exact w_new
  · intro n hn
    have := hT n hn
    have h2 := hturned n
    rw [h2] at this
    exact this
theorem x_over {m f n : Nat} {un : Int} {q : Nat → Int × Int} (hm : m = 4 ∨ m = 6) (hc : v_cell w m un f q) (hf : f < m) (hn : n < m) : rz_ex X (d + 3) 11 [.ref 9, .int (Int32.ofInt (n : Int))] w = some (.inl (some (.long (Int64.ofInt (q ((f + n) % m)).1))), w, 0, 0) ∧ rz_ex X (d + 3) 12 [.ref 9, .int (Int32.ofInt (n : Int))] w = some (.inl (some (.long (Int64.ofInt (q ((f + n) % m)).2))), w, 0, 0) := by
  obtain ⟨Xf, Yf, h9, h10, h11, hX⟩ := hc
  have kf := x_fmod (X := X) (d := d) (w := w) (a := (f : Int) + (n : Int)) (b := (m : Int)) (by omega) (by omega) (by omega) (by omega)
  have e : ((f : Int) + (n : Int)) % (m : Int) = (((f + n) % m : Nat) : Int) := by
    rw [← Int.natCast_add]
    exact (Int.natCast_emod _ _).symm
  rw [e] at kf
  have hlt : (f + n) % m < m := Nat.mod_lt _ (by omega)
  generalize (f + n) % m = k at *
  obtain ⟨x1, x2⟩ := hX k hlt
  have kp : rz_ex X (d + 2) 13 [.ref 9, .int (Int32.ofInt (n : Int))] w = some (.inl (some (.int (Int32.ofInt (k : Int)))), w, 0, 0) := by
    simp (disch := first | exact nl_i | exact nl_r | exact nl_0 | exact nl_n | exact nl_x | exact kd_r | exact kd_n | exact kd_x | exact kd_o | exact cats0 | exact cats1 | exact cats2 | exact cats3 | exact cats4 | exact nr_i | exact nr_l | exact nr_z0 | exact nr_z1 | exact ft_i | exact ft_l | omega | rfl | assumption | (refine i_ne0 ?_ ?_ ?_ <;> omega) | (refine j_ne0 ?_ ?_ ?_ <;> omega) | (refine i_new ?_ ?_ <;> omega) | (refine bl_t ?_; with_unfolding_all rfl) | exact ft_z0 | exact ft_z1) only [n_X1_placeOfCorner, q_X1_placeOfCorner_0, q_X1_placeOfCorner_1, q_X1_placeOfCorner_4, q_X1_placeOfCorner_5, q_X1_placeOfCorner_8, q_X1_placeOfCorner_9, q_X1_placeOfCorner_12, q_X1_placeOfCorner_14, q_X1_placeOfCorner_17, q_X1_placeOfCorner_18, q_X1_placeOfCorner_21, q_X1_placeOfCorner_22, q_X1_placeOfCorner_25, q_X1_placeOfCorner_26, q_X1_placeOfCorner_27, q_X1_placeOfCorner_28, q_X1_placeOfCorner_31, q_X1_placeOfCorner_34, i_add, i_sub, i_mul, i_neg, i_lt, i_le, i_eq, i_tm, i_div, i_j, j_i, j_add, j_sub, j_mul, j_neg, j_lt, j_le, j_eq, j_div, c_lt, c_le, c_gt, c_ge, c_eq, i_nat, rz_k, Nat.add_zero, Nat.zero_add, Nat.add_assoc, Nat.reduceAdd, if_true, if_false, gf_eq h9, List.getElem?_cons_zero, List.getElem?_cons_succ, if_neg (show ¬ (m : Int) < 1 by omega), if_pos (show (m : Int) ≤ 6 by omega), kf]
  constructor
  · simp (disch := first | exact nl_i | exact nl_r | exact nl_0 | exact nl_n | exact nl_x | exact kd_r | exact kd_n | exact kd_x | exact kd_o | exact cats0 | exact cats1 | exact cats2 | exact cats3 | exact cats4 | exact nr_i | exact nr_l | exact nr_z0 | exact nr_z1 | exact ft_i | exact ft_l | omega | rfl | assumption | (refine i_ne0 ?_ ?_ ?_ <;> omega) | (refine j_ne0 ?_ ?_ ?_ <;> omega) | (refine i_new ?_ ?_ <;> omega) | (refine bl_t ?_; with_unfolding_all rfl) | exact ft_z0 | exact ft_z1) only [n_X1_overX, q_X1_overX_0, q_X1_overX_1, q_X1_overX_4, q_X1_overX_5, q_X1_overX_6, q_X1_overX_9, q_X1_overX_10, i_add, i_sub, i_mul, i_neg, i_lt, i_le, i_eq, i_tm, i_div, i_j, j_i, j_add, j_sub, j_mul, j_neg, j_lt, j_le, j_eq, j_div, c_lt, c_le, c_gt, c_ge, c_eq, i_nat, rz_k, Nat.add_zero, Nat.zero_add, Nat.add_assoc, Nat.reduceAdd, if_true, if_false, gf_eq h9, vk_eq h9, List.getElem?_cons_zero, List.getElem?_cons_succ, kp, al_eq h10, Int.toNat_natCast, x1]
  · simp (disch := first | exact nl_i | exact nl_r | exact nl_0 | exact nl_n | exact nl_x | exact kd_r | exact kd_n | exact kd_x | exact kd_o | exact cats0 | exact cats1 | exact cats2 | exact cats3 | exact cats4 | exact nr_i | exact nr_l | exact nr_z0 | exact nr_z1 | exact ft_i | exact ft_l | omega | rfl | assumption | (refine i_ne0 ?_ ?_ ?_ <;> omega) | (refine j_ne0 ?_ ?_ ?_ <;> omega) | (refine i_new ?_ ?_ <;> omega) | (refine bl_t ?_; with_unfolding_all rfl) | exact ft_z0 | exact ft_z1) only [n_X1_overY, q_X1_overY_0, q_X1_overY_1, q_X1_overY_4, q_X1_overY_5, q_X1_overY_6, q_X1_overY_9, q_X1_overY_10, i_add, i_sub, i_mul, i_neg, i_lt, i_le, i_eq, i_tm, i_div, i_j, j_i, j_add, j_sub, j_mul, j_neg, j_lt, j_le, j_eq, j_div, c_lt, c_le, c_gt, c_ge, c_eq, i_nat, rz_k, Nat.add_zero, Nat.zero_add, Nat.add_assoc, Nat.reduceAdd, if_true, if_false, gf_eq h9, vk_eq h9, List.getElem?_cons_zero, List.getElem?_cons_succ, kp, al_eq h11, Int.toNat_natCast, x2]
/-- a fraction's text -/
def zc_T (z : Int) (g n1 n2 L1 L2 : Nat) : List Nat := ((if z < 0 then [45] else []) ++ zds L1 n1 ++ [47]) ++ zds L2 n2
theorem x_fraction {z : Int} {un g n1 n2 L1 L2 : Nat} {tl' : Int} (ht : v_text w tl') (hz : z.natAbs ≤ 100000000000000) (hu : 1 ≤ un ∧ un ≤ 2000000) (hg : Int.gcd z (un : Int) = g) (h1 : z.natAbs / g = n1) (h2 : un / g = n2) (hL1 : zf_len n1 L1) (hL2 : zf_len n2 L2) (b1 : L1 ≤ 15) (b2 : L2 ≤ 7) : ∃ w', rz_ex X (d + 4) 99 [.ref 12, .long (Int64.ofInt z), .long (Int64.ofInt (un : Int))] w = some (.inl (some (.int (Int32.ofInt (zc_T z g n1 n2 L1 L2).length))), w', 0, 0) ∧ rz_fr [12, 13] w w' ∧ v_ct w' (zc_T z g n1 n2 L1 L2) := by
  have hct := v_text_ct ht rfl
  obtain ⟨sg, sg2, g12, g13, g42, htl, hsg⟩ := id ht
  generalize hw1 : w.set 12 (.inr (9, [.int (Int32.ofInt 0), .ref 13])) = w1 at hct
  have f1 : rz_fr [12, 13] w w1 := by rw [← hw1]; exact fr_set (by decide)
  have hg1 : 1 ≤ g ∧ g ≤ un := by
    have a := Int.gcd_dvd_right z (un : Int)
    rw [hg] at a
    have b := Int.le_of_dvd (by omega) a
    refine ⟨?_, by omega⟩
    rcases Nat.eq_zero_or_pos g with h | h
    · rw [h] at a
      have := Int.zero_dvd.mp a
      omega
    · exact h
  have hgz : (g : Int) ∣ z := by rw [← hg]; exact Int.gcd_dvd_left z (un : Int)
  have kg := fun w => x_gcd (X := X) (d := d + 1) (w := w) (a := z) (b := (un : Int)) (by omega) (by omega) (by omega) (by omega)
  rw [hg] at kg
  have q1 : (z.tdiv (g : Int)).natAbs = n1 := by rw [Int.natAbs_tdiv, ← h1]; rfl
  have q1s : z.tdiv (g : Int) < 0 ↔ z < 0 := by
    obtain ⟨k, hk⟩ := hgz
    have : z.tdiv (g : Int) = k := by rw [hk]; exact Int.mul_tdiv_cancel_left _ (by omega)
    rw [this]
    constructor
    · intro h
      rw [hk]
      exact Int.mul_neg_of_pos_of_neg (by omega) h
    · intro h
      rcases Int.lt_or_le k 0 with h3 | h3
      · exact h3
      · have := Int.mul_nonneg (show 0 ≤ (g : Int) by omega) h3
        omega
  have q2 : ((un : Int).tdiv (g : Int)) = (n2 : Int) := by rw [z_tdn, h2]
  have bn1 : n1 ≤ 100000000000000 := by rw [← h1]; exact Nat.le_trans (Nat.div_le_self _ _) hz
  have bn2 : n2 ≤ 2000000 := by rw [← h2]; exact Nat.le_trans (Nat.div_le_self _ _) hu.2
  obtain ⟨w2, e2, f2, r2⟩ := x_putNumber (X := X) (d := d) q1 (by omega) hL1 (by simp; omega) hct
  have hsn : (if z.tdiv (g : Int) < 0 then [45] else []) = (if z < 0 then [45] else ([] : List Nat)) := by
    by_cases h : z < 0
    · rw [if_pos (q1s.mpr h), if_pos h]
    · rw [if_neg (fun c => h (q1s.mp c)), if_neg h]
  rw [hsn, List.nil_append] at r2
  have hl2 : ((if z < 0 then [45] else ([] : List Nat)) ++ zds L1 n1).length ≤ 16 := by
    rw [List.length_append, zds_len]
    split <;> simp <;> omega
  obtain ⟨w3, e3, f3, r3⟩ := x_putSign (X := X) (d := d + 2) (c := 47) (by omega) (by omega) r2
  obtain ⟨w4, e4, f4, r4⟩ := x_putNumber (X := X) (d := d) (n := n2) (z := (n2 : Int)) (by omega) (by omega) hL2 (by rw [List.length_append]; simp only [List.length_cons, List.length_nil]; omega) r3
  rw [if_neg (show ¬ (n2 : Int) < 0 by omega), List.append_nil] at r4
  refine ⟨w4, ?_, fr_trans f1 (fr_trans f2 (fr_trans f3 f4)), r4⟩
  obtain ⟨s1, k1, -⟩ := hct
  obtain ⟨s2, k2, -⟩ := r2
  obtain ⟨s3, k3, -⟩ := r3
  obtain ⟨s4, k4, -⟩ := r4
  have e3 : rz_ex X (d + 3) 103 [.ref 12, .int (Int32.ofInt 47)] w2 = some (.inl none, w3, 0, 0) := e3
  simp (disch := first | exact nl_i | exact nl_r | exact nl_0 | exact nl_n | exact nl_x | exact kd_r | exact kd_n | exact kd_x | exact kd_o | exact cats0 | exact cats1 | exact cats2 | exact cats3 | exact cats4 | exact nr_i | exact nr_l | exact nr_z0 | exact nr_z1 | exact ft_i | exact ft_l | omega | rfl | assumption | (refine i_ne0 ?_ ?_ ?_ <;> omega) | (refine j_ne0 ?_ ?_ ?_ <;> omega) | (refine i_new ?_ ?_ <;> omega) | (refine bl_t ?_; with_unfolding_all rfl) | exact ft_z0 | exact ft_z1) only [n_X9_becomeFraction, q_X9_becomeFraction_0, q_X9_becomeFraction_1, q_X9_becomeFraction_2, q_X9_becomeFraction_5, q_X9_becomeFraction_7, q_X9_becomeFraction_8, q_X9_becomeFraction_9, q_X9_becomeFraction_12, q_X9_becomeFraction_13, q_X9_becomeFraction_15, q_X9_becomeFraction_16, q_X9_becomeFraction_17, q_X9_becomeFraction_20, q_X9_becomeFraction_21, q_X9_becomeFraction_24, q_X9_becomeFraction_25, q_X9_becomeFraction_27, q_X9_becomeFraction_28, q_X9_becomeFraction_31, q_X9_becomeFraction_32, q_X9_becomeFraction_34, q_X9_becomeFraction_37, q_X9_becomeFraction_38, q_X9_becomeFraction_40, q_X9_becomeFraction_41, q_X9_becomeFraction_42, q_X9_becomeFraction_45, q_X9_becomeFraction_46, q_X9_becomeFraction_49, q_X9_becomeFraction_50, q_X9_becomeFraction_52, q_X9_becomeFraction_53, q_X9_becomeFraction_56, q_X9_becomeFraction_57, q_X9_becomeFraction_60, i_add, i_sub, i_mul, i_neg, i_lt, i_le, i_eq, i_tm, i_div, i_j, j_i, j_add, j_sub, j_mul, j_neg, j_lt, j_le, j_eq, j_div, c_lt, c_le, c_gt, c_ge, c_eq, i_nat, rz_k, Nat.add_zero, Nat.zero_add, Nat.add_assoc, Nat.reduceAdd, if_true, if_false, kg, pf_eq g12, List.set_cons_zero, hw1, if_pos (show 1 ≤ (g : Int) by omega), q2, vk_eq k1, e2, vk_eq k2, e3, vk_eq k3, e4, gf_eq k4, List.getElem?_cons_zero, List.getElem?_cons_succ]
  rfl
theorem ag_tellCorner {s n z : Int} (hz : z = 0 ∨ z = 1) (hs1 : -2147483648 ≤ s ∧ s ≤ 2147483647) (hn1 : -2147483648 ≤ n ∧ n ≤ 2147483647) (hv : v_inv w) : rz_ag X d 124 218 false [.int (Int32.ofInt s), .int (Int32.ofInt n), .int (Int32.ofInt z)] ["java/lang/IndexOutOfBoundsException", "java/util/NoSuchElementException"] w := by
  obtain ⟨kp, tl, kd, ty, cl, th, hy, hm, hs, ht, hp, hq, hmi⟩ := id hv
  obtain ⟨G, KG, H, KH, KS, KT, A, B, C, KA, KB, KC, ⟨g1, g2, g3, g33, g34, g35, g36, g37, g38, g39, g40, g41⟩, hk, hS, hK⟩ := id hs
  by_cases ha : 0 ≤ s ∧ s ≤ 7
  case neg =>
    refine ag_thr0 (c1 := 1) (s1 := 6) 0 rfl hv hm ?_ ?_
    · simp (disch := first | exact nl_i | exact nl_r | exact nl_0 | exact nl_n | exact nl_x | exact kd_r | exact kd_n | exact kd_x | exact kd_o | exact cats0 | exact cats1 | exact cats2 | exact cats3 | exact cats4 | exact nr_i | exact nr_l | exact nr_z0 | exact nr_z1 | exact ft_i | exact ft_l | omega | rfl | assumption | (refine i_ne0 ?_ ?_ ?_ <;> omega) | (refine j_ne0 ?_ ?_ ?_ <;> omega) | (refine i_new ?_ ?_ <;> omega)) only [n_X10_tellCorner, q_X10_tellCorner_0, q_X10_tellCorner_1, q_X10_tellCorner_4, q_X10_tellCorner_5, q_X10_tellCorner_6, q_X10_tellCorner_7, q_X10_tellCorner_10, q_X10_tellCorner_13, q_X10_tellCorner_14, q_X10_tellCorner_17, q_X10_tellCorner_18, q_X10_tellCorner_19, q_X10_tellCorner_22, q_X10_tellCorner_25, q_X10_tellCorner_28, q_X10_tellCorner_38, q_X10_tellCorner_39, q_X10_tellCorner_42, q_X10_tellCorner_43, q_X10_tellCorner_46, q_X10_tellCorner_47, q_X10_tellCorner_50, q_X10_tellCorner_53, q_X10_tellCorner_54, q_X10_tellCorner_57, q_X10_tellCorner_58, q_X10_tellCorner_61, q_X10_tellCorner_63, q_X10_tellCorner_64, q_X10_tellCorner_67, q_X10_tellCorner_69, q_X10_tellCorner_70, q_X10_tellCorner_73, q_X10_tellCorner_76, q_X10_tellCorner_79, i_add, i_sub, i_mul, i_neg, i_lt, i_le, i_eq, i_tm, i_div, i_j, j_i, j_add, j_sub, j_mul, j_neg, j_lt, j_le, j_eq, j_div, c_lt, c_le, c_gt, c_ge, c_eq, i_nat, rz_k, Nat.add_zero, Nat.zero_add, Nat.add_assoc, Nat.reduceAdd, if_true, if_false, x_slot, if_neg ha, vk_eq hy]
      all_goals rfl
    · rintro wr hm rfl
      refine ⟨Int32.ofInt 0, [], 0, 0, ?_, by omega, by omega⟩
      have hl := y_lacks2 (X := X) (d := d + 26) hm hs1.1 hs1.2 ha
      simp (disch := first | exact nl_i | exact nl_r | exact nl_0 | exact nl_n | exact nl_x | exact kd_r | exact kd_n | exact kd_x | exact kd_o | exact cats0 | exact cats1 | exact cats2 | exact cats3 | exact cats4 | exact nr_i | exact nr_l | exact nr_z0 | exact nr_z1 | exact ft_i | exact ft_l | omega | rfl | assumption | (refine i_ne0 ?_ ?_ ?_ <;> omega) | (refine j_ne0 ?_ ?_ ?_ <;> omega) | (refine i_new ?_ ?_ <;> omega)) only [n_X11_tellCorner, q_X11_tellCorner_0, q_X11_tellCorner_1, q_X11_tellCorner_2, q_X11_tellCorner_5, q_X11_tellCorner_8, q_X11_tellCorner_9, q_X11_tellCorner_10, q_X11_tellCorner_11, q_X11_tellCorner_12, q_X11_tellCorner_13, q_X11_tellCorner_16, q_X11_tellCorner_16x, q_X11_tellCorner_17, q_X11_tellCorner_18, q_X11_tellCorner_19, q_X11_tellCorner_20, q_X11_tellCorner_21, q_X11_tellCorner_24, q_X11_tellCorner_25, q_X11_tellCorner_28, q_X11_tellCorner_31, q_X11_tellCorner_32, q_X11_tellCorner_33, q_X11_tellCorner_34, q_X11_tellCorner_35, q_X11_tellCorner_38, q_X11_tellCorner_39, q_X11_tellCorner_40, q_X11_tellCorner_41, q_X11_tellCorner_42, q_X11_tellCorner_45, q_X11_tellCorner_46, q_X11_tellCorner_49, q_X11_tellCorner_50, q_X11_tellCorner_51, q_X11_tellCorner_52, q_X11_tellCorner_54, q_X11_tellCorner_57, q_X11_tellCorner_58, q_X11_tellCorner_61, q_X11_tellCorner_62, q_X11_tellCorner_63, q_X11_tellCorner_64, q_X11_tellCorner_65, q_X11_tellCorner_68, q_X11_tellCorner_69, q_X11_tellCorner_70, q_X11_tellCorner_71, q_X11_tellCorner_73, q_X11_tellCorner_75, q_X11_tellCorner_77, q_X11_tellCorner_80, q_X11_tellCorner_82, q_X11_tellCorner_83, q_X11_tellCorner_84, q_X11_tellCorner_87, q_X11_tellCorner_89, q_X11_tellCorner_90, q_X11_tellCorner_91, q_X11_tellCorner_94, q_X11_tellCorner_95, q_X11_tellCorner_97, q_X11_tellCorner_100, q_X11_tellCorner_101, q_X11_tellCorner_103, q_X11_tellCorner_104, q_X11_tellCorner_105, q_X11_tellCorner_108, q_X11_tellCorner_110, q_X11_tellCorner_111, q_X11_tellCorner_114, q_X11_tellCorner_116, q_X11_tellCorner_118, q_X11_tellCorner_119, q_X11_tellCorner_120, q_X11_tellCorner_123, q_X11_tellCorner_124, q_X11_tellCorner_126, q_X11_tellCorner_129, q_X11_tellCorner_130, q_X11_tellCorner_132, q_X11_tellCorner_134, q_X11_tellCorner_135, q_X11_tellCorner_136, q_X11_tellCorner_139, q_X11_tellCorner_140, q_X11_tellCorner_143, i_add, i_sub, i_mul, i_neg, i_lt, i_le, i_eq, i_tm, i_div, i_j, j_i, j_add, j_sub, j_mul, j_neg, j_lt, j_le, j_eq, j_div, c_lt, c_le, c_gt, c_ge, c_eq, i_nat, rz_k, Nat.add_zero, Nat.zero_add, Nat.add_assoc, Nat.reduceAdd, if_true, if_false, hl, vk_eq hm, List.append_nil, Int.reduceEq, not_false_eq_true, not_true_eq_false]
      all_goals rfl
  have hi := hS s.toNat (by omega)
  have hgr := x_gridIn (X := X) (d := d + 27) hy g1 ha.1 ha.2
  cases hg : G s.toNat with
  | none =>
    rw [hg] at hi hgr
    refine ag_thr0 (c1 := 1) (s1 := 6) 1 rfl hv hm ?_ ?_
    · simp (disch := first | exact nl_i | exact nl_r | exact nl_0 | exact nl_n | exact nl_x | exact kd_r | exact kd_n | exact kd_x | exact kd_o | exact cats0 | exact cats1 | exact cats2 | exact cats3 | exact cats4 | exact nr_i | exact nr_l | exact nr_z0 | exact nr_z1 | exact ft_i | exact ft_l | omega | rfl | assumption | (refine i_ne0 ?_ ?_ ?_ <;> omega) | (refine j_ne0 ?_ ?_ ?_ <;> omega) | (refine i_new ?_ ?_ <;> omega)) only [n_X10_tellCorner, q_X10_tellCorner_0, q_X10_tellCorner_1, q_X10_tellCorner_4, q_X10_tellCorner_5, q_X10_tellCorner_6, q_X10_tellCorner_7, q_X10_tellCorner_10, q_X10_tellCorner_13, q_X10_tellCorner_14, q_X10_tellCorner_17, q_X10_tellCorner_18, q_X10_tellCorner_19, q_X10_tellCorner_22, q_X10_tellCorner_25, q_X10_tellCorner_28, q_X10_tellCorner_38, q_X10_tellCorner_39, q_X10_tellCorner_42, q_X10_tellCorner_43, q_X10_tellCorner_46, q_X10_tellCorner_47, q_X10_tellCorner_50, q_X10_tellCorner_53, q_X10_tellCorner_54, q_X10_tellCorner_57, q_X10_tellCorner_58, q_X10_tellCorner_61, q_X10_tellCorner_63, q_X10_tellCorner_64, q_X10_tellCorner_67, q_X10_tellCorner_69, q_X10_tellCorner_70, q_X10_tellCorner_73, q_X10_tellCorner_76, q_X10_tellCorner_79, i_add, i_sub, i_mul, i_neg, i_lt, i_le, i_eq, i_tm, i_div, i_j, j_i, j_add, j_sub, j_mul, j_neg, j_lt, j_le, j_eq, j_div, c_lt, c_le, c_gt, c_ge, c_eq, i_nat, rz_k, Nat.add_zero, Nat.zero_add, Nat.add_assoc, Nat.reduceAdd, if_true, if_false, x_slot, if_pos ha, hgr, vk_eq hy]
      all_goals rfl
    · rintro wr hm rfl
      refine ⟨Int32.ofInt 0, [], 0, 0, ?_, by omega, by omega⟩
      have hl := y_lacks1 (X := X) (d := d + 26) hm g33 ha.1 ha.2 hi
      simp (disch := first | exact nl_i | exact nl_r | exact nl_0 | exact nl_n | exact nl_x | exact kd_r | exact kd_n | exact kd_x | exact kd_o | exact cats0 | exact cats1 | exact cats2 | exact cats3 | exact cats4 | exact nr_i | exact nr_l | exact nr_z0 | exact nr_z1 | exact ft_i | exact ft_l | omega | rfl | assumption | (refine i_ne0 ?_ ?_ ?_ <;> omega) | (refine j_ne0 ?_ ?_ ?_ <;> omega) | (refine i_new ?_ ?_ <;> omega)) only [n_X11_tellCorner, q_X11_tellCorner_0, q_X11_tellCorner_1, q_X11_tellCorner_2, q_X11_tellCorner_5, q_X11_tellCorner_8, q_X11_tellCorner_9, q_X11_tellCorner_10, q_X11_tellCorner_11, q_X11_tellCorner_12, q_X11_tellCorner_13, q_X11_tellCorner_16, q_X11_tellCorner_16x, q_X11_tellCorner_17, q_X11_tellCorner_18, q_X11_tellCorner_19, q_X11_tellCorner_20, q_X11_tellCorner_21, q_X11_tellCorner_24, q_X11_tellCorner_25, q_X11_tellCorner_28, q_X11_tellCorner_31, q_X11_tellCorner_32, q_X11_tellCorner_33, q_X11_tellCorner_34, q_X11_tellCorner_35, q_X11_tellCorner_38, q_X11_tellCorner_39, q_X11_tellCorner_40, q_X11_tellCorner_41, q_X11_tellCorner_42, q_X11_tellCorner_45, q_X11_tellCorner_46, q_X11_tellCorner_49, q_X11_tellCorner_50, q_X11_tellCorner_51, q_X11_tellCorner_52, q_X11_tellCorner_54, q_X11_tellCorner_57, q_X11_tellCorner_58, q_X11_tellCorner_61, q_X11_tellCorner_62, q_X11_tellCorner_63, q_X11_tellCorner_64, q_X11_tellCorner_65, q_X11_tellCorner_68, q_X11_tellCorner_69, q_X11_tellCorner_70, q_X11_tellCorner_71, q_X11_tellCorner_73, q_X11_tellCorner_75, q_X11_tellCorner_77, q_X11_tellCorner_80, q_X11_tellCorner_82, q_X11_tellCorner_83, q_X11_tellCorner_84, q_X11_tellCorner_87, q_X11_tellCorner_89, q_X11_tellCorner_90, q_X11_tellCorner_91, q_X11_tellCorner_94, q_X11_tellCorner_95, q_X11_tellCorner_97, q_X11_tellCorner_100, q_X11_tellCorner_101, q_X11_tellCorner_103, q_X11_tellCorner_104, q_X11_tellCorner_105, q_X11_tellCorner_108, q_X11_tellCorner_110, q_X11_tellCorner_111, q_X11_tellCorner_114, q_X11_tellCorner_116, q_X11_tellCorner_118, q_X11_tellCorner_119, q_X11_tellCorner_120, q_X11_tellCorner_123, q_X11_tellCorner_124, q_X11_tellCorner_126, q_X11_tellCorner_129, q_X11_tellCorner_130, q_X11_tellCorner_132, q_X11_tellCorner_134, q_X11_tellCorner_135, q_X11_tellCorner_136, q_X11_tellCorner_139, q_X11_tellCorner_140, q_X11_tellCorner_143, i_add, i_sub, i_mul, i_neg, i_lt, i_le, i_eq, i_tm, i_div, i_j, j_i, j_add, j_sub, j_mul, j_neg, j_lt, j_le, j_eq, j_div, c_lt, c_le, c_gt, c_ge, c_eq, i_nat, rz_k, Nat.add_zero, Nat.zero_add, Nat.add_assoc, Nat.reduceAdd, if_true, if_false, hl, vk_eq hm, List.append_nil, Int.reduceEq, not_false_eq_true, not_true_eq_false]
      all_goals rfl
  | some g =>
    rw [hg] at hi hgr
    obtain ⟨hh, hg49, a, b, c, hr, ho, ea, eb, ec⟩ := hi
    obtain ⟨r1, r2, r3, r4, hrr, k1, k2, k3, k4, k5, k6⟩ := zr_grid hr
    obtain ⟨w1, x, y, u, v, hq0, hdet, hN1, hN2, hp0, hp1, hp2, hsm, e1, f1, hmi1, hc⟩ := x_drawCell (X := X) (d := d + 24) hy hmi ho hg49 hr hrr
    have hy1 : v_yard w1 kp := fr_get f1 (by decide) hy
    have ht1 : v_text w1 tl := v_text_fr f1 (by decide) (by decide) (by decide) ht
    obtain ⟨Xf, Yf, h9, h10, h11, hX⟩ := id hc
    have hac := Int.mul_pos (show 0 < a by omega) (show 0 < c by omega)
    have hm6 : zc_m x y u v = 4 ∨ zc_m x y u v = 6 := by unfold zc_m; split <;> omega
    have hff := (zc_first_ok (zc_q x y u v) (zc_m x y u v - 1) 1 0 (by omega) (fun i hi => by
      obtain rfl : i = 0 := by omega
      unfold zc_gt
      omega)).1
    -- the reference up to its look at the number
    have hpre : ∀ wr, rz_fr [48, 12, 13, 4, 9, 10, 11] w wr → v_model wr kp tl kd ty cl th → ∃ l : rz_W, rz_ex X (d + 30) 218 [.ref 32, .int (Int32.ofInt s), .int (Int32.ofInt n), .int (Int32.ofInt z)] wr = rz_G X (d + 29) mz_X11_tellCorner 19 [some (.ref 32), some (.int (Int32.ofInt s)), some (.int (Int32.ofInt n)), some (.int (Int32.ofInt z)), none, none, none, none, none, none] [.int (Int32.ofInt (zc_m x y u v : Int)), .int (Int32.ofInt 0), .int (Int32.ofInt n), .ref 32] (wr.set 32 (rz_mo kp tl kd ty cl 0) ++ l) 2 (4 + 2 * zc_m x y u v) := by
      intro wr hf hmr
      have hl0 := y_lacks0 (X := X) (d := d + 26) hmr (fr_get hf (by decide) g33) ha.1 ha.2 hh
      have hm1 := v_mo (t := 0) hmr
      have fa : rz_fr [32] wr (wr.set 32 (rz_mo kp tl kd ty cl 0)) := fr_set (by decide)
      have ff : rz_fr [48, 12, 13, 4, 9, 10, 11, 32] w (wr.set 32 (rz_mo kp tl kd ty cl 0)) := fr_trans (fr_sub hf (by decide)) (fr_sub fa (by decide))
      obtain ⟨l, p, m, F, em, e2, hF, -⟩ := y_around (X := X) (d := d + 26) hm1 (fr_get ff (by decide) g34) (fr_get ff (by decide) g35) (fr_get ff (by decide) g36) ha ea eb ec hr hrr k4
      rw [zc_m_eq hq0] at em
      have t : (((2 * m : Nat) : Int)).tdiv 2 = (m : Int) := by
        rw [show (((2 * m : Nat) : Int)).tdiv 2 = ((2 * m / 2 : Nat) : Int) from (Int.ofNat_tdiv _ _).symm]
        omega
      rw [em] at t
      refine ⟨l, ?_⟩
      simp (disch := first | exact nl_i | exact nl_r | exact nl_0 | exact nl_n | exact nl_x | exact kd_r | exact kd_n | exact kd_x | exact kd_o | exact cats0 | exact cats1 | exact cats2 | exact cats3 | exact cats4 | exact nr_i | exact nr_l | exact nr_z0 | exact nr_z1 | exact ft_i | exact ft_l | omega | rfl | assumption | (refine i_ne0 ?_ ?_ ?_ <;> omega) | (refine j_ne0 ?_ ?_ ?_ <;> omega) | (refine i_new ?_ ?_ <;> omega)) only [n_X11_tellCorner, q_X11_tellCorner_0, q_X11_tellCorner_1, q_X11_tellCorner_2, q_X11_tellCorner_5, q_X11_tellCorner_8, q_X11_tellCorner_9, q_X11_tellCorner_10, q_X11_tellCorner_11, q_X11_tellCorner_12, q_X11_tellCorner_13, q_X11_tellCorner_16, q_X11_tellCorner_16x, q_X11_tellCorner_17, q_X11_tellCorner_18, i_add, i_sub, i_mul, i_neg, i_lt, i_le, i_eq, i_tm, i_div, i_j, j_i, j_add, j_sub, j_mul, j_neg, j_lt, j_le, j_eq, j_div, c_lt, c_le, c_gt, c_ge, c_eq, i_nat, rz_k, Nat.add_zero, Nat.zero_add, Nat.add_assoc, Nat.reduceAdd, if_true, if_false, hl0, vk_eq hmr, vk_eq hm1, e2, ln_eq hF, t, em, Int.reduceEq, not_false_eq_true, not_true_eq_false]
    by_cases hn : 0 ≤ n ∧ n ≤ (zc_m x y u v : Int) - 1
    case neg =>
      refine ag_thr (S1 := [4, 9, 10, 11]) (S2 := []) (c1 := 1) (s1 := 6) 1 rfl hv hm ?_ f1 (by decide) hmi1 (by simp) ?_
      · by_cases h0 : n < 0
        · simp (disch := first | exact nl_i | exact nl_r | exact nl_0 | exact nl_n | exact nl_x | exact kd_r | exact kd_n | exact kd_x | exact kd_o | exact cats0 | exact cats1 | exact cats2 | exact cats3 | exact cats4 | exact nr_i | exact nr_l | exact nr_z0 | exact nr_z1 | exact ft_i | exact ft_l | omega | rfl | assumption | (refine i_ne0 ?_ ?_ ?_ <;> omega) | (refine j_ne0 ?_ ?_ ?_ <;> omega) | (refine i_new ?_ ?_ <;> omega)) only [n_X10_tellCorner, q_X10_tellCorner_0, q_X10_tellCorner_1, q_X10_tellCorner_4, q_X10_tellCorner_5, q_X10_tellCorner_6, q_X10_tellCorner_7, q_X10_tellCorner_10, q_X10_tellCorner_13, q_X10_tellCorner_14, q_X10_tellCorner_17, q_X10_tellCorner_18, q_X10_tellCorner_19, q_X10_tellCorner_22, q_X10_tellCorner_25, q_X10_tellCorner_28, q_X10_tellCorner_38, q_X10_tellCorner_39, q_X10_tellCorner_42, q_X10_tellCorner_43, q_X10_tellCorner_46, q_X10_tellCorner_47, q_X10_tellCorner_50, q_X10_tellCorner_53, q_X10_tellCorner_54, q_X10_tellCorner_57, q_X10_tellCorner_58, q_X10_tellCorner_61, q_X10_tellCorner_63, q_X10_tellCorner_64, q_X10_tellCorner_67, q_X10_tellCorner_69, q_X10_tellCorner_70, q_X10_tellCorner_73, q_X10_tellCorner_76, q_X10_tellCorner_79, i_add, i_sub, i_mul, i_neg, i_lt, i_le, i_eq, i_tm, i_div, i_j, j_i, j_add, j_sub, j_mul, j_neg, j_lt, j_le, j_eq, j_div, c_lt, c_le, c_gt, c_ge, c_eq, i_nat, rz_k, Nat.add_zero, Nat.zero_add, Nat.add_assoc, Nat.reduceAdd, if_true, if_false, x_slot, if_pos ha, hgr, vk_eq hy, vk_eq hy1, e1, if_pos h0]
          all_goals rfl
        · simp (disch := first | exact nl_i | exact nl_r | exact nl_0 | exact nl_n | exact nl_x | exact kd_r | exact kd_n | exact kd_x | exact kd_o | exact cats0 | exact cats1 | exact cats2 | exact cats3 | exact cats4 | exact nr_i | exact nr_l | exact nr_z0 | exact nr_z1 | exact ft_i | exact ft_l | omega | rfl | assumption | (refine i_ne0 ?_ ?_ ?_ <;> omega) | (refine j_ne0 ?_ ?_ ?_ <;> omega) | (refine i_new ?_ ?_ <;> omega)) only [n_X10_tellCorner, q_X10_tellCorner_0, q_X10_tellCorner_1, q_X10_tellCorner_4, q_X10_tellCorner_5, q_X10_tellCorner_6, q_X10_tellCorner_7, q_X10_tellCorner_10, q_X10_tellCorner_13, q_X10_tellCorner_14, q_X10_tellCorner_17, q_X10_tellCorner_18, q_X10_tellCorner_19, q_X10_tellCorner_22, q_X10_tellCorner_25, q_X10_tellCorner_28, q_X10_tellCorner_38, q_X10_tellCorner_39, q_X10_tellCorner_42, q_X10_tellCorner_43, q_X10_tellCorner_46, q_X10_tellCorner_47, q_X10_tellCorner_50, q_X10_tellCorner_53, q_X10_tellCorner_54, q_X10_tellCorner_57, q_X10_tellCorner_58, q_X10_tellCorner_61, q_X10_tellCorner_63, q_X10_tellCorner_64, q_X10_tellCorner_67, q_X10_tellCorner_69, q_X10_tellCorner_70, q_X10_tellCorner_73, q_X10_tellCorner_76, q_X10_tellCorner_79, i_add, i_sub, i_mul, i_neg, i_lt, i_le, i_eq, i_tm, i_div, i_j, j_i, j_add, j_sub, j_mul, j_neg, j_lt, j_le, j_eq, j_div, c_lt, c_le, c_gt, c_ge, c_eq, i_nat, rz_k, Nat.add_zero, Nat.zero_add, Nat.add_assoc, Nat.reduceAdd, if_true, if_false, x_slot, if_pos ha, hgr, vk_eq hy, vk_eq hy1, e1, if_neg h0, gf_eq hy1, List.getElem?_cons_zero, List.getElem?_cons_succ, gf_eq h9, if_neg (show ¬ n < (zc_m x y u v : Int) by omega)]
          all_goals rfl
      · intro wr hf hmr hv'
        obtain ⟨l, e2⟩ := hpre wr (fr_sub hf (by decide)) hmr
        have hm1 := v_mo (t := 0) hmr
        have hm2 : v_model (wr.set 32 (rz_mo kp tl kd ty cl 0) ++ l) kp tl kd ty cl 0 := fr_get (S := []) fr_app (by simp) hm1
        have y2 := x_no0 (X := X) (d := d + 28) (k := 2) hm2
        have fb : rz_fr [32] wr ((wr.set 32 (rz_mo kp tl kd ty cl 0) ++ l).set 32 (rz_mo kp tl kd ty cl 2)) := fr_trans (fr_trans (fr_set (by decide)) fr_app) (fr_set (by decide))
        refine ⟨Int32.ofInt 0, (wr.set 32 (rz_mo kp tl kd ty cl 0) ++ l).set 32 (rz_mo kp tl kd ty cl 2), 2, 4 + 2 * zc_m x y u v, ?_, fb, v_mo hm2, v_misc_fr fb (by decide) (v_inv_misc hv'), by omega, by omega⟩
        rw [e2]
        simp (disch := first | exact nl_i | exact nl_r | exact nl_0 | exact nl_n | exact nl_x | exact kd_r | exact kd_n | exact kd_x | exact kd_o | exact cats0 | exact cats1 | exact cats2 | exact cats3 | exact cats4 | exact nr_i | exact nr_l | exact nr_z0 | exact nr_z1 | exact ft_i | exact ft_l | omega | rfl | assumption | (refine i_ne0 ?_ ?_ ?_ <;> omega) | (refine j_ne0 ?_ ?_ ?_ <;> omega) | (refine i_new ?_ ?_ <;> omega)) only [q_X11_tellCorner_19, q_X11_tellCorner_20, q_X11_tellCorner_21, q_X11_tellCorner_24, q_X11_tellCorner_25, q_X11_tellCorner_28, q_X11_tellCorner_31, q_X11_tellCorner_32, i_add, i_sub, i_mul, i_neg, i_lt, i_le, i_eq, i_tm, i_div, i_j, j_i, j_add, j_sub, j_mul, j_neg, j_lt, j_le, j_eq, j_div, c_lt, c_le, c_gt, c_ge, c_eq, i_nat, rz_k, Nat.add_zero, Nat.zero_add, Nat.add_assoc, Nat.reduceAdd, if_true, if_false, x_in, if_neg hn, vk_eq hm2, y2, Int.reduceEq, not_false_eq_true, not_true_eq_false]
    obtain ⟨n, rfl⟩ := Int.eq_ofNat_of_zero_le hn.1
    obtain ⟨o1, o2⟩ := x_over (X := X) (d := d + 25) (n := n) hm6 hc (by omega) (by omega)
    have hsk := hsm ((zc_first (zc_q x y u v) (zc_m x y u v - 1) 1 0 + n) % zc_m x y u v) (Nat.mod_lt _ (by omega))
    -- what is told
    obtain ⟨zz, hzz, hzb, hcls, hidx⟩ : ∃ zz : Int, (zz = if z = 0 then (zc_q x y u v ((zc_first (zc_q x y u v) (zc_m x y u v - 1) 1 0 + n) % zc_m x y u v)).2 else (zc_q x y u v ((zc_first (zc_q x y u v) (zc_m x y u v - 1) 1 0 + n) % zc_m x y u v)).1) ∧ zz.natAbs ≤ 100000000000000 ∧ (∀ (w' : rz_W) (r : Int32), rz_ex X (d + 28) 99 [.ref 12, .long (Int64.ofInt zz), .long (Int64.ofInt (2 * (a * c)))] w1 = some (.inl (some (.int r)), w', 0, 0) → rz_ex X (d + 29) 124 [.ref 0, .int (Int32.ofInt s), .int (Int32.ofInt (n : Int)), .int (Int32.ofInt z)] w = some (.inl (some (.int r)), w', 0, 0)) ∧ True := by
      obtain ⟨sg, sg2, g12, g13, g42, htl, hsg⟩ := id ht1
      rcases hz with rfl | rfl
      · refine ⟨_, rfl, by rw [if_pos rfl]; exact hsk.2, ?_, trivial⟩
        rw [if_pos rfl]
        intro w' r e
        simp (disch := first | exact nl_i | exact nl_r | exact nl_0 | exact nl_n | exact nl_x | exact kd_r | exact kd_n | exact kd_x | exact kd_o | exact cats0 | exact cats1 | exact cats2 | exact cats3 | exact cats4 | exact nr_i | exact nr_l | exact nr_z0 | exact nr_z1 | exact ft_i | exact ft_l | omega | rfl | assumption | (refine i_ne0 ?_ ?_ ?_ <;> omega) | (refine j_ne0 ?_ ?_ ?_ <;> omega) | (refine i_new ?_ ?_ <;> omega)) only [n_X10_tellCorner, q_X10_tellCorner_0, q_X10_tellCorner_1, q_X10_tellCorner_4, q_X10_tellCorner_5, q_X10_tellCorner_6, q_X10_tellCorner_7, q_X10_tellCorner_10, q_X10_tellCorner_13, q_X10_tellCorner_14, q_X10_tellCorner_17, q_X10_tellCorner_18, q_X10_tellCorner_19, q_X10_tellCorner_22, q_X10_tellCorner_25, q_X10_tellCorner_28, q_X10_tellCorner_38, q_X10_tellCorner_39, q_X10_tellCorner_42, q_X10_tellCorner_43, q_X10_tellCorner_46, q_X10_tellCorner_47, q_X10_tellCorner_50, q_X10_tellCorner_53, q_X10_tellCorner_54, q_X10_tellCorner_57, q_X10_tellCorner_58, q_X10_tellCorner_61, q_X10_tellCorner_63, q_X10_tellCorner_64, q_X10_tellCorner_67, q_X10_tellCorner_69, q_X10_tellCorner_70, q_X10_tellCorner_73, q_X10_tellCorner_76, q_X10_tellCorner_79, i_add, i_sub, i_mul, i_neg, i_lt, i_le, i_eq, i_tm, i_div, i_j, j_i, j_add, j_sub, j_mul, j_neg, j_lt, j_le, j_eq, j_div, c_lt, c_le, c_gt, c_ge, c_eq, i_nat, rz_k, Nat.add_zero, Nat.zero_add, Nat.add_assoc, Nat.reduceAdd, if_true, if_false, x_slot, if_pos ha, hgr, vk_eq hy, vk_eq hy1, e1, if_neg (show ¬ (n : Int) < 0 by omega), gf_eq hy1, List.getElem?_cons_zero, List.getElem?_cons_succ, gf_eq h9, if_pos (show (n : Int) < (zc_m x y u v : Int) by omega), vk_eq h9, o2, if_pos (show (0 : Int) = 0 by omega), vk_eq g12, e]
      · refine ⟨_, rfl, by rw [if_neg (by omega)]; exact hsk.1, ?_, trivial⟩
        rw [if_neg (by omega)]
        intro w' r e
        simp (disch := first | exact nl_i | exact nl_r | exact nl_0 | exact nl_n | exact nl_x | exact kd_r | exact kd_n | exact kd_x | exact kd_o | exact cats0 | exact cats1 | exact cats2 | exact cats3 | exact cats4 | exact nr_i | exact nr_l | exact nr_z0 | exact nr_z1 | exact ft_i | exact ft_l | omega | rfl | assumption | (refine i_ne0 ?_ ?_ ?_ <;> omega) | (refine j_ne0 ?_ ?_ ?_ <;> omega) | (refine i_new ?_ ?_ <;> omega)) only [n_X10_tellCorner, q_X10_tellCorner_0, q_X10_tellCorner_1, q_X10_tellCorner_4, q_X10_tellCorner_5, q_X10_tellCorner_6, q_X10_tellCorner_7, q_X10_tellCorner_10, q_X10_tellCorner_13, q_X10_tellCorner_14, q_X10_tellCorner_17, q_X10_tellCorner_18, q_X10_tellCorner_19, q_X10_tellCorner_22, q_X10_tellCorner_25, q_X10_tellCorner_28, q_X10_tellCorner_38, q_X10_tellCorner_39, q_X10_tellCorner_42, q_X10_tellCorner_43, q_X10_tellCorner_46, q_X10_tellCorner_47, q_X10_tellCorner_50, q_X10_tellCorner_53, q_X10_tellCorner_54, q_X10_tellCorner_57, q_X10_tellCorner_58, q_X10_tellCorner_61, q_X10_tellCorner_63, q_X10_tellCorner_64, q_X10_tellCorner_67, q_X10_tellCorner_69, q_X10_tellCorner_70, q_X10_tellCorner_73, q_X10_tellCorner_76, q_X10_tellCorner_79, i_add, i_sub, i_mul, i_neg, i_lt, i_le, i_eq, i_tm, i_div, i_j, j_i, j_add, j_sub, j_mul, j_neg, j_lt, j_le, j_eq, j_div, c_lt, c_le, c_gt, c_ge, c_eq, i_nat, rz_k, Nat.add_zero, Nat.zero_add, Nat.add_assoc, Nat.reduceAdd, if_true, if_false, x_slot, if_pos ha, hgr, vk_eq hy, vk_eq hy1, e1, if_neg (show ¬ (n : Int) < 0 by omega), gf_eq hy1, List.getElem?_cons_zero, List.getElem?_cons_succ, gf_eq h9, if_pos (show (n : Int) < (zc_m x y u v : Int) by omega), vk_eq h9, o1, if_neg (show ¬ (1 : Int) = 0 by omega), vk_eq g12, e]
    obtain ⟨un, hun⟩ := Int.eq_ofNat_of_zero_le (show 0 ≤ 2 * (a * c) by omega)
    have hun : 2 * (a * c) = (un : Int) := hun
    obtain ⟨L1, hL1⟩ := zf_len_ex (zz.natAbs / Int.gcd zz (un : Int))
    obtain ⟨L2, hL2⟩ := zf_len_ex (un / Int.gcd zz (un : Int))
    have bq1 : zz.natAbs / Int.gcd zz (un : Int) ≤ 100000000000000 := Nat.le_trans (Nat.div_le_self _ _) hzb
    have bq2 : un / Int.gcd zz (un : Int) ≤ 2000000 := Nat.le_trans (Nat.div_le_self _ _) (by omega)
    have bL1 := len_b hL1 (B := 15) (by omega) (by omega)
    have bL2 := len_b hL2 (B := 7) (by omega) (by omega)
    obtain ⟨w2, e2, f2, r2⟩ := x_fraction (X := X) (d := d + 24) (z := zz) (un := un) ht1 hzb (by omega) rfl rfl rfl hL1 hL2 (by omega) (by omega)
    rw [hun] at hcls
    have hcl1 := hcls _ _ e2
    have hgpos : 1 ≤ Int.gcd zz (un : Int) := by
      rcases Nat.eq_zero_or_pos (Int.gcd zz (un : Int)) with h | h
      · have := Int.gcd_dvd_right zz (un : Int)
        rw [h] at this
        have := Int.zero_dvd.mp this
        omega
      · exact h
    have f12 : rz_fr ([12, 13] ++ [4, 9, 10, 11]) w w2 := fr_trans (fr_sub f1 (by decide)) (fr_sub f2 (by decide))
    have hTl : (zc_T zz (Int.gcd zz (un : Int)) (zz.natAbs / Int.gcd zz (un : Int)) (un / Int.gcd zz (un : Int)) L1 L2).length ≤ 30 := by
      unfold zc_T
      rw [List.length_append, List.length_append, List.length_append, zds_len, zds_len]
      split <;> simp <;> omega
    refine ag_txt (S1 := [4, 9, 10, 11]) (c1 := 0) (s1 := 0) (w1 := w2) (T := zc_T zz (Int.gcd zz (un : Int)) (zz.natAbs / Int.gcd zz (un : Int)) (un / Int.gcd zz (un : Int)) L1 L2) ⟨hy, hm, hs, ht, hp, hq, hmi⟩ hcl1 f12 (by decide) (v_misc_fr f2 (by decide) hmi1) r2 ⟨by omega, ?_⟩ ?_
    · intro cc hcc
      unfold zc_T at hcc
      simp only [List.mem_append] at hcc
      rcases hcc with ((h | h) | h) | h
      · split at h
        · simp at h; omega
        · simp at h
      · have := zds_c h; omega
      · simp at h; omega
      · have := zds_c h; omega
    · intro wr hf hmr
      obtain ⟨l, e3⟩ := hpre wr hf hmr
      have hm1 := v_mo (t := 0) hmr
      have hm2 : v_model (wr.set 32 (rz_mo kp tl kd ty cl 0) ++ l) kp tl kd ty cl 0 := fr_get (S := []) fr_app (by simp) hm1
      have y2 := x_no1 (X := X) (d := d + 28) (k := 2) hm2
      have hs2 : (wr.set 32 (rz_mo kp tl kd ty cl 0) ++ l).set 32 (rz_mo kp tl kd ty cl 0) = wr.set 32 (rz_mo kp tl kd ty cl 0) ++ l := by
        rw [List.set_append_left _ _ (w_lt hm1), mo_mo]
      rw [hs2] at y2
      have fb : rz_fr [32] wr (wr.set 32 (rz_mo kp tl kd ty cl 0) ++ l) := fr_trans (fr_set (by decide)) fr_app
      generalize hwq : wr.set 32 (rz_mo kp tl kd ty cl 0) ++ l = wq at *
      have fwq : rz_fr [48, 12, 13, 4, 9, 10, 11, 32] w wq := fr_trans (fr_sub hf (by decide)) (fr_sub fb (by decide))
      obtain ⟨l2, p, T, e4, hT, hTq⟩ := y_cellOf (X := X) (d := d + 25) hm2 (fr_get fwq (by decide) g34) (fr_get fwq (by decide) g35) (fr_get fwq (by decide) g36) ha ea eb ec hr hrr k4 hq0 k2 (by omega) hN1 hN2 hp0 hp1 hp2 hsm
      obtain ⟨t1, t2⟩ := hTq n (by omega)
      have hm3 : v_model (wq ++ l2) kp tl kd ty cl 0 := fr_get (S := []) fr_app (by simp) hm2
      have fwl : rz_fr [48, 12, 13, 4, 9, 10, 11, 32] w (wq ++ l2) := fr_trans fwq fr_app
      have w34 : v_la (wq ++ l2) 34 8 A := fr_get fwl (by decide) g34
      have w36 : v_la (wq ++ l2) 36 8 C := fr_get fwl (by decide) g36
      obtain ⟨sg, sg2, g12, g13, g42, htl, hsg⟩ := id ht
      -- the reference's text, emptied
      have hmz : v_model ((wq ++ l2).set 32 (rz_mo kp 0 kd ty cl 0)) kp 0 kd ty cl 0 := w_eq (w_lt hm3)
      have fwz : rz_fr [48, 12, 13, 4, 9, 10, 11, 32] w ((wq ++ l2).set 32 (rz_mo kp 0 kd ty cl 0)) := fr_trans fwl (fr_set (by decide))
      have fz : rz_fr [32, 42] wr ((wq ++ l2).set 32 (rz_mo kp 0 kd ty cl 0)) := fr_trans (fr_trans (fr_sub fb (by decide)) fr_app) (fr_set (by decide))
      have hrt : v_rt ((wq ++ l2).set 32 (rz_mo kp 0 kd ty cl 0)) [] kp kd ty cl 0 := ⟨hmz, sg2, fr_get fwz (by decide) g42, fun k c h => by cases h⟩
      have kg := fun w => y_gcd (X := X) (d := d + 28) (w := w) (a := zz) (b := (un : Int)) (by omega) (by omega) (by omega) (by omega)
      have hab : 2 * a * c = (un : Int) := by rw [← hun, Int.mul_assoc]
      have hgle : (Int.gcd zz (un : Int) : Int) ≤ (un : Int) := Int.le_of_dvd (by omega) (Int.gcd_dvd_right zz (un : Int))
      -- up to the telling
      have hto : rz_ex X (d + 30) 218 [.ref 32, .int (Int32.ofInt s), .int (Int32.ofInt (n : Int)), .int (Int32.ofInt z)] wr = rz_G X (d + 29) mz_X11_tellCorner 87 [some (.ref 32), some (.int (Int32.ofInt s)), some (.int (Int32.ofInt (n : Int))), some (.int (Int32.ofInt z)), some (.long (Int64.ofInt zz)), none, some (.long (Int64.ofInt (un : Int))), none, some (.long (Int64.ofInt (Int.gcd zz (un : Int) : Int))), none] [] ((wq ++ l2).set 32 (rz_mo kp 0 kd ty cl 0)) 6 (4 + 2 * zc_m x y u v + (4 + 6 * zc_m x y u v)) := by
        rw [e3]
        have hset : ∀ v : Value, rz_pf (wq ++ l2) 32 11 11 .int (.int (Int32.ofInt 0)) = rz_pf (wq ++ l2) 32 11 11 .int (.int (Int32.ofInt 0)) := fun _ => rfl
        have n1 : (2 * (n : Int)).toNat = 2 * n := by omega
        have n2 : (2 * (n : Int) + 1).toNat = 2 * n + 1 := by omega
        have npf := @pf_eq
        rcases hz with rfl | rfl
        · rw [if_pos rfl] at hzz
          rw [← hzz] at t2
          simp (disch := first | exact nl_i | exact nl_r | exact nl_0 | exact nl_n | exact nl_x | exact kd_r | exact kd_n | exact kd_x | exact kd_o | exact cats0 | exact cats1 | exact cats2 | exact cats3 | exact cats4 | exact nr_i | exact nr_l | exact nr_z0 | exact nr_z1 | exact ft_i | exact ft_l | omega | rfl | assumption | (refine i_ne0 ?_ ?_ ?_ <;> omega) | (refine j_ne0 ?_ ?_ ?_ <;> omega) | (refine i_new ?_ ?_ <;> omega)) only [q_X11_tellCorner_19, q_X11_tellCorner_20, q_X11_tellCorner_21, q_X11_tellCorner_24, q_X11_tellCorner_25, q_X11_tellCorner_28, q_X11_tellCorner_31, q_X11_tellCorner_32, q_X11_tellCorner_33, q_X11_tellCorner_34, q_X11_tellCorner_35, q_X11_tellCorner_38, q_X11_tellCorner_39, q_X11_tellCorner_40, q_X11_tellCorner_41, q_X11_tellCorner_42, q_X11_tellCorner_45, q_X11_tellCorner_46, q_X11_tellCorner_49, q_X11_tellCorner_50, q_X11_tellCorner_51, q_X11_tellCorner_52, q_X11_tellCorner_54, q_X11_tellCorner_57, q_X11_tellCorner_58, q_X11_tellCorner_61, q_X11_tellCorner_62, q_X11_tellCorner_63, q_X11_tellCorner_64, q_X11_tellCorner_65, q_X11_tellCorner_68, q_X11_tellCorner_69, q_X11_tellCorner_70, q_X11_tellCorner_71, q_X11_tellCorner_73, q_X11_tellCorner_75, q_X11_tellCorner_77, q_X11_tellCorner_80, q_X11_tellCorner_82, q_X11_tellCorner_83, q_X11_tellCorner_84, i_add, i_sub, i_mul, i_neg, i_lt, i_le, i_eq, i_tm, i_div, i_j, j_i, j_add, j_sub, j_mul, j_neg, j_lt, j_le, j_eq, j_div, c_lt, c_le, c_gt, c_ge, c_eq, i_nat, rz_k, Nat.add_zero, Nat.zero_add, Nat.add_assoc, Nat.reduceAdd, if_true, if_false, x_in, if_pos hn, vk_eq hm2, y2, e4, Int.reduceEq, not_false_eq_true, not_true_eq_false, if_pos (show (0 : Int) = 0 by omega), al_eq hT, n2, t2, gf_eq hm3, List.getElem?_cons_zero, List.getElem?_cons_succ, al_eq w34, al_eq w36, ea, ec, hab, kg]
          simp (disch := first | exact nl_i | exact nl_r | exact nl_0 | exact nl_n | exact nl_x | exact kd_r | exact kd_n | exact kd_x | exact kd_o | exact cats0 | exact cats1 | exact cats2 | exact cats3 | exact cats4 | exact nr_i | exact nr_l | exact nr_z0 | exact nr_z1 | exact ft_i | exact ft_l | omega | rfl | assumption | (refine i_ne0 ?_ ?_ ?_ <;> omega) | (refine j_ne0 ?_ ?_ ?_ <;> omega) | (refine i_new ?_ ?_ <;> omega) | (refine bl_t ?_; with_unfolding_all rfl) | exact ft_z0 | exact ft_z1) only [pf_eq hm3, List.set_cons_zero, List.set_cons_succ]
          rfl
        · rw [if_neg (by omega)] at hzz
          rw [← hzz] at t1
          simp (disch := first | exact nl_i | exact nl_r | exact nl_0 | exact nl_n | exact nl_x | exact kd_r | exact kd_n | exact kd_x | exact kd_o | exact cats0 | exact cats1 | exact cats2 | exact cats3 | exact cats4 | exact nr_i | exact nr_l | exact nr_z0 | exact nr_z1 | exact ft_i | exact ft_l | omega | rfl | assumption | (refine i_ne0 ?_ ?_ ?_ <;> omega) | (refine j_ne0 ?_ ?_ ?_ <;> omega) | (refine i_new ?_ ?_ <;> omega)) only [q_X11_tellCorner_19, q_X11_tellCorner_20, q_X11_tellCorner_21, q_X11_tellCorner_24, q_X11_tellCorner_25, q_X11_tellCorner_28, q_X11_tellCorner_31, q_X11_tellCorner_32, q_X11_tellCorner_33, q_X11_tellCorner_34, q_X11_tellCorner_35, q_X11_tellCorner_38, q_X11_tellCorner_39, q_X11_tellCorner_40, q_X11_tellCorner_41, q_X11_tellCorner_42, q_X11_tellCorner_45, q_X11_tellCorner_46, q_X11_tellCorner_49, q_X11_tellCorner_50, q_X11_tellCorner_51, q_X11_tellCorner_52, q_X11_tellCorner_54, q_X11_tellCorner_57, q_X11_tellCorner_58, q_X11_tellCorner_61, q_X11_tellCorner_62, q_X11_tellCorner_63, q_X11_tellCorner_64, q_X11_tellCorner_65, q_X11_tellCorner_68, q_X11_tellCorner_69, q_X11_tellCorner_70, q_X11_tellCorner_71, q_X11_tellCorner_73, q_X11_tellCorner_75, q_X11_tellCorner_77, q_X11_tellCorner_80, q_X11_tellCorner_82, q_X11_tellCorner_83, q_X11_tellCorner_84, i_add, i_sub, i_mul, i_neg, i_lt, i_le, i_eq, i_tm, i_div, i_j, j_i, j_add, j_sub, j_mul, j_neg, j_lt, j_le, j_eq, j_div, c_lt, c_le, c_gt, c_ge, c_eq, i_nat, rz_k, Nat.add_zero, Nat.zero_add, Nat.add_assoc, Nat.reduceAdd, if_true, if_false, x_in, if_pos hn, vk_eq hm2, y2, e4, Int.reduceEq, not_false_eq_true, not_true_eq_false, if_neg (show ¬ (1 : Int) = 0 by omega), al_eq hT, n1, Int.add_zero, t1, gf_eq hm3, List.getElem?_cons_zero, List.getElem?_cons_succ, al_eq w34, al_eq w36, ea, ec, hab, kg]
          simp (disch := first | exact nl_i | exact nl_r | exact nl_0 | exact nl_n | exact nl_x | exact kd_r | exact kd_n | exact kd_x | exact kd_o | exact cats0 | exact cats1 | exact cats2 | exact cats3 | exact cats4 | exact nr_i | exact nr_l | exact nr_z0 | exact nr_z1 | exact ft_i | exact ft_l | omega | rfl | assumption | (refine i_ne0 ?_ ?_ ?_ <;> omega) | (refine j_ne0 ?_ ?_ ?_ <;> omega) | (refine i_new ?_ ?_ <;> omega) | (refine bl_t ?_; with_unfolding_all rfl) | exact ft_z0 | exact ft_z1) only [pf_eq hm3, List.set_cons_zero, List.set_cons_succ]
          rfl
      generalize hwz : (wq ++ l2).set 32 (rz_mo kp 0 kd ty cl 0) = wz at *
      generalize hgg : Int.gcd zz (un : Int) = gg at *
      -- the sign
      obtain ⟨w4, e5, f5, r5⟩ : ∃ w4, rz_G X (d + 29) mz_X11_tellCorner 87 [some (.ref 32), some (.int (Int32.ofInt s)), some (.int (Int32.ofInt (n : Int))), some (.int (Int32.ofInt z)), some (.long (Int64.ofInt zz)), none, some (.long (Int64.ofInt (un : Int))), none, some (.long (Int64.ofInt (gg : Int))), none] [] wz 6 (4 + 2 * zc_m x y u v + (4 + 6 * zc_m x y u v)) = rz_G X (d + 29) mz_X11_tellCorner 100 [some (.ref 32), some (.int (Int32.ofInt s)), some (.int (Int32.ofInt (n : Int))), some (.int (Int32.ofInt z)), some (.long (Int64.ofInt zz)), none, some (.long (Int64.ofInt (un : Int))), none, some (.long (Int64.ofInt (gg : Int))), none] [] w4 6 (4 + 2 * zc_m x y u v + (4 + 6 * zc_m x y u v)) ∧ rz_fr [32, 42] wz w4 ∧ v_rt w4 (if zz < 0 then [45] else []) kp kd ty cl 0 := by
        by_cases hneg : zz < 0
        · obtain ⟨w4, e, f, r⟩ := y_adds (X := X) (d := d + 28) (c := 45) (by simp) hrt
          rw [List.nil_append] at r
          have e : rz_ex X (d + 29) 216 [.ref 32, .int (Int32.ofInt 45)] wz = some (.inl none, w4, 0, 0) := e
          refine ⟨w4, ?_, f, by rw [if_pos hneg]; exact r⟩
          simp (disch := first | exact nl_i | exact nl_r | exact nl_0 | exact nl_n | exact nl_x | exact kd_r | exact kd_n | exact kd_x | exact kd_o | exact cats0 | exact cats1 | exact cats2 | exact cats3 | exact cats4 | exact nr_i | exact nr_l | exact nr_z0 | exact nr_z1 | exact ft_i | exact ft_l | omega | rfl | assumption | (refine i_ne0 ?_ ?_ ?_ <;> omega) | (refine j_ne0 ?_ ?_ ?_ <;> omega) | (refine i_new ?_ ?_ <;> omega)) only [q_X11_tellCorner_87, q_X11_tellCorner_89, q_X11_tellCorner_90, q_X11_tellCorner_91, q_X11_tellCorner_94, q_X11_tellCorner_95, q_X11_tellCorner_97, i_add, i_sub, i_mul, i_neg, i_lt, i_le, i_eq, i_tm, i_div, i_j, j_i, j_add, j_sub, j_mul, j_neg, j_lt, j_le, j_eq, j_div, c_lt, c_le, c_gt, c_ge, c_eq, i_nat, rz_k, Nat.add_zero, Nat.zero_add, Nat.add_assoc, Nat.reduceAdd, if_true, if_false, if_neg (show ¬ 0 ≤ zz by omega), vk_eq hmz, e]
        · refine ⟨wz, ?_, fr_refl, by rw [if_neg hneg]; exact hrt⟩
          simp (disch := first | exact nl_i | exact nl_r | exact nl_0 | exact nl_n | exact nl_x | exact kd_r | exact kd_n | exact kd_x | exact kd_o | exact cats0 | exact cats1 | exact cats2 | exact cats3 | exact cats4 | exact nr_i | exact nr_l | exact nr_z0 | exact nr_z1 | exact ft_i | exact ft_l | omega | rfl | assumption | (refine i_ne0 ?_ ?_ ?_ <;> omega) | (refine j_ne0 ?_ ?_ ?_ <;> omega) | (refine i_new ?_ ?_ <;> omega)) only [q_X11_tellCorner_87, q_X11_tellCorner_89, q_X11_tellCorner_90, q_X11_tellCorner_91, q_X11_tellCorner_94, q_X11_tellCorner_95, q_X11_tellCorner_97, i_add, i_sub, i_mul, i_neg, i_lt, i_le, i_eq, i_tm, i_div, i_j, j_i, j_add, j_sub, j_mul, j_neg, j_lt, j_le, j_eq, j_div, c_lt, c_le, c_gt, c_ge, c_eq, i_nat, rz_k, Nat.add_zero, Nat.zero_add, Nat.add_assoc, Nat.reduceAdd, if_true, if_false, if_pos (show 0 ≤ zz by omega)]
      have hlT : (if zz < 0 then [45] else ([] : List Nat)).length ≤ 1 := by split <;> simp
      have hzf : ∀ {n L : Nat}, zf_len n L → L = 1 ∨ (1 : Int) = L ∨ 10 ^ (L - 1) ≤ n := fun h => by
        rcases h.2.2 with h | h
        · exact .inl h
        · exact .inr (.inr h)
      obtain ⟨w5, e6, f6, r6⟩ := y_addsNumber (X := X) L1 (zz.natAbs / gg) 1 (d + 29) w4 _ (by omega) hL1.1 hL1.2.1 (by omega) (by omega) (by have := hL1.1; omega) (hzf hL1) (by omega) (by omega) r5
      obtain ⟨w6, e7, f7, r7⟩ := y_adds (X := X) (d := d + 28) (c := 47) (by rw [List.length_append, zds_len]; omega) r6
      obtain ⟨w7, e8, f8, r8⟩ := y_addsNumber (X := X) L2 (un / gg) 1 (d + 29) w6 _ (by omega) hL2.1 hL2.2.1 (by omega) (by omega) (by have := hL2.1; omega) (hzf hL2) (by omega) (by rw [List.length_append, List.length_append, zds_len]; simp only [List.length_cons, List.length_nil]; omega) r7
      have e7 : rz_ex X (d + 29) 216 [.ref 32, .int (Int32.ofInt 47)] w5 = some (.inl none, w6, 0, 0) := e7
      refine ⟨w7, 6, 4 + 2 * zc_m x y u v + (4 + 6 * zc_m x y u v), ?_, fr_trans fz (fr_trans f5 (fr_trans f6 (fr_trans f7 f8))), r8, by omega, by omega⟩
      obtain ⟨m5, -⟩ := r5
      obtain ⟨m6, -⟩ := r6
      obtain ⟨m7, -⟩ := r7
      obtain ⟨m8, -⟩ := r8
      have d1 : (zz.natAbs : Int).tdiv (gg : Int) = ((zz.natAbs / gg : Nat) : Int) := z_tdn _ _
      have d2 : (un : Int).tdiv (gg : Int) = ((un / gg : Nat) : Int) := z_tdn _ _
      rw [hto, e5]
      generalize zz.natAbs / gg = n1 at *
      generalize un / gg = n2 at *
      by_cases hneg : zz < 0
      · have d3 : -zz = (zz.natAbs : Int) := by omega
        simp (disch := first | exact nl_i | exact nl_r | exact nl_0 | exact nl_n | exact nl_x | exact kd_r | exact kd_n | exact kd_x | exact kd_o | exact cats0 | exact cats1 | exact cats2 | exact cats3 | exact cats4 | exact nr_i | exact nr_l | exact nr_z0 | exact nr_z1 | exact ft_i | exact ft_l | omega | rfl | assumption | (refine i_ne0 ?_ ?_ ?_ <;> omega) | (refine j_ne0 ?_ ?_ ?_ <;> omega) | (refine i_new ?_ ?_ <;> omega)) only [q_X11_tellCorner_100, q_X11_tellCorner_101, q_X11_tellCorner_103, q_X11_tellCorner_104, q_X11_tellCorner_105, q_X11_tellCorner_108, q_X11_tellCorner_110, q_X11_tellCorner_111, q_X11_tellCorner_114, q_X11_tellCorner_116, q_X11_tellCorner_118, q_X11_tellCorner_119, q_X11_tellCorner_120, q_X11_tellCorner_123, q_X11_tellCorner_124, q_X11_tellCorner_126, q_X11_tellCorner_129, q_X11_tellCorner_130, q_X11_tellCorner_132, q_X11_tellCorner_134, q_X11_tellCorner_135, q_X11_tellCorner_136, q_X11_tellCorner_139, q_X11_tellCorner_140, q_X11_tellCorner_143, i_add, i_sub, i_mul, i_neg, i_lt, i_le, i_eq, i_tm, i_div, i_j, j_i, j_add, j_sub, j_mul, j_neg, j_lt, j_le, j_eq, j_div, c_lt, c_le, c_gt, c_ge, c_eq, i_nat, rz_k, Nat.add_zero, Nat.zero_add, Nat.add_assoc, Nat.reduceAdd, if_true, if_false, if_neg (show ¬ 0 ≤ zz by omega), d3, d1, d2, vk_eq m5, e6, vk_eq m6, e7, vk_eq m7, e8, gf_eq m8, List.getElem?_cons_zero, List.getElem?_cons_succ]
        rfl
      · have d3 : zz = (zz.natAbs : Int) := by omega
        have d4 : zz.tdiv (gg : Int) = (n1 : Int) := by rw [d3]; exact d1
        simp (disch := first | exact nl_i | exact nl_r | exact nl_0 | exact nl_n | exact nl_x | exact kd_r | exact kd_n | exact kd_x | exact kd_o | exact cats0 | exact cats1 | exact cats2 | exact cats3 | exact cats4 | exact nr_i | exact nr_l | exact nr_z0 | exact nr_z1 | exact ft_i | exact ft_l | omega | rfl | assumption | (refine i_ne0 ?_ ?_ ?_ <;> omega) | (refine j_ne0 ?_ ?_ ?_ <;> omega) | (refine i_new ?_ ?_ <;> omega)) only [q_X11_tellCorner_100, q_X11_tellCorner_101, q_X11_tellCorner_103, q_X11_tellCorner_104, q_X11_tellCorner_105, q_X11_tellCorner_108, q_X11_tellCorner_110, q_X11_tellCorner_111, q_X11_tellCorner_114, q_X11_tellCorner_116, q_X11_tellCorner_118, q_X11_tellCorner_119, q_X11_tellCorner_120, q_X11_tellCorner_123, q_X11_tellCorner_124, q_X11_tellCorner_126, q_X11_tellCorner_129, q_X11_tellCorner_130, q_X11_tellCorner_132, q_X11_tellCorner_134, q_X11_tellCorner_135, q_X11_tellCorner_136, q_X11_tellCorner_139, q_X11_tellCorner_140, q_X11_tellCorner_143, i_add, i_sub, i_mul, i_neg, i_lt, i_le, i_eq, i_tm, i_div, i_j, j_i, j_add, j_sub, j_mul, j_neg, j_lt, j_le, j_eq, j_div, c_lt, c_le, c_gt, c_ge, c_eq, i_nat, rz_k, Nat.add_zero, Nat.zero_add, Nat.add_assoc, Nat.reduceAdd, if_true, if_false, if_pos (show 0 ≤ zz by omega), d4, d2, vk_eq m5, e6, vk_eq m6, e7, vk_eq m7, e8, gf_eq m8, List.getElem?_cons_zero, List.getElem?_cons_succ]
        rfl
end RZCI
