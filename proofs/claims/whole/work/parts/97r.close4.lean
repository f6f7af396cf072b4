/-! part 97r: level 2: close -/
section RZWQ
variable {X : rz_X} {d : Nat} {w w1 : rz_W} {nc ns : Nat} {x y : Nat → Int} {n : Nat} {kp tl kd ty cl th : Int}
theorem ze_u {C : Nat → Int32} {K : Nat} {a b c : Int32} : (∀ j, j < 3 * K → upd (upd (upd C (3 * K) a) (3 * K + 1) b) (3 * K + 2) c j = C j) ∧ upd (upd (upd C (3 * K) a) (3 * K + 1) b) (3 * K + 2) c (3 * K) = a ∧ upd (upd (upd C (3 * K) a) (3 * K + 1) b) (3 * K + 2) c (3 * K + 1) = b ∧ upd (upd (upd C (3 * K) a) (3 * K + 1) b) (3 * K + 2) c (3 * K + 2) = c := by
  refine ⟨fun j hj => ?_, ?_, ?_, upd_eq⟩
  · rw [upd_ne (by omega), upd_ne (by omega), upd_ne (by omega)]
  · rw [upd_ne (by omega), upd_ne (by omega), upd_eq]
  · rw [upd_ne (by omega), upd_eq]
theorem v_cp_fr2 {S : List Nat} {w' : rz_W} (h : v_cp w x y n) (hf : rz_fr S w w') (hS : ∀ q, q ∈ S → q ∉ [18, 22, 23]) : v_cp w' x y n := v_cp_fr h hf hS
/-- what the cutting leaves -/
def v_cut (x y : Nat → Int) (n : Nat) (w w' : rz_W) (L : List Nat) (K : Nat) (C : Nat → Int32) : Prop := ∃ (F' C' : Nat → Int32) (b c : Int32), rz_fr [19, 20, 21] w w' ∧ v_ob w' 19 2 [.ref 20, .int b, .ref 21, .int c] ∧ v_ia w' 20 12 F' ∧ v_ia w' 21 36 C' ∧ (∀ j, j < 3 * K → C' j = C j) ∧ ∀ j t, (zp_cuts x y n (L.length - 3) L)[j]? = some t → C' (3 * (K + j)) = Int32.ofInt ((t.1 : Nat) : Int) ∧ C' (3 * (K + j) + 1) = Int32.ofInt ((t.2.1 : Nat) : Int) ∧ C' (3 * (K + j) + 2) = Int32.ofInt ((t.2.2 : Nat) : Int)
theorem x_end {L : List Nat} {K : Nat} {C : Nat → Int32} {l2 : Option Value} (hE : v_e w L K C) (h3 : 3 ≤ L.length) (h2 : L.length ≤ 12) (hK : K ≤ 11) : ∃ w', rz_G X (d + 4) mz_X2_cutAll 68 [some (.ref 19), some (.ref 18), l2] [] w nc ns = some (.inl none, w', nc, ns) ∧ rz_fr [19, 21] w w' ∧ v_e w' L (K + 1) (upd (upd (upd C (3 * K) (Int32.ofInt ((L.getD 0 0 : Nat) : Int))) (3 * K + 1) (Int32.ofInt ((L.getD 1 0 : Nat) : Int))) (3 * K + 2) (Int32.ofInt ((L.getD 2 0 : Nat) : Int))) := by
  have k0 := x_left (X := X) (d := d + 2) hE (by omega) h2 (p := 0) (by omega) (e := L.getD 0 0) (by rw [Int.zero_emod]; rfl)
  have k1 := x_left (X := X) (d := d + 2) hE (by omega) h2 (p := 1) (by omega) (e := L.getD 1 0) (by rw [Int.emod_eq_of_lt (by omega) (by omega)]; rfl)
  have k2 := x_left (X := X) (d := d + 2) hE (by omega) h2 (p := 2) (by omega) (e := L.getD 2 0) (by rw [Int.emod_eq_of_lt (by omega) (by omega)]; rfl)
  obtain ⟨w', e, f, hE'⟩ := x_keep (X := X) (d := d + 3) hE hK (a := L.getD 0 0) (b := L.getD 1 0) (c := L.getD 2 0)
  obtain ⟨F, g19, -⟩ := id hE
  refine ⟨w', ?_, f, hE'⟩
  simp (disch := first | exact nl_i | exact nl_r | exact nl_0 | exact nl_n | exact nl_x | exact kd_r | exact kd_n | exact kd_x | exact kd_o | exact cats0 | exact cats1 | exact cats2 | exact cats3 | exact cats4 | exact nr_i | exact nr_l | exact nr_z0 | exact nr_z1 | exact ft_i | exact ft_l | omega | rfl | assumption | (refine i_ne0 ?_ ?_ ?_ <;> omega) | (refine j_ne0 ?_ ?_ ?_ <;> omega) | (refine i_new ?_ ?_ <;> omega) | (refine bl_t ?_; with_unfolding_all rfl) | exact ft_z0 | exact ft_z1) only [q_X2_cutAll_68, q_X2_cutAll_69, q_X2_cutAll_70, q_X2_cutAll_71, q_X2_cutAll_74, q_X2_cutAll_75, q_X2_cutAll_76, q_X2_cutAll_79, q_X2_cutAll_80, q_X2_cutAll_81, q_X2_cutAll_84, q_X2_cutAll_87, i_add, i_sub, i_mul, i_neg, i_lt, i_le, i_eq, i_tm, i_div, i_j, j_i, j_add, j_sub, j_mul, j_neg, j_lt, j_le, j_eq, j_div, c_lt, c_le, c_gt, c_ge, c_eq, i_nat, rz_k, Nat.add_zero, Nat.zero_add, Nat.add_assoc, Nat.reduceAdd, if_true, if_false, vk_eq g19, k0, k1, k2, e]
theorem l_stuck {L : List Nat} {K : Nat} {C : Nat → Int32} (h : v_cp w x y n) (hE : v_e w L K C) (h3 : 3 < L.length) (h2 : L.length ≤ 12) (hL : ∀ e, e ∈ L → e < n) (hK : K ≤ 11) (hq : ∀ q, q < L.length → zp_ear x y n L q = false) (m : Nat) : ∀ r : Nat, r + m = 12 → ∃ l2 : Option Value, rz_G X (d + 4) mz_X2_cutAll 43 [some (.ref 19), some (.ref 18), some (.int (Int32.ofInt (r : Int)))] [] w nc ns = rz_G X (d + 4) mz_X2_cutAll 68 [some (.ref 19), some (.ref 18), l2] [] w nc ns := by
  obtain ⟨F, g19, -⟩ := id hE
  have e0 : rz_ex X (d + 4) 16 [.ref 19, .ref 18] w = some (.inl none, w, 0, 0) := by
    rcases l_cut1 (X := X) (d := d) (nc := 0) (ns := 0) h hE h2 hL hK L.length 0 (by omega) (fun q h => by omega) with ⟨-, e⟩ | ⟨p0, w', a1, a2, -⟩
    · rw [← e]
      simp (disch := first | exact nl_i | exact nl_r | exact nl_0 | exact nl_n | exact nl_x | exact kd_r | exact kd_n | exact kd_x | exact kd_o | exact cats0 | exact cats1 | exact cats2 | exact cats3 | exact cats4 | exact nr_i | exact nr_l | exact nr_z0 | exact nr_z1 | exact ft_i | exact ft_l | omega | rfl | assumption | (refine i_ne0 ?_ ?_ ?_ <;> omega) | (refine j_ne0 ?_ ?_ ?_ <;> omega) | (refine i_new ?_ ?_ <;> omega) | (refine bl_t ?_; with_unfolding_all rfl) | exact ft_z0 | exact ft_z1) only [n_X2_cutFirst, q_X2_cutFirst_0, q_X2_cutFirst_1, i_add, i_sub, i_mul, i_neg, i_lt, i_le, i_eq, i_tm, i_div, i_j, j_i, j_add, j_sub, j_mul, j_neg, j_lt, j_le, j_eq, j_div, c_lt, c_le, c_gt, c_ge, c_eq, i_nat, rz_k, Nat.add_zero, Nat.zero_add, Nat.add_assoc, Nat.reduceAdd, if_true, if_false]
      rfl
    · rw [hq p0 a1] at a2
      cases a2
  induction m with
  | zero =>
    intro r hr
    refine ⟨some (.int (Int32.ofInt (r : Int))), ?_⟩
    rw [q_X2_cutAll_43]
    simp (disch := first | exact nl_i | exact nl_r | exact nl_0 | exact nl_n | exact nl_x | exact kd_r | exact kd_n | exact kd_x | exact kd_o | exact cats0 | exact cats1 | exact cats2 | exact cats3 | exact cats4 | exact nr_i | exact nr_l | exact nr_z0 | exact nr_z1 | exact ft_i | exact ft_l | omega | rfl | assumption | (refine i_ne0 ?_ ?_ ?_ <;> omega) | (refine j_ne0 ?_ ?_ ?_ <;> omega) | (refine i_new ?_ ?_ <;> omega) | (refine bl_t ?_; with_unfolding_all rfl) | exact ft_z0 | exact ft_z1) only [↓reduceIte, q_X2_cutAll_44, q_X2_cutAll_46, q_X2_cutAll_49, q_X2_cutAll_50, q_X2_cutAll_53, q_X2_cutAll_54, q_X2_cutAll_57, q_X2_cutAll_58, q_X2_cutAll_59, q_X2_cutAll_62, q_X2_cutAll_65, i_add, i_sub, i_mul, i_neg, i_lt, i_le, i_eq, i_tm, i_div, i_j, j_i, j_add, j_sub, j_mul, j_neg, j_lt, j_le, j_eq, j_div, c_lt, c_le, c_gt, c_ge, c_eq, i_nat, rz_k, Nat.add_zero, Nat.zero_add, Nat.add_assoc, Nat.reduceAdd, if_true, if_false, eq_true (show 12 ≤ (r : Int) by omega)]
  | succ m ih =>
    intro r hr
    obtain ⟨l2, e⟩ := ih (r + 1) (by omega)
    refine ⟨l2, ?_⟩
    rw [← e, q_X2_cutAll_43]
    simp (disch := first | exact nl_i | exact nl_r | exact nl_0 | exact nl_n | exact nl_x | exact kd_r | exact kd_n | exact kd_x | exact kd_o | exact cats0 | exact cats1 | exact cats2 | exact cats3 | exact cats4 | exact nr_i | exact nr_l | exact nr_z0 | exact nr_z1 | exact ft_i | exact ft_l | omega | rfl | assumption | (refine i_ne0 ?_ ?_ ?_ <;> omega) | (refine j_ne0 ?_ ?_ ?_ <;> omega) | (refine i_new ?_ ?_ <;> omega) | (refine bl_t ?_; with_unfolding_all rfl) | exact ft_z0 | exact ft_z1) only [↓reduceIte, q_X2_cutAll_44, q_X2_cutAll_46, q_X2_cutAll_49, q_X2_cutAll_50, q_X2_cutAll_53, q_X2_cutAll_54, q_X2_cutAll_57, q_X2_cutAll_58, q_X2_cutAll_59, q_X2_cutAll_62, q_X2_cutAll_65, i_add, i_sub, i_mul, i_neg, i_lt, i_le, i_eq, i_tm, i_div, i_j, j_i, j_add, j_sub, j_mul, j_neg, j_lt, j_le, j_eq, j_div, c_lt, c_le, c_gt, c_ge, c_eq, i_nat, rz_k, Nat.add_zero, Nat.zero_add, Nat.add_assoc, Nat.reduceAdd, if_true, if_false, eq_false (show ¬ 12 ≤ (r : Int) by omega), gf_eq g19, vk_eq g19, List.getElem?_cons_zero, List.getElem?_cons_succ, eq_false (show ¬ (L.length : Int) ≤ 3 by omega), e0]
    rfl
theorem l_rounds (m : Nat) : ∀ (w : rz_W) (r : Nat) (L : List Nat) (K : Nat) (C : Nat → Int32), v_cp w x y n → r + m = 12 → v_e w L K C → 3 ≤ L.length → K + L.length ≤ 12 → L.length - 3 ≤ m → (∀ e, e ∈ L → e < n) → ∃ w', rz_G X (d + 4) mz_X2_cutAll 43 [some (.ref 19), some (.ref 18), some (.int (Int32.ofInt (r : Int)))] [] w nc ns = some (.inl none, w', nc, ns) ∧ v_cut x y n w w' L K C := by
  have hend : ∀ (w : rz_W) (L : List Nat) (K : Nat) (C : Nat → Int32) (l2 : Option Value) (G : Option rz_R), L.length = 3 → K + L.length ≤ 12 → v_e w L K C → G = rz_G X (d + 4) mz_X2_cutAll 68 [some (.ref 19), some (.ref 18), l2] [] w nc ns → ∃ w', G = some (.inl none, w', nc, ns) ∧ v_cut x y n w w' L K C := by
    intro w L K C l2 G h3 hK hE hG
    obtain ⟨w', e, f, F', a1, a2, a3, -⟩ := x_end (X := X) (d := d) (nc := nc) (ns := ns) (l2 := l2) hE (by omega) (by omega) (by omega)
    refine ⟨w', hG.trans e, F', _, _, _, fr_sub f (by decide), a1, a2, a3, ze_u.1, ?_⟩
    intro j t hj
    rw [h3] at hj
    unfold zp_cuts at hj
    cases j with
    | zero =>
      have : t = (L.getD 0 0, L.getD 1 0, L.getD 2 0) := by simpa using hj.symm
      rw [this]
      exact ⟨ze_u.2.1, ze_u.2.2.1, ze_u.2.2.2⟩
    | succ j => cases hj
  induction m with
  | zero =>
    intro w r L K C h hr hE h3 hK hm hL
    refine hend w L K C (some (.int (Int32.ofInt (r : Int)))) _ (by omega) hK hE ?_
    rw [q_X2_cutAll_43]
    simp (disch := first | exact nl_i | exact nl_r | exact nl_0 | exact nl_n | exact nl_x | exact kd_r | exact kd_n | exact kd_x | exact kd_o | exact cats0 | exact cats1 | exact cats2 | exact cats3 | exact cats4 | exact nr_i | exact nr_l | exact nr_z0 | exact nr_z1 | exact ft_i | exact ft_l | omega | rfl | assumption | (refine i_ne0 ?_ ?_ ?_ <;> omega) | (refine j_ne0 ?_ ?_ ?_ <;> omega) | (refine i_new ?_ ?_ <;> omega) | (refine bl_t ?_; with_unfolding_all rfl) | exact ft_z0 | exact ft_z1) only [↓reduceIte, q_X2_cutAll_44, q_X2_cutAll_46, q_X2_cutAll_49, q_X2_cutAll_50, q_X2_cutAll_53, q_X2_cutAll_54, q_X2_cutAll_57, q_X2_cutAll_58, q_X2_cutAll_59, q_X2_cutAll_62, q_X2_cutAll_65, i_add, i_sub, i_mul, i_neg, i_lt, i_le, i_eq, i_tm, i_div, i_j, j_i, j_add, j_sub, j_mul, j_neg, j_lt, j_le, j_eq, j_div, c_lt, c_le, c_gt, c_ge, c_eq, i_nat, rz_k, Nat.add_zero, Nat.zero_add, Nat.add_assoc, Nat.reduceAdd, if_true, if_false, eq_true (show 12 ≤ (r : Int) by omega)]
  | succ m ih =>
    intro w r L K C h hr hE h3 hK hm hL
    obtain ⟨F, g19, -⟩ := id hE
    by_cases hl3 : L.length = 3
    · refine hend w L K C (some (.int (Int32.ofInt (r : Int)))) _ hl3 hK hE ?_
      rw [q_X2_cutAll_43]
      simp (disch := first | exact nl_i | exact nl_r | exact nl_0 | exact nl_n | exact nl_x | exact kd_r | exact kd_n | exact kd_x | exact kd_o | exact cats0 | exact cats1 | exact cats2 | exact cats3 | exact cats4 | exact nr_i | exact nr_l | exact nr_z0 | exact nr_z1 | exact ft_i | exact ft_l | omega | rfl | assumption | (refine i_ne0 ?_ ?_ ?_ <;> omega) | (refine j_ne0 ?_ ?_ ?_ <;> omega) | (refine i_new ?_ ?_ <;> omega) | (refine bl_t ?_; with_unfolding_all rfl) | exact ft_z0 | exact ft_z1) only [↓reduceIte, q_X2_cutAll_44, q_X2_cutAll_46, q_X2_cutAll_49, q_X2_cutAll_50, q_X2_cutAll_53, q_X2_cutAll_54, q_X2_cutAll_57, q_X2_cutAll_58, q_X2_cutAll_59, q_X2_cutAll_62, q_X2_cutAll_65, i_add, i_sub, i_mul, i_neg, i_lt, i_le, i_eq, i_tm, i_div, i_j, j_i, j_add, j_sub, j_mul, j_neg, j_lt, j_le, j_eq, j_div, c_lt, c_le, c_gt, c_ge, c_eq, i_nat, rz_k, Nat.add_zero, Nat.zero_add, Nat.add_assoc, Nat.reduceAdd, if_true, if_false, eq_false (show ¬ 12 ≤ (r : Int) by omega), gf_eq g19, List.getElem?_cons_zero, List.getElem?_cons_succ, eq_true (show (L.length : Int) ≤ 3 by omega)]
    · have hf : L.length - 3 = (L.length - 4) + 1 := by omega
      rcases l_cut1 (X := X) (d := d) (nc := 0) (ns := 0) h hE (by omega) hL (by omega) L.length 0 (by omega) (fun q h => by omega) with ⟨hq, e⟩ | ⟨p0, w2, a1, a2, a3, e, f, hE2⟩
      · obtain ⟨l2, e2⟩ := l_stuck (X := X) (d := d) (nc := nc) (ns := ns) h hE (by omega) (by omega) hL (by omega) hq (m + 1) r hr
        obtain ⟨w', e3, f3, F', b1, b2, b3, -⟩ := x_end (X := X) (d := d) (nc := nc) (ns := ns) (l2 := l2) hE (by omega) (by omega) (by omega)
        refine ⟨w', e2.trans e3, F', _, _, _, fr_sub f3 (by decide), b1, b2, b3, ze_u.1, ?_⟩
        intro j t hj
        have hn : (List.range L.length).find? (zp_ear x y n L) = none := List.find?_range_eq_none.mpr (fun i hi => by rw [hq i hi]; rfl)
        rw [hf] at hj
        unfold zp_cuts at hj
        rw [hn] at hj
        cases hj
      · have hlen : (L.eraseIdx p0).length = L.length - 1 := List.length_eraseIdx_of_lt a1
        have e0 : rz_ex X (d + 4) 16 [.ref 19, .ref 18] w = some (.inl none, w2, 0, 0) := by
          rw [← e]
          simp (disch := first | exact nl_i | exact nl_r | exact nl_0 | exact nl_n | exact nl_x | exact kd_r | exact kd_n | exact kd_x | exact kd_o | exact cats0 | exact cats1 | exact cats2 | exact cats3 | exact cats4 | exact nr_i | exact nr_l | exact nr_z0 | exact nr_z1 | exact ft_i | exact ft_l | omega | rfl | assumption | (refine i_ne0 ?_ ?_ ?_ <;> omega) | (refine j_ne0 ?_ ?_ ?_ <;> omega) | (refine i_new ?_ ?_ <;> omega) | (refine bl_t ?_; with_unfolding_all rfl) | exact ft_z0 | exact ft_z1) only [n_X2_cutFirst, q_X2_cutFirst_0, q_X2_cutFirst_1, i_add, i_sub, i_mul, i_neg, i_lt, i_le, i_eq, i_tm, i_div, i_j, j_i, j_add, j_sub, j_mul, j_neg, j_lt, j_le, j_eq, j_div, c_lt, c_le, c_gt, c_ge, c_eq, i_nat, rz_k, Nat.add_zero, Nat.zero_add, Nat.add_assoc, Nat.reduceAdd, if_true, if_false]
          rfl
        obtain ⟨w', e3, F', C', b, c, f3, b1, b2, b3, b4, b5⟩ := ih w2 (r + 1) (L.eraseIdx p0) (K + 1) _ (v_cp_fr h f (by decide)) (by omega) hE2 (by omega) (by omega) (by omega) (fun e he => hL e (List.mem_of_mem_eraseIdx he))
        refine ⟨w', ?_, F', C', b, c, fr_trans f f3, b1, b2, b3, fun j hj => (b4 j (by omega)).trans (ze_u.1 j hj), ?_⟩
        · rw [← e3, q_X2_cutAll_43]
          simp (disch := first | exact nl_i | exact nl_r | exact nl_0 | exact nl_n | exact nl_x | exact kd_r | exact kd_n | exact kd_x | exact kd_o | exact cats0 | exact cats1 | exact cats2 | exact cats3 | exact cats4 | exact nr_i | exact nr_l | exact nr_z0 | exact nr_z1 | exact ft_i | exact ft_l | omega | rfl | assumption | (refine i_ne0 ?_ ?_ ?_ <;> omega) | (refine j_ne0 ?_ ?_ ?_ <;> omega) | (refine i_new ?_ ?_ <;> omega) | (refine bl_t ?_; with_unfolding_all rfl) | exact ft_z0 | exact ft_z1) only [↓reduceIte, q_X2_cutAll_44, q_X2_cutAll_46, q_X2_cutAll_49, q_X2_cutAll_50, q_X2_cutAll_53, q_X2_cutAll_54, q_X2_cutAll_57, q_X2_cutAll_58, q_X2_cutAll_59, q_X2_cutAll_62, q_X2_cutAll_65, i_add, i_sub, i_mul, i_neg, i_lt, i_le, i_eq, i_tm, i_div, i_j, j_i, j_add, j_sub, j_mul, j_neg, j_lt, j_le, j_eq, j_div, c_lt, c_le, c_gt, c_ge, c_eq, i_nat, rz_k, Nat.add_zero, Nat.zero_add, Nat.add_assoc, Nat.reduceAdd, if_true, if_false, eq_false (show ¬ 12 ≤ (r : Int) by omega), gf_eq g19, vk_eq g19, List.getElem?_cons_zero, List.getElem?_cons_succ, eq_false (show ¬ (L.length : Int) ≤ 3 by omega), e0]
          rfl
        · intro j t hj
          have hs : (List.range L.length).find? (zp_ear x y n L) = some p0 := List.find?_range_eq_some.mpr ⟨a2, List.mem_range.mpr a1, fun q hq => by rw [a3 q hq]; rfl⟩
          rw [hf] at hj
          unfold zp_cuts at hj
          rw [hs] at hj
          cases j with
          | zero =>
            have : t = (L.getD ((p0 + L.length - 1) % L.length) 0, L.getD p0 0, L.getD ((p0 + 1) % L.length) 0) := by simpa using hj.symm
            rw [this]
            refine ⟨(b4 _ (by omega)).trans ze_u.2.1, (b4 _ (by omega)).trans ze_u.2.2.1, (b4 _ (by omega)).trans ze_u.2.2.2⟩
          | succ j =>
            have hj2 : (zp_cuts x y n (L.length - 4) (L.eraseIdx p0))[j]? = some t := hj
            rw [show L.length - 4 = (L.eraseIdx p0).length - 3 by omega] at hj2
            have := b5 j t hj2
            rw [show K + 1 + j = K + (j + 1) by omega] at this
            exact this
theorem l_fillE {b3 : Int32} (hn : n ≤ 12) (m : Nat) : ∀ (w : rz_W) (i : Nat) (F : Nat → Int32), i + m = n → v_ob w 19 2 [.ref 20, .int (Int32.ofInt (n : Int)), .ref 21, .int b3] → v_ia w 20 12 F → (∀ k, k < i → F k = Int32.ofInt (k : Int)) → ∃ (w' : rz_W) (F' : Nat → Int32), rz_G X d mz_X2_cutAll 20 [some (.ref 19), some (.ref 18), some (.int (Int32.ofInt (i : Int)))] [] w nc ns = rz_G X d mz_X2_cutAll 43 [some (.ref 19), some (.ref 18), some (.int (Int32.ofInt ((0 : Nat) : Int)))] [] w' nc ns ∧ rz_fr [20] w w' ∧ v_ia w' 20 12 F' ∧ (∀ k, k < n → F' k = Int32.ofInt (k : Int)) := by
  induction m with
  | zero =>
    intro w i F hi g19 g20 hF
    obtain rfl : i = n := by omega
    refine ⟨w, F, ?_, fr_refl, g20, hF⟩
    rw [q_X2_cutAll_20]
    simp (disch := first | exact nl_i | exact nl_r | exact nl_0 | exact nl_n | exact nl_x | exact kd_r | exact kd_n | exact kd_x | exact kd_o | exact cats0 | exact cats1 | exact cats2 | exact cats3 | exact cats4 | exact nr_i | exact nr_l | exact nr_z0 | exact nr_z1 | exact ft_i | exact ft_l | omega | rfl | assumption | (refine i_ne0 ?_ ?_ ?_ <;> omega) | (refine j_ne0 ?_ ?_ ?_ <;> omega) | (refine i_new ?_ ?_ <;> omega) | (refine bl_t ?_; with_unfolding_all rfl) | exact ft_z0 | exact ft_z1) only [↓reduceIte, q_X2_cutAll_21, q_X2_cutAll_22, q_X2_cutAll_25, q_X2_cutAll_41, q_X2_cutAll_42, i_add, i_sub, i_mul, i_neg, i_lt, i_le, i_eq, i_tm, i_div, i_j, j_i, j_add, j_sub, j_mul, j_neg, j_lt, j_le, j_eq, j_div, c_lt, c_le, c_gt, c_ge, c_eq, i_nat, rz_k, Nat.add_zero, Nat.zero_add, Nat.add_assoc, Nat.reduceAdd, if_true, if_false, gf_eq g19, List.getElem?_cons_zero, List.getElem?_cons_succ, eq_true (show (i : Int) ≤ (i : Int) by omega)]
    rfl
  | succ m ih =>
    intro w i F hi g19 g20 hF
    obtain ⟨w', F', e, f, a1, a2⟩ := ih (w.set 20 (.inl (.int, 12, .inl (upd F i (Int32.ofInt (i : Int)))))) (i + 1) (upd F i (Int32.ofInt (i : Int))) (by omega) ((w_ne (by decide)).trans g19) (w_eq (w_lt g20)) (fun k hk => by
      by_cases hki : k = i
      · rw [hki, upd_eq]
      · rw [upd_ne hki]; exact hF k (by omega))
    refine ⟨w', F', ?_, fr_trans (fr_set (by decide)) f, a1, a2⟩
    rw [← e, q_X2_cutAll_20]
    simp (disch := first | exact nl_i | exact nl_r | exact nl_0 | exact nl_n | exact nl_x | exact kd_r | exact kd_n | exact kd_x | exact kd_o | exact cats0 | exact cats1 | exact cats2 | exact cats3 | exact cats4 | exact nr_i | exact nr_l | exact nr_z0 | exact nr_z1 | exact ft_i | exact ft_l | omega | rfl | assumption | (refine i_ne0 ?_ ?_ ?_ <;> omega) | (refine j_ne0 ?_ ?_ ?_ <;> omega) | (refine i_new ?_ ?_ <;> omega) | (refine bl_t ?_; with_unfolding_all rfl) | exact ft_z0 | exact ft_z1) only [↓reduceIte, q_X2_cutAll_21, q_X2_cutAll_22, q_X2_cutAll_25, q_X2_cutAll_28, q_X2_cutAll_29, q_X2_cutAll_32, q_X2_cutAll_33, q_X2_cutAll_34, q_X2_cutAll_35, q_X2_cutAll_38, i_add, i_sub, i_mul, i_neg, i_lt, i_le, i_eq, i_tm, i_div, i_j, j_i, j_add, j_sub, j_mul, j_neg, j_lt, j_le, j_eq, j_div, c_lt, c_le, c_gt, c_ge, c_eq, i_nat, rz_k, Nat.add_zero, Nat.zero_add, Nat.add_assoc, Nat.reduceAdd, if_true, if_false, gf_eq g19, List.getElem?_cons_zero, List.getElem?_cons_succ, eq_false (show ¬ (n : Int) ≤ (i : Int) by omega), si_eq g20, Int.toNat_natCast]
    rfl
theorem x_cutAll {F C : Nat → Int32} {b c : Int32} (h : v_cp w x y n) (h3 : 3 ≤ n) (g19 : v_ob w 19 2 [.ref 20, .int b, .ref 21, .int c]) (g20 : v_ia w 20 12 F) (g21 : v_ia w 21 36 C) : ∃ w', rz_ex X (d + 5) 15 [.ref 19, .ref 18] w = some (.inl none, w', 0, 0) ∧ v_cut x y n w w' (List.range n) 0 C := by
  obtain ⟨cl, a0, P, Q, h18, h22, h23, hn, hrg, he⟩ := id h
  have kmin := x_min (X := X) (d := d + 3) (w := w) (a := (n : Int)) (b := 12) (by omega) (by omega) (by omega) (by omega)
  rw [show min (n : Int) 12 = (n : Int) by omega] at kmin
  have k19 : v_ob (w.set 19 (.inr (2, [.ref 20, .int (Int32.ofInt (n : Int)), .ref 21, .int c]))) 19 2 [.ref 20, .int (Int32.ofInt (n : Int)), .ref 21, .int c] := w_eq (w_lt g19)
  have k19b : v_ob ((w.set 19 (.inr (2, [.ref 20, .int (Int32.ofInt (n : Int)), .ref 21, .int c]))).set 19 (.inr (2, [.ref 20, .int (Int32.ofInt (n : Int)), .ref 21, .int (Int32.ofInt ((0 : Nat) : Int))]))) 19 2 [.ref 20, .int (Int32.ofInt (n : Int)), .ref 21, .int (Int32.ofInt ((0 : Nat) : Int))] := w_eq (w_lt k19)
  have f0 : rz_fr [19] w ((w.set 19 (.inr (2, [.ref 20, .int (Int32.ofInt (n : Int)), .ref 21, .int c]))).set 19 (.inr (2, [.ref 20, .int (Int32.ofInt (n : Int)), .ref 21, .int (Int32.ofInt ((0 : Nat) : Int))]))) := fr_trans (fr_set (by decide)) (fr_set (by decide))
  obtain ⟨w2, F2, e2, f2, a1, a2⟩ := l_fillE (X := X) (d := d + 4) (nc := 0) (ns := 0) hn n _ 0 F (by omega) k19b (fr_get f0 (by decide) g20) (fun k hk => by omega)
  have f02 : rz_fr [19, 20] w w2 := fr_trans (fr_sub f0 (by decide)) (fr_sub f2 (by decide))
  have hE : v_e w2 (List.range n) 0 C := by
    refine ⟨F2, ?_, a1, fr_get f02 (by decide) g21, fun k e hk => ?_⟩
    · rw [List.length_range]
      exact fr_get f2 (by decide) k19b
    · have hkn := (List.getElem?_eq_some_iff.mp hk).1
      rw [List.length_range] at hkn
      rw [List.getElem?_range hkn] at hk
      rw [← Option.some.inj hk]
      exact a2 k hkn
  obtain ⟨w', e3, F', C', b', c', f3, r⟩ := l_rounds (X := X) (d := d) (nc := 0) (ns := 0) (x := x) (y := y) (n := n) 12 w2 0 (List.range n) 0 C (v_cp_fr h f02 (by decide)) (by omega) hE (by rw [List.length_range]; exact h3) (by rw [List.length_range]; omega) (by rw [List.length_range]; omega) (fun e he => List.mem_range.mp he)
  refine ⟨w', ?_, F', C', b', c', fr_trans (fr_sub f02 (by decide)) f3, r⟩
  rw [← e3, ← e2]
  simp (disch := first | exact nl_i | exact nl_r | exact nl_0 | exact nl_n | exact nl_x | exact kd_r | exact kd_n | exact kd_x | exact kd_o | exact cats0 | exact cats1 | exact cats2 | exact cats3 | exact cats4 | exact nr_i | exact nr_l | exact nr_z0 | exact nr_z1 | exact ft_i | exact ft_l | omega | rfl | assumption | (refine i_ne0 ?_ ?_ ?_ <;> omega) | (refine j_ne0 ?_ ?_ ?_ <;> omega) | (refine i_new ?_ ?_ <;> omega) | (refine bl_t ?_; with_unfolding_all rfl) | exact ft_z0 | exact ft_z1) only [n_X2_cutAll, q_X2_cutAll_0, q_X2_cutAll_1, q_X2_cutAll_2, q_X2_cutAll_5, q_X2_cutAll_7, q_X2_cutAll_10, q_X2_cutAll_13, q_X2_cutAll_14, q_X2_cutAll_15, q_X2_cutAll_18, q_X2_cutAll_19, i_add, i_sub, i_mul, i_neg, i_lt, i_le, i_eq, i_tm, i_div, i_j, j_i, j_add, j_sub, j_mul, j_neg, j_lt, j_le, j_eq, j_div, c_lt, c_le, c_gt, c_ge, c_eq, i_nat, rz_k, Nat.add_zero, Nat.zero_add, Nat.add_assoc, Nat.reduceAdd, if_true, if_false, gf_eq h18, List.getElem?_cons_zero, List.getElem?_cons_succ, kmin, pf_eq g19, pf_eq k19, List.set_cons_zero, List.set_cons_succ]
  rfl
theorem ag_close (hv : v_inv w) : rz_ag X d 134 236 false [] ["java/lang/IllegalStateException", "java/lang/UnsupportedOperationException"] w := by
  obtain ⟨kp, tl, kd, ty, cl, th, hy, hm, hs, ht, hp, hq, hmi⟩ := id hv
  obtain ⟨n, x, y, P, Q, R, S, M, O, L, U, pa, pb, pc, rfl, hn, hcp, g18, g44, g45, hRS, hr, g24, g25, g19, g20, g21, g22, g23, -⟩ := v_poly_cp hq
  by_cases h3 : 3 ≤ n
  case neg =>
    refine ag_thr0 (c1 := 1) (s1 := 6) 0 rfl hv hm ?_ ?_
    · simp (disch := first | exact nl_i | exact nl_r | exact nl_0 | exact nl_n | exact nl_x | exact kd_r | exact kd_n | exact kd_x | exact kd_o | exact cats0 | exact cats1 | exact cats2 | exact cats3 | exact cats4 | exact nr_i | exact nr_l | exact nr_z0 | exact nr_z1 | exact ft_i | exact ft_l | omega | rfl | assumption | (refine i_ne0 ?_ ?_ ?_ <;> omega) | (refine j_ne0 ?_ ?_ ?_ <;> omega) | (refine i_new ?_ ?_ <;> omega) | (refine bl_t ?_; with_unfolding_all rfl) | exact ft_z0 | exact ft_z1) only [↓reduceIte, n_X10_close, q_X10_close_0, q_X10_close_1, q_X10_close_4, q_X10_close_7, q_X10_close_8, q_X10_close_11, q_X10_close_22, q_X10_close_23, q_X10_close_26, q_X10_close_29, q_X10_close_32, q_X10_close_43, q_X10_close_44, q_X10_close_47, q_X10_close_50, q_X10_close_51, q_X10_close_54, q_X10_close_57, i_add, i_sub, i_mul, i_neg, i_lt, i_le, i_eq, i_tm, i_div, i_j, j_i, j_add, j_sub, j_mul, j_neg, j_lt, j_le, j_eq, j_div, c_lt, c_le, c_gt, c_ge, c_eq, i_nat, rz_k, Nat.add_zero, Nat.zero_add, Nat.add_assoc, Nat.reduceAdd, if_true, if_false, vk_eq hy, gf_eq hy, gf_eq g18, List.getElem?_cons_zero, List.getElem?_cons_succ, eq_false (show ¬ 3 ≤ (n : Int) by omega)]
    · rintro wr hm rfl
      refine ⟨Int32.ofInt 0, [], 0, 0, ?_, by omega, by omega⟩
      have y1 := x_no0 (X := X) (d := d + 28) (k := 1) hm
      simp (disch := first | exact nl_i | exact nl_r | exact nl_0 | exact nl_n | exact nl_x | exact kd_r | exact kd_n | exact kd_x | exact kd_o | exact cats0 | exact cats1 | exact cats2 | exact cats3 | exact cats4 | exact nr_i | exact nr_l | exact nr_z0 | exact nr_z1 | exact ft_i | exact ft_l | omega | rfl | assumption | (refine i_ne0 ?_ ?_ ?_ <;> omega) | (refine j_ne0 ?_ ?_ ?_ <;> omega) | (refine i_new ?_ ?_ <;> omega) | (refine bl_t ?_; with_unfolding_all rfl) | exact ft_z0 | exact ft_z1) only [↓reduceIte, n_X11_close, q_X11_close_0, q_X11_close_1, q_X11_close_2, q_X11_close_5, q_X11_close_6, q_X11_close_9, q_X11_close_10, q_X11_close_13, q_X11_close_14, q_X11_close_15, q_X11_close_18, q_X11_close_21, q_X11_close_22, q_X11_close_23, q_X11_close_26, q_X11_close_27, q_X11_close_30, q_X11_close_33, q_X11_close_34, q_X11_close_35, q_X11_close_36, q_X11_close_37, q_X11_close_40, q_X11_close_41, q_X11_close_44, q_X11_close_47, i_add, i_sub, i_mul, i_neg, i_lt, i_le, i_eq, i_tm, i_div, i_j, j_i, j_add, j_sub, j_mul, j_neg, j_lt, j_le, j_eq, j_div, c_lt, c_le, c_gt, c_ge, c_eq, i_nat, rz_k, Nat.add_zero, Nat.zero_add, Nat.add_assoc, Nat.reduceAdd, if_true, if_false, gf_eq hm, List.getElem?_cons_zero, List.getElem?_cons_succ, y1, vk_eq hm, List.append_nil, eq_true (show (n : Int) < 3 by omega), Int.reduceEq, not_false_eq_true]
      all_goals rfl
  obtain ⟨bb, xp, hbb⟩ := x_proper (X := X) (d := d + 23) hcp
  cases bb
  · rw [zb_f] at xp
    have hnok : ¬ zp_ok x y n := fun c => by have := hbb.mpr c; cases this
    refine ag_thr0 (c1 := 1) (s1 := 6) 1 rfl hv hm ?_ ?_
    · simp (disch := first | exact nl_i | exact nl_r | exact nl_0 | exact nl_n | exact nl_x | exact kd_r | exact kd_n | exact kd_x | exact kd_o | exact cats0 | exact cats1 | exact cats2 | exact cats3 | exact cats4 | exact nr_i | exact nr_l | exact nr_z0 | exact nr_z1 | exact ft_i | exact ft_l | omega | rfl | assumption | (refine i_ne0 ?_ ?_ ?_ <;> omega) | (refine j_ne0 ?_ ?_ ?_ <;> omega) | (refine i_new ?_ ?_ <;> omega) | (refine bl_t ?_; with_unfolding_all rfl) | exact ft_z0 | exact ft_z1) only [↓reduceIte, n_X10_close, q_X10_close_0, q_X10_close_1, q_X10_close_4, q_X10_close_7, q_X10_close_8, q_X10_close_11, q_X10_close_22, q_X10_close_23, q_X10_close_26, q_X10_close_29, q_X10_close_32, q_X10_close_43, q_X10_close_44, q_X10_close_47, q_X10_close_50, q_X10_close_51, q_X10_close_54, q_X10_close_57, i_add, i_sub, i_mul, i_neg, i_lt, i_le, i_eq, i_tm, i_div, i_j, j_i, j_add, j_sub, j_mul, j_neg, j_lt, j_le, j_eq, j_div, c_lt, c_le, c_gt, c_ge, c_eq, i_nat, rz_k, Nat.add_zero, Nat.zero_add, Nat.add_assoc, Nat.reduceAdd, if_true, if_false, vk_eq hy, gf_eq hy, gf_eq g18, vk_eq g18, List.getElem?_cons_zero, List.getElem?_cons_succ, eq_true (show 3 ≤ (n : Int) by omega), xp, not_true_eq_false]
    · rintro wr hm rfl
      refine ⟨Int32.ofInt 0, [], 0, 0, ?_, by omega, by omega⟩
      have y1 := x_no1 (X := X) (d := d + 28) (k := 1) hm
      have hm1 := v_mo (t := 0) hm
      have hf1 : rz_fr [32] wr (wr.set 32 (rz_mo kp tl kd n cl 0)) := fr_set (by decide)
      have hrp : v_rp (wr.set 32 (rz_mo kp tl kd n cl 0)) x y n := ⟨_, _, _, _, _, R, S, hm1, fr_get hf1 (by decide) g44, fr_get hf1 (by decide) g45, hn, hr, hRS⟩
      obtain ⟨b2, yp, hb2⟩ := y_polyg (X := X) (d := d + 25) hrp
      have : b2 = false := by
        cases b2
        · rfl
        · exact absurd (hb2.mp rfl) hnok
      rw [this, zb_f] at yp
      have y2 := x_no0 (X := X) (d := d + 28) (k := 2) hm1
      rw [mo_mo] at y2
      simp (disch := first | exact nl_i | exact nl_r | exact nl_0 | exact nl_n | exact nl_x | exact kd_r | exact kd_n | exact kd_x | exact kd_o | exact cats0 | exact cats1 | exact cats2 | exact cats3 | exact cats4 | exact nr_i | exact nr_l | exact nr_z0 | exact nr_z1 | exact ft_i | exact ft_l | omega | rfl | assumption | (refine i_ne0 ?_ ?_ ?_ <;> omega) | (refine j_ne0 ?_ ?_ ?_ <;> omega) | (refine i_new ?_ ?_ <;> omega) | (refine bl_t ?_; with_unfolding_all rfl) | exact ft_z0 | exact ft_z1) only [↓reduceIte, n_X11_close, q_X11_close_0, q_X11_close_1, q_X11_close_2, q_X11_close_5, q_X11_close_6, q_X11_close_9, q_X11_close_10, q_X11_close_13, q_X11_close_14, q_X11_close_15, q_X11_close_18, q_X11_close_21, q_X11_close_22, q_X11_close_23, q_X11_close_26, q_X11_close_27, q_X11_close_30, q_X11_close_33, q_X11_close_34, q_X11_close_35, q_X11_close_36, q_X11_close_37, q_X11_close_40, q_X11_close_41, q_X11_close_44, q_X11_close_47, i_add, i_sub, i_mul, i_neg, i_lt, i_le, i_eq, i_tm, i_div, i_j, j_i, j_add, j_sub, j_mul, j_neg, j_lt, j_le, j_eq, j_div, c_lt, c_le, c_gt, c_ge, c_eq, i_nat, rz_k, Nat.add_zero, Nat.zero_add, Nat.add_assoc, Nat.reduceAdd, if_true, if_false, gf_eq hm, List.getElem?_cons_zero, List.getElem?_cons_succ, y1, y2, yp, vk_eq hm, vk_eq hm1, List.append_nil, eq_false (show ¬ (n : Int) < 3 by omega), Int.reduceEq, not_false_eq_true, not_true_eq_false]
      all_goals rfl
  rw [zb_t] at xp
  have hok := hbb.mp rfl
  obtain ⟨f, ho⟩ := v_inv_out hv
  have hzA := z_area_b (x := x) (y := y) (n := n) hr n
  have hAb : -9600 ≤ zp_area x y n ∧ zp_area x y n ≤ 9600 := by unfold zp_area; omega
  have k18 : v_ob (w.set 18 (.inr (6, [.int (Int32.ofInt (n : Int)), .int (Int32.ofInt 1), .ref 19, .ref 22, .ref 23, .ref 24, .ref 25, .int pa]))) 18 6 [.int (Int32.ofInt (n : Int)), .int (Int32.ofInt 1), .ref 19, .ref 22, .ref 23, .ref 24, .ref 25, .int pa] := w_eq (w_lt g18)
  have f0 : rz_fr [18] w (w.set 18 (.inr (6, [.int (Int32.ofInt (n : Int)), .int (Int32.ofInt 1), .ref 19, .ref 22, .ref 23, .ref 24, .ref 25, .int pa]))) := fr_set (by decide)
  obtain ⟨cl0, a0, P0, Q0, h18, h22, h23, -, -, he0⟩ := id hcp
  have hcp0 : v_cp (w.set 18 (.inr (6, [.int (Int32.ofInt (n : Int)), .int (Int32.ofInt 1), .ref 19, .ref 22, .ref 23, .ref 24, .ref 25, .int pa]))) x y n := ⟨_, _, P0, Q0, k18, fr_get f0 (by decide) h22, fr_get f0 (by decide) h23, hn, hr, he0⟩
  obtain ⟨w1, e1, F', C', b', c', f1, b1, b2, b3, -, b5⟩ := x_cutAll (X := X) (d := d + 22) hcp0 h3 (fr_get f0 (by decide) g19) (fr_get f0 (by decide) g20) (fr_get f0 (by decide) g21)
  have k0 := fr_get f0 (by decide) g19
  have exs : rz_ex X (d + 28) 53 [.ref 18] w = some (.inl none, w1, 0, 0) := by
    simp (disch := first | exact nl_i | exact nl_r | exact nl_0 | exact nl_n | exact nl_x | exact kd_r | exact kd_n | exact kd_x | exact kd_o | exact cats0 | exact cats1 | exact cats2 | exact cats3 | exact cats4 | exact nr_i | exact nr_l | exact nr_z0 | exact nr_z1 | exact ft_i | exact ft_l | omega | rfl | assumption | (refine i_ne0 ?_ ?_ ?_ <;> omega) | (refine j_ne0 ?_ ?_ ?_ <;> omega) | (refine i_new ?_ ?_ <;> omega) | (refine bl_t ?_; with_unfolding_all rfl) | exact ft_z0 | exact ft_z1) only [n_X6_shut, q_X6_shut_0, q_X6_shut_1, q_X6_shut_2, q_X6_shut_5, q_X6_shut_6, q_X6_shut_9, q_X6_shut_10, q_X6_shut_13, i_add, i_sub, i_mul, i_neg, i_lt, i_le, i_eq, i_tm, i_div, i_j, j_i, j_add, j_sub, j_mul, j_neg, j_lt, j_le, j_eq, j_div, c_lt, c_le, c_gt, c_ge, c_eq, i_nat, rz_k, Nat.add_zero, Nat.zero_add, Nat.add_assoc, Nat.reduceAdd, if_true, if_false, pf_eq g18, gf_eq k18, vk_eq k0, List.getElem?_cons_zero, List.getElem?_cons_succ, List.set_cons_zero, List.set_cons_succ, e1]
  have f01 : rz_fr [18, 19, 20, 21] w w1 := fr_trans (fr_sub f0 (by decide)) (fr_sub f1 (by decide))
  have hcp1 : v_cp w1 x y n := v_cp_fr hcp0 f1 (by decide)
  have hy1 : v_yard w1 kp := fr_get f01 (by decide) hy
  have j18 := fr_get f1 (by decide) k18
  have xt := x_twice (X := X) (d := d + 25) hcp1
  have e2 : rz_ex X (d + 29) 134 [.ref 0] w = some (.inl (some (.int (Int32.ofInt ((zp_area x y n).natAbs : Nat)))), w1, 0, 0) := by
    simp (disch := first | exact nl_i | exact nl_r | exact nl_0 | exact nl_n | exact nl_x | exact kd_r | exact kd_n | exact kd_x | exact kd_o | exact cats0 | exact cats1 | exact cats2 | exact cats3 | exact cats4 | exact nr_i | exact nr_l | exact nr_z0 | exact nr_z1 | exact ft_i | exact ft_l | omega | rfl | assumption | (refine i_ne0 ?_ ?_ ?_ <;> omega) | (refine j_ne0 ?_ ?_ ?_ <;> omega) | (refine i_new ?_ ?_ <;> omega) | (refine bl_t ?_; with_unfolding_all rfl) | exact ft_z0 | exact ft_z1) only [↓reduceIte, n_X10_close, q_X10_close_0, q_X10_close_1, q_X10_close_4, q_X10_close_7, q_X10_close_8, q_X10_close_11, q_X10_close_22, q_X10_close_23, q_X10_close_26, q_X10_close_29, q_X10_close_32, q_X10_close_43, q_X10_close_44, q_X10_close_47, q_X10_close_50, q_X10_close_51, q_X10_close_54, q_X10_close_57, i_add, i_sub, i_mul, i_neg, i_lt, i_le, i_eq, i_tm, i_div, i_j, j_i, j_add, j_sub, j_mul, j_neg, j_lt, j_le, j_eq, j_div, c_lt, c_le, c_gt, c_ge, c_eq, i_nat, rz_k, Nat.add_zero, Nat.zero_add, Nat.add_assoc, Nat.reduceAdd, if_true, if_false, vk_eq hy, gf_eq hy, gf_eq g18, vk_eq g18, List.getElem?_cons_zero, List.getElem?_cons_succ, eq_true (show 3 ≤ (n : Int) by omega), xp, Int.reduceEq, not_false_eq_true, exs, gf_eq hy1, vk_eq j18, xt]
  have ho1 : v_la w1 48 1 f := fr_get f01 (by decide) ho
  have hm1 : v_model w1 kp tl kd n cl th := fr_get f01 (by decide) hm
  generalize hA : (zp_area x y n).natAbs = A at *
  generalize hw2 : w1.set 48 (.inl (.long, 1, .inr (.inl (vp_updL f 0 (Int32.ofInt ((A : Nat) : Int)).toInt64)))) = w2
  have f12 : rz_fr [48] w1 w2 := by
    rw [← hw2]
    exact fr_set (by decide)
  have o2 : v_la w2 48 1 (vp_updL f 0 (Int32.ofInt ((A : Nat) : Int)).toInt64) := by
    rw [← hw2]
    exact w_eq (w_lt ho1)
  have f2 : rz_fr [18, 19, 20, 21, 48] w w2 := fr_trans (fr_sub f01 (by decide)) (fr_sub f12 (by decide))
  have hm2 : v_model w2 kp tl kd n cl th := fr_get f2 (by decide) hm
  have y1 := x_no1 (X := X) (d := d + 28) (k := 1) hm2
  have hm3 := v_mo (t := 0) hm2
  have y2 := x_no1 (X := X) (d := d + 28) (k := 2) hm3
  rw [mo_mo] at y2
  have f3 : rz_fr [18, 19, 20, 21, 48, 32] w (w2.set 32 (rz_mo kp tl kd n cl 0)) := fr_trans (fr_sub f2 (by decide)) (fr_set (by decide))
  have hrp : v_rp (w2.set 32 (rz_mo kp tl kd n cl 0)) x y n := ⟨_, _, _, _, _, R, S, hm3, fr_get f3 (by decide) g44, fr_get f3 (by decide) g45, hn, hr, hRS⟩
  obtain ⟨b2', yp, hb2⟩ := y_polyg (X := X) (d := d + 25) hrp
  have : b2' = true := hb2.mpr hok
  rw [this, zb_t] at yp
  have m4 : v_model (w2.set 32 (rz_mo kp tl kd n 1 0)) kp tl kd n 1 0 := w_eq (w_lt hm2)
  have f4 : rz_fr [18, 19, 20, 21, 48, 32] w (w2.set 32 (rz_mo kp tl kd n 1 0)) := fr_trans (fr_sub f2 (by decide)) (fr_set (by decide))
  have hrp4 : v_rp (w2.set 32 (rz_mo kp tl kd n 1 0)) x y n := ⟨_, _, _, _, _, R, S, m4, fr_get f4 (by decide) g44, fr_get f4 (by decide) g45, hn, hr, hRS⟩
  have yA := y_area (X := X) (d := d + 27) hrp4
  have habs := x_abs (X := X) (d := d + 28) (w := w2.set 32 (rz_mo kp tl kd n 1 0)) (a := zp_area x y n) (by omega) (by omega)
  rw [hA] at habs
  have f24 : rz_fr [32] w2 (w2.set 32 (rz_mo kp tl kd n 1 0)) := fr_set (by decide)
  have o4 : v_la (w2.set 32 (rz_mo kp tl kd n 1 0)) 48 1 (vp_updL f 0 (Int32.ofInt ((A : Nat) : Int)).toInt64) := fr_get f24 (by decide) o2
  refine .inl ⟨Int32.ofInt ((A : Nat) : Int), w1, 0, 0, f, _, w2.set 32 (rz_mo kp tl kd n 1 0), 0, 0, e2, ho1, hm1, ?_, ⟨_, m4, rfl⟩, ⟨_, o4, vp_updL_self⟩, ?_, by omega, by omega, fun h => by cases h⟩
  · rw [hw2]
    have s1 : rz_ex X (d + 30) 236 [.ref 32] w2 = rz_G X (d + 29) mz_X11_close 35 [some (.ref 32)] [] (w2.set 32 (rz_mo kp tl kd n cl 0)) 0 0 := by
      simp (disch := first | exact nl_i | exact nl_r | exact nl_0 | exact nl_n | exact nl_x | exact kd_r | exact kd_n | exact kd_x | exact kd_o | exact cats0 | exact cats1 | exact cats2 | exact cats3 | exact cats4 | exact nr_i | exact nr_l | exact nr_z0 | exact nr_z1 | exact ft_i | exact ft_l | omega | rfl | assumption | (refine i_ne0 ?_ ?_ ?_ <;> omega) | (refine j_ne0 ?_ ?_ ?_ <;> omega) | (refine i_new ?_ ?_ <;> omega) | (refine bl_t ?_; with_unfolding_all rfl) | exact ft_z0 | exact ft_z1) only [↓reduceIte, n_X11_close, q_X11_close_0, q_X11_close_1, q_X11_close_2, q_X11_close_5, q_X11_close_6, q_X11_close_9, q_X11_close_10, q_X11_close_13, q_X11_close_14, q_X11_close_15, q_X11_close_18, q_X11_close_21, q_X11_close_22, q_X11_close_23, q_X11_close_26, q_X11_close_27, q_X11_close_30, q_X11_close_33, q_X11_close_34, i_add, i_sub, i_mul, i_neg, i_lt, i_le, i_eq, i_tm, i_div, i_j, j_i, j_add, j_sub, j_mul, j_neg, j_lt, j_le, j_eq, j_div, c_lt, c_le, c_gt, c_ge, c_eq, i_nat, rz_k, Nat.add_zero, Nat.zero_add, Nat.add_assoc, Nat.reduceAdd, if_true, if_false, gf_eq hm2, List.getElem?_cons_zero, List.getElem?_cons_succ, y1, y2, yp, vk_eq hm2, vk_eq hm3, eq_false (show ¬ (n : Int) < 3 by omega), Int.reduceEq, not_false_eq_true, not_true_eq_false]
    have s2 : rz_G X (d + 29) mz_X11_close 35 [some (.ref 32)] [] (w2.set 32 (rz_mo kp tl kd n cl 0)) 0 0 = rz_G X (d + 29) mz_X11_close 40 [some (.ref 32)] [] (w2.set 32 (rz_mo kp tl kd n 1 0)) 0 0 := by
      have hset : (w2.set 32 (rz_mo kp tl kd n cl 0)).set 32 (rz_mo kp tl kd n 1 0) = w2.set 32 (rz_mo kp tl kd n 1 0) := mo_mo
      rw [← hset]
      simp (disch := first | exact nl_i | exact nl_r | exact nl_0 | exact nl_n | exact nl_x | exact kd_r | exact kd_n | exact kd_x | exact kd_o | exact cats0 | exact cats1 | exact cats2 | exact cats3 | exact cats4 | exact nr_i | exact nr_l | exact nr_z0 | exact nr_z1 | exact ft_i | exact ft_l | omega | rfl | assumption | (refine i_ne0 ?_ ?_ ?_ <;> omega) | (refine j_ne0 ?_ ?_ ?_ <;> omega) | (refine i_new ?_ ?_ <;> omega) | (refine bl_t ?_; with_unfolding_all rfl) | exact ft_z0 | exact ft_z1) only [q_X11_close_35, q_X11_close_36, q_X11_close_37, i_add, i_sub, i_mul, i_neg, i_lt, i_le, i_eq, i_tm, i_div, i_j, j_i, j_add, j_sub, j_mul, j_neg, j_lt, j_le, j_eq, j_div, c_lt, c_le, c_gt, c_ge, c_eq, i_nat, rz_k, Nat.add_zero, Nat.zero_add, Nat.add_assoc, Nat.reduceAdd, if_true, if_false, pf_eq hm3, List.set_cons_zero, List.set_cons_succ]
      rfl
    rw [s1, s2]
    simp (disch := first | exact nl_i | exact nl_r | exact nl_0 | exact nl_n | exact nl_x | exact kd_r | exact kd_n | exact kd_x | exact kd_o | exact cats0 | exact cats1 | exact cats2 | exact cats3 | exact cats4 | exact nr_i | exact nr_l | exact nr_z0 | exact nr_z1 | exact ft_i | exact ft_l | omega | rfl | assumption | (refine i_ne0 ?_ ?_ ?_ <;> omega) | (refine j_ne0 ?_ ?_ ?_ <;> omega) | (refine i_new ?_ ?_ <;> omega) | (refine bl_t ?_; with_unfolding_all rfl) | exact ft_z0 | exact ft_z1) only [q_X11_close_40, q_X11_close_41, q_X11_close_44, q_X11_close_47, i_add, i_sub, i_mul, i_neg, i_lt, i_le, i_eq, i_tm, i_div, i_j, j_i, j_add, j_sub, j_mul, j_neg, j_lt, j_le, j_eq, j_div, c_lt, c_le, c_gt, c_ge, c_eq, i_nat, rz_k, Nat.add_zero, Nat.zero_add, Nat.add_assoc, Nat.reduceAdd, if_true, if_false, vk_eq m4, yA, habs]
  · refine ⟨kp, tl, kd, n, 1, 0, fr_get f4 (by decide) hy, m4, v_slots_fr f4 (by decide) hs, v_text_fr f4 (by decide) (by decide) (by decide) ht, v_purse_fr f4 (by decide) hp, ?_, v_misc_fr48 hmi f4 (by decide) o4⟩
    have fa : rz_fr [48, 32] w1 (w2.set 32 (rz_mo kp tl kd n 1 0)) := fr_trans (fr_sub f12 (by decide)) (fr_set (by decide))
    refine ⟨x, y, P0, Q0, R, S, M, O, F', C', pa, b', c', ⟨fr_get fa (by decide) j18, fr_get fa (by decide) b1, fr_get fa (by decide) b2, fr_get fa (by decide) b3, fr_get f4 (by decide) h22, fr_get f4 (by decide) h23, fr_get f4 (by decide) g24, fr_get f4 (by decide) g25, fr_get f4 (by decide) g44, fr_get f4 (by decide) g45⟩, ⟨by omega, by omega⟩, fun k => ⟨hr k, fun hk => ⟨(he0 k (by omega)).1, (he0 k (by omega)).2, (hRS k (by omega)).1, (hRS k (by omega)).2⟩⟩, .inr ⟨rfl, by omega, hok, ?_⟩⟩
    intro j t hj
    have hj2 : (zp_cuts x y n ((List.range n).length - 3) (List.range n))[j]? = some t := by
      rw [List.length_range]
      exact hj
    have := b5 j t hj2
    rw [Nat.zero_add] at this
    exact this
end RZWQ
