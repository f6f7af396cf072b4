/-! part 97u: level 2: triangleAt, but for that there is an ear each time -/
section RZWT
variable {X : rz_X} {d : Nat} {w w1 : rz_W} {nc ns : Nat} {x y : Nat → Int} {n : Nat} {kp tl kd ty cl th : Int}
def zt_pick (t : Nat × Nat × Nat) (k : Nat) : Nat := if k = 0 then t.1 else if k = 1 then t.2.1 else t.2.2
theorem l_tfill {q : Nat} {i k : Int32} (hn : n ≤ 12) (m : Nat) : ∀ (w : rz_W) (j : Nat) (F : Nat → Int32) (l5 l6 l7 l8 : Option Value), j + m = n → v_model w kp tl kd n cl th → q ≠ 32 → v_ia w q 12 F → (∀ e, e < j → F e = Int32.ofInt (e : Int)) → ∃ (w' : rz_W) (F' : Nat → Int32), rz_G X d mz_X11_triangleAt 58 [some (.ref 32), some (.int i), some (.int k), some (.ref q), some (.int (Int32.ofInt (j : Int))), l5, l6, l7, l8] [] w nc ns = rz_G X d mz_X11_triangleAt 79 [some (.ref 32), some (.int i), some (.int k), some (.ref q), some (.int (Int32.ofInt (n : Int))), l5, l6, l7, l8] [] w' nc ns ∧ rz_fr [q] w w' ∧ v_ia w' q 12 F' ∧ (∀ e, e < n → F' e = Int32.ofInt (e : Int)) := by
  induction m with
  | zero =>
    intro w j F l5 l6 l7 l8 hj hm hq hA hF
    obtain rfl : j = n := by omega
    refine ⟨w, F, ?_, fr_refl, hA, hF⟩
    rw [q_X11_triangleAt_58]
    simp (disch := first | exact nl_i | exact nl_r | exact nl_0 | exact nl_n | exact nl_x | exact kd_r | exact kd_n | exact kd_x | exact kd_o | exact cats0 | exact cats1 | exact cats2 | exact cats3 | exact cats4 | exact nr_i | exact nr_l | exact nr_z0 | exact nr_z1 | exact ft_i | exact ft_l | omega | rfl | assumption | (refine i_ne0 ?_ ?_ ?_ <;> omega) | (refine j_ne0 ?_ ?_ ?_ <;> omega) | (refine i_new ?_ ?_ <;> omega) | (refine bl_t ?_; with_unfolding_all rfl) | exact ft_z0 | exact ft_z1) only [↓reduceIte, q_X11_triangleAt_60, q_X11_triangleAt_61, q_X11_triangleAt_64, i_add, i_sub, i_mul, i_neg, i_lt, i_le, i_eq, i_tm, i_div, i_j, j_i, j_add, j_sub, j_mul, j_neg, j_lt, j_le, j_eq, j_div, c_lt, c_le, c_gt, c_ge, c_eq, i_nat, rz_k, Nat.add_zero, Nat.zero_add, Nat.add_assoc, Nat.reduceAdd, if_true, if_false, gf_eq hm, List.getElem?_cons_zero, List.getElem?_cons_succ, eq_true (show (j : Int) ≤ (j : Int) by omega)]
  | succ m ih =>
    intro w j F l5 l6 l7 l8 hj hm hq hA hF
    obtain ⟨w', F', e, f, a1, a2⟩ := ih (w.set q (.inl (.int, 12, .inl (upd F j (Int32.ofInt (j : Int)))))) (j + 1) (upd F j (Int32.ofInt (j : Int))) l5 l6 l7 l8 (by omega) ((w_ne hq).trans hm) hq (w_eq (w_lt hA)) (fun e he => by
      by_cases hej : e = j
      · rw [hej, upd_eq]
      · rw [upd_ne hej]; exact hF e (by omega))
    refine ⟨w', F', ?_, fr_trans (fr_set (List.mem_singleton.mpr rfl)) f, a1, a2⟩
    rw [← e, q_X11_triangleAt_58]
    simp (disch := first | exact nl_i | exact nl_r | exact nl_0 | exact nl_n | exact nl_x | exact kd_r | exact kd_n | exact kd_x | exact kd_o | exact cats0 | exact cats1 | exact cats2 | exact cats3 | exact cats4 | exact nr_i | exact nr_l | exact nr_z0 | exact nr_z1 | exact ft_i | exact ft_l | omega | rfl | assumption | (refine i_ne0 ?_ ?_ ?_ <;> omega) | (refine j_ne0 ?_ ?_ ?_ <;> omega) | (refine i_new ?_ ?_ <;> omega) | (refine bl_t ?_; with_unfolding_all rfl) | exact ft_z0 | exact ft_z1) only [↓reduceIte, q_X11_triangleAt_60, q_X11_triangleAt_61, q_X11_triangleAt_64, q_X11_triangleAt_67, q_X11_triangleAt_68, q_X11_triangleAt_70, q_X11_triangleAt_72, q_X11_triangleAt_73, q_X11_triangleAt_76, i_add, i_sub, i_mul, i_neg, i_lt, i_le, i_eq, i_tm, i_div, i_j, j_i, j_add, j_sub, j_mul, j_neg, j_lt, j_le, j_eq, j_div, c_lt, c_le, c_gt, c_ge, c_eq, i_nat, rz_k, Nat.add_zero, Nat.zero_add, Nat.add_assoc, Nat.reduceAdd, if_true, if_false, gf_eq hm, List.getElem?_cons_zero, List.getElem?_cons_succ, eq_false (show ¬ (n : Int) ≤ (j : Int) by omega), si_eq hA, Int.toNat_natCast]
    rfl
theorem l_tfirst {L : List Nat} {q : Nat} {i k : Int32} {l6 l8 : Option Value} (hl6 : rz_nl l6 = true) (h : v_rp w x y n) (hV : v_l w q L) (h2 : L.length ≤ 12) (hL : ∀ e, e ∈ L → e < n) {p0 : Nat} (hp0 : p0 < L.length) (he : zp_ear x y n L p0 = true) (hq : ∀ p, p < p0 → zp_ear x y n L p = false) (m : Nat) : ∀ p : Nat, p + m = p0 → rz_G X (d + 2) mz_X11_triangleAt 103 [some (.ref 32), some (.int i), some (.int k), some (.ref q), some (.int (Int32.ofInt (L.length : Int))), some (.int (Int32.ofInt (zp_area x y n))), l6, some (.int (Int32.ofInt (p : Int))), l8] [] w nc ns = rz_G X (d + 2) mz_X11_triangleAt 123 [some (.ref 32), some (.int i), some (.int k), some (.ref q), some (.int (Int32.ofInt (L.length : Int))), some (.int (Int32.ofInt (zp_area x y n))), l6, some (.int (Int32.ofInt (p0 : Int))), l8] [] w nc ns := by
  obtain ⟨kp, tl, kd, cl, th, R, S, hm, h44, h45, hn, hr, he1⟩ := id h
  induction m with
  | zero =>
    intro p hp
    obtain rfl : p = p0 := by omega
    have e := y_ear (X := X) (d := d) h hV h2 hL hp0
    rw [he, zb_t] at e
    rw [q_X11_triangleAt_103 kd_r]
    simp (disch := first | exact nl_i | exact nl_r | exact nl_0 | exact nl_n | exact nl_x | exact kd_r | exact kd_n | exact kd_x | exact kd_o | exact cats0 | exact cats1 | exact cats2 | exact cats3 | exact cats4 | exact nr_i | exact nr_l | exact nr_z0 | exact nr_z1 | exact ft_i | exact ft_l | omega | rfl | assumption | (refine i_ne0 ?_ ?_ ?_ <;> omega) | (refine j_ne0 ?_ ?_ ?_ <;> omega) | (refine i_new ?_ ?_ <;> omega) | (refine bl_t ?_; with_unfolding_all rfl) | exact ft_z0 | exact ft_z1) only [↓reduceIte, q_X11_triangleAt_104, q_X11_triangleAt_105, q_X11_triangleAt_107, q_X11_triangleAt_109, q_X11_triangleAt_111, q_X11_triangleAt_114, q_X11_triangleAt_117, q_X11_triangleAt_120, i_add, i_sub, i_mul, i_neg, i_lt, i_le, i_eq, i_tm, i_div, i_j, j_i, j_add, j_sub, j_mul, j_neg, j_lt, j_le, j_eq, j_div, c_lt, c_le, c_gt, c_ge, c_eq, i_nat, rz_k, Nat.add_zero, Nat.zero_add, Nat.add_assoc, Nat.reduceAdd, if_true, if_false, vk_eq hm, e, Int.reduceEq, not_false_eq_true]
  | succ m ih =>
    intro p hp
    have e := y_ear (X := X) (d := d) h hV h2 hL (show p < L.length by omega)
    rw [hq p (by omega), zb_f] at e
    have ih1 := ih (p + 1) (by omega)
    rw [← ih1, q_X11_triangleAt_103 kd_r]
    simp (disch := first | exact hl6 | first | exact nl_i | exact nl_r | exact nl_0 | exact nl_n | exact nl_x | exact kd_r | exact kd_n | exact kd_x | exact kd_o | exact cats0 | exact cats1 | exact cats2 | exact cats3 | exact cats4 | exact nr_i | exact nr_l | exact nr_z0 | exact nr_z1 | exact ft_i | exact ft_l | omega | rfl | assumption | (refine i_ne0 ?_ ?_ ?_ <;> omega) | (refine j_ne0 ?_ ?_ ?_ <;> omega) | (refine i_new ?_ ?_ <;> omega) | (refine bl_t ?_; with_unfolding_all rfl) | exact ft_z0 | exact ft_z1) only [↓reduceIte, q_X11_triangleAt_104, q_X11_triangleAt_105, q_X11_triangleAt_107, q_X11_triangleAt_109, q_X11_triangleAt_111, q_X11_triangleAt_114, q_X11_triangleAt_117, q_X11_triangleAt_120, i_add, i_sub, i_mul, i_neg, i_lt, i_le, i_eq, i_tm, i_div, i_j, j_i, j_add, j_sub, j_mul, j_neg, j_lt, j_le, j_eq, j_div, c_lt, c_le, c_gt, c_ge, c_eq, i_nat, rz_k, Nat.add_zero, Nat.zero_add, Nat.add_assoc, Nat.reduceAdd, if_true, if_false, vk_eq hm, e, not_true_eq_false]
    rfl
theorem l_trem {q : Nat} {i k A r p7 : Int32} {G0 : Nat → Int32} {p mm : Nat} (hm : mm ≤ 11) (m : Nat) : ∀ (w : rz_W) (j : Nat) (F : Nat → Int32), j + m = mm → p ≤ j → v_ia w q 12 F → (∀ e, p ≤ e → e < j → F e = G0 (e + 1)) → (∀ e, e < p ∨ j ≤ e → F e = G0 e) → ∃ (w' : rz_W) (F' : Nat → Int32) (l8 : Option Value), rz_G X d mz_X11_triangleAt 148 [some (.ref 32), some (.int i), some (.int k), some (.ref q), some (.int (Int32.ofInt ((mm + 1 : Nat) : Int))), some (.int A), some (.int r), some (.int p7), some (.int (Int32.ofInt (j : Int)))] [] w nc ns = rz_G X d mz_X11_triangleAt 173 [some (.ref 32), some (.int i), some (.int k), some (.ref q), some (.int (Int32.ofInt ((mm + 1 : Nat) : Int))), some (.int A), some (.int r), some (.int p7), l8] [] w' nc ns ∧ rz_fr [q] w w' ∧ v_ia w' q 12 F' ∧ (∀ e, p ≤ e → e < mm → F' e = G0 (e + 1)) ∧ (∀ e, e < p → F' e = G0 e) := by
  induction m with
  | zero =>
    intro w j F hj hp hA h1 h2
    obtain rfl : j = mm := by omega
    refine ⟨w, F, some (.int (Int32.ofInt (j : Int))), ?_, fr_refl, hA, h1, fun e he => h2 e (.inl he)⟩
    rw [q_X11_triangleAt_148]
    simp (disch := first | exact nl_i | exact nl_r | exact nl_0 | exact nl_n | exact nl_x | exact kd_r | exact kd_n | exact kd_x | exact kd_o | exact cats0 | exact cats1 | exact cats2 | exact cats3 | exact cats4 | exact nr_i | exact nr_l | exact nr_z0 | exact nr_z1 | exact ft_i | exact ft_l | omega | rfl | assumption | (refine i_ne0 ?_ ?_ ?_ <;> omega) | (refine j_ne0 ?_ ?_ ?_ <;> omega) | (refine i_new ?_ ?_ <;> omega) | (refine bl_t ?_; with_unfolding_all rfl) | exact ft_z0 | exact ft_z1) only [↓reduceIte, q_X11_triangleAt_150, q_X11_triangleAt_151, q_X11_triangleAt_152, q_X11_triangleAt_154, i_add, i_sub, i_mul, i_neg, i_lt, i_le, i_eq, i_tm, i_div, i_j, j_i, j_add, j_sub, j_mul, j_neg, j_lt, j_le, j_eq, j_div, c_lt, c_le, c_gt, c_ge, c_eq, i_nat, rz_k, Nat.add_zero, Nat.zero_add, Nat.add_assoc, Nat.reduceAdd, if_true, if_false, eq_true (show ((j + 1 : Nat) : Int) ≤ (j : Int) + 1 by omega)]
  | succ m ih =>
    intro w j F hj hp hA h1 h2
    obtain ⟨w', F', l8, e, f, a1, a2, a3⟩ := ih (w.set q (.inl (.int, 12, .inl (upd F j (F (j + 1)))))) (j + 1) (upd F j (F (j + 1))) (by omega) (by omega) (w_eq (w_lt hA)) (fun k k1 k2 => by
      by_cases hk : k = j
      · rw [hk, upd_eq]
        exact h2 (j + 1) (.inr (by omega))
      · rw [upd_ne hk]
        exact h1 k k1 (by omega)) (fun k hk => by
      rw [upd_ne (by omega)]
      exact h2 k (by omega))
    refine ⟨w', F', l8, ?_, fr_trans (fr_set (List.mem_singleton.mpr rfl)) f, a1, a2, a3⟩
    rw [← e, q_X11_triangleAt_148]
    simp (disch := first | exact nl_i | exact nl_r | exact nl_0 | exact nl_n | exact nl_x | exact kd_r | exact kd_n | exact kd_x | exact kd_o | exact cats0 | exact cats1 | exact cats2 | exact cats3 | exact cats4 | exact nr_i | exact nr_l | exact nr_z0 | exact nr_z1 | exact ft_i | exact ft_l | omega | rfl | assumption | (refine i_ne0 ?_ ?_ ?_ <;> omega) | (refine j_ne0 ?_ ?_ ?_ <;> omega) | (refine i_new ?_ ?_ <;> omega) | (refine bl_t ?_; with_unfolding_all rfl) | exact ft_z0 | exact ft_z1) only [↓reduceIte, q_X11_triangleAt_150, q_X11_triangleAt_151, q_X11_triangleAt_152, q_X11_triangleAt_154, q_X11_triangleAt_157, q_X11_triangleAt_158, q_X11_triangleAt_160, q_X11_triangleAt_161, q_X11_triangleAt_163, q_X11_triangleAt_164, q_X11_triangleAt_165, q_X11_triangleAt_165x, q_X11_triangleAt_166, q_X11_triangleAt_167, q_X11_triangleAt_170, i_add, i_sub, i_mul, i_neg, i_lt, i_le, i_eq, i_tm, i_div, i_j, j_i, j_add, j_sub, j_mul, j_neg, j_lt, j_le, j_eq, j_div, c_lt, c_le, c_gt, c_ge, c_eq, i_nat, rz_k, Nat.add_zero, Nat.zero_add, Nat.add_assoc, Nat.reduceAdd, if_true, if_false, eq_false (show ¬ ((mm + 1 : Nat) : Int) ≤ (j : Int) + 1 by omega), ai_eq hA, si_eq hA, Int.toNat_natCast, show (((j : Int) + 1)).toNat = j + 1 by omega]
    rfl
theorem l_tround {q : Nat} {k : Nat} (hk : k ≤ 2) (hq : q ∉ [32, 44, 45]) (m : Nat) : ∀ (w : rz_W) (r j : Nat) (L : List Nat) (t : Nat × Nat × Nat) (l7 l8 : Option Value), L.length = m + 3 → v_rp w x y n → v_l w q L → L.length ≤ 12 → (∀ e, e ∈ L → e < n) → (zp_cuts x y n m L).length = m + 1 → (zp_cuts x y n m L)[j]? = some t → r + j ≤ 100 → ∃ w', rz_G X (d + 2) mz_X11_triangleAt 94 [some (.ref 32), some (.int (Int32.ofInt ((r + j : Nat) : Int))), some (.int (Int32.ofInt (k : Int))), some (.ref q), some (.int (Int32.ofInt (L.length : Int))), some (.int (Int32.ofInt (zp_area x y n))), some (.int (Int32.ofInt (r : Int))), l7, l8] [] w nc ns = some (.inl (some (.int (Int32.ofInt ((zt_pick t k : Nat) : Int)))), w', nc, ns) ∧ rz_fr [q] w w' := by
  induction m with
  | zero =>
    intro w r j L t l7 l8 hlen h hV h2 hL hcl hj hrj
    obtain ⟨F, hA, hF⟩ := hV
    have hkl : k < L.length := by omega
    have hFk := hF k _ (ze_get hkl)
    have ht : t = (L.getD 0 0, L.getD 1 0, L.getD 2 0) := by
      unfold zp_cuts at hj
      cases j with
      | zero => simpa using hj.symm
      | succ j => cases hj
    have hp : zt_pick t k = L.getD k 0 := by
      rw [ht]
      unfold zt_pick
      rcases (show k = 0 ∨ k = 1 ∨ k = 2 by omega) with rfl | rfl | rfl <;> rfl
    refine ⟨w, ?_, fr_refl⟩
    rw [hp, q_X11_triangleAt_94]
    simp (disch := first | exact nl_i | exact nl_r | exact nl_0 | exact nl_n | exact nl_x | exact kd_r | exact kd_n | exact kd_x | exact kd_o | exact cats0 | exact cats1 | exact cats2 | exact cats3 | exact cats4 | exact nr_i | exact nr_l | exact nr_z0 | exact nr_z1 | exact ft_i | exact ft_l | omega | rfl | assumption | (refine i_ne0 ?_ ?_ ?_ <;> omega) | (refine j_ne0 ?_ ?_ ?_ <;> omega) | (refine i_new ?_ ?_ <;> omega) | (refine bl_t ?_; with_unfolding_all rfl) | exact ft_z0 | exact ft_z1) only [↓reduceIte, q_X11_triangleAt_96, q_X11_triangleAt_97, q_X11_triangleAt_182, q_X11_triangleAt_183, q_X11_triangleAt_184, q_X11_triangleAt_184x, q_X11_triangleAt_185, i_add, i_sub, i_mul, i_neg, i_lt, i_le, i_eq, i_tm, i_div, i_j, j_i, j_add, j_sub, j_mul, j_neg, j_lt, j_le, j_eq, j_div, c_lt, c_le, c_gt, c_ge, c_eq, i_nat, rz_k, Nat.add_zero, Nat.zero_add, Nat.add_assoc, Nat.reduceAdd, if_true, if_false, eq_true (show (L.length : Int) ≤ 3 by omega), ai_eq hA, Int.toNat_natCast, hFk]
  | succ m ih =>
    intro w r j L t l7 l8 hlen h hV h2 hL hcl hj hrj
    have hm0 : 0 < L.length := by omega
    cases hs : (List.range L.length).find? (zp_ear x y n L) with
    | none =>
      exfalso
      unfold zp_cuts at hcl
      rw [hs] at hcl
      simp at hcl
    | some p0 =>
      have hzc : zp_cuts x y n (m + 1) L = (L.getD ((p0 + L.length - 1) % L.length) 0, L.getD p0 0, L.getD ((p0 + 1) % L.length) 0) :: zp_cuts x y n m (L.eraseIdx p0) := by
        rw [zp_cuts, hs]
      rw [hzc] at hcl hj
      obtain ⟨b1, b2, b3⟩ := List.find?_range_eq_some.mp hs
      have hp0 : p0 < L.length := List.mem_range.mp b2
      have e1 := l_tfirst (X := X) (d := d) (nc := nc) (ns := ns) (i := Int32.ofInt ((r + j : Nat) : Int)) (k := Int32.ofInt (k : Int)) (l6 := some (.int (Int32.ofInt (r : Int)))) (l8 := l8) nl_i h hV h2 hL hp0 b1 (fun p hp => by
        have := b3 p hp
        cases hz : zp_ear x y n L p
        · rfl
        · rw [hz] at this; cases this) p0 0 (by omega)
      have e0 : rz_G X (d + 2) mz_X11_triangleAt 94 [some (.ref 32), some (.int (Int32.ofInt ((r + j : Nat) : Int))), some (.int (Int32.ofInt (k : Int))), some (.ref q), some (.int (Int32.ofInt (L.length : Int))), some (.int (Int32.ofInt (zp_area x y n))), some (.int (Int32.ofInt (r : Int))), l7, l8] [] w nc ns = rz_G X (d + 2) mz_X11_triangleAt 103 [some (.ref 32), some (.int (Int32.ofInt ((r + j : Nat) : Int))), some (.int (Int32.ofInt (k : Int))), some (.ref q), some (.int (Int32.ofInt (L.length : Int))), some (.int (Int32.ofInt (zp_area x y n))), some (.int (Int32.ofInt (r : Int))), some (.int (Int32.ofInt ((0 : Nat) : Int))), l8] [] w nc ns := by
        rw [q_X11_triangleAt_94]
        simp (disch := first | exact nl_i | exact nl_r | exact nl_0 | exact nl_n | exact nl_x | exact kd_r | exact kd_n | exact kd_x | exact kd_o | exact cats0 | exact cats1 | exact cats2 | exact cats3 | exact cats4 | exact nr_i | exact nr_l | exact nr_z0 | exact nr_z1 | exact ft_i | exact ft_l | omega | rfl | assumption | (refine i_ne0 ?_ ?_ ?_ <;> omega) | (refine j_ne0 ?_ ?_ ?_ <;> omega) | (refine i_new ?_ ?_ <;> omega) | (refine bl_t ?_; with_unfolding_all rfl) | exact ft_z0 | exact ft_z1) only [↓reduceIte, q_X11_triangleAt_96, q_X11_triangleAt_97, q_X11_triangleAt_100, q_X11_triangleAt_101, i_add, i_sub, i_mul, i_neg, i_lt, i_le, i_eq, i_tm, i_div, i_j, j_i, j_add, j_sub, j_mul, j_neg, j_lt, j_le, j_eq, j_div, c_lt, c_le, c_gt, c_ge, c_eq, i_nat, rz_k, Nat.add_zero, Nat.zero_add, Nat.add_assoc, Nat.reduceAdd, if_true, if_false, eq_false (show ¬ (L.length : Int) ≤ 3 by omega)]
        rfl
      obtain ⟨F, hA, hF⟩ := id hV
      cases j with
      | zero =>
        have ht : t = (L.getD ((p0 + L.length - 1) % L.length) 0, L.getD p0 0, L.getD ((p0 + 1) % L.length) 0) := by simpa using hj.symm
        have hidx : ∃ e, e < L.length ∧ ((p0 : Int) + (L.length : Int) + (k : Int) - 1).toNat % L.length = e ∧ L.getD e 0 = zt_pick t k := by
          rw [ht]
          unfold zt_pick
          rcases (show k = 0 ∨ k = 1 ∨ k = 2 by omega) with rfl | rfl | rfl
          · exact ⟨_, Nat.mod_lt _ hm0, by congr 1; omega, rfl⟩
          · refine ⟨p0, hp0, ?_, rfl⟩
            rw [show ((p0 : Int) + (L.length : Int) + ((1 : Nat) : Int) - 1).toNat = p0 + L.length by omega, Nat.add_mod_right, Nat.mod_eq_of_lt hp0]
          · refine ⟨_, Nat.mod_lt _ hm0, ?_, rfl⟩
            rw [show ((p0 : Int) + (L.length : Int) + ((2 : Nat) : Int) - 1).toNat = (p0 + 1) + L.length by omega, Nat.add_mod_right]
        obtain ⟨e, c1, c2, c3⟩ := hidx
        have hFe := hF e _ (ze_get c1)
        rw [c3] at hFe
        have i1 := zt_mod (by omega) c2
        have i2 := zt_mod2 (by omega) c2
        refine ⟨w, ?_, fr_refl⟩
        rw [e0, e1]
        simp (disch := first | exact nl_i | exact nl_r | exact nl_0 | exact nl_n | exact nl_x | exact kd_r | exact kd_n | exact kd_x | exact kd_o | exact cats0 | exact cats1 | exact cats2 | exact cats3 | exact cats4 | exact nr_i | exact nr_l | exact nr_z0 | exact nr_z1 | exact ft_i | exact ft_l | omega | rfl | assumption | (refine i_ne0 ?_ ?_ ?_ <;> omega) | (refine j_ne0 ?_ ?_ ?_ <;> omega) | (refine i_new ?_ ?_ <;> omega) | (refine bl_t ?_; with_unfolding_all rfl) | exact ft_z0 | exact ft_z1) only [↓reduceIte, q_X11_triangleAt_123, q_X11_triangleAt_125, q_X11_triangleAt_126, q_X11_triangleAt_129, q_X11_triangleAt_130, q_X11_triangleAt_132, q_X11_triangleAt_134, q_X11_triangleAt_135, q_X11_triangleAt_136, q_X11_triangleAt_137, q_X11_triangleAt_138, q_X11_triangleAt_139, q_X11_triangleAt_141, q_X11_triangleAt_142, q_X11_triangleAt_142x, q_X11_triangleAt_143, i_add, i_sub, i_mul, i_neg, i_lt, i_le, i_eq, i_tm, i_div, i_j, j_i, j_add, j_sub, j_mul, j_neg, j_lt, j_le, j_eq, j_div, c_lt, c_le, c_gt, c_ge, c_eq, i_nat, rz_k, Nat.add_zero, Nat.zero_add, Nat.add_assoc, Nat.reduceAdd, if_true, if_false, eq_true (show (r : Int) = ((r + 0 : Nat) : Int) by omega), not_true_eq_false, i1, i2, ai_eq hA, Int.toNat_natCast, hFe]
      | succ j =>
        have hlen2 : (L.eraseIdx p0).length = L.length - 1 := List.length_eraseIdx_of_lt hp0
        obtain ⟨w2, F2, l8', e2, f2, a1, a2, a3⟩ := l_trem (X := X) (d := d + 2) (nc := nc) (ns := ns) (q := q) (i := Int32.ofInt ((r + (j + 1) : Nat) : Int)) (k := Int32.ofInt (k : Int)) (A := Int32.ofInt (zp_area x y n)) (r := Int32.ofInt (r : Int)) (p7 := Int32.ofInt (p0 : Int)) (G0 := F) (p := p0) (mm := L.length - 1) (by omega) (L.length - 1 - p0) w p0 F (by omega) (Nat.le_refl _) hA (fun e _ _ => by omega) (fun e _ => rfl)
        have hq1 : ∀ c, c ∈ [32, 44, 45] → c ∉ [q] := fun c hc hc2 => hq (List.mem_singleton.mp hc2 ▸ hc)
        have hrp2 : v_rp w2 x y n := by
          obtain ⟨kp, tl, kd, cl, th, R, S, hm, h44, h45, r⟩ := h
          exact ⟨kp, tl, kd, cl, th, R, S, fr_get f2 (hq1 _ (by decide)) hm, fr_get f2 (hq1 _ (by decide)) h44, fr_get f2 (hq1 _ (by decide)) h45, r⟩
        have hV2 : v_l w2 q (L.eraseIdx p0) := by
          refine ⟨F2, a1, fun c e hc => ?_⟩
          rw [List.getElem?_eraseIdx] at hc
          by_cases hcp : c < p0
          · rw [if_pos hcp] at hc
            rw [a3 c hcp]
            exact hF c e hc
          · rw [if_neg hcp] at hc
            have := (List.getElem?_eq_some_iff.mp hc).1
            rw [a2 c (by omega) (by omega)]
            exact hF (c + 1) e hc
        obtain ⟨w3, e3, f3⟩ := ih w2 (r + 1) j (L.eraseIdx p0) t (some (.int (Int32.ofInt (p0 : Int)))) l8' (by omega) hrp2 hV2 (by omega) (fun e he => hL e (List.mem_of_mem_eraseIdx he)) (by simpa using hcl) hj (by omega)
        refine ⟨w3, ?_, fr_trans f2 f3⟩
        have e4 : rz_G X (d + 2) mz_X11_triangleAt 123 [some (.ref 32), some (.int (Int32.ofInt ((r + (j + 1) : Nat) : Int))), some (.int (Int32.ofInt (k : Int))), some (.ref q), some (.int (Int32.ofInt (L.length : Int))), some (.int (Int32.ofInt (zp_area x y n))), some (.int (Int32.ofInt (r : Int))), some (.int (Int32.ofInt (p0 : Int))), l8] [] w nc ns = rz_G X (d + 2) mz_X11_triangleAt 148 [some (.ref 32), some (.int (Int32.ofInt ((r + (j + 1) : Nat) : Int))), some (.int (Int32.ofInt (k : Int))), some (.ref q), some (.int (Int32.ofInt (L.length : Int))), some (.int (Int32.ofInt (zp_area x y n))), some (.int (Int32.ofInt (r : Int))), some (.int (Int32.ofInt (p0 : Int))), some (.int (Int32.ofInt (p0 : Int)))] [] w nc ns := by
          simp (disch := first | exact nl_i | exact nl_r | exact nl_0 | exact nl_n | exact nl_x | exact kd_r | exact kd_n | exact kd_x | exact kd_o | exact cats0 | exact cats1 | exact cats2 | exact cats3 | exact cats4 | exact nr_i | exact nr_l | exact nr_z0 | exact nr_z1 | exact ft_i | exact ft_l | omega | rfl | assumption | (refine i_ne0 ?_ ?_ ?_ <;> omega) | (refine j_ne0 ?_ ?_ ?_ <;> omega) | (refine i_new ?_ ?_ <;> omega) | (refine bl_t ?_; with_unfolding_all rfl) | exact ft_z0 | exact ft_z1) only [↓reduceIte, q_X11_triangleAt_123, q_X11_triangleAt_125, q_X11_triangleAt_126, q_X11_triangleAt_129, q_X11_triangleAt_130, q_X11_triangleAt_132, q_X11_triangleAt_134, q_X11_triangleAt_135, q_X11_triangleAt_136, q_X11_triangleAt_137, q_X11_triangleAt_138, q_X11_triangleAt_139, q_X11_triangleAt_141, q_X11_triangleAt_142, q_X11_triangleAt_142x, q_X11_triangleAt_143, q_X11_triangleAt_144, q_X11_triangleAt_146, i_add, i_sub, i_mul, i_neg, i_lt, i_le, i_eq, i_tm, i_div, i_j, j_i, j_add, j_sub, j_mul, j_neg, j_lt, j_le, j_eq, j_div, c_lt, c_le, c_gt, c_ge, c_eq, i_nat, rz_k, Nat.add_zero, Nat.zero_add, Nat.add_assoc, Nat.reduceAdd, if_true, if_false, eq_false (show ¬ (r : Int) = ((r + (j + 1) : Nat) : Int) by omega), not_false_eq_true]
        have hl1 : ((L.length - 1 + 1 : Nat) : Int) = (L.length : Int) := by omega
        rw [hl1] at e2
        rw [e0, e1, e4, e2, ← e3]
        have hr2 : ((r + (j + 1) : Nat) : Int) = ((r + 1 + j : Nat) : Int) := by omega
        rw [hr2, hlen2]
        have hl3 : ((L.length - 1 : Nat) : Int) = (L.length : Int) + (-1) := by omega
        have hr3 : ((r + 1 : Nat) : Int) = (r : Int) + 1 := by omega
        rw [hl3, hr3]
        simp (disch := first | exact nl_i | exact nl_r | exact nl_0 | exact nl_n | exact nl_x | exact kd_r | exact kd_n | exact kd_x | exact kd_o | exact cats0 | exact cats1 | exact cats2 | exact cats3 | exact cats4 | exact nr_i | exact nr_l | exact nr_z0 | exact nr_z1 | exact ft_i | exact ft_l | omega | rfl | assumption | (refine i_ne0 ?_ ?_ ?_ <;> omega) | (refine j_ne0 ?_ ?_ ?_ <;> omega) | (refine i_new ?_ ?_ <;> omega) | (refine bl_t ?_; with_unfolding_all rfl) | exact ft_z0 | exact ft_z1) only [q_X11_triangleAt_173, q_X11_triangleAt_176, q_X11_triangleAt_179, i_add, i_sub, i_mul, i_neg, i_lt, i_le, i_eq, i_tm, i_div, i_j, j_i, j_add, j_sub, j_mul, j_neg, j_lt, j_le, j_eq, j_div, c_lt, c_le, c_gt, c_ge, c_eq, i_nat, rz_k, Nat.add_zero, Nat.zero_add, Nat.add_assoc, Nat.reduceAdd, if_true, if_false]
end RZWT
