/-! part 97x: level 2: tiles: the class's squares -/
section RZWW
variable {X : rz_X} {d : Nat} {w w1 : rz_W} {nc ns : Nat} {x y : Nat → Int} {n : Nat} {kp tl kd ty cl th : Int}
def zj_v (k j a b : Nat) : Prop := b < 40 ∧ (a < k ∨ (a = k ∧ b < j))
def zj_D (sq : Nat → Nat → Bool) (cl : Nat → Nat → Nat) (k j : Nat) : Prop := ∀ a b a' b', zj_v k j a b → zj_v k j a' b' → sq a b = true → sq a' b' = true → cl a b = cl a' b' → a = a' ∧ b = b'
def zj_I (sq : Nat → Nat → Bool) (cl : Nat → Nat → Nat) (M : Nat → Int32) (k j : Nat) : Prop := ∀ c, c < 1600 → (M c = Int32.ofInt 0 ∧ ∀ a b, zj_v k j a b → sq a b = true → cl a b ≠ c) ∨ (M c = Int32.ofInt 1 ∧ ∃ a b, zj_v k j a b ∧ sq a b = true ∧ cl a b = c)
def zj_s (x y : Nat → Int) (n a b : Nat) : Bool := zw_x (zt_sq x y n (-20 + (a : Int)) (-20 + (b : Int))) n
def zj_c (A B C : Int) (a b : Nat) : Nat := (zt_cl A B C (-20 + (a : Int)) (-20 + (b : Int))).toNat
theorem l_fbrow {g : Nat} {A B C : Int} (hr : 1 ≤ A ∧ 0 ≤ B ∧ B < C ∧ A * C ≤ 1600) (hg49 : 49 ≤ g) {k : Nat} (hk : k < 40) (m : Nat) : ∀ (j : Nat) (w : rz_W) (M : Nat → Int32), j + m = 40 → v_cp w x y n → v_ob w g 3 [.int (Int32.ofInt A), .int (Int32.ofInt B), .int (Int32.ofInt C)] → v_ia w 24 1600 M → zj_I (zj_s x y n) (zj_c A B C) M k j → zj_D (zj_s x y n) (zj_c A B C) k j → ∃ (w' : rz_W) (M' : Nat → Int32), rz_fr [24] w w' ∧ v_ia w' 24 1600 M' ∧ ((rz_G X (d + 3) mz_X6_fillsBy 35 [some (.ref 18), some (.ref g), some (.int (Int32.ofInt (-20 + (k : Int)))), some (.int (Int32.ofInt (-20 + (j : Int))))] [] w nc ns = rz_G X (d + 3) mz_X6_fillsBy 71 [some (.ref 18), some (.ref g), some (.int (Int32.ofInt (-20 + (k : Int)))), some (.int (Int32.ofInt 20))] [] w' nc ns ∧ zj_I (zj_s x y n) (zj_c A B C) M' (k + 1) 0 ∧ zj_D (zj_s x y n) (zj_c A B C) (k + 1) 0) ∨ (rz_G X (d + 3) mz_X6_fillsBy 35 [some (.ref 18), some (.ref g), some (.int (Int32.ofInt (-20 + (k : Int)))), some (.int (Int32.ofInt (-20 + (j : Int))))] [] w nc ns = some (.inl (some (.int (Int32.ofInt 0))), w', nc, ns) ∧ ¬ zj_D (zj_s x y n) (zj_c A B C) 40 0)) := by
  induction m with
  | zero =>
    intro j w M hj h hg h24 hI hD
    obtain rfl : j = 40 := by omega
    have hv : ∀ a b, zj_v (k + 1) 0 a b → zj_v k 40 a b := by
      rintro a b ⟨h1, h2⟩
      exact ⟨h1, by omega⟩
    have hv2 : ∀ a b, zj_v k 40 a b → zj_v (k + 1) 0 a b := by
      rintro a b ⟨h1, h2⟩
      exact ⟨h1, by omega⟩
    refine ⟨w, M, fr_refl, h24, .inl ⟨?_, ?_, fun a b a' b' h1 h2 => hD a b a' b' (hv _ _ h1) (hv _ _ h2)⟩⟩
    · rw [q_X6_fillsBy_35]
      simp (disch := first | exact nl_i | exact nl_r | exact nl_0 | exact nl_n | exact nl_x | exact kd_r | exact kd_n | exact kd_x | exact kd_o | exact cats0 | exact cats1 | exact cats2 | exact cats3 | exact cats4 | exact nr_i | exact nr_l | exact nr_z0 | exact nr_z1 | exact ft_i | exact ft_l | omega | rfl | assumption | (refine i_ne0 ?_ ?_ ?_ <;> omega) | (refine j_ne0 ?_ ?_ ?_ <;> omega) | (refine i_new ?_ ?_ <;> omega) | (refine bl_t ?_; with_unfolding_all rfl) | exact ft_z0 | exact ft_z1) only [↓reduceIte, q_X6_fillsBy_36, q_X6_fillsBy_38, i_add, i_sub, i_mul, i_neg, i_lt, i_le, i_eq, i_tm, i_div, i_j, j_i, j_add, j_sub, j_mul, j_neg, j_lt, j_le, j_eq, j_div, c_lt, c_le, c_gt, c_ge, c_eq, i_nat, rz_k, Nat.add_zero, Nat.zero_add, Nat.add_assoc, Nat.reduceAdd, if_true, if_false, eq_true (show 20 ≤ -20 + ((40 : Nat) : Int) by omega)]
      rfl
    · intro c hc
      rcases hI c hc with ⟨h1, h2⟩ | ⟨h1, a, b, h2, h3, h4⟩
      · exact .inl ⟨h1, fun a b h3 => h2 a b (hv _ _ h3)⟩
      · exact .inr ⟨h1, a, b, hv2 _ _ h2, h3, h4⟩
  | succ m ih =>
    intro j w M hj h hg h24 hI hD
    obtain ⟨cl, a0, P, Q, h18, h22, h23, hn, hrg, he⟩ := id h
    have ks := x_hsq (X := X) (d := d + 1) (Xx := -20 + (k : Int)) (Y := -20 + (j : Int)) h (by omega) (by omega)
    have hvn : ∀ a b, zj_v k (j + 1) a b → zj_v k j a b ∨ (a = k ∧ b = j) := by
      rintro a b ⟨h1, h2⟩
      by_cases hc : a = k ∧ b = j
      · exact .inr hc
      · exact .inl ⟨h1, by omega⟩
    have hvm : ∀ a b, zj_v k j a b → zj_v k (j + 1) a b := by
      rintro a b ⟨h1, h2⟩
      exact ⟨h1, by omega⟩
    have hvj : zj_v k (j + 1) k j := ⟨by omega, by omega⟩
    have hjj : -20 + ((j + 1 : Nat) : Int) = -20 + ((j : Int) + 1) := by omega
    cases hs : zj_s x y n k j
    · have hs' : zw_x (zt_sq x y n (-20 + (k : Int)) (-20 + (j : Int))) n = false := hs
      rw [hs', zb_f] at ks
      obtain ⟨w', M', f, a1, a2⟩ := ih (j + 1) w M (by omega) h hg h24 (fun c hc => by
        rcases hI c hc with ⟨h1, h2⟩ | ⟨h1, a, b, h2, h3, h4⟩
        · refine .inl ⟨h1, fun a b h3 h4 => ?_⟩
          rcases hvn a b h3 with h5 | ⟨rfl, rfl⟩
          · exact h2 a b h5 h4
          · rw [hs] at h4; cases h4
        · exact .inr ⟨h1, a, b, hvm _ _ h2, h3, h4⟩) (fun a b a' b' h1 h2 h3 h4 h5 => by
        rcases hvn a b h1 with h6 | ⟨rfl, rfl⟩
        · rcases hvn a' b' h2 with h7 | ⟨rfl, rfl⟩
          · exact hD a b a' b' h6 h7 h3 h4 h5
          · rw [hs] at h4; cases h4
        · rw [hs] at h3; cases h3)
      have e : rz_G X (d + 3) mz_X6_fillsBy 35 [some (.ref 18), some (.ref g), some (.int (Int32.ofInt (-20 + (k : Int)))), some (.int (Int32.ofInt (-20 + (j : Int))))] [] w nc ns = rz_G X (d + 3) mz_X6_fillsBy 35 [some (.ref 18), some (.ref g), some (.int (Int32.ofInt (-20 + (k : Int)))), some (.int (Int32.ofInt (-20 + ((j + 1 : Nat) : Int))))] [] w nc ns := by
        rw [q_X6_fillsBy_35, hjj]
        simp (disch := first | exact nl_i | exact nl_r | exact nl_0 | exact nl_n | exact nl_x | exact kd_r | exact kd_n | exact kd_x | exact kd_o | exact cats0 | exact cats1 | exact cats2 | exact cats3 | exact cats4 | exact nr_i | exact nr_l | exact nr_z0 | exact nr_z1 | exact ft_i | exact ft_l | omega | rfl | assumption | (refine i_ne0 ?_ ?_ ?_ <;> omega) | (refine j_ne0 ?_ ?_ ?_ <;> omega) | (refine i_new ?_ ?_ <;> omega) | (refine bl_t ?_; with_unfolding_all rfl) | exact ft_z0 | exact ft_z1) only [↓reduceIte, q_X6_fillsBy_36, q_X6_fillsBy_38, q_X6_fillsBy_41, q_X6_fillsBy_42, q_X6_fillsBy_43, q_X6_fillsBy_44, q_X6_fillsBy_47, q_X6_fillsBy_50, q_X6_fillsBy_51, q_X6_fillsBy_52, q_X6_fillsBy_53, q_X6_fillsBy_54, q_X6_fillsBy_57, q_X6_fillsBy_60, q_X6_fillsBy_63, q_X6_fillsBy_64, q_X6_fillsBy_65, q_X6_fillsBy_68, i_add, i_sub, i_mul, i_neg, i_lt, i_le, i_eq, i_tm, i_div, i_j, j_i, j_add, j_sub, j_mul, j_neg, j_lt, j_le, j_eq, j_div, c_lt, c_le, c_gt, c_ge, c_eq, i_nat, rz_k, Nat.add_zero, Nat.zero_add, Nat.add_assoc, Nat.reduceAdd, if_true, if_false, vk_eq h18, eq_false (show ¬ 20 ≤ -20 + (j : Int) by omega), ks, Int.add_assoc]
      refine ⟨w', M', f, a1, ?_⟩
      rcases a2 with ⟨e2, r⟩ | ⟨e2, r⟩
      · exact .inl ⟨e.trans e2, r⟩
      · exact .inr ⟨e.trans e2, r⟩
    · have hs' : zw_x (zt_sq x y n (-20 + (k : Int)) (-20 + (j : Int))) n = true := hs
      rw [hs', zb_t] at ks
      obtain ⟨kc, kc1, kc2⟩ := x_clof (X := X) (d := d) (Xx := -20 + (k : Int)) (Y := -20 + (j : Int)) hg hr (by omega) (by omega)
      obtain ⟨c, hc⟩ : ∃ c : Nat, zj_c A B C k j = c := ⟨_, rfl⟩
      have hcl : zt_cl A B C (-20 + (k : Int)) (-20 + (j : Int)) = (c : Int) := by
        rw [← hc]
        unfold zj_c
        omega
      rw [hcl] at kc kc1 kc2
      have hc16 : c < 1600 := by omega
      rcases hI c hc16 with ⟨h1, h2⟩ | ⟨h1, a, b, h2, h3, h4⟩
      · have km := x_marked (X := X) (d := d + 2) h18 rfl h24 hc16 (.inl rfl) h1
        have f1 : rz_fr [24] w (w.set 24 (.inl (.int, 1600, .inl (upd M c (Int32.ofInt (0 + 1)))))) := fr_set (by decide)
        obtain ⟨w', M', f, a1, a2⟩ := ih (j + 1) _ _ (by omega) (v_cp_fr h f1 (by decide)) (fr_get f1 (by simp; omega) hg) (w_eq (w_lt h24)) (fun c' hc' => by
          by_cases hcc : c' = c
          · refine .inr ⟨by rw [hcc, upd_eq]; rfl, k, j, hvj, hs, by rw [hc, hcc]⟩
          · rw [upd_ne hcc]
            rcases hI c' hc' with ⟨g1, g2⟩ | ⟨g1, a, b, g2, g3, g4⟩
            · refine .inl ⟨g1, fun a b g3 g4 => ?_⟩
              rcases hvn a b g3 with g5 | ⟨rfl, rfl⟩
              · exact g2 a b g5 g4
              · rw [hc]; exact fun c0 => hcc c0.symm
            · exact .inr ⟨g1, a, b, hvm _ _ g2, g3, g4⟩) (fun a b a' b' g1 g2 g3 g4 g5 => by
          rcases hvn a b g1 with g6 | ⟨rfl, rfl⟩
          · rcases hvn a' b' g2 with g7 | ⟨rfl, rfl⟩
            · exact hD a b a' b' g6 g7 g3 g4 g5
            · exact absurd (g5.trans hc) (h2 a b g6 g3)
          · rcases hvn a' b' g2 with g7 | ⟨rfl, rfl⟩
            · exact absurd (g5.symm.trans hc) (h2 a' b' g7 g4)
            · exact ⟨rfl, rfl⟩)
        have e : rz_G X (d + 3) mz_X6_fillsBy 35 [some (.ref 18), some (.ref g), some (.int (Int32.ofInt (-20 + (k : Int)))), some (.int (Int32.ofInt (-20 + (j : Int))))] [] w nc ns = rz_G X (d + 3) mz_X6_fillsBy 35 [some (.ref 18), some (.ref g), some (.int (Int32.ofInt (-20 + (k : Int)))), some (.int (Int32.ofInt (-20 + ((j + 1 : Nat) : Int))))] [] (w.set 24 (.inl (.int, 1600, .inl (upd M c (Int32.ofInt (0 + 1)))))) nc ns := by
          rw [q_X6_fillsBy_35, hjj]
          simp (disch := first | exact nl_i | exact nl_r | exact nl_0 | exact nl_n | exact nl_x | exact kd_r | exact kd_n | exact kd_x | exact kd_o | exact cats0 | exact cats1 | exact cats2 | exact cats3 | exact cats4 | exact nr_i | exact nr_l | exact nr_z0 | exact nr_z1 | exact ft_i | exact ft_l | omega | rfl | assumption | (refine i_ne0 ?_ ?_ ?_ <;> omega) | (refine j_ne0 ?_ ?_ ?_ <;> omega) | (refine i_new ?_ ?_ <;> omega) | (refine bl_t ?_; with_unfolding_all rfl) | exact ft_z0 | exact ft_z1) only [↓reduceIte, q_X6_fillsBy_36, q_X6_fillsBy_38, q_X6_fillsBy_41, q_X6_fillsBy_42, q_X6_fillsBy_43, q_X6_fillsBy_44, q_X6_fillsBy_47, q_X6_fillsBy_50, q_X6_fillsBy_51, q_X6_fillsBy_52, q_X6_fillsBy_53, q_X6_fillsBy_54, q_X6_fillsBy_57, q_X6_fillsBy_60, q_X6_fillsBy_63, q_X6_fillsBy_64, q_X6_fillsBy_65, q_X6_fillsBy_68, i_add, i_sub, i_mul, i_neg, i_lt, i_le, i_eq, i_tm, i_div, i_j, j_i, j_add, j_sub, j_mul, j_neg, j_lt, j_le, j_eq, j_div, c_lt, c_le, c_gt, c_ge, c_eq, i_nat, rz_k, Nat.add_zero, Nat.zero_add, Nat.add_assoc, Nat.reduceAdd, if_true, if_false, vk_eq h18, vk_eq hg, eq_false (show ¬ 20 ≤ -20 + (j : Int) by omega), ks, kc, km, Int.add_assoc, Int.reduceEq]
        refine ⟨w', M', fr_trans f1 f, a1, ?_⟩
        rcases a2 with ⟨e2, r⟩ | ⟨e2, r⟩
        · exact .inl ⟨e.trans e2, r⟩
        · exact .inr ⟨e.trans e2, r⟩
      · have km := x_marked (X := X) (d := d + 2) h18 rfl h24 hc16 (.inr rfl) h1
        refine ⟨w.set 24 (.inl (.int, 1600, .inl (upd M c (Int32.ofInt (1 + 1))))), upd M c (Int32.ofInt (1 + 1)), fr_set (by decide), w_eq (w_lt h24), .inr ⟨?_, fun hD40 => ?_⟩⟩
        · rw [q_X6_fillsBy_35]
          simp (disch := first | exact nl_i | exact nl_r | exact nl_0 | exact nl_n | exact nl_x | exact kd_r | exact kd_n | exact kd_x | exact kd_o | exact cats0 | exact cats1 | exact cats2 | exact cats3 | exact cats4 | exact nr_i | exact nr_l | exact nr_z0 | exact nr_z1 | exact ft_i | exact ft_l | omega | rfl | assumption | (refine i_ne0 ?_ ?_ ?_ <;> omega) | (refine j_ne0 ?_ ?_ ?_ <;> omega) | (refine i_new ?_ ?_ <;> omega) | (refine bl_t ?_; with_unfolding_all rfl) | exact ft_z0 | exact ft_z1) only [↓reduceIte, q_X6_fillsBy_36, q_X6_fillsBy_38, q_X6_fillsBy_41, q_X6_fillsBy_42, q_X6_fillsBy_43, q_X6_fillsBy_44, q_X6_fillsBy_47, q_X6_fillsBy_50, q_X6_fillsBy_51, q_X6_fillsBy_52, q_X6_fillsBy_53, q_X6_fillsBy_54, q_X6_fillsBy_57, q_X6_fillsBy_60, q_X6_fillsBy_63, q_X6_fillsBy_64, q_X6_fillsBy_65, q_X6_fillsBy_68, i_add, i_sub, i_mul, i_neg, i_lt, i_le, i_eq, i_tm, i_div, i_j, j_i, j_add, j_sub, j_mul, j_neg, j_lt, j_le, j_eq, j_div, c_lt, c_le, c_gt, c_ge, c_eq, i_nat, rz_k, Nat.add_zero, Nat.zero_add, Nat.add_assoc, Nat.reduceAdd, if_true, if_false, vk_eq h18, vk_eq hg, eq_false (show ¬ 20 ≤ -20 + (j : Int) by omega), ks, kc, km, Int.reduceEq]
        · have := hD40 a b k j ⟨h2.1, by have := h2.2; omega⟩ ⟨by omega, by omega⟩ h3 hs (h4.trans hc.symm)
          obtain ⟨rfl, rfl⟩ := this
          have := h2.2
          omega
theorem l_fball {g : Nat} {A B C : Int} (hr : 1 ≤ A ∧ 0 ≤ B ∧ B < C ∧ A * C ≤ 1600) (hg49 : 49 ≤ g) (m : Nat) : ∀ (k : Nat) (w : rz_W) (M : Nat → Int32) (l3 : Option Value), k + m = 40 → v_cp w x y n → v_ob w g 3 [.int (Int32.ofInt A), .int (Int32.ofInt B), .int (Int32.ofInt C)] → v_ia w 24 1600 M → zj_I (zj_s x y n) (zj_c A B C) M k 0 → zj_D (zj_s x y n) (zj_c A B C) k 0 → ∃ (b : Bool) (w' : rz_W) (M' : Nat → Int32), rz_fr [24] w w' ∧ v_ia w' 24 1600 M' ∧ rz_G X (d + 3) mz_X6_fillsBy 26 [some (.ref 18), some (.ref g), some (.int (Int32.ofInt (-20 + (k : Int)))), l3] [] w nc ns = some (.inl (some (.int (Int32.ofInt (zb b)))), w', nc, ns) ∧ (b = true ↔ zj_D (zj_s x y n) (zj_c A B C) 40 0) := by
  induction m with
  | zero =>
    intro k w M l3 hk h hg h24 hI hD
    obtain rfl : k = 40 := by omega
    refine ⟨true, w, M, fr_refl, h24, ?_, ⟨fun _ => hD, fun _ => rfl⟩⟩
    rw [q_X6_fillsBy_26, zb_t]
    simp (disch := first | exact nl_i | exact nl_r | exact nl_0 | exact nl_n | exact nl_x | exact kd_r | exact kd_n | exact kd_x | exact kd_o | exact cats0 | exact cats1 | exact cats2 | exact cats3 | exact cats4 | exact nr_i | exact nr_l | exact nr_z0 | exact nr_z1 | exact ft_i | exact ft_l | omega | rfl | assumption | (refine i_ne0 ?_ ?_ ?_ <;> omega) | (refine j_ne0 ?_ ?_ ?_ <;> omega) | (refine i_new ?_ ?_ <;> omega) | (refine bl_t ?_; with_unfolding_all rfl) | exact ft_z0 | exact ft_z1) only [↓reduceIte, q_X6_fillsBy_27, q_X6_fillsBy_29, q_X6_fillsBy_32, q_X6_fillsBy_34, q_X6_fillsBy_77, q_X6_fillsBy_78, i_add, i_sub, i_mul, i_neg, i_lt, i_le, i_eq, i_tm, i_div, i_j, j_i, j_add, j_sub, j_mul, j_neg, j_lt, j_le, j_eq, j_div, c_lt, c_le, c_gt, c_ge, c_eq, i_nat, rz_k, Nat.add_zero, Nat.zero_add, Nat.add_assoc, Nat.reduceAdd, if_true, if_false, eq_true (show 20 ≤ -20 + ((40 : Nat) : Int) by omega)]
  | succ m ih =>
    intro k w M l3 hk h hg h24 hI hD
    have e0 : rz_G X (d + 3) mz_X6_fillsBy 26 [some (.ref 18), some (.ref g), some (.int (Int32.ofInt (-20 + (k : Int)))), l3] [] w nc ns = rz_G X (d + 3) mz_X6_fillsBy 35 [some (.ref 18), some (.ref g), some (.int (Int32.ofInt (-20 + (k : Int)))), some (.int (Int32.ofInt (-20 + ((0 : Nat) : Int))))] [] w nc ns := by
      rw [q_X6_fillsBy_26]
      simp (disch := first | exact nl_i | exact nl_r | exact nl_0 | exact nl_n | exact nl_x | exact kd_r | exact kd_n | exact kd_x | exact kd_o | exact cats0 | exact cats1 | exact cats2 | exact cats3 | exact cats4 | exact nr_i | exact nr_l | exact nr_z0 | exact nr_z1 | exact ft_i | exact ft_l | omega | rfl | assumption | (refine i_ne0 ?_ ?_ ?_ <;> omega) | (refine j_ne0 ?_ ?_ ?_ <;> omega) | (refine i_new ?_ ?_ <;> omega) | (refine bl_t ?_; with_unfolding_all rfl) | exact ft_z0 | exact ft_z1) only [↓reduceIte, q_X6_fillsBy_27, q_X6_fillsBy_29, q_X6_fillsBy_32, q_X6_fillsBy_34, i_add, i_sub, i_mul, i_neg, i_lt, i_le, i_eq, i_tm, i_div, i_j, j_i, j_add, j_sub, j_mul, j_neg, j_lt, j_le, j_eq, j_div, c_lt, c_le, c_gt, c_ge, c_eq, i_nat, rz_k, Nat.add_zero, Nat.zero_add, Nat.add_assoc, Nat.reduceAdd, if_true, if_false, eq_false (show ¬ 20 ≤ -20 + (k : Int) by omega)]
      rfl
    obtain ⟨w1, M1, f1, a1, a2⟩ := l_fbrow (X := X) (d := d) (nc := nc) (ns := ns) (x := x) (y := y) (n := n) hr hg49 (show k < 40 by omega) 40 0 w M (by omega) h hg h24 hI hD
    rcases a2 with ⟨e1, hI1, hD1⟩ | ⟨e1, hno⟩
    · obtain ⟨b, w', M', f2, b1, e2, hb⟩ := ih (k + 1) w1 M1 (some (.int (Int32.ofInt 20))) (by omega) (v_cp_fr h f1 (by decide)) (fr_get f1 (by simp; omega) hg) a1 hI1 hD1
      refine ⟨b, w', M', fr_trans f1 f2, b1, ?_, hb⟩
      have hkk : -20 + ((k + 1 : Nat) : Int) = -20 + ((k : Int) + 1) := by omega
      rw [e0, e1, ← e2, hkk, q_X6_fillsBy_71 nl_r]
      simp (disch := first | exact nl_i | exact nl_r | exact nl_0 | exact nl_n | exact nl_x | exact kd_r | exact kd_n | exact kd_x | exact kd_o | exact cats0 | exact cats1 | exact cats2 | exact cats3 | exact cats4 | exact nr_i | exact nr_l | exact nr_z0 | exact nr_z1 | exact ft_i | exact ft_l | omega | rfl | assumption | (refine i_ne0 ?_ ?_ ?_ <;> omega) | (refine j_ne0 ?_ ?_ ?_ <;> omega) | (refine i_new ?_ ?_ <;> omega) | (refine bl_t ?_; with_unfolding_all rfl) | exact ft_z0 | exact ft_z1) only [q_X6_fillsBy_74, i_add, i_sub, i_mul, i_neg, i_lt, i_le, i_eq, i_tm, i_div, i_j, j_i, j_add, j_sub, j_mul, j_neg, j_lt, j_le, j_eq, j_div, c_lt, c_le, c_gt, c_ge, c_eq, i_nat, rz_k, Nat.add_zero, Nat.zero_add, Nat.add_assoc, Nat.reduceAdd, if_true, if_false, Int.add_assoc]
    · exact ⟨false, w1, M1, f1, a1, by rw [e0, e1, zb_f], ⟨fun c => (by cases c), fun c => absurd c hno⟩⟩
theorem x_fills {g : Nat} {A B C : Int} {M : Nat → Int32} (hr : 1 ≤ A ∧ 0 ≤ B ∧ B < C ∧ A * C ≤ 1000000) (hB : ((zp_area x y n).natAbs : Int) ≤ 3200) (hg49 : 49 ≤ g) (h : v_cp w x y n) (hg : v_ob w g 3 [.int (Int32.ofInt A), .int (Int32.ofInt B), .int (Int32.ofInt C)]) (h24 : v_ia w 24 1600 M) : ∃ (b : Bool) (w' : rz_W) (M' : Nat → Int32), rz_fr [24] w w' ∧ v_ia w' 24 1600 M' ∧ rz_ex X (d + 4) 71 [.ref 18, .ref g] w = some (.inl (some (.int (Int32.ofInt (zb b)))), w', 0, 0) ∧ (b = true ↔ ((zp_area x y n).natAbs : Int) = 2 * (A * C) ∧ zj_D (zj_s x y n) (zj_c A B C) 40 0) := by
  have kt := x_twice (X := X) (d := d) h
  have ki := x_index (X := X) (d := d + 2) hg
  obtain ⟨cl, a0, P, Q, h18, h22, h23, hn, hrg, he⟩ := id h
  have hAC : 0 ≤ A * C := Int.mul_nonneg (by omega) (by omega)
  generalize (zp_area x y n).natAbs = S at *
  generalize hAC2 : A * C = I at *
  by_cases hS : (S : Int) = 2 * I
  · obtain ⟨M1, e1, hM1⟩ := x_fill (X := X) (d := d + 2) (x := Int32.ofInt 0) (show 1600 ≤ 5000 by omega) h24
    have f1 : rz_fr [24] w (w.set 24 (.inl (.int, 1600, .inl M1))) := fr_set (by decide)
    have hv0 : ∀ a b, ¬ zj_v 0 0 a b := by
      rintro a b ⟨h1, h2⟩
      omega
    obtain ⟨b, w', M', f2, b1, e2, hb⟩ := l_fball (X := X) (d := d) (nc := 0) (ns := 0) (x := x) (y := y) (n := n) (A := A) (B := B) (C := C) ⟨hr.1, hr.2.1, hr.2.2.1, by omega⟩ hg49 40 0 _ M1 none (by omega) (v_cp_fr h f1 (by decide)) (fr_get f1 (by simp; omega) hg) (w_eq (w_lt h24)) (fun c hc => .inl ⟨hM1 c hc, fun a b h => absurd h (hv0 a b)⟩) (fun a b a' b' h => absurd h (hv0 a b))
    refine ⟨b, w', M', fr_trans f1 f2, b1, ?_, hb.trans ⟨fun h => ⟨hS, h⟩, fun h => h.2⟩⟩
    rw [← e2]
    simp (disch := first | exact nl_i | exact nl_r | exact nl_0 | exact nl_n | exact nl_x | exact kd_r | exact kd_n | exact kd_x | exact kd_o | exact cats0 | exact cats1 | exact cats2 | exact cats3 | exact cats4 | exact nr_i | exact nr_l | exact nr_z0 | exact nr_z1 | exact ft_i | exact ft_l | omega | rfl | assumption | (refine i_ne0 ?_ ?_ ?_ <;> omega) | (refine j_ne0 ?_ ?_ ?_ <;> omega) | (refine i_new ?_ ?_ <;> omega) | (refine bl_t ?_; with_unfolding_all rfl) | exact ft_z0 | exact ft_z1) only [↓reduceIte, n_X6_fillsBy, q_X6_fillsBy_0, q_X6_fillsBy_1, q_X6_fillsBy_4, q_X6_fillsBy_5, q_X6_fillsBy_6, q_X6_fillsBy_9, q_X6_fillsBy_10, q_X6_fillsBy_13, q_X6_fillsBy_14, q_X6_fillsBy_15, q_X6_fillsBy_16, q_X6_fillsBy_19, q_X6_fillsBy_20, q_X6_fillsBy_23, q_X6_fillsBy_25, i_add, i_sub, i_mul, i_neg, i_lt, i_le, i_eq, i_tm, i_div, i_j, j_i, j_add, j_sub, j_mul, j_neg, j_lt, j_le, j_eq, j_div, c_lt, c_le, c_gt, c_ge, c_eq, i_nat, rz_k, Nat.add_zero, Nat.zero_add, Nat.add_assoc, Nat.reduceAdd, if_true, if_false, vk_eq h18, vk_eq hg, gf_eq h18, List.getElem?_cons_zero, List.getElem?_cons_succ, kt, ki, eq_true hS, e1]
    rfl
  · refine ⟨false, w, M, fr_refl, h24, ?_, ⟨fun c => (by cases c), fun c => absurd c.1 hS⟩⟩
    simp (disch := first | exact nl_i | exact nl_r | exact nl_0 | exact nl_n | exact nl_x | exact kd_r | exact kd_n | exact kd_x | exact kd_o | exact cats0 | exact cats1 | exact cats2 | exact cats3 | exact cats4 | exact nr_i | exact nr_l | exact nr_z0 | exact nr_z1 | exact ft_i | exact ft_l | omega | rfl | assumption | (refine i_ne0 ?_ ?_ ?_ <;> omega) | (refine j_ne0 ?_ ?_ ?_ <;> omega) | (refine i_new ?_ ?_ <;> omega) | (refine bl_t ?_; with_unfolding_all rfl) | exact ft_z0 | exact ft_z1) only [↓reduceIte, n_X6_fillsBy, q_X6_fillsBy_0, q_X6_fillsBy_1, q_X6_fillsBy_4, q_X6_fillsBy_5, q_X6_fillsBy_6, q_X6_fillsBy_9, q_X6_fillsBy_10, q_X6_fillsBy_13, q_X6_fillsBy_14, q_X6_fillsBy_15, q_X6_fillsBy_16, q_X6_fillsBy_19, q_X6_fillsBy_20, q_X6_fillsBy_23, q_X6_fillsBy_25, i_add, i_sub, i_mul, i_neg, i_lt, i_le, i_eq, i_tm, i_div, i_j, j_i, j_add, j_sub, j_mul, j_neg, j_lt, j_le, j_eq, j_div, c_lt, c_le, c_gt, c_ge, c_eq, i_nat, rz_k, Nat.add_zero, Nat.zero_add, Nat.add_assoc, Nat.reduceAdd, if_true, if_false, vk_eq h18, vk_eq hg, gf_eq h18, List.getElem?_cons_zero, List.getElem?_cons_succ, kt, ki, eq_false hS, zb_f]
end RZWW
