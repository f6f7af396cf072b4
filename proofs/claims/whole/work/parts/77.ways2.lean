/-! part 77: level 2: the reference's table of ways -/
section RZWZ
variable {X : rz_X} {d : Nat} {w : rz_W} {nc ns : Nat} {kp tl kd ty cl th : Int}
-- the reference's table of ways
theorem l_yw1 {v : Nat → Nat} {j a : Nat} {V2 : Nat → Int32} {x1 : Int32} (hm : v_model w kp tl kd ty cl th) (g43 : v_ia w 43 4 V2) (hj : j < 4) (hVj : V2 j = Int32.ofInt (v j)) (hv : 2 ≤ v j ∧ v j ≤ 50) (hb : ∀ s, s ≤ 2500 → zf_W v (j + 1) s ≤ 1957816251) (ha : w.length = a) (m : Nat) : ∀ (t : Nat) (F : Nat → Int64), t + m = 2501 → v j ≤ t → (∀ s, s ≤ 2500 → F s = Int64.ofInt (if s < t then zf_W v (j + 1) s else zf_W v j s : Nat)) → ∃ F' : Nat → Int64, rz_G X d mz_X11_ways 66 [some (.ref 32), some (.int x1), some (.ref a), some (.int (Int32.ofInt j)), some (.int (Int32.ofInt t))] [] (w ++ [.inl (.long, 2501, .inr (.inl F))]) nc ns = rz_G X d mz_X11_ways 98 [some (.ref 32), some (.int x1), some (.ref a), some (.int (Int32.ofInt j)), some (.int (Int32.ofInt 2501))] [] (w ++ [.inl (.long, 2501, .inr (.inl F'))]) nc ns ∧ ∀ s, s ≤ 2500 → F' s = Int64.ofInt (zf_W v (j + 1) s) := by
  subst ha
  induction m with
  | zero =>
    intro t F ht hvt hF
    obtain rfl : t = 2501 := ht
    refine ⟨F, ?_, fun s hs => by have := hF s hs; rw [if_pos (by omega)] at this; exact this⟩
    rw [q_X11_ways_66]
    simp (disch := first | exact nl_i | exact nl_r | exact nl_0 | exact nl_n | exact nl_x | exact kd_r | exact kd_n | exact kd_x | exact kd_o | exact cats0 | exact cats1 | exact cats2 | exact cats3 | exact cats4 | exact nr_i | exact nr_l | exact nr_z0 | exact nr_z1 | exact ft_i | exact ft_l | omega | rfl | assumption | (refine i_ne0 ?_ ?_ ?_ <;> omega) | (refine j_ne0 ?_ ?_ ?_ <;> omega) | (refine i_new ?_ ?_ <;> omega) | (refine bl_t ?_; with_unfolding_all rfl) | exact ft_z0 | exact ft_z1) only [q_X11_ways_68, q_X11_ways_71, i_add, i_sub, i_mul, i_neg, i_lt, i_le, i_eq, i_tm, i_div, i_j, j_i, j_add, j_sub, j_mul, j_neg, j_lt, j_le, j_eq, j_div, c_lt, c_le, c_gt, c_ge, c_eq, i_nat, rz_k, Nat.add_zero, Nat.zero_add, Nat.add_assoc, Nat.reduceAdd, if_true, if_false]
    rw [if_pos (by omega)]
    rfl
  | succ m ih =>
    intro t F ht hvt hF
    have hm1 : v_model (w ++ [.inl (.long, 2501, .inr (.inl F))]) kp tl kd ty cl th := fr_get (fr_al (w := w)) (by simp) hm
    have h43 : v_ia (w ++ [.inl (.long, 2501, .inr (.inl F))]) 43 4 V2 := fr_get (fr_al (w := w)) (by simp) g43
    have hF0 : v_la (w ++ [.inl (.long, 2501, .inr (.inl F))]) w.length 2501 F := w_new
    have e1 : ((t : Int) - (v j : Int)).toNat = t - v j := by omega
    have f1 := hF t (by omega)
    have f2 := hF (t - v j) (by omega)
    rw [if_neg (by omega)] at f1
    rw [if_pos (by omega)] at f2
    have hWs : zf_W v (j + 1) t = zf_W v j t + zf_W v (j + 1) (t - v j) := by rw [zf_W_step (by omega), if_neg (by omega)]
    have hWc : ((zf_W v j t : Nat) : Int) + ((zf_W v (j + 1) (t - v j) : Nat) : Int) = ((zf_W v (j + 1) t : Nat) : Int) := by rw [hWs]; omega
    obtain ⟨F', e, h⟩ := ih (t + 1) (vp_updL F t (Int64.ofInt (zf_W v (j + 1) t))) (by omega) (by omega) (fun s hs => by
      unfold vp_updL
      by_cases hst : s = t
      · rw [if_pos hst, hst, if_pos (by omega)]
      · rw [if_neg hst, hF s hs]
        by_cases h : s < t
        · rw [if_pos h, if_pos (by omega)]
        · rw [if_neg h, if_neg (by omega)])
    refine ⟨F', ?_, h⟩
    rw [← e, q_X11_ways_66]
    simp (disch := first | exact nl_i | exact nl_r | exact nl_0 | exact nl_n | exact nl_x | exact kd_r | exact kd_n | exact kd_x | exact kd_o | exact cats0 | exact cats1 | exact cats2 | exact cats3 | exact cats4 | exact nr_i | exact nr_l | exact nr_z0 | exact nr_z1 | exact ft_i | exact ft_l | omega | rfl | assumption | (refine i_ne0 ?_ ?_ ?_ <;> omega) | (refine j_ne0 ?_ ?_ ?_ <;> omega) | (refine i_new ?_ ?_ <;> omega) | (refine bl_t ?_; with_unfolding_all rfl) | exact ft_z0 | exact ft_z1) only [q_X11_ways_68, q_X11_ways_71, q_X11_ways_74, q_X11_ways_75, q_X11_ways_77r, q_X11_ways_78, q_X11_ways_79, q_X11_ways_80, q_X11_ways_82, q_X11_ways_83, q_X11_ways_86, q_X11_ways_87, q_X11_ways_88, q_X11_ways_89, q_X11_ways_90, q_X11_ways_91, q_X11_ways_92, q_X11_ways_95, i_add, i_sub, i_mul, i_neg, i_lt, i_le, i_eq, i_tm, i_div, i_j, j_i, j_add, j_sub, j_mul, j_neg, j_lt, j_le, j_eq, j_div, c_lt, c_le, c_gt, c_ge, c_eq, i_nat, rz_k, Nat.add_zero, Nat.zero_add, Nat.add_assoc, Nat.reduceAdd, if_true, if_false, gf_eq hm1, List.getElem?_cons_zero, List.getElem?_cons_succ, ai_eq h43, Int.toNat_natCast, hVj, al_eq hF0, e1, f1, f2, hWc, sl_eq hF0]
    rw [if_neg (by omega), w_snew]
    rfl
theorem l_yw2 {v : Nat → Nat} {n a : Nat} {V2 : Nat → Int32} {x1 : Int32} (hm : v_model w kp tl n ty cl th) (g43 : v_ia w 43 4 V2) (hn : n ≤ 4) (hV : ∀ k, k < n → (2 ≤ v k ∧ v k ≤ 50) ∧ V2 k = Int32.ofInt (v k)) (ha : w.length = a) (m : Nat) : ∀ (j : Nat) (F : Nat → Int64) (l4 : Option Value), j + m = n → (∀ s, s ≤ 2500 → F s = Int64.ofInt (zf_W v j s)) → ∃ (F' : Nat → Int64) (m4 : Option Value), rz_G X d mz_X11_ways 50 [some (.ref 32), some (.int x1), some (.ref a), some (.int (Int32.ofInt j)), l4] [] (w ++ [.inl (.long, 2501, .inr (.inl F))]) nc ns = rz_G X d mz_X11_ways 104 [some (.ref 32), some (.int x1), some (.ref a), some (.int (Int32.ofInt n)), m4] [] (w ++ [.inl (.long, 2501, .inr (.inl F'))]) nc ns ∧ ∀ s, s ≤ 2500 → F' s = Int64.ofInt (zf_W v n s) := by
  induction m with
  | zero =>
    intro j F l4 hj hF
    obtain rfl : j = n := hj
    have hm1 : v_model (w ++ [.inl (.long, 2501, .inr (.inl F))]) kp tl j ty cl th := fr_get (fr_al (w := w)) (by simp) hm
    refine ⟨F, l4, ?_, hF⟩
    rw [q_X11_ways_50]
    simp (disch := first | exact nl_i | exact nl_r | exact nl_0 | exact nl_n | exact nl_x | exact kd_r | exact kd_n | exact kd_x | exact kd_o | exact cats0 | exact cats1 | exact cats2 | exact cats3 | exact cats4 | exact nr_i | exact nr_l | exact nr_z0 | exact nr_z1 | exact ft_i | exact ft_l | omega | rfl | assumption | (refine i_ne0 ?_ ?_ ?_ <;> omega) | (refine j_ne0 ?_ ?_ ?_ <;> omega) | (refine i_new ?_ ?_ <;> omega) | (refine bl_t ?_; with_unfolding_all rfl) | exact ft_z0 | exact ft_z1) only [q_X11_ways_51, q_X11_ways_52, q_X11_ways_55, i_add, i_sub, i_mul, i_neg, i_lt, i_le, i_eq, i_tm, i_div, i_j, j_i, j_add, j_sub, j_mul, j_neg, j_lt, j_le, j_eq, j_div, c_lt, c_le, c_gt, c_ge, c_eq, i_nat, rz_k, Nat.add_zero, Nat.zero_add, Nat.add_assoc, Nat.reduceAdd, if_true, if_false, gf_eq hm1, List.getElem?_cons_zero, List.getElem?_cons_succ]
    rw [if_pos (by omega)]
  | succ m ih =>
    intro j F l4 hj hF
    have hm1 : v_model (w ++ [.inl (.long, 2501, .inr (.inl F))]) kp tl n ty cl th := fr_get (fr_al (w := w)) (by simp) hm
    have h43 : v_ia (w ++ [.inl (.long, 2501, .inr (.inl F))]) 43 4 V2 := fr_get (fr_al (w := w)) (by simp) g43
    have hVj := hV j (by omega)
    obtain ⟨F1, e1, h1⟩ := l_yw1 (X := X) (d := d) (nc := nc) (ns := ns) (x1 := x1) hm g43 (show j < 4 by omega) hVj.2 hVj.1 (zf_W_big (n := j + 1) (by omega) (fun k hk => by have := (hV k (by omega)).1; omega)) ha (2501 - v j) (v j) F (by omega) (Nat.le_refl _) (fun s hs => by
      rw [hF s hs]
      by_cases h : s < v j
      · rw [if_pos h, zf_W_step (by omega), if_pos h]
      · rw [if_neg h])
    obtain ⟨F', m4, e2, h2⟩ := ih (j + 1) F1 (some (.int (Int32.ofInt 2501))) (by omega) h1
    refine ⟨F', m4, ?_, h2⟩
    have e3 : rz_G X d mz_X11_ways 98 [some (.ref 32), some (.int x1), some (.ref a), some (.int (Int32.ofInt j)), some (.int (Int32.ofInt 2501))] [] (w ++ [.inl (.long, 2501, .inr (.inl F1))]) nc ns = rz_G X d mz_X11_ways 50 [some (.ref 32), some (.int x1), some (.ref a), some (.int (Int32.ofInt (j + 1 : Nat))), some (.int (Int32.ofInt 2501))] [] (w ++ [.inl (.long, 2501, .inr (.inl F1))]) nc ns := by
      rw [q_X11_ways_98 rfl]
      simp (disch := first | exact nl_i | exact nl_r | exact nl_0 | exact nl_n | exact nl_x | exact kd_r | exact kd_n | exact kd_x | exact kd_o | exact cats0 | exact cats1 | exact cats2 | exact cats3 | exact cats4 | exact nr_i | exact nr_l | exact nr_z0 | exact nr_z1 | exact ft_i | exact ft_l | omega | rfl | assumption | (refine i_ne0 ?_ ?_ ?_ <;> omega) | (refine j_ne0 ?_ ?_ ?_ <;> omega) | (refine i_new ?_ ?_ <;> omega) | (refine bl_t ?_; with_unfolding_all rfl) | exact ft_z0 | exact ft_z1) only [q_X11_ways_101, i_add, i_sub, i_mul, i_neg, i_lt, i_le, i_eq, i_tm, i_div, i_j, j_i, j_add, j_sub, j_mul, j_neg, j_lt, j_le, j_eq, j_div, c_lt, c_le, c_gt, c_ge, c_eq, i_nat, rz_k, Nat.add_zero, Nat.zero_add, Nat.add_assoc, Nat.reduceAdd, if_true, if_false]
      rfl
    refine Eq.trans ?_ (e1.trans (e3.trans e2))
    rw [q_X11_ways_50]
    simp (disch := first | exact nl_i | exact nl_r | exact nl_0 | exact nl_n | exact nl_x | exact kd_r | exact kd_n | exact kd_x | exact kd_o | exact cats0 | exact cats1 | exact cats2 | exact cats3 | exact cats4 | exact nr_i | exact nr_l | exact nr_z0 | exact nr_z1 | exact ft_i | exact ft_l | omega | rfl | assumption | (refine i_ne0 ?_ ?_ ?_ <;> omega) | (refine j_ne0 ?_ ?_ ?_ <;> omega) | (refine i_new ?_ ?_ <;> omega) | (refine bl_t ?_; with_unfolding_all rfl) | exact ft_z0 | exact ft_z1) only [q_X11_ways_51, q_X11_ways_52, q_X11_ways_55, q_X11_ways_58, q_X11_ways_59, q_X11_ways_62, q_X11_ways_63, q_X11_ways_64, i_add, i_sub, i_mul, i_neg, i_lt, i_le, i_eq, i_tm, i_div, i_j, j_i, j_add, j_sub, j_mul, j_neg, j_lt, j_le, j_eq, j_div, c_lt, c_le, c_gt, c_ge, c_eq, i_nat, rz_k, Nat.add_zero, Nat.zero_add, Nat.add_assoc, Nat.reduceAdd, if_true, if_false, gf_eq hm1, List.getElem?_cons_zero, List.getElem?_cons_succ, ai_eq h43, Int.toNat_natCast, hVj.2]
    rw [if_neg (by omega)]
end RZWZ
