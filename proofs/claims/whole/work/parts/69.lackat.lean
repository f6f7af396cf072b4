/-! part 69: level 2: lackAt -/
section RZLT
variable {X : rz_X} {d : Nat} {w : rz_W} {nc ns : Nat} {kp tl kd ty cl th : Int}
theorem l_lackOf {g : Nat → Int} {CC : Nat → Int32} {fs : List Value} {x1 : Int32} {q : Nat} (h14 : v_ob w 14 7 fs) (h4 : fs[4]? = some (.ref 16)) (g16 : v_ia w 16 2501 CC) (hg : ∀ s, s ≤ 2500 → CC s = Int32.ofInt (g s) ∧ -1 ≤ g s ∧ g s ≤ 2500) (c : Nat) : ∀ (s l : Nat), s + c = 2501 → l ≤ 2147483647 → zf_nl g c s l = some q → rz_G X d mz_X7_lackOf 4 [some (.ref 14), some (.int x1), some (.int (Int32.ofInt l)), some (.int (Int32.ofInt s))] [] w nc ns = some (.inl (some (.int (Int32.ofInt q))), w, nc, ns) := by
  induction c with
  | zero => intro s l _ _ h; cases h
  | succ c ih =>
    intro s l hs hl h
    obtain ⟨h1, h2, h3⟩ := hg s (by omega)
    rw [q_X7_lackOf_4]
    simp (disch := first | exact nl_i | exact nl_r | exact nl_0 | exact nl_n | exact nl_x | exact kd_r | exact kd_n | exact kd_x | exact kd_o | exact cats0 | exact cats1 | exact cats2 | exact cats3 | exact cats4 | exact nr_i | exact nr_l | exact nr_z0 | exact nr_z1 | exact ft_i | exact ft_l | omega | rfl | assumption | (refine i_ne0 ?_ ?_ ?_ <;> omega) | (refine j_ne0 ?_ ?_ ?_ <;> omega) | (refine i_new ?_ ?_ <;> omega) | (refine bl_t ?_; with_unfolding_all rfl) | exact ft_z0 | exact ft_z1) only [n_X7_lackOf, q_X7_lackOf_0, q_X7_lackOf_1, q_X7_lackOf_2, q_X7_lackOf_3, q_X7_lackOf_5, q_X7_lackOf_8, q_X7_lackOf_11, q_X7_lackOf_12, q_X7_lackOf_15, q_X7_lackOf_16, q_X7_lackOf_16x, q_X7_lackOf_17, q_X7_lackOf_20, q_X7_lackOf_21, q_X7_lackOf_24, q_X7_lackOf_25, q_X7_lackOf_26, q_X7_lackOf_29, q_X7_lackOf_32, q_X7_lackOf_35, q_X7_lackOf_36, i_add, i_sub, i_mul, i_neg, i_lt, i_le, i_eq, i_tm, i_div, i_j, j_i, j_add, j_sub, j_mul, j_neg, j_lt, j_le, j_eq, j_div, c_lt, c_le, c_gt, c_ge, c_eq, i_nat, rz_k, Nat.add_zero, Nat.zero_add, Nat.add_assoc, Nat.reduceAdd, if_true, if_false, gf_eq h14, h4, List.getElem?_cons_zero, List.getElem?_cons_succ, ai_eq g16, Int.toNat_natCast, h1]
    rw [if_neg (by omega)]
    unfold zf_nl at h
    by_cases hneg : g s < 0
    · rw [if_pos hneg] at h
      rw [if_neg (by omega)]
      by_cases hl0 : l = 0
      · rw [if_pos hl0] at h
        obtain rfl := Option.some.inj h
        rw [if_neg (by omega)]
      · rw [if_neg hl0] at h
        rw [if_pos (by omega)]
        have := ih (s + 1) (l - 1) (by omega) (by omega) h
        rw [show ((l - 1 : Nat) : Int) = (l : Int) + -1 by omega] at this
        exact this
    · rw [if_neg hneg] at h
      rw [if_pos (by omega)]
      exact ih (s + 1) l (by omega) hl h
theorem l_lackAt {g : Nat → Int} {F : Nat → Int32} {a : Nat} {x1 : Int32} (hm : v_model w kp tl kd ty cl th) (hF : v_ia w a 2501 F) (hg : ∀ s, s ≤ 2500 → F s = Int32.ofInt (g s) ∧ -1 ≤ g s ∧ g s ≤ 2500) (c : Nat) : ∀ (s l : Nat), s + c = 2501 → l ≤ 2147483647 → (∀ q, zf_nl g c s l = some q → rz_G X (d + 1) mz_X11_lackAt 32 [some (.ref 32), some (.int x1), some (.ref a), some (.int (Int32.ofInt l)), some (.int (Int32.ofInt s))] [] w nc ns = some (.inl (some (.int (Int32.ofInt q))), w, nc, ns)) ∧ (zf_nl g c s l = none → rz_G X (d + 1) mz_X11_lackAt 32 [some (.ref 32), some (.int x1), some (.ref a), some (.int (Int32.ofInt l)), some (.int (Int32.ofInt s))] [] w nc ns = some (.inl (some (.int (Int32.ofInt 0))), w.set 32 (rz_mo kp tl kd ty cl 2), nc, ns)) := by
  have y3 := x_no0 (X := X) (d := d) (k := 2) hm
  induction c with
  | zero =>
    intro s l hs hl
    obtain rfl : s = 2501 := hs
    refine ⟨fun q h => (by cases h), fun _ => ?_⟩
    rw [q_X11_lackAt_32]
    simp (disch := first | exact nl_i | exact nl_r | exact nl_0 | exact nl_n | exact nl_x | exact kd_r | exact kd_n | exact kd_x | exact kd_o | exact cats0 | exact cats1 | exact cats2 | exact cats3 | exact cats4 | exact nr_i | exact nr_l | exact nr_z0 | exact nr_z1 | exact ft_i | exact ft_l | omega | rfl | assumption | (refine i_ne0 ?_ ?_ ?_ <;> omega) | (refine j_ne0 ?_ ?_ ?_ <;> omega) | (refine i_new ?_ ?_ <;> omega) | (refine bl_t ?_; with_unfolding_all rfl) | exact ft_z0 | exact ft_z1) only [q_X11_lackAt_34, q_X11_lackAt_37, q_X11_lackAt_67, q_X11_lackAt_68, q_X11_lackAt_69, q_X11_lackAt_70, q_X11_lackAt_73, q_X11_lackAt_76, q_X11_lackAt_77, q_X11_lackAt_81, i_add, i_sub, i_mul, i_neg, i_lt, i_le, i_eq, i_tm, i_div, i_j, j_i, j_add, j_sub, j_mul, j_neg, j_lt, j_le, j_eq, j_div, c_lt, c_le, c_gt, c_ge, c_eq, i_nat, rz_k, Nat.add_zero, Nat.zero_add, Nat.add_assoc, Nat.reduceAdd, if_true, if_false, vk_eq hm, y3, Int.reduceEq]
    rw [if_pos (by omega)]
  | succ c ih =>
    intro s l hs hl
    obtain ⟨h1, h2, h3⟩ := hg s (by omega)
    have e0 : rz_G X (d + 1) mz_X11_lackAt 32 [some (.ref 32), some (.int x1), some (.ref a), some (.int (Int32.ofInt l)), some (.int (Int32.ofInt s))] [] w nc ns = if g s < 0 then (if l = 0 then some (.inl (some (.int (Int32.ofInt s))), w, nc, ns) else rz_G X (d + 1) mz_X11_lackAt 32 [some (.ref 32), some (.int x1), some (.ref a), some (.int (Int32.ofInt (l - 1 : Nat))), some (.int (Int32.ofInt (s + 1 : Nat)))] [] w nc ns) else rz_G X (d + 1) mz_X11_lackAt 32 [some (.ref 32), some (.int x1), some (.ref a), some (.int (Int32.ofInt l)), some (.int (Int32.ofInt (s + 1 : Nat)))] [] w nc ns := by
      rw [q_X11_lackAt_32]
      simp (disch := first | exact nl_i | exact nl_r | exact nl_0 | exact nl_n | exact nl_x | exact kd_r | exact kd_n | exact kd_x | exact kd_o | exact cats0 | exact cats1 | exact cats2 | exact cats3 | exact cats4 | exact nr_i | exact nr_l | exact nr_z0 | exact nr_z1 | exact ft_i | exact ft_l | omega | rfl | assumption | (refine i_ne0 ?_ ?_ ?_ <;> omega) | (refine j_ne0 ?_ ?_ ?_ <;> omega) | (refine i_new ?_ ?_ <;> omega) | (refine bl_t ?_; with_unfolding_all rfl) | exact ft_z0 | exact ft_z1) only [q_X11_lackAt_34, q_X11_lackAt_37, q_X11_lackAt_40, q_X11_lackAt_41, q_X11_lackAt_44, q_X11_lackAt_45, q_X11_lackAt_47, q_X11_lackAt_48, q_X11_lackAt_51, q_X11_lackAt_52, q_X11_lackAt_55, q_X11_lackAt_57, q_X11_lackAt_58, q_X11_lackAt_61, q_X11_lackAt_64, i_add, i_sub, i_mul, i_neg, i_lt, i_le, i_eq, i_tm, i_div, i_j, j_i, j_add, j_sub, j_mul, j_neg, j_lt, j_le, j_eq, j_div, c_lt, c_le, c_gt, c_ge, c_eq, i_nat, rz_k, Nat.add_zero, Nat.zero_add, Nat.add_assoc, Nat.reduceAdd, if_true, if_false, ai_eq hF, Int.toNat_natCast, h1]
      rw [if_neg (by omega), if_neg (by omega)]
      by_cases hneg : g s < 0
      · rw [if_pos hneg, if_neg (by omega)]
        by_cases hl0 : l = 0
        · rw [if_pos hl0, if_neg (by omega)]
        · rw [if_neg hl0, if_pos (by omega), show ((l - 1 : Nat) : Int) = (l : Int) + -1 by omega]
          rfl
      · rw [if_neg hneg, if_pos (by omega)]
        rfl
    rw [e0]
    unfold zf_nl
    by_cases hneg : g s < 0
    · rw [if_pos hneg, if_pos hneg]
      by_cases hl0 : l = 0
      · rw [if_pos hl0, if_pos hl0]
        refine ⟨fun q h => ?_, fun h => by cases h⟩
        obtain rfl := Option.some.inj h
        rfl
      · rw [if_neg hl0, if_neg hl0]
        exact ih (s + 1) (l - 1) (by omega) (by omega)
    · rw [if_neg hneg, if_neg hneg]
      exact ih (s + 1) l (by omega) hl
theorem ag_lackAt {k : Int} (hk1 : -2147483648 ≤ k ∧ k ≤ 2147483647) (hv : v_inv w) : rz_ag X d 128 224 false [.int (Int32.ofInt k)] ["java/lang/IllegalStateException", "java/util/NoSuchElementException"] w := by
  obtain ⟨kp, tl, kd, ty, cl, th, hy, hm, hs, ht, hp, hq, hmi⟩ := id hv
  obtain ⟨n, v, V, V2, CC, YY, gr, lk, rfl, hn, g14, g15, g16, g17, g43, hpu⟩ := v_purse_get hp
  rcases hpu with rfl | ⟨hn2, hv2, hV, hC, hlk, hgr, hgc⟩
  · refine ag_thr0 (c1 := 1) (s1 := 6) 0 rfl hv hm ?_ ?_
    · simp (disch := first | exact nl_i | exact nl_r | exact nl_0 | exact nl_n | exact nl_x | exact kd_r | exact kd_n | exact kd_x | exact kd_o | exact cats0 | exact cats1 | exact cats2 | exact cats3 | exact cats4 | exact nr_i | exact nr_l | exact nr_z0 | exact nr_z1 | exact ft_i | exact ft_l | omega | rfl | assumption | (refine i_ne0 ?_ ?_ ?_ <;> omega) | (refine j_ne0 ?_ ?_ ?_ <;> omega) | (refine i_new ?_ ?_ <;> omega) | (refine bl_t ?_; with_unfolding_all rfl) | exact ft_z0 | exact ft_z1) only [n_X10_lackAt, q_X10_lackAt_0, q_X10_lackAt_1, q_X10_lackAt_4, q_X10_lackAt_5, q_X10_lackAt_8, q_X10_lackAt_9, q_X10_lackAt_10, q_X10_lackAt_13, q_X10_lackAt_16, q_X10_lackAt_19, q_X10_lackAt_30, q_X10_lackAt_31, q_X10_lackAt_34, q_X10_lackAt_35, q_X10_lackAt_38, i_add, i_sub, i_mul, i_neg, i_lt, i_le, i_eq, i_tm, i_div, i_j, j_i, j_add, j_sub, j_mul, j_neg, j_lt, j_le, j_eq, j_div, c_lt, c_le, c_gt, c_ge, c_eq, i_nat, rz_k, Nat.add_zero, Nat.zero_add, Nat.add_assoc, Nat.reduceAdd, if_true, if_false, vk_eq hy, x_coins0 hy g14 rfl]
      rfl
    · rintro wr hm rfl
      refine ⟨Int32.ofInt 0, [], 0, 0, ?_, by omega, by omega⟩
      have y1 := x_no0 (X := X) (d := d + 28) (k := 1) hm
      simp (disch := first | exact nl_i | exact nl_r | exact nl_0 | exact nl_n | exact nl_x | exact kd_r | exact kd_n | exact kd_x | exact kd_o | exact cats0 | exact cats1 | exact cats2 | exact cats3 | exact cats4 | exact nr_i | exact nr_l | exact nr_z0 | exact nr_z1 | exact ft_i | exact ft_l | omega | rfl | assumption | (refine i_ne0 ?_ ?_ ?_ <;> omega) | (refine j_ne0 ?_ ?_ ?_ <;> omega) | (refine i_new ?_ ?_ <;> omega) | (refine bl_t ?_; with_unfolding_all rfl) | exact ft_z0 | exact ft_z1) only [n_X11_lackAt, q_X11_lackAt_0, q_X11_lackAt_1, q_X11_lackAt_2, q_X11_lackAt_5, q_X11_lackAt_8, q_X11_lackAt_9, q_X11_lackAt_12, q_X11_lackAt_13, q_X11_lackAt_14, q_X11_lackAt_17, q_X11_lackAt_20, q_X11_lackAt_21, q_X11_lackAt_22, q_X11_lackAt_23, q_X11_lackAt_26, q_X11_lackAt_27, q_X11_lackAt_28, q_X11_lackAt_29, q_X11_lackAt_30, q_X11_lackAt_34, q_X11_lackAt_37, q_X11_lackAt_40, q_X11_lackAt_41, q_X11_lackAt_44, q_X11_lackAt_45, q_X11_lackAt_47, q_X11_lackAt_47x, q_X11_lackAt_48, q_X11_lackAt_51, q_X11_lackAt_52, q_X11_lackAt_55, q_X11_lackAt_57, q_X11_lackAt_58, q_X11_lackAt_61, q_X11_lackAt_64, q_X11_lackAt_67, q_X11_lackAt_68, q_X11_lackAt_69, q_X11_lackAt_70, q_X11_lackAt_73, q_X11_lackAt_76, q_X11_lackAt_77, q_X11_lackAt_80, q_X11_lackAt_81, i_add, i_sub, i_mul, i_neg, i_lt, i_le, i_eq, i_tm, i_div, i_j, j_i, j_add, j_sub, j_mul, j_neg, j_lt, j_le, j_eq, j_div, c_lt, c_le, c_gt, c_ge, c_eq, i_nat, rz_k, Nat.add_zero, Nat.zero_add, Nat.add_assoc, Nat.reduceAdd, if_true, if_false, gf_eq hm, List.getElem?_cons_zero, List.getElem?_cons_succ, if_pos (show ((0 : Nat) : Int) ≤ 0 by omega), y1, vk_eq hm, List.append_nil, Int.reduceEq, not_false_eq_true]
      all_goals rfl
  have hco := x_coins1 (X := X) (d := d + 27) hy g14 rfl (show 1 ≤ (n : Int) ∧ (n : Int) ≤ 4 by omega)
  have hv1 : ∀ k, k < n → 1 ≤ v k := fun k hk => by have := (hv2 k hk).1; omega
  have hGC : ∀ s, s ≤ 2500 → CC s = Int32.ofInt (zf_G v n s) ∧ -1 ≤ zf_G v n s ∧ zf_G v n s ≤ 2500 := fun s hs => ⟨(hC s hs).1, by have := zf_G_b (s := s) hv1; omega⟩
  have hlf : zf_lk (zf_G v n) 2501 = zf_lf (zf_G v n) 2501 0 := by
    have := lk_lf (g := zf_G v n) 2501 0
    rw [Nat.zero_add] at this
    rw [this]
    show 0 + _ = _
    omega
  have hlk2 : zf_lk (zf_G v n) 2501 ≤ 2501 := by
    have : ∀ (g : Nat → Int) m, zf_lk g m ≤ m := by
      intro g m
      induction m with
      | zero => exact Nat.le_refl _
      | succ m ih => unfold zf_lk; split <;> omega
    exact this _ _
  -- the reference up to its loop
  have hpre : ∀ wr, v_model wr kp tl n ty cl th → v_ia wr 43 4 V2 → ∃ F : Nat → Int32, (∀ s, s ≤ 2500 → F s = Int32.ofInt (zf_G v n s)) ∧ rz_ex X (d + 30) 224 [.ref 32, .int (Int32.ofInt k)] wr = rz_G X (d + 29) mz_X11_lackAt 32 [some (.ref 32), some (.int (Int32.ofInt k)), some (.ref (wr.set 32 (rz_mo kp tl n ty cl 0)).length), some (.int (Int32.ofInt k)), some (.int (Int32.ofInt 0))] [] (wr.set 32 (rz_mo kp tl n ty cl 0) ++ [.inl (.int, 2501, .inl F)]) 1 2501 := by
    intro wr hmr h43
    have y1 := x_no1 (X := X) (d := d + 28) (k := 1) hmr
    have hm1 := v_mo (t := 0) hmr
    obtain ⟨F, e, hF⟩ := y_fewestOf (X := X) (d := d + 28) hm1 (fr_get (fr_set (S := [32]) (by decide)) (by decide) h43) hn hv2
    refine ⟨F, hF, ?_⟩
    simp (disch := first | exact nl_i | exact nl_r | exact nl_0 | exact nl_n | exact nl_x | exact kd_r | exact kd_n | exact kd_x | exact kd_o | exact cats0 | exact cats1 | exact cats2 | exact cats3 | exact cats4 | exact nr_i | exact nr_l | exact nr_z0 | exact nr_z1 | exact ft_i | exact ft_l | omega | rfl | assumption | (refine i_ne0 ?_ ?_ ?_ <;> omega) | (refine j_ne0 ?_ ?_ ?_ <;> omega) | (refine i_new ?_ ?_ <;> omega) | (refine bl_t ?_; with_unfolding_all rfl) | exact ft_z0 | exact ft_z1) only [n_X11_lackAt, q_X11_lackAt_0, q_X11_lackAt_1, q_X11_lackAt_2, q_X11_lackAt_5, q_X11_lackAt_8, q_X11_lackAt_9, q_X11_lackAt_13, q_X11_lackAt_14, q_X11_lackAt_17, q_X11_lackAt_22, q_X11_lackAt_23, q_X11_lackAt_26, q_X11_lackAt_27, q_X11_lackAt_28, q_X11_lackAt_29, q_X11_lackAt_30, i_add, i_sub, i_mul, i_neg, i_lt, i_le, i_eq, i_tm, i_div, i_j, j_i, j_add, j_sub, j_mul, j_neg, j_lt, j_le, j_eq, j_div, c_lt, c_le, c_gt, c_ge, c_eq, i_nat, rz_k, Nat.add_zero, Nat.zero_add, Nat.add_assoc, Nat.reduceAdd, if_true, if_false, gf_eq hmr, List.getElem?_cons_zero, List.getElem?_cons_succ, if_neg (show ¬ (n : Int) ≤ 0 by omega), y1, vk_eq hmr, vk_eq hm1, e, Int.reduceEq]
  by_cases hin : 0 ≤ k ∧ k < lk
  · obtain ⟨q, rfl⟩ := Int.eq_ofNat_of_zero_le hin.1
    have hne : zf_nl (zf_G v n) 2501 0 q ≠ none := by
      intro h
      rw [nl_none] at h
      omega
    obtain ⟨z, hz⟩ := Option.ne_none_iff_exists'.mp hne
    have hxl := l_lackOf (X := X) (d := d + 27) (nc := 0) (ns := 0) (x1 := Int32.ofInt q) g14 rfl g16 hGC 2501 0 q rfl (by omega) hz
    refine ag_ret0 (r := Int32.ofInt z) (c1 := 0) (s1 := 0) hv hm ?_ (fun h => by cases h) ?_
    · have e97 : rz_ex X (d + 28) 84 [.ref 14, .int (Int32.ofInt q)] w = some (.inl (some (.int (Int32.ofInt z))), w, 0, 0) := by
        simp (disch := first | exact nl_i | exact nl_r | exact nl_0 | exact nl_n | exact nl_x | exact kd_r | exact kd_n | exact kd_x | exact kd_o | exact cats0 | exact cats1 | exact cats2 | exact cats3 | exact cats4 | exact nr_i | exact nr_l | exact nr_z0 | exact nr_z1 | exact ft_i | exact ft_l | omega | rfl | assumption | (refine i_ne0 ?_ ?_ ?_ <;> omega) | (refine j_ne0 ?_ ?_ ?_ <;> omega) | (refine i_new ?_ ?_ <;> omega) | (refine bl_t ?_; with_unfolding_all rfl) | exact ft_z0 | exact ft_z1) only [n_X7_lackOf, q_X7_lackOf_0, q_X7_lackOf_1, q_X7_lackOf_2, q_X7_lackOf_3]
        exact hxl
      simp (disch := first | exact nl_i | exact nl_r | exact nl_0 | exact nl_n | exact nl_x | exact kd_r | exact kd_n | exact kd_x | exact kd_o | exact cats0 | exact cats1 | exact cats2 | exact cats3 | exact cats4 | exact nr_i | exact nr_l | exact nr_z0 | exact nr_z1 | exact ft_i | exact ft_l | omega | rfl | assumption | (refine i_ne0 ?_ ?_ ?_ <;> omega) | (refine j_ne0 ?_ ?_ ?_ <;> omega) | (refine i_new ?_ ?_ <;> omega) | (refine bl_t ?_; with_unfolding_all rfl) | exact ft_z0 | exact ft_z1) only [n_X10_lackAt, q_X10_lackAt_0, q_X10_lackAt_1, q_X10_lackAt_4, q_X10_lackAt_5, q_X10_lackAt_8, q_X10_lackAt_9, q_X10_lackAt_10, q_X10_lackAt_13, q_X10_lackAt_16, q_X10_lackAt_19, q_X10_lackAt_30, q_X10_lackAt_31, q_X10_lackAt_34, q_X10_lackAt_35, q_X10_lackAt_38, i_add, i_sub, i_mul, i_neg, i_lt, i_le, i_eq, i_tm, i_div, i_j, j_i, j_add, j_sub, j_mul, j_neg, j_lt, j_le, j_eq, j_div, c_lt, c_le, c_gt, c_ge, c_eq, i_nat, rz_k, Nat.add_zero, Nat.zero_add, Nat.add_assoc, Nat.reduceAdd, if_true, if_false, vk_eq hy, hco, gf_eq hy, gf_eq g14, vk_eq g14, List.getElem?_cons_zero, List.getElem?_cons_succ, e97]
      rw [if_neg (by omega), if_pos (by omega)]
    · intro wr hf hmr hv'
      obtain ⟨F, hF, e⟩ := hpre wr hmr (fr_get hf (by decide) g43)
      refine ⟨[.inl (.int, 2501, .inl F)], 1, 2501, ?_, by omega, by omega⟩
      rw [e]
      have hm1 := v_mo (t := 0) hmr
      have hm2 : v_model (wr.set 32 (rz_mo kp tl n ty cl 0) ++ [.inl (.int, 2501, .inl F)]) kp tl n ty cl 0 := fr_get (fr_al (w := wr.set 32 (rz_mo kp tl n ty cl 0))) (by simp) hm1
      exact (l_lackAt (X := X) (d := d + 28) hm2 w_new (fun s hs => ⟨hF s hs, (hGC s hs).2⟩) 2501 0 q rfl (by omega)).1 z hz
  · refine ag_thr0 (c1 := 1) (s1 := 6) 1 rfl hv hm ?_ ?_
    · simp (disch := first | exact nl_i | exact nl_r | exact nl_0 | exact nl_n | exact nl_x | exact kd_r | exact kd_n | exact kd_x | exact kd_o | exact cats0 | exact cats1 | exact cats2 | exact cats3 | exact cats4 | exact nr_i | exact nr_l | exact nr_z0 | exact nr_z1 | exact ft_i | exact ft_l | omega | rfl | assumption | (refine i_ne0 ?_ ?_ ?_ <;> omega) | (refine j_ne0 ?_ ?_ ?_ <;> omega) | (refine i_new ?_ ?_ <;> omega) | (refine bl_t ?_; with_unfolding_all rfl) | exact ft_z0 | exact ft_z1) only [n_X10_lackAt, q_X10_lackAt_0, q_X10_lackAt_1, q_X10_lackAt_4, q_X10_lackAt_5, q_X10_lackAt_8, q_X10_lackAt_9, q_X10_lackAt_10, q_X10_lackAt_13, q_X10_lackAt_16, q_X10_lackAt_19, q_X10_lackAt_30, q_X10_lackAt_31, q_X10_lackAt_34, q_X10_lackAt_35, q_X10_lackAt_38, i_add, i_sub, i_mul, i_neg, i_lt, i_le, i_eq, i_tm, i_div, i_j, j_i, j_add, j_sub, j_mul, j_neg, j_lt, j_le, j_eq, j_div, c_lt, c_le, c_gt, c_ge, c_eq, i_nat, rz_k, Nat.add_zero, Nat.zero_add, Nat.add_assoc, Nat.reduceAdd, if_true, if_false, vk_eq hy, hco, gf_eq hy, gf_eq g14, List.getElem?_cons_zero, List.getElem?_cons_succ]
      split
      · rfl
      · rw [if_neg (by omega)]
    · rintro wr hmr rfl
      obtain ⟨F, hF, e⟩ := hpre wr hmr g43
      refine ⟨Int32.ofInt 0, [.inl (.int, 2501, .inl F)], 1, 2501, ?_, by omega, by omega⟩
      rw [e]
      have hm1 := v_mo (t := 0) hmr
      have hm2 : v_model (wr.set 32 (rz_mo kp tl n ty cl 0) ++ [.inl (.int, 2501, .inl F)]) kp tl n ty cl 0 := fr_get (fr_al (w := wr.set 32 (rz_mo kp tl n ty cl 0))) (by simp) hm1
      have hset : (wr.set 32 (rz_mo kp tl n ty cl 0) ++ ([.inl (.int, 2501, .inl F)] : rz_W)).set 32 (rz_mo kp tl n ty cl 2) = wr.set 32 (rz_mo kp tl n ty cl 2) ++ ([.inl (.int, 2501, .inl F)] : rz_W) := by
        rw [List.set_append_left _ _ (w_lt hm1), mo_mo]
      by_cases h0 : k < 0
      · have y3 := x_no0 (X := X) (d := d + 28) (k := 2) hm2
        rw [hset] at y3
        rw [q_X11_lackAt_32]
        simp (disch := first | exact nl_i | exact nl_r | exact nl_0 | exact nl_n | exact nl_x | exact kd_r | exact kd_n | exact kd_x | exact kd_o | exact cats0 | exact cats1 | exact cats2 | exact cats3 | exact cats4 | exact nr_i | exact nr_l | exact nr_z0 | exact nr_z1 | exact ft_i | exact ft_l | omega | rfl | assumption | (refine i_ne0 ?_ ?_ ?_ <;> omega) | (refine j_ne0 ?_ ?_ ?_ <;> omega) | (refine i_new ?_ ?_ <;> omega) | (refine bl_t ?_; with_unfolding_all rfl) | exact ft_z0 | exact ft_z1) only [q_X11_lackAt_34, q_X11_lackAt_37, q_X11_lackAt_40, q_X11_lackAt_41, q_X11_lackAt_67, q_X11_lackAt_68, q_X11_lackAt_69, q_X11_lackAt_70, q_X11_lackAt_73, q_X11_lackAt_76, q_X11_lackAt_77, q_X11_lackAt_81, i_add, i_sub, i_mul, i_neg, i_lt, i_le, i_eq, i_tm, i_div, i_j, j_i, j_add, j_sub, j_mul, j_neg, j_lt, j_le, j_eq, j_div, c_lt, c_le, c_gt, c_ge, c_eq, i_nat, rz_k, Nat.add_zero, Nat.zero_add, Nat.add_assoc, Nat.reduceAdd, if_true, if_false, vk_eq hm2, y3, Int.reduceEq]
        rw [if_neg (by omega), if_pos h0]
        rfl
      · obtain ⟨q, rfl⟩ := Int.eq_ofNat_of_zero_le (show 0 ≤ k by omega)
        have := (l_lackAt (X := X) (d := d + 28) (nc := 1) (ns := 2501) (x1 := Int32.ofInt q) hm2 w_new (fun s hs => ⟨hF s hs, (hGC s hs).2⟩) 2501 0 q rfl (by omega)).2 (by rw [nl_none]; omega)
        rw [hset] at this
        exact this
end RZLT
