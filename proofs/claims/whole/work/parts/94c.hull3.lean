/-! part 94c: level 2: hull: the reference; hull, hullAt -/
section RZHW
variable {X : rz_X} {d : Nat} {w : rz_W} {nc ns : Nat} {kp tl kd ty cl th : Int}
theorem l_ynext {L : Nat → Int} {p q a : Nat} {A m : Int32} {l2 : Option Value} (hp : 1 ≤ p ∧ p ≤ 200) (hq : 1 ≤ q ∧ q ≤ 200) (hL : ∀ x, L x = ((p * x / q : Nat) : Int) + 1) (hLb : ∀ e, e ≤ q → 0 ≤ L e ∧ L e ≤ 300) (ha : a < q) (k : Nat) : ∀ (x n : Nat) (l7 l8 : Option Value), rz_nl l7 = true → rz_nl l8 = true → x + k = q + 1 → a < n → n < x → ∃ l7' l8', rz_G X (d + 2) mz_X11_hullOf 29 [some (.int (Int32.ofInt (p : Int))), some (.int (Int32.ofInt (q : Int))), l2, some (.int m), some (.int (Int32.ofInt (a : Int))), some (.int (Int32.ofInt (n : Int))), some (.int (Int32.ofInt (x : Int))), l7, l8] [] w nc ns = rz_G X (d + 2) mz_X11_hullOf 103 [some (.int (Int32.ofInt (p : Int))), some (.int (Int32.ofInt (q : Int))), l2, some (.int m), some (.int (Int32.ofInt (a : Int))), some (.int (Int32.ofInt (zh_nx L a k x n : Int))), some (.int (Int32.ofInt ((q + 1 : Nat) : Int))), l7', l8'] [] w nc ns ∧ rz_nl l7' = true ∧ rz_nl l8' = true := by
  induction k with
  | zero =>
    intro x n l7 l8 h7 h8 hx h1 h2
    obtain rfl : x = q + 1 := by omega
    refine ⟨l7, l8, ?_, h7, h8⟩
    rw [q_X11_hullOf_29]
    simp (disch := first | exact nl_i | exact nl_r | exact nl_0 | exact nl_n | exact nl_x | exact kd_r | exact kd_n | exact kd_x | exact kd_o | exact cats0 | exact cats1 | exact cats2 | exact cats3 | exact cats4 | exact nr_i | exact nr_l | exact nr_z0 | exact nr_z1 | exact ft_i | exact ft_l | omega | rfl | assumption | (refine i_ne0 ?_ ?_ ?_ <;> omega) | (refine j_ne0 ?_ ?_ ?_ <;> omega) | (refine i_new ?_ ?_ <;> omega) | (refine bl_t ?_; with_unfolding_all rfl) | exact ft_z0 | exact ft_z1) only [q_X11_hullOf_31, q_X11_hullOf_32, i_add, i_sub, i_mul, i_neg, i_lt, i_le, i_eq, i_tm, i_div, i_j, j_i, j_add, j_sub, j_mul, j_neg, j_lt, j_le, j_eq, j_div, c_lt, c_le, c_gt, c_ge, c_eq, i_nat, rz_k, Nat.add_zero, Nat.zero_add, Nat.add_assoc, Nat.reduceAdd, if_true, if_false, if_pos (show (q : Int) < ((q + 1 : Nat) : Int) by omega)]
    rfl
  | succ k ih =>
    intro x n l7 l8 h7 h8 hx h1 h2
    have k1 := y_hlow (X := X) (d := d + 1) (w := w) hp hq (show x ≤ 200 by omega)
    have k2 := y_hlow (X := X) (d := d + 1) (w := w) hp hq (show a ≤ 200 by omega)
    have k3 := y_hlow (X := X) (d := d + 1) (w := w) hp hq (show n ≤ 200 by omega)
    rw [← hL] at k1 k2 k3
    have b1 := hLb x (by omega)
    have b2 := hLb a (by omega)
    have b3 := hLb n (by omega)
    have n1 := z_nmul (a := L x - L a) (b := (n : Int) - a) (M := 300) (N := 200) (by omega) (by omega)
    have n2 := z_nmul (a := L n - L a) (b := (x : Int) - a) (M := 300) (N := 200) (by omega) (by omega)
    have hT : zh_T L a n x ≤ 0 ↔ ¬ (L n - L a) * ((x : Int) - a) < (L x - L a) * ((n : Int) - a) := by
      unfold zh_T
      rw [Int.mul_comm ((n : Int) - a) (L x - L a)]
      omega
    have hrow : zh_nx L a (k + 1) x n = zh_nx L a k (x + 1) (if zh_T L a n x ≤ 0 then x else n) := rfl
    by_cases h : (L n - L a) * ((x : Int) - a) < (L x - L a) * ((n : Int) - a)
    · rw [if_neg (fun c => hT.mp c h)] at hrow
      obtain ⟨l7', l8', e, r1, r2⟩ := ih (x + 1) n (some (.int (Int32.ofInt (L x - L a)))) (some (.int (Int32.ofInt (L n - L a)))) nl_i nl_i (by omega) h1 (by omega)
      refine ⟨l7', l8', ?_, r1, r2⟩
      rw [hrow, ← e, q_X11_hullOf_29]
      simp (disch := first | exact nl_i | exact nl_r | exact nl_0 | exact nl_n | exact nl_x | exact kd_r | exact kd_n | exact kd_x | exact kd_o | exact cats0 | exact cats1 | exact cats2 | exact cats3 | exact cats4 | exact nr_i | exact nr_l | exact nr_z0 | exact nr_z1 | exact ft_i | exact ft_l | omega | rfl | assumption | (refine i_ne0 ?_ ?_ ?_ <;> omega) | (refine j_ne0 ?_ ?_ ?_ <;> omega) | (refine i_new ?_ ?_ <;> omega) | (refine bl_t ?_; with_unfolding_all rfl) | exact ft_z0 | exact ft_z1) only [q_X11_hullOf_31, q_X11_hullOf_32, q_X11_hullOf_35, q_X11_hullOf_36, q_X11_hullOf_37, q_X11_hullOf_39, q_X11_hullOf_42, q_X11_hullOf_43, q_X11_hullOf_44, q_X11_hullOf_46, q_X11_hullOf_49, q_X11_hullOf_50, q_X11_hullOf_52, q_X11_hullOf_53, q_X11_hullOf_54, q_X11_hullOf_56, q_X11_hullOf_59, q_X11_hullOf_60, q_X11_hullOf_61, q_X11_hullOf_63, q_X11_hullOf_66, q_X11_hullOf_67, q_X11_hullOf_69, q_X11_hullOf_71, q_X11_hullOf_73, q_X11_hullOf_75, q_X11_hullOf_76, q_X11_hullOf_77, q_X11_hullOf_79, q_X11_hullOf_81, q_X11_hullOf_83, q_X11_hullOf_84, q_X11_hullOf_85, q_X11_hullOf_88, q_X11_hullOf_90, q_X11_hullOf_93, q_X11_hullOf_95, q_X11_hullOf_97, q_X11_hullOf_100, i_add, i_sub, i_mul, i_neg, i_lt, i_le, i_eq, i_tm, i_div, i_j, j_i, j_add, j_sub, j_mul, j_neg, j_lt, j_le, j_eq, j_div, c_lt, c_le, c_gt, c_ge, c_eq, i_nat, rz_k, Nat.add_zero, Nat.zero_add, Nat.add_assoc, Nat.reduceAdd, if_true, if_false, if_neg (show ¬ (q : Int) < (x : Int) by omega), k1, k2, k3, if_pos h]
      rfl
    · rw [if_pos (hT.mpr h)] at hrow
      obtain ⟨l7', l8', e, r1, r2⟩ := ih (x + 1) x (some (.int (Int32.ofInt (L x - L a)))) (some (.int (Int32.ofInt (L n - L a)))) nl_i nl_i (by omega) (by omega) (by omega)
      refine ⟨l7', l8', ?_, r1, r2⟩
      rw [hrow, ← e, q_X11_hullOf_29]
      simp (disch := first | exact nl_i | exact nl_r | exact nl_0 | exact nl_n | exact nl_x | exact kd_r | exact kd_n | exact kd_x | exact kd_o | exact cats0 | exact cats1 | exact cats2 | exact cats3 | exact cats4 | exact nr_i | exact nr_l | exact nr_z0 | exact nr_z1 | exact ft_i | exact ft_l | omega | rfl | assumption | (refine i_ne0 ?_ ?_ ?_ <;> omega) | (refine j_ne0 ?_ ?_ ?_ <;> omega) | (refine i_new ?_ ?_ <;> omega) | (refine bl_t ?_; with_unfolding_all rfl) | exact ft_z0 | exact ft_z1) only [q_X11_hullOf_31, q_X11_hullOf_32, q_X11_hullOf_35, q_X11_hullOf_36, q_X11_hullOf_37, q_X11_hullOf_39, q_X11_hullOf_42, q_X11_hullOf_43, q_X11_hullOf_44, q_X11_hullOf_46, q_X11_hullOf_49, q_X11_hullOf_50, q_X11_hullOf_52, q_X11_hullOf_53, q_X11_hullOf_54, q_X11_hullOf_56, q_X11_hullOf_59, q_X11_hullOf_60, q_X11_hullOf_61, q_X11_hullOf_63, q_X11_hullOf_66, q_X11_hullOf_67, q_X11_hullOf_69, q_X11_hullOf_71, q_X11_hullOf_73, q_X11_hullOf_75, q_X11_hullOf_76, q_X11_hullOf_77, q_X11_hullOf_79, q_X11_hullOf_81, q_X11_hullOf_83, q_X11_hullOf_84, q_X11_hullOf_85, q_X11_hullOf_88, q_X11_hullOf_90, q_X11_hullOf_93, q_X11_hullOf_95, q_X11_hullOf_97, q_X11_hullOf_100, i_add, i_sub, i_mul, i_neg, i_lt, i_le, i_eq, i_tm, i_div, i_j, j_i, j_add, j_sub, j_mul, j_neg, j_lt, j_le, j_eq, j_div, c_lt, c_le, c_gt, c_ge, c_eq, i_nat, rz_k, Nat.add_zero, Nat.zero_add, Nat.add_assoc, Nat.reduceAdd, if_true, if_false, if_neg (show ¬ (q : Int) < (x : Int) by omega), k1, k2, k3, if_neg h]
      rfl
theorem l_yhull {L : Nat → Int} {p q A : Nat} (hp : 1 ≤ p ∧ p ≤ 200) (hq : 1 ≤ q ∧ q ≤ 200) (hL : ∀ x, L x = ((p * x / q : Nat) : Int) + 1) (hLb : ∀ e, e ≤ q → 0 ≤ L e ∧ L e ≤ 300) {l : List Nat} (hl : l.length ≤ q + 1) (hc : zh_ch L l) (hh : ∃ s, l = q :: s) (n : Nat) : ∀ (pre : List Nat) (w : rz_W) (F : Nat → Int32) (a : Nat) (t : List Nat) (l5 l6 l7 l8 : Option Value), pre.length = n → rz_nl l5 = true → rz_nl l6 = true → rz_nl l7 = true → rz_nl l8 = true → l = pre ++ a :: t → v_ia w A (q + 2) F → zs_rep F (a :: t) → ∃ F', rz_G X (d + 2) mz_X11_hullOf 11 [some (.int (Int32.ofInt (p : Int))), some (.int (Int32.ofInt (q : Int))), some (.ref A), some (.int (Int32.ofInt ((t.length + 1 : Nat) : Int))), some (.int (Int32.ofInt (a : Int))), l5, l6, l7, l8] [] w nc ns = some (.inl (some (.ref A)), w.set A (.inl (.int, q + 2, .inl F')), nc, ns) ∧ zs_rep F' l ∧ F' l.length = Int32.ofInt (-1) := by
  induction n with
  | zero =>
    intro pre w F a t l5 l6 l7 l8 hn h5 h6 h7 h8 he hA hr
    obtain rfl : pre = [] := List.length_eq_zero_iff.mp hn
    rw [List.nil_append] at he
    obtain ⟨s, hs⟩ := hh
    rw [he] at hs
    obtain rfl : a = q := (List.cons.inj hs).1
    rw [he] at hl
    have hl' : t.length + 1 ≤ a + 1 := hl
    refine ⟨upd F (t.length + 1) (Int32.ofInt (-1)), ?_, ?_, ?_⟩
    · rw [q_X11_hullOf_11]
      simp (disch := first | exact nl_i | exact nl_r | exact nl_0 | exact nl_n | exact nl_x | exact kd_r | exact kd_n | exact kd_x | exact kd_o | exact cats0 | exact cats1 | exact cats2 | exact cats3 | exact cats4 | exact nr_i | exact nr_l | exact nr_z0 | exact nr_z1 | exact ft_i | exact ft_l | omega | rfl | assumption | (refine i_ne0 ?_ ?_ ?_ <;> omega) | (refine j_ne0 ?_ ?_ ?_ <;> omega) | (refine i_new ?_ ?_ <;> omega) | (refine bl_t ?_; with_unfolding_all rfl) | exact ft_z0 | exact ft_z1) only [q_X11_hullOf_13, q_X11_hullOf_14, q_X11_hullOf_118, q_X11_hullOf_119, q_X11_hullOf_120, q_X11_hullOf_121, q_X11_hullOf_122, q_X11_hullOf_123, q_X11_hullOf_123n, i_add, i_sub, i_mul, i_neg, i_lt, i_le, i_eq, i_tm, i_div, i_j, j_i, j_add, j_sub, j_mul, j_neg, j_lt, j_le, j_eq, j_div, c_lt, c_le, c_gt, c_ge, c_eq, i_nat, rz_k, Nat.add_zero, Nat.zero_add, Nat.add_assoc, Nat.reduceAdd, if_true, if_false, if_pos (show (a : Int) ≤ (a : Int) by omega), si_eq hA, Int.toNat_natCast]
    · rw [he]
      exact zs_rep_cg _ (fun i hi => upd_ne (by rw [List.length_cons] at hi; omega)) hr
    · rw [he]
      exact upd_eq
  | succ n ih =>
    intro pre w F a t l5 l6 l7 l8 hn h5 h6 h7 h8 he hA hr
    obtain ⟨pre', b, rfl⟩ : ∃ pre' b, pre = pre' ++ [b] := by
      rcases List.eq_nil_or_concat pre with h | ⟨l', b, h⟩
      · rw [h] at hn; cases hn
      · exact ⟨l', b, by rw [h, List.concat_eq_append]⟩
    rw [List.append_assoc] at he
    have he : l = pre' ++ b :: a :: t := he
    have hlen : pre'.length = n := by
      rw [List.length_append] at hn
      have : [b].length = 1 := rfl
      omega
    rw [he] at hc hh
    obtain ⟨k1, k2, k3⟩ := zh_nx_is hc hh
    rw [he, List.length_append, List.length_cons, List.length_cons] at hl
    obtain ⟨l7', l8', e1, r7, r8⟩ := l_ynext (X := X) (d := d) (w := w) (nc := nc) (ns := ns) (m := Int32.ofInt ((t.length + 1 : Nat) : Int)) (l2 := some (.ref A)) (A := 0) hp hq hL hLb (show a < q by omega) (q - (a + 1)) (a + 2) (a + 1) l7 l8 h7 h8 (by omega) (by omega) (by omega)
    rw [k3] at e1
    have hA1 : v_ia (w.set A (.inl (.int, q + 2, .inl (upd F (t.length + 1) (Int32.ofInt (b : Int)))))) A (q + 2) (upd F (t.length + 1) (Int32.ofInt (b : Int))) := w_eq (w_lt hA)
    have hr1 : zs_rep (upd F (t.length + 1) (Int32.ofInt (b : Int))) (b :: a :: t) := ⟨upd_eq, zs_rep_cg _ (fun i hi => upd_ne (by rw [List.length_cons] at hi; omega)) hr⟩
    obtain ⟨F2, e2, s1, s2⟩ := ih pre' _ _ b (a :: t) (some (.int (Int32.ofInt (b : Int)))) (some (.int (Int32.ofInt ((q + 1 : Nat) : Int)))) l7' l8' hlen nl_i nl_i r7 r8 he hA1 hr1
    refine ⟨F2, ?_, s1, s2⟩
    rw [List.set_set] at e2
    rw [← e2, q_X11_hullOf_11]
    simp (disch := first | exact nl_i | exact nl_r | exact nl_0 | exact nl_n | exact nl_x | exact kd_r | exact kd_n | exact kd_x | exact kd_o | exact cats0 | exact cats1 | exact cats2 | exact cats3 | exact cats4 | exact nr_i | exact nr_l | exact nr_z0 | exact nr_z1 | exact ft_i | exact ft_l | omega | rfl | assumption | (refine i_ne0 ?_ ?_ ?_ <;> omega) | (refine j_ne0 ?_ ?_ ?_ <;> omega) | (refine i_new ?_ ?_ <;> omega) | (refine bl_t ?_; with_unfolding_all rfl) | exact ft_z0 | exact ft_z1) only [q_X11_hullOf_13, q_X11_hullOf_14, q_X11_hullOf_17, q_X11_hullOf_19, q_X11_hullOf_20, q_X11_hullOf_21, q_X11_hullOf_23, q_X11_hullOf_25, q_X11_hullOf_26, q_X11_hullOf_27, i_add, i_sub, i_mul, i_neg, i_lt, i_le, i_eq, i_tm, i_div, i_j, j_i, j_add, j_sub, j_mul, j_neg, j_lt, j_le, j_eq, j_div, c_lt, c_le, c_gt, c_ge, c_eq, i_nat, rz_k, Nat.add_zero, Nat.zero_add, Nat.add_assoc, Nat.reduceAdd, if_true, if_false, if_neg (show ¬ (q : Int) ≤ (a : Int) by omega)]
    refine Eq.trans e1 ?_
    simp (disch := first | exact nl_i | exact nl_r | exact nl_0 | exact nl_n | exact nl_x | exact kd_r | exact kd_n | exact kd_x | exact kd_o | exact cats0 | exact cats1 | exact cats2 | exact cats3 | exact cats4 | exact nr_i | exact nr_l | exact nr_z0 | exact nr_z1 | exact ft_i | exact ft_l | omega | rfl | assumption | (refine i_ne0 ?_ ?_ ?_ <;> omega) | (refine j_ne0 ?_ ?_ ?_ <;> omega) | (refine i_new ?_ ?_ <;> omega) | (refine bl_t ?_; with_unfolding_all rfl) | exact ft_z0 | exact ft_z1) only [q_X11_hullOf_103, q_X11_hullOf_104, q_X11_hullOf_105, q_X11_hullOf_107, q_X11_hullOf_108, q_X11_hullOf_111, q_X11_hullOf_113, q_X11_hullOf_115, i_add, i_sub, i_mul, i_neg, i_lt, i_le, i_eq, i_tm, i_div, i_j, j_i, j_add, j_sub, j_mul, j_neg, j_lt, j_le, j_eq, j_div, c_lt, c_le, c_gt, c_ge, c_eq, i_nat, rz_k, Nat.add_zero, Nat.zero_add, Nat.add_assoc, Nat.reduceAdd, if_true, if_false, si_eq hA, Int.toNat_natCast]
    rfl
theorem y_hullOf {L : Nat → Int} {p q : Nat} (hp : 1 ≤ p ∧ p ≤ 200) (hq : 1 ≤ q ∧ q ≤ 200) (hL : ∀ x, L x = ((p * x / q : Nat) : Int) + 1) (hLb : ∀ e, e ≤ q → 0 ≤ L e ∧ L e ≤ 300) : ∃ F, rz_ex X (d + 3) 259 [.int (Int32.ofInt (p : Int)), .int (Int32.ofInt (q : Int))] w = some (.inl (some (.ref w.length)), w ++ [.inl (.int, q + 2, .inl F)], 1, q + 2) ∧ zs_rep F (zh_b L q) ∧ F (zh_b L q).length = Int32.ofInt (-1) := by
  obtain ⟨⟨s, hs⟩, hc⟩ := zh_b_ch L q
  have hlen := zh_b_len (L := L) q
  have h0 : ∃ pre, zh_b L q = pre ++ [0] := by
    have : ∀ l, zh_ch L l → ∃ pre, l = pre ++ [0] := by
      intro l
      induction l with
      | nil => intro h; cases h
      | cons b t ih =>
        intro h
        cases t with
        | nil =>
          obtain rfl : b = 0 := h
          exact ⟨[], rfl⟩
        | cons a t =>
          obtain ⟨pre, hp⟩ := ih h.2.2.2
          exact ⟨b :: pre, by rw [hp]; rfl⟩
    exact this _ hc
  obtain ⟨pre, hpre⟩ := h0
  have g0 : v_ia (w ++ [.inl (.int, q + 2, .inl fun _ => 0)]) w.length (q + 2) (fun _ => 0) := w_new
  obtain ⟨F, e, r1, r2⟩ := l_yhull (X := X) (d := d) (nc := 1) (ns := q + 2) (A := w.length) hp hq hL hLb hlen.1 hc ⟨s, hs⟩ pre.length pre (w ++ [.inl (.int, q + 2, .inl fun _ => 0)]) (fun _ => 0) 0 [] none none none none rfl nl_0 nl_0 nl_0 nl_0 hpre g0 ⟨rfl, trivial⟩
  rw [w_snew] at e
  refine ⟨F, ?_, r1, r2⟩
  rw [← e]
  have t : (((q : Int) + 2)).toNat = q + 2 := by omega
  simp (disch := first | exact nl_i | exact nl_r | exact nl_0 | exact nl_n | exact nl_x | exact kd_r | exact kd_n | exact kd_x | exact kd_o | exact cats0 | exact cats1 | exact cats2 | exact cats3 | exact cats4 | exact nr_i | exact nr_l | exact nr_z0 | exact nr_z1 | exact ft_i | exact ft_l | omega | rfl | assumption | (refine i_ne0 ?_ ?_ ?_ <;> omega) | (refine j_ne0 ?_ ?_ ?_ <;> omega) | (refine i_new ?_ ?_ <;> omega) | (refine bl_t ?_; with_unfolding_all rfl) | exact ft_z0 | exact ft_z1) only [n_X11_hullOf, q_X11_hullOf_0, q_X11_hullOf_1, q_X11_hullOf_2, q_X11_hullOf_3, q_X11_hullOf_5, q_X11_hullOf_6, q_X11_hullOf_7, q_X11_hullOf_8, q_X11_hullOf_9, i_add, i_sub, i_mul, i_neg, i_lt, i_le, i_eq, i_tm, i_div, i_j, j_i, j_add, j_sub, j_mul, j_neg, j_lt, j_le, j_eq, j_div, c_lt, c_le, c_gt, c_ge, c_eq, i_nat, rz_k, Nat.add_zero, Nat.zero_add, Nat.add_assoc, Nat.reduceAdd, if_true, if_false, t]
  rfl
theorem l_ymh {A L N : Nat} {F : Nat → Int32} (hA : v_ia w A N F) (hL : L < N) (hN : N ≤ 1000) (h1 : ∀ i, i < L → ∃ e : Nat, F i = Int32.ofInt (e : Int) ∧ e ≤ 10000) (h2 : F L = Int32.ofInt (-1)) (n : Nat) : ∀ i : Nat, i + n = L → rz_G X d mz_X11_manyHull 2 [some (.ref A), some (.int (Int32.ofInt (i : Int)))] [] w nc ns = some (.inl (some (.int (Int32.ofInt (L : Int)))), w, nc, ns) := by
  induction n with
  | zero =>
    intro i hi
    obtain rfl : i = L := hi
    rw [q_X11_manyHull_2 kd_r]
    simp (disch := first | exact nl_i | exact nl_r | exact nl_0 | exact nl_n | exact nl_x | exact kd_r | exact kd_n | exact kd_x | exact kd_o | exact cats0 | exact cats1 | exact cats2 | exact cats3 | exact cats4 | exact nr_i | exact nr_l | exact nr_z0 | exact nr_z1 | exact ft_i | exact ft_l | omega | rfl | assumption | (refine i_ne0 ?_ ?_ ?_ <;> omega) | (refine j_ne0 ?_ ?_ ?_ <;> omega) | (refine i_new ?_ ?_ <;> omega) | (refine bl_t ?_; with_unfolding_all rfl) | exact ft_z0 | exact ft_z1) only [q_X11_manyHull_3, q_X11_manyHull_4, q_X11_manyHull_4x, q_X11_manyHull_5, q_X11_manyHull_8, q_X11_manyHull_11, q_X11_manyHull_14, q_X11_manyHull_15, i_add, i_sub, i_mul, i_neg, i_lt, i_le, i_eq, i_tm, i_div, i_j, j_i, j_add, j_sub, j_mul, j_neg, j_lt, j_le, j_eq, j_div, c_lt, c_le, c_gt, c_ge, c_eq, i_nat, rz_k, Nat.add_zero, Nat.zero_add, Nat.add_assoc, Nat.reduceAdd, if_true, if_false, ai_eq hA, Int.toNat_natCast, h2]
    rw [if_pos (by omega)]
  | succ n ih =>
    intro i hi
    obtain ⟨e, he, h3⟩ := h1 i (by omega)
    rw [← ih (i + 1) (by omega), q_X11_manyHull_2 kd_r]
    simp (disch := first | exact nl_i | exact nl_r | exact nl_0 | exact nl_n | exact nl_x | exact kd_r | exact kd_n | exact kd_x | exact kd_o | exact cats0 | exact cats1 | exact cats2 | exact cats3 | exact cats4 | exact nr_i | exact nr_l | exact nr_z0 | exact nr_z1 | exact ft_i | exact ft_l | omega | rfl | assumption | (refine i_ne0 ?_ ?_ ?_ <;> omega) | (refine j_ne0 ?_ ?_ ?_ <;> omega) | (refine i_new ?_ ?_ <;> omega) | (refine bl_t ?_; with_unfolding_all rfl) | exact ft_z0 | exact ft_z1) only [q_X11_manyHull_3, q_X11_manyHull_4, q_X11_manyHull_4x, q_X11_manyHull_5, q_X11_manyHull_8, q_X11_manyHull_11, q_X11_manyHull_14, q_X11_manyHull_15, i_add, i_sub, i_mul, i_neg, i_lt, i_le, i_eq, i_tm, i_div, i_j, j_i, j_add, j_sub, j_mul, j_neg, j_lt, j_le, j_eq, j_div, c_lt, c_le, c_gt, c_ge, c_eq, i_nat, rz_k, Nat.add_zero, Nat.zero_add, Nat.add_assoc, Nat.reduceAdd, if_true, if_false, ai_eq hA, Int.toNat_natCast, he]
    rw [if_neg (by omega)]
    rfl
theorem y_manyHull {L : Nat → Int} {A q : Nat} {F : Nat → Int32} (hq : 1 ≤ q ∧ q ≤ 200) (hA : v_ia w A (q + 2) F) (hr : zs_rep F (zh_b L q)) (hz : F (zh_b L q).length = Int32.ofInt (-1)) : rz_ex X (d + 1) 260 [.ref A] w = some (.inl (some (.int (Int32.ofInt ((zh_b L q).length : Int)))), w, 0, 0) := by
  have hl := zh_b_len (L := L) q
  have h1 : 1 ≤ (zh_b L q).length := by
    obtain ⟨⟨t, ht⟩, -⟩ := zh_b_ch L q
    rw [ht, List.length_cons]
    omega
  have h := l_ymh (X := X) (d := d) (nc := 0) (ns := 0) hA (show (zh_b L q).length < q + 2 by omega) (by omega) (fun i hi => by
    obtain ⟨e, h1, h2⟩ := zs_rev hi
    exact ⟨e, zs_rep_at _ hr i e h1, by have := hl.2 e h2; omega⟩) hz ((zh_b L q).length - 1) 1 (by omega)
  rw [← h]
  simp (disch := first | exact nl_i | exact nl_r | exact nl_0 | exact nl_n | exact nl_x | exact kd_r | exact kd_n | exact kd_x | exact kd_o | exact cats0 | exact cats1 | exact cats2 | exact cats3 | exact cats4 | exact nr_i | exact nr_l | exact nr_z0 | exact nr_z1 | exact ft_i | exact ft_l | omega | rfl | assumption | (refine i_ne0 ?_ ?_ ?_ <;> omega) | (refine j_ne0 ?_ ?_ ?_ <;> omega) | (refine i_new ?_ ?_ <;> omega) | (refine bl_t ?_; with_unfolding_all rfl) | exact ft_z0 | exact ft_z1) only [n_X11_manyHull, q_X11_manyHull_0, q_X11_manyHull_1, i_add, i_sub, i_mul, i_neg, i_lt, i_le, i_eq, i_tm, i_div, i_j, j_i, j_add, j_sub, j_mul, j_neg, j_lt, j_le, j_eq, j_div, c_lt, c_le, c_gt, c_ge, c_eq, i_nat, rz_k, Nat.add_zero, Nat.zero_add, Nat.add_assoc, Nat.reduceAdd, if_true, if_false]
  rfl
theorem zh_rep_at {F G : Nat → Int32} {L : Nat → Int} (r : List Nat) (hr : zh_rep F G L r) : ∀ (i e : Nat), r.reverse[i]? = some e → F i = Int32.ofInt (e : Int) ∧ G i = Int32.ofInt (L e) := by
  induction r with
  | nil => intro i e h; cases h
  | cons a t ih =>
    intro i e h
    rw [List.reverse_cons] at h
    rcases Nat.lt_or_ge i t.reverse.length with h1 | h1
    · rw [List.getElem?_append_left h1] at h
      exact ih hr.2.2 i e h
    · rw [List.getElem?_append_right h1] at h
      have h2 : i - t.reverse.length = 0 := by
        rcases Nat.eq_zero_or_pos (i - t.reverse.length) with h3 | h3
        · exact h3
        · rw [List.getElem?_eq_none (show [a].length ≤ i - t.reverse.length from h3)] at h
          cases h
      rw [h2] at h
      have h3 : a = e := by simpa using h
      have h4 : i = t.length := by rw [List.length_reverse] at h1 h2; omega
      rw [h4, ← h3]
      exact ⟨hr.1, hr.2.1⟩
theorem ag_hull {p q : Int} (hp1 : -2147483648 ≤ p ∧ p ≤ 2147483647) (hq1 : -2147483648 ≤ q ∧ q ≤ 2147483647) (hv : v_inv w) : rz_ag X d 147 261 false [.int (Int32.ofInt p), .int (Int32.ofInt q)] ["java/lang/IllegalArgumentException"] w := by
  obtain ⟨kp, tl, kd, ty, cl, th, hy, hm, hs, ht, hp, hq, hmi⟩ := id hv
  by_cases hc : (1 ≤ p ∧ p ≤ 200) ∧ (1 ≤ q ∧ q ≤ 200)
  case neg =>
    refine ag_thr0 (c1 := 1) (s1 := 6) 0 rfl hv hm ?_ ?_
    · simp (disch := first | exact nl_i | exact nl_r | exact nl_0 | exact nl_n | exact nl_x | exact kd_r | exact kd_n | exact kd_x | exact kd_o | exact cats0 | exact cats1 | exact cats2 | exact cats3 | exact cats4 | exact nr_i | exact nr_l | exact nr_z0 | exact nr_z1 | exact ft_i | exact ft_l | omega | rfl | assumption | (refine i_ne0 ?_ ?_ ?_ <;> omega) | (refine j_ne0 ?_ ?_ ?_ <;> omega) | (refine i_new ?_ ?_ <;> omega)) only [n_X10_hull, q_X10_hull_0, q_X10_hull_1, q_X10_hull_2, q_X10_hull_5, q_X10_hull_6, q_X10_hull_9, q_X10_hull_10, q_X10_hull_11, q_X10_hull_14, q_X10_hull_15, q_X10_hull_18, q_X10_hull_21, i_add, i_sub, i_mul, i_neg, i_lt, i_le, i_eq, i_tm, i_div, i_j, j_i, j_add, j_sub, j_mul, j_neg, j_lt, j_le, j_eq, j_div, c_lt, c_le, c_gt, c_ge, c_eq, i_nat, rz_k, Nat.add_zero, Nat.zero_add, Nat.add_assoc, Nat.reduceAdd, if_true, if_false, x_frac, if_neg hc]
      all_goals rfl
    · rintro wr hm rfl
      refine ⟨Int32.ofInt 0, [], 0, 0, ?_, by omega, by omega⟩
      have y1 := x_no0 (X := X) (d := d + 28) (k := 1) hm
      simp (disch := first | exact nl_i | exact nl_r | exact nl_0 | exact nl_n | exact nl_x | exact kd_r | exact kd_n | exact kd_x | exact kd_o | exact cats0 | exact cats1 | exact cats2 | exact cats3 | exact cats4 | exact nr_i | exact nr_l | exact nr_z0 | exact nr_z1 | exact ft_i | exact ft_l | omega | rfl | assumption | (refine i_ne0 ?_ ?_ ?_ <;> omega) | (refine j_ne0 ?_ ?_ ?_ <;> omega) | (refine i_new ?_ ?_ <;> omega)) only [n_X11_hull, q_X11_hull_0, q_X11_hull_1, q_X11_hull_2, q_X11_hull_3, q_X11_hull_6, q_X11_hull_7, q_X11_hull_10, q_X11_hull_13, q_X11_hull_14, q_X11_hull_17, q_X11_hull_18, q_X11_hull_19, q_X11_hull_22, q_X11_hull_25, i_add, i_sub, i_mul, i_neg, i_lt, i_le, i_eq, i_tm, i_div, i_j, j_i, j_add, j_sub, j_mul, j_neg, j_lt, j_le, j_eq, j_div, c_lt, c_le, c_gt, c_ge, c_eq, i_nat, rz_k, Nat.add_zero, Nat.zero_add, Nat.add_assoc, Nat.reduceAdd, if_true, if_false, x_aR, if_neg hc, y1, vk_eq hm, List.append_nil, Int.reduceEq, not_false_eq_true, not_true_eq_false]
      all_goals rfl
  obtain ⟨p, rfl⟩ := Int.eq_ofNat_of_zero_le (show 0 ≤ p by omega)
  obtain ⟨q, rfl⟩ := Int.eq_ofNat_of_zero_le (show 0 ≤ q by omega)
  have hpn : 1 ≤ p ∧ p ≤ 200 := by omega
  have hqn : 1 ≤ q ∧ q ≤ 200 := by omega
  obtain ⟨w1, e1, f1, hmi1, hu1⟩ := x_hbuild (X := X) (d := d + 24) hpn hqn hmi
  obtain ⟨-, -, -, -, ⟨n0, F0, G0, h29, h30, h31⟩, -, -⟩ := id hmi
  generalize hLL : (fun x => ((p * x / q : Nat) : Int) + 1) = L at *
  have hL : ∀ x, L x = ((p * x / q : Nat) : Int) + 1 := fun x => by rw [← hLL]
  have hLb : ∀ e, e ≤ q → 0 ≤ L e ∧ L e ≤ 300 := by
    intro e he
    have h1 : p * e / q ≤ p := by
      have := Nat.div_le_div_right (c := q) (Nat.mul_le_mul_left p he)
      rw [Nat.mul_div_cancel _ (by omega)] at this
      exact this
    rw [hL]
    generalize p * e / q = z at *
    omega
  obtain ⟨F, G, g29, g30, g31, hr⟩ := hu1
  have hy1 : v_yard w1 kp := fr_get f1 (by decide) hy
  refine ag_ret (S1 := [29, 30, 31]) (S2 := []) (c1 := 0) (s1 := 0) (r := Int32.ofInt ((zh_b L q).length : Int)) hv hm ?_ f1 (by decide) hmi1 (by simp) (fun h => by cases h) ?_
  · simp (disch := first | exact nl_i | exact nl_r | exact nl_0 | exact nl_n | exact nl_x | exact kd_r | exact kd_n | exact kd_x | exact kd_o | exact cats0 | exact cats1 | exact cats2 | exact cats3 | exact cats4 | exact nr_i | exact nr_l | exact nr_z0 | exact nr_z1 | exact ft_i | exact ft_l | omega | rfl | assumption | (refine i_ne0 ?_ ?_ ?_ <;> omega) | (refine j_ne0 ?_ ?_ ?_ <;> omega) | (refine i_new ?_ ?_ <;> omega)) only [n_X10_hull, q_X10_hull_0, q_X10_hull_1, q_X10_hull_2, q_X10_hull_5, q_X10_hull_6, q_X10_hull_9, q_X10_hull_10, q_X10_hull_11, q_X10_hull_14, q_X10_hull_15, q_X10_hull_18, q_X10_hull_21, i_add, i_sub, i_mul, i_neg, i_lt, i_le, i_eq, i_tm, i_div, i_j, j_i, j_add, j_sub, j_mul, j_neg, j_lt, j_le, j_eq, j_div, c_lt, c_le, c_gt, c_ge, c_eq, i_nat, rz_k, Nat.add_zero, Nat.zero_add, Nat.add_assoc, Nat.reduceAdd, if_true, if_false, x_frac, if_pos hc, gf_eq hy, List.getElem?_cons_zero, List.getElem?_cons_succ, vk_eq h29, e1, gf_eq hy1, gf_eq g29]
  · intro wr hf hmr hv'
    have y1 := x_no1 (X := X) (d := d + 28) (k := 1) hmr
    obtain ⟨F2, e2, r1, r2⟩ := y_hullOf (X := X) (d := d + 26) (w := wr.set 32 (rz_mo kp tl kd ty cl 0)) hpn hqn hL hLb
    have hA : v_ia (wr.set 32 (rz_mo kp tl kd ty cl 0) ++ [.inl (.int, q + 2, .inl F2)]) (wr.set 32 (rz_mo kp tl kd ty cl 0)).length (q + 2) F2 := w_new
    have k1 := y_manyHull (X := X) (d := d + 28) hqn hA r1 r2
    have hm1 := v_mo (t := 0) hmr
    have fa : rz_fr [32] wr (wr.set 32 (rz_mo kp tl kd ty cl 0) ++ [.inl (.int, q + 2, .inl F2)]) := fr_trans (fr_set (by decide)) fr_app
    refine ⟨wr.set 32 (rz_mo kp tl kd ty cl 0) ++ [.inl (.int, q + 2, .inl F2)], 1, q + 2, ?_, fa, fr_get (S := []) fr_app (by simp) hm1, v_misc_fr fa (by decide) (v_inv_misc hv'), by omega, by omega⟩
    simp (disch := first | exact nl_i | exact nl_r | exact nl_0 | exact nl_n | exact nl_x | exact kd_r | exact kd_n | exact kd_x | exact kd_o | exact cats0 | exact cats1 | exact cats2 | exact cats3 | exact cats4 | exact nr_i | exact nr_l | exact nr_z0 | exact nr_z1 | exact ft_i | exact ft_l | omega | rfl | assumption | (refine i_ne0 ?_ ?_ ?_ <;> omega) | (refine j_ne0 ?_ ?_ ?_ <;> omega) | (refine i_new ?_ ?_ <;> omega)) only [n_X11_hull, q_X11_hull_0, q_X11_hull_1, q_X11_hull_2, q_X11_hull_3, q_X11_hull_6, q_X11_hull_7, q_X11_hull_10, q_X11_hull_13, q_X11_hull_14, q_X11_hull_17, q_X11_hull_18, q_X11_hull_19, q_X11_hull_22, q_X11_hull_25, i_add, i_sub, i_mul, i_neg, i_lt, i_le, i_eq, i_tm, i_div, i_j, j_i, j_add, j_sub, j_mul, j_neg, j_lt, j_le, j_eq, j_div, c_lt, c_le, c_gt, c_ge, c_eq, i_nat, rz_k, Nat.add_zero, Nat.zero_add, Nat.add_assoc, Nat.reduceAdd, if_true, if_false, x_aR, if_pos hc, y1, vk_eq hmr, e2, k1, Int.reduceEq, not_false_eq_true, not_true_eq_false]
theorem ag_hullAt {p q i : Int} (hp1 : -2147483648 ≤ p ∧ p ≤ 2147483647) (hq1 : -2147483648 ≤ q ∧ q ≤ 2147483647) (hi1 : -2147483648 ≤ i ∧ i ≤ 2147483647) (hv : v_inv w) : rz_ag X d 148 262 false [.int (Int32.ofInt p), .int (Int32.ofInt q), .int (Int32.ofInt i)] ["java/lang/IllegalArgumentException", "java/util/NoSuchElementException"] w := by
  obtain ⟨kp, tl, kd, ty, cl, th, hy, hm, hs, ht, hp, hq, hmi⟩ := id hv
  by_cases hc : (1 ≤ p ∧ p ≤ 200) ∧ (1 ≤ q ∧ q ≤ 200)
  case neg =>
    refine ag_thr0 (c1 := 1) (s1 := 6) 0 rfl hv hm ?_ ?_
    · simp (disch := first | exact nl_i | exact nl_r | exact nl_0 | exact nl_n | exact nl_x | exact kd_r | exact kd_n | exact kd_x | exact kd_o | exact cats0 | exact cats1 | exact cats2 | exact cats3 | exact cats4 | exact nr_i | exact nr_l | exact nr_z0 | exact nr_z1 | exact ft_i | exact ft_l | omega | rfl | assumption | (refine i_ne0 ?_ ?_ ?_ <;> omega) | (refine j_ne0 ?_ ?_ ?_ <;> omega) | (refine i_new ?_ ?_ <;> omega)) only [n_X10_hullAt, q_X10_hullAt_0, q_X10_hullAt_1, q_X10_hullAt_2, q_X10_hullAt_5, q_X10_hullAt_6, q_X10_hullAt_9, q_X10_hullAt_10, q_X10_hullAt_11, q_X10_hullAt_14, q_X10_hullAt_15, q_X10_hullAt_18, q_X10_hullAt_19, q_X10_hullAt_20, q_X10_hullAt_23, q_X10_hullAt_26, q_X10_hullAt_29, q_X10_hullAt_40, q_X10_hullAt_43, q_X10_hullAt_44, q_X10_hullAt_47, q_X10_hullAt_48, q_X10_hullAt_51, q_X10_hullAt_52, q_X10_hullAt_53, q_X10_hullAt_56, q_X10_hullAt_57, q_X10_hullAt_60, q_X10_hullAt_61, i_add, i_sub, i_mul, i_neg, i_lt, i_le, i_eq, i_tm, i_div, i_j, j_i, j_add, j_sub, j_mul, j_neg, j_lt, j_le, j_eq, j_div, c_lt, c_le, c_gt, c_ge, c_eq, i_nat, rz_k, Nat.add_zero, Nat.zero_add, Nat.add_assoc, Nat.reduceAdd, if_true, if_false, x_frac, if_neg hc]
      all_goals rfl
    · rintro wr hm rfl
      refine ⟨Int32.ofInt 0, [], 0, 0, ?_, by omega, by omega⟩
      have y1 := x_no0 (X := X) (d := d + 28) (k := 1) hm
      simp (disch := first | exact nl_i | exact nl_r | exact nl_0 | exact nl_n | exact nl_x | exact kd_r | exact kd_n | exact kd_x | exact kd_o | exact cats0 | exact cats1 | exact cats2 | exact cats3 | exact cats4 | exact nr_i | exact nr_l | exact nr_z0 | exact nr_z1 | exact ft_i | exact ft_l | omega | rfl | assumption | (refine i_ne0 ?_ ?_ ?_ <;> omega) | (refine j_ne0 ?_ ?_ ?_ <;> omega) | (refine i_new ?_ ?_ <;> omega)) only [n_X11_hullAt, q_X11_hullAt_0, q_X11_hullAt_1, q_X11_hullAt_2, q_X11_hullAt_3, q_X11_hullAt_6, q_X11_hullAt_7, q_X11_hullAt_10, q_X11_hullAt_13, q_X11_hullAt_14, q_X11_hullAt_15, q_X11_hullAt_16, q_X11_hullAt_17, q_X11_hullAt_20, q_X11_hullAt_22, q_X11_hullAt_23, q_X11_hullAt_24, q_X11_hullAt_25, q_X11_hullAt_27, q_X11_hullAt_30, q_X11_hullAt_31, q_X11_hullAt_32, q_X11_hullAt_35, q_X11_hullAt_36, q_X11_hullAt_39, q_X11_hullAt_42, q_X11_hullAt_43, q_X11_hullAt_46, q_X11_hullAt_49, q_X11_hullAt_51, q_X11_hullAt_52, q_X11_hullAt_52x, q_X11_hullAt_53, q_X11_hullAt_54, q_X11_hullAt_55, q_X11_hullAt_56, q_X11_hullAt_58, q_X11_hullAt_59, q_X11_hullAt_59x, q_X11_hullAt_60, q_X11_hullAt_63, q_X11_hullAt_64, i_add, i_sub, i_mul, i_neg, i_lt, i_le, i_eq, i_tm, i_div, i_j, j_i, j_add, j_sub, j_mul, j_neg, j_lt, j_le, j_eq, j_div, c_lt, c_le, c_gt, c_ge, c_eq, i_nat, rz_k, Nat.add_zero, Nat.zero_add, Nat.add_assoc, Nat.reduceAdd, if_true, if_false, x_aR, if_neg hc, y1, vk_eq hm, List.append_nil, Int.reduceEq, not_false_eq_true, not_true_eq_false]
      all_goals rfl
  obtain ⟨p, rfl⟩ := Int.eq_ofNat_of_zero_le (show 0 ≤ p by omega)
  obtain ⟨q, rfl⟩ := Int.eq_ofNat_of_zero_le (show 0 ≤ q by omega)
  have hpn : 1 ≤ p ∧ p ≤ 200 := by omega
  have hqn : 1 ≤ q ∧ q ≤ 200 := by omega
  obtain ⟨w1, e1, f1, hmi1, hu1⟩ := x_hbuild (X := X) (d := d + 24) hpn hqn hmi
  obtain ⟨-, -, -, -, ⟨n0, F0, G0, h29, h30, h31⟩, -, -⟩ := id hmi
  generalize hLL : (fun x => ((p * x / q : Nat) : Int) + 1) = L at *
  have hL : ∀ x, L x = ((p * x / q : Nat) : Int) + 1 := fun x => by rw [← hLL]
  have hLb : ∀ e, e ≤ q → 0 ≤ L e ∧ L e ≤ 300 := by
    intro e he
    have h1 : p * e / q ≤ p := by
      have := Nat.div_le_div_right (c := q) (Nat.mul_le_mul_left p he)
      rw [Nat.mul_div_cancel _ (by omega)] at this
      exact this
    rw [hL]
    generalize p * e / q = z at *
    omega
  obtain ⟨F, G, g29, g30, g31, hr⟩ := hu1
  have hy1 : v_yard w1 kp := fr_get f1 (by decide) hy
  have hlen := zh_b_len (L := L) q
  -- the reference up to its check
  have hpre : ∀ wr, v_model wr kp tl kd ty cl th → ∃ F2, (zs_rep F2 (zh_b L q) ∧ F2 (zh_b L q).length = Int32.ofInt (-1)) ∧ rz_ex X (d + 30) 262 [.ref 32, .int (Int32.ofInt (p : Int)), .int (Int32.ofInt (q : Int)), .int (Int32.ofInt i)] wr = rz_G X (d + 29) mz_X11_hullAt 22 [some (.ref 32), some (.int (Int32.ofInt (p : Int))), some (.int (Int32.ofInt (q : Int))), some (.int (Int32.ofInt i)), some (.ref (wr.set 32 (rz_mo kp tl kd ty cl 0)).length)] [] (wr.set 32 (rz_mo kp tl kd ty cl 0) ++ [.inl (.int, q + 2, .inl F2)]) 1 (q + 2) := by
    intro wr hmr
    have y1 := x_no1 (X := X) (d := d + 28) (k := 1) hmr
    obtain ⟨F2, e2, r1, r2⟩ := y_hullOf (X := X) (d := d + 26) (w := wr.set 32 (rz_mo kp tl kd ty cl 0)) hpn hqn hL hLb
    refine ⟨F2, ⟨r1, r2⟩, ?_⟩
    simp (disch := first | exact nl_i | exact nl_r | exact nl_0 | exact nl_n | exact nl_x | exact kd_r | exact kd_n | exact kd_x | exact kd_o | exact cats0 | exact cats1 | exact cats2 | exact cats3 | exact cats4 | exact nr_i | exact nr_l | exact nr_z0 | exact nr_z1 | exact ft_i | exact ft_l | omega | rfl | assumption | (refine i_ne0 ?_ ?_ ?_ <;> omega) | (refine j_ne0 ?_ ?_ ?_ <;> omega) | (refine i_new ?_ ?_ <;> omega)) only [n_X11_hullAt, q_X11_hullAt_0, q_X11_hullAt_1, q_X11_hullAt_2, q_X11_hullAt_3, q_X11_hullAt_6, q_X11_hullAt_7, q_X11_hullAt_10, q_X11_hullAt_13, q_X11_hullAt_14, q_X11_hullAt_15, q_X11_hullAt_16, q_X11_hullAt_17, q_X11_hullAt_20, i_add, i_sub, i_mul, i_neg, i_lt, i_le, i_eq, i_tm, i_div, i_j, j_i, j_add, j_sub, j_mul, j_neg, j_lt, j_le, j_eq, j_div, c_lt, c_le, c_gt, c_ge, c_eq, i_nat, rz_k, Nat.add_zero, Nat.zero_add, Nat.add_assoc, Nat.reduceAdd, if_true, if_false, x_aR, if_pos hc, y1, vk_eq hmr, e2, Int.reduceEq, not_false_eq_true, not_true_eq_false]
  by_cases hin : 0 ≤ i ∧ i ≤ ((zh_b L q).length : Int) - 1
  · obtain ⟨i, rfl⟩ := Int.eq_ofNat_of_zero_le hin.1
    obtain ⟨e, he, hmem⟩ := zs_rev (r := zh_b L q) (i := i) (by omega)
    have heq := hlen.2 e hmem
    obtain ⟨fx, gx⟩ := zh_rep_at _ hr i e he
    have kx := x_hx (X := X) (d := d + 27) g29 g30 (show i < 201 by omega)
    have ky := x_hy (X := X) (d := d + 27) g29 g31 (show i < 201 by omega)
    refine ag_ret (S1 := [29, 30, 31]) (S2 := []) (c1 := 0) (s1 := 0) (r := Int32.ofInt (1000 * (e : Int) + L e)) hv hm ?_ f1 (by decide) hmi1 (by simp) (fun h => by cases h) ?_
    · simp (disch := first | exact nl_i | exact nl_r | exact nl_0 | exact nl_n | exact nl_x | exact kd_r | exact kd_n | exact kd_x | exact kd_o | exact cats0 | exact cats1 | exact cats2 | exact cats3 | exact cats4 | exact nr_i | exact nr_l | exact nr_z0 | exact nr_z1 | exact ft_i | exact ft_l | omega | rfl | assumption | (refine i_ne0 ?_ ?_ ?_ <;> omega) | (refine j_ne0 ?_ ?_ ?_ <;> omega) | (refine i_new ?_ ?_ <;> omega)) only [n_X10_hullAt, q_X10_hullAt_0, q_X10_hullAt_1, q_X10_hullAt_2, q_X10_hullAt_5, q_X10_hullAt_6, q_X10_hullAt_9, q_X10_hullAt_10, q_X10_hullAt_11, q_X10_hullAt_14, q_X10_hullAt_15, q_X10_hullAt_18, q_X10_hullAt_19, q_X10_hullAt_20, q_X10_hullAt_23, q_X10_hullAt_26, q_X10_hullAt_29, q_X10_hullAt_40, q_X10_hullAt_43, q_X10_hullAt_44, q_X10_hullAt_47, q_X10_hullAt_48, q_X10_hullAt_51, q_X10_hullAt_52, q_X10_hullAt_53, q_X10_hullAt_56, q_X10_hullAt_57, q_X10_hullAt_60, q_X10_hullAt_61, i_add, i_sub, i_mul, i_neg, i_lt, i_le, i_eq, i_tm, i_div, i_j, j_i, j_add, j_sub, j_mul, j_neg, j_lt, j_le, j_eq, j_div, c_lt, c_le, c_gt, c_ge, c_eq, i_nat, rz_k, Nat.add_zero, Nat.zero_add, Nat.add_assoc, Nat.reduceAdd, if_true, if_false, x_frac, if_pos hc, gf_eq hy, List.getElem?_cons_zero, List.getElem?_cons_succ, vk_eq h29, e1, gf_eq hy1, gf_eq g29, vk_eq g29, if_neg (show ¬ (i : Int) < 0 by omega), if_pos (show (i : Int) < ((zh_b L q).length : Int) by omega), kx, ky, fx, gx]
    · intro wr hf hmr hv'
      obtain ⟨F2, ⟨r1, r2⟩, e2⟩ := hpre wr hmr
      have hm1 := v_mo (t := 0) hmr
      have hm2 : v_model (wr.set 32 (rz_mo kp tl kd ty cl 0) ++ [.inl (.int, q + 2, .inl F2)]) kp tl kd ty cl 0 := fr_get (fr_al (w := wr.set 32 (rz_mo kp tl kd ty cl 0))) (by simp) hm1
      have y2 := x_no1 (X := X) (d := d + 28) (k := 2) hm2
      have hs2 : (wr.set 32 (rz_mo kp tl kd ty cl 0) ++ ([.inl (.int, q + 2, .inl F2)] : rz_W)).set 32 (rz_mo kp tl kd ty cl 0) = wr.set 32 (rz_mo kp tl kd ty cl 0) ++ ([.inl (.int, q + 2, .inl F2)] : rz_W) := by
        rw [List.set_append_left _ _ (w_lt hm1), mo_mo]
      rw [hs2] at y2
      have hA : v_ia (wr.set 32 (rz_mo kp tl kd ty cl 0) ++ [.inl (.int, q + 2, .inl F2)]) (wr.set 32 (rz_mo kp tl kd ty cl 0)).length (q + 2) F2 := w_new
      have k1 := y_manyHull (X := X) (d := d + 28) hqn hA r1 r2
      have kl := fun w => y_hlow (X := X) (d := d + 28) (w := w) hpn hqn (show e ≤ 200 by omega)
      have fa : rz_fr [32] wr (wr.set 32 (rz_mo kp tl kd ty cl 0) ++ [.inl (.int, q + 2, .inl F2)]) := fr_trans (fr_set (by decide)) fr_app
      refine ⟨wr.set 32 (rz_mo kp tl kd ty cl 0) ++ [.inl (.int, q + 2, .inl F2)], 1, q + 2, ?_, fa, hm2, v_misc_fr fa (by decide) (v_inv_misc hv'), by omega, by omega⟩
      rw [e2, hL]
      simp (disch := first | exact nl_i | exact nl_r | exact nl_0 | exact nl_n | exact nl_x | exact kd_r | exact kd_n | exact kd_x | exact kd_o | exact cats0 | exact cats1 | exact cats2 | exact cats3 | exact cats4 | exact nr_i | exact nr_l | exact nr_z0 | exact nr_z1 | exact ft_i | exact ft_l | omega | rfl | assumption | (refine i_ne0 ?_ ?_ ?_ <;> omega) | (refine j_ne0 ?_ ?_ ?_ <;> omega) | (refine i_new ?_ ?_ <;> omega)) only [q_X11_hullAt_22, q_X11_hullAt_23, q_X11_hullAt_24, q_X11_hullAt_25, q_X11_hullAt_27, q_X11_hullAt_30, q_X11_hullAt_31, q_X11_hullAt_32, q_X11_hullAt_35, q_X11_hullAt_36, q_X11_hullAt_39, q_X11_hullAt_42, q_X11_hullAt_43, q_X11_hullAt_46, q_X11_hullAt_49, q_X11_hullAt_51, q_X11_hullAt_52, q_X11_hullAt_52x, q_X11_hullAt_53, q_X11_hullAt_54, q_X11_hullAt_55, q_X11_hullAt_56, q_X11_hullAt_58, q_X11_hullAt_59, q_X11_hullAt_59x, q_X11_hullAt_60, q_X11_hullAt_63, q_X11_hullAt_64, i_add, i_sub, i_mul, i_neg, i_lt, i_le, i_eq, i_tm, i_div, i_j, j_i, j_add, j_sub, j_mul, j_neg, j_lt, j_le, j_eq, j_div, c_lt, c_le, c_gt, c_ge, c_eq, i_nat, rz_k, Nat.add_zero, Nat.zero_add, Nat.add_assoc, Nat.reduceAdd, if_true, if_false, x_in, if_pos hin, k1, y2, vk_eq hm2, ai_eq hA, Int.toNat_natCast, zs_rep_at _ r1 i e he, kl, Int.reduceEq, not_false_eq_true, not_true_eq_false]
  · refine ag_thr (S1 := [29, 30, 31]) (S2 := []) (c1 := 1) (s1 := 6) 1 rfl hv hm ?_ f1 (by decide) hmi1 (by simp) ?_
    · by_cases h0 : i < 0
      · simp (disch := first | exact nl_i | exact nl_r | exact nl_0 | exact nl_n | exact nl_x | exact kd_r | exact kd_n | exact kd_x | exact kd_o | exact cats0 | exact cats1 | exact cats2 | exact cats3 | exact cats4 | exact nr_i | exact nr_l | exact nr_z0 | exact nr_z1 | exact ft_i | exact ft_l | omega | rfl | assumption | (refine i_ne0 ?_ ?_ ?_ <;> omega) | (refine j_ne0 ?_ ?_ ?_ <;> omega) | (refine i_new ?_ ?_ <;> omega)) only [n_X10_hullAt, q_X10_hullAt_0, q_X10_hullAt_1, q_X10_hullAt_2, q_X10_hullAt_5, q_X10_hullAt_6, q_X10_hullAt_9, q_X10_hullAt_10, q_X10_hullAt_11, q_X10_hullAt_14, q_X10_hullAt_15, q_X10_hullAt_18, q_X10_hullAt_19, q_X10_hullAt_20, q_X10_hullAt_23, q_X10_hullAt_26, q_X10_hullAt_29, q_X10_hullAt_40, q_X10_hullAt_43, q_X10_hullAt_44, q_X10_hullAt_47, q_X10_hullAt_48, q_X10_hullAt_51, q_X10_hullAt_52, q_X10_hullAt_53, q_X10_hullAt_56, q_X10_hullAt_57, q_X10_hullAt_60, q_X10_hullAt_61, i_add, i_sub, i_mul, i_neg, i_lt, i_le, i_eq, i_tm, i_div, i_j, j_i, j_add, j_sub, j_mul, j_neg, j_lt, j_le, j_eq, j_div, c_lt, c_le, c_gt, c_ge, c_eq, i_nat, rz_k, Nat.add_zero, Nat.zero_add, Nat.add_assoc, Nat.reduceAdd, if_true, if_false, x_frac, if_pos hc, gf_eq hy, List.getElem?_cons_zero, List.getElem?_cons_succ, vk_eq h29, e1, if_pos h0]
        all_goals rfl
      · simp (disch := first | exact nl_i | exact nl_r | exact nl_0 | exact nl_n | exact nl_x | exact kd_r | exact kd_n | exact kd_x | exact kd_o | exact cats0 | exact cats1 | exact cats2 | exact cats3 | exact cats4 | exact nr_i | exact nr_l | exact nr_z0 | exact nr_z1 | exact ft_i | exact ft_l | omega | rfl | assumption | (refine i_ne0 ?_ ?_ ?_ <;> omega) | (refine j_ne0 ?_ ?_ ?_ <;> omega) | (refine i_new ?_ ?_ <;> omega)) only [n_X10_hullAt, q_X10_hullAt_0, q_X10_hullAt_1, q_X10_hullAt_2, q_X10_hullAt_5, q_X10_hullAt_6, q_X10_hullAt_9, q_X10_hullAt_10, q_X10_hullAt_11, q_X10_hullAt_14, q_X10_hullAt_15, q_X10_hullAt_18, q_X10_hullAt_19, q_X10_hullAt_20, q_X10_hullAt_23, q_X10_hullAt_26, q_X10_hullAt_29, q_X10_hullAt_40, q_X10_hullAt_43, q_X10_hullAt_44, q_X10_hullAt_47, q_X10_hullAt_48, q_X10_hullAt_51, q_X10_hullAt_52, q_X10_hullAt_53, q_X10_hullAt_56, q_X10_hullAt_57, q_X10_hullAt_60, q_X10_hullAt_61, i_add, i_sub, i_mul, i_neg, i_lt, i_le, i_eq, i_tm, i_div, i_j, j_i, j_add, j_sub, j_mul, j_neg, j_lt, j_le, j_eq, j_div, c_lt, c_le, c_gt, c_ge, c_eq, i_nat, rz_k, Nat.add_zero, Nat.zero_add, Nat.add_assoc, Nat.reduceAdd, if_true, if_false, x_frac, if_pos hc, gf_eq hy, List.getElem?_cons_zero, List.getElem?_cons_succ, vk_eq h29, e1, gf_eq hy1, gf_eq g29, if_neg h0, if_neg (show ¬ i < ((zh_b L q).length : Int) by omega)]
        all_goals rfl
    · intro wr hf hmr hv'
      obtain ⟨F2, ⟨r1, r2⟩, e2⟩ := hpre wr hmr
      have hm1 := v_mo (t := 0) hmr
      have hm2 : v_model (wr.set 32 (rz_mo kp tl kd ty cl 0) ++ [.inl (.int, q + 2, .inl F2)]) kp tl kd ty cl 0 := fr_get (fr_al (w := wr.set 32 (rz_mo kp tl kd ty cl 0))) (by simp) hm1
      have y2 := x_no0 (X := X) (d := d + 28) (k := 2) hm2
      have hA : v_ia (wr.set 32 (rz_mo kp tl kd ty cl 0) ++ [.inl (.int, q + 2, .inl F2)]) (wr.set 32 (rz_mo kp tl kd ty cl 0)).length (q + 2) F2 := w_new
      have k1 := y_manyHull (X := X) (d := d + 28) hqn hA r1 r2
      have fa : rz_fr [32] wr (wr.set 32 (rz_mo kp tl kd ty cl 0) ++ [.inl (.int, q + 2, .inl F2)]) := fr_trans (fr_set (by decide)) fr_app
      have fb : rz_fr [32] wr ((wr.set 32 (rz_mo kp tl kd ty cl 0) ++ ([.inl (.int, q + 2, .inl F2)] : rz_W)).set 32 (rz_mo kp tl kd ty cl 2)) := fr_trans fa (fr_set (by decide))
      refine ⟨Int32.ofInt 0, (wr.set 32 (rz_mo kp tl kd ty cl 0) ++ ([.inl (.int, q + 2, .inl F2)] : rz_W)).set 32 (rz_mo kp tl kd ty cl 2), 1, q + 2, ?_, fb, v_mo hm2, v_misc_fr fb (by decide) (v_inv_misc hv'), by omega, by omega⟩
      rw [e2]
      simp (disch := first | exact nl_i | exact nl_r | exact nl_0 | exact nl_n | exact nl_x | exact kd_r | exact kd_n | exact kd_x | exact kd_o | exact cats0 | exact cats1 | exact cats2 | exact cats3 | exact cats4 | exact nr_i | exact nr_l | exact nr_z0 | exact nr_z1 | exact ft_i | exact ft_l | omega | rfl | assumption | (refine i_ne0 ?_ ?_ ?_ <;> omega) | (refine j_ne0 ?_ ?_ ?_ <;> omega) | (refine i_new ?_ ?_ <;> omega)) only [q_X11_hullAt_22, q_X11_hullAt_23, q_X11_hullAt_24, q_X11_hullAt_25, q_X11_hullAt_27, q_X11_hullAt_30, q_X11_hullAt_31, q_X11_hullAt_32, q_X11_hullAt_35, q_X11_hullAt_36, q_X11_hullAt_39, q_X11_hullAt_42, q_X11_hullAt_43, q_X11_hullAt_46, q_X11_hullAt_49, q_X11_hullAt_51, q_X11_hullAt_52, q_X11_hullAt_52x, q_X11_hullAt_53, q_X11_hullAt_54, q_X11_hullAt_55, q_X11_hullAt_56, q_X11_hullAt_58, q_X11_hullAt_59, q_X11_hullAt_59x, q_X11_hullAt_60, q_X11_hullAt_63, q_X11_hullAt_64, i_add, i_sub, i_mul, i_neg, i_lt, i_le, i_eq, i_tm, i_div, i_j, j_i, j_add, j_sub, j_mul, j_neg, j_lt, j_le, j_eq, j_div, c_lt, c_le, c_gt, c_ge, c_eq, i_nat, rz_k, Nat.add_zero, Nat.zero_add, Nat.add_assoc, Nat.reduceAdd, if_true, if_false, x_in, if_neg hin, k1, y2, vk_eq hm2, Int.reduceEq, not_false_eq_true, not_true_eq_false]
end RZHW
