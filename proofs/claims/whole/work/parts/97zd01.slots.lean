/-! part 97zd01: level 2: isSound: the class's slots -/
section RZJA
variable {X : rz_X} {d : Nat} {w : rz_W} {nc ns : Nat} {kp tl kd ty cl th : Int} {G : Nat → Option Nat} {T : Nat → Int × Int × Int × Bool}
/-- whether the least steps of a grid span it, by its form -/
def zz_R (a b c : Int) (v : Bool) : Prop := ∃ (r1 r2 r3 r4 : Int) (r : List (Int × Int)) (q : Nat → Int × Int), zr_red 50 a b 0 c = some (r1, r2, r3, r4) ∧ zt_I (zt_S r1 r2 r3 r4) r ∧ r.length = 20 ∧ zt_bd r ∧ (∀ k, k < 20 → r.reverse[k]? = some (q k)) ∧ v = zz_ls q (a * c)
theorem zz_as2_cong {q q' : Nat → Int × Int} (h : ∀ k, k < 20 → q k = q' k) (n : Nat) : ∀ k, k + n ≤ 20 → zt_as2 q n k = zt_as2 q' n k := by
  induction n with
  | zero => intro k _; rfl
  | succ n ih =>
    intro k hk
    unfold zt_as2
    rw [h 0 (by omega), h k (by omega), ih (k + 1) (by omega)]
theorem zz_R_u {a b c : Int} {v v' : Bool} (h : zz_R a b c v) (h' : zz_R a b c v') : v = v' := by
  obtain ⟨r1, r2, r3, r4, r, q, e1, ⟨so, mem, all, -⟩, l, -, hq, rfl⟩ := h
  obtain ⟨s1, s2, s3, s4, r', q', e2, ⟨so', mem', all', -⟩, l', -, hq', rfl⟩ := h'
  have e := e1.symm.trans e2
  simp only [Option.some.injEq, Prod.mk.injEq] at e
  obtain ⟨rfl, rfl, rfl, rfl⟩ := e
  have hr : r.reverse = r'.reverse := by
    refine zt_uniq 20 (S := zt_S r1 r2 r3 r4) (by rw [List.length_reverse]; exact l) (by rw [List.length_reverse]; omega) (List.pairwise_reverse.mpr so) (List.pairwise_reverse.mpr so') (fun e he => mem e (List.mem_reverse.mp he)) (fun e he => mem' e (List.mem_reverse.mp he)) ?_ ?_
    · intro s hs hn e he
      exact (all s hs (fun hc => hn (List.mem_reverse.mpr hc))).2 e (List.mem_reverse.mp he)
    · intro s hs hn
      have := all' s hs (fun hc => hn (List.mem_reverse.mpr hc))
      exact ⟨by rw [List.length_reverse]; exact this.1, fun e he => this.2 e (List.mem_reverse.mp he)⟩
  have hqq : ∀ k, k < 20 → q k = q' k := by
    intro k hk
    have h1 := hq k hk
    rw [hr, hq' k hk] at h1
    exact (Option.some.inj h1).symm
  unfold zz_ls
  rw [zz_as2_cong hqq 19 1 (by omega)]
  cases has : zt_as2 q' 19 1 with
  | none => rfl
  | some k =>
    have hk := zz_as 19 1 k has
    dsimp only
    rw [hqq 0 (by omega), hqq k (by omega)]
/-- the slots, with the forms of their grids -/
def zs_H (w : rz_W) (G : Nat → Option Nat) (T : Nat → Int × Int × Int × Bool) : Prop := v_ga w 1 8 G ∧ ∀ i g, i < 8 → G i = some g → 49 ≤ g ∧ (1 ≤ (T i).1 ∧ 0 ≤ (T i).2.1 ∧ (T i).2.1 < (T i).2.2.1 ∧ (T i).1 * (T i).2.2.1 ≤ 1000000) ∧ v_ob w g 3 [.int (Int32.ofInt (T i).1), .int (Int32.ofInt (T i).2.1), .int (Int32.ofInt (T i).2.2.1)] ∧ zz_R (T i).1 (T i).2.1 (T i).2.2.1 (T i).2.2.2
theorem zs_H_fr {S : List Nat} {w' : rz_W} (h : zs_H w G T) (hf : rz_fr S w w') (hS : ∀ q, q ∈ S → q < 49 ∧ q ≠ 1) : zs_H w' G T := by
  obtain ⟨h1, h2⟩ := h
  refine ⟨fr_get hf (fun hc => (hS 1 hc).2 rfl) h1, fun i g hi hg => ?_⟩
  obtain ⟨a1, a2, a3, a4⟩ := h2 i g hi hg
  exact ⟨a1, a2, fr_get hf (fun hc => by have := (hS g hc).1; omega) a3, a4⟩
theorem x_lssT {i g : Nat} (hy : v_yard w kp) (hmi : v_misc w) (h : zs_H w G T) (hi : i < 8) (hg : G i = some g) : ∃ w', rz_ex X (d + 5) 168 [.ref 0, .ref g] w = some (.inl (some (.int (Int32.ofInt (zb (T i).2.2.2)))), w', 0, 0) ∧ rz_fr [4, 5, 6, 7, 8] w w' ∧ v_misc w' := by
  obtain ⟨h1, h2, h3, h4⟩ := h.2 i g hi hg
  obtain ⟨r1, r2, r3, r4, hrr, -⟩ := zr_grid h2
  obtain ⟨w', r', q, e, f, hm', hI, hl, hbd, hq⟩ := x_lss (X := X) (d := d) hy hmi h3 h1 h2 hrr
  refine ⟨w', ?_, f, hm'⟩
  rw [e, zz_R_u h4 ⟨r1, r2, r3, r4, r', q, hrr, hI, hl, hbd, hq, rfl⟩]
theorem l_csl (m : Nat) : ∀ (w : rz_W) (i : Nat) (l2 l3 : Option Value) (nc ns : Nat), i + m = 8 → v_yard w kp → v_misc w → zs_H w G T → ∃ (w' : rz_W) (c s : Nat) (l2' l3' : Option Value), c ≤ 2 * m ∧ s ≤ 6 * m ∧ rz_fr [4, 5, 6, 7, 8] w w' ∧ v_misc w' ∧ (((∀ j, i ≤ j → j < 8 → G j ≠ none → (T j).2.2.2 = true) ∧ rz_G X (d + 5) mz_X10_isSound 2 [some (.ref 0), some (.int (Int32.ofInt (i : Int))), l2, l3] [] w nc ns = rz_G X (d + 5) mz_X10_isSound 74 [some (.ref 0), some (.int (Int32.ofInt 8)), l2', l3'] [] w' (nc + c) (ns + s)) ∨ ((∃ j, i ≤ j ∧ j < 8 ∧ G j ≠ none ∧ (T j).2.2.2 = false) ∧ rz_G X (d + 5) mz_X10_isSound 2 [some (.ref 0), some (.int (Int32.ofInt (i : Int))), l2, l3] [] w nc ns = some (.inl (some (.int (Int32.ofInt 0))), w', nc + c, ns + s))) := by
  induction m with
  | zero =>
    intro w i l2 l3 nc ns hi hy hmi h
    obtain rfl : i = 8 := by omega
    refine ⟨w, 0, 0, l2, l3, by omega, by omega, fr_refl, hmi, .inl ⟨fun j h1 h2 => by omega, ?_⟩⟩
    rw [q_X10_isSound_2]
    simp (disch := first | exact nl_i | exact nl_r | exact nl_0 | exact nl_n | exact nl_x | exact kd_r | exact kd_n | exact kd_x | exact kd_o | exact cats0 | exact cats1 | exact cats2 | exact cats3 | exact cats4 | exact nr_i | exact nr_l | exact nr_z0 | exact nr_z1 | exact ft_i | exact ft_l | omega | rfl | assumption | (refine i_ne0 ?_ ?_ ?_ <;> omega) | (refine j_ne0 ?_ ?_ ?_ <;> omega) | (refine i_new ?_ ?_ <;> omega) | (refine bl_t ?_; with_unfolding_all rfl) | exact ft_z0 | exact ft_z1) only [↓reduceIte, q_X10_isSound_3, q_X10_isSound_5, q_X10_isSound_8, q_X10_isSound_9, q_X10_isSound_12, q_X10_isSound_13, q_X10_isSound_14, q_X10_isSound_15, q_X10_isSound_16, q_X10_isSound_17, q_X10_isSound_18, q_X10_isSound_20, q_X10_isSound_23, q_X10_isSound_24, q_X10_isSound_27, q_X10_isSound_28, q_X10_isSound_29, q_X10_isSound_30, q_X10_isSound_31, q_X10_isSound_34, q_X10_isSound_35, q_X10_isSound_36, q_X10_isSound_37n, q_X10_isSound_37, q_X10_isSound_40, q_X10_isSound_41, q_X10_isSound_42, q_X10_isSound_45, q_X10_isSound_48, q_X10_isSound_49, q_X10_isSound_50, q_X10_isSound_51n, q_X10_isSound_51, q_X10_isSound_54, q_X10_isSound_55n, q_X10_isSound_55, q_X10_isSound_58, q_X10_isSound_59, q_X10_isSound_60, q_X10_isSound_63, q_X10_isSound_66, q_X10_isSound_67, q_X10_isSound_68, q_X10_isSound_71, i_add, i_sub, i_mul, i_neg, i_lt, i_le, i_eq, i_tm, i_div, i_j, j_i, j_add, j_sub, j_mul, j_neg, j_lt, j_le, j_eq, j_div, c_lt, c_le, c_gt, c_ge, c_eq, i_nat, rz_k, Nat.add_zero, Nat.zero_add, Nat.add_assoc, Nat.reduceAdd, if_true, if_false, eq_true (show (8 : Int) ≤ ((8 : Nat) : Int) by omega)]
    rfl
  | succ m ih =>
    intro w i l2 l3 nc ns hi hy hmi h
    have hG := h.1
    have c0 : ¬ (8 : Int) ≤ (i : Int) := by omega
    have ti : (i : Int).toNat = i := by omega
    have ti1 : ((i : Int) + 1).toNat = i + 1 := by omega
    cases hg : G i with
    | none =>
      have next : ∀ (v : Value) (l2 l3 : Option Value), (∀ j, i + 1 ≤ j → j < 8 → G j ≠ none → (T j).2.2.2 = true) → ∀ j, i ≤ j → j < 8 → G j ≠ none → (T j).2.2.2 = true := by
        intro v l2 l3 hall j h1 h2 h3
        by_cases hj : j = i
        · subst hj; exact absurd hg h3
        · exact hall j (by omega) h2 h3
      by_cases hlast : i + 1 < 8
      · cases hg2 : G (i + 1) with
        | none =>
          obtain ⟨w', c, s, l2', l3', b1, b2, f, hm', hr⟩ := ih w (i + 1) (some .null) (some .null) nc ns (by omega) hy hmi h
          refine ⟨w', c, s, l2', l3', by omega, by omega, f, hm', ?_⟩
          have e : rz_G X (d + 5) mz_X10_isSound 2 [some (.ref 0), some (.int (Int32.ofInt (i : Int))), l2, l3] [] w nc ns = rz_G X (d + 5) mz_X10_isSound 2 [some (.ref 0), some (.int (Int32.ofInt ((i + 1 : Nat) : Int))), some .null, some .null] [] w nc ns := by
            rw [q_X10_isSound_2]
            simp (disch := first | exact nl_i | exact nl_r | exact nl_0 | exact nl_n | exact nl_x | exact kd_r | exact kd_n | exact kd_x | exact kd_o | exact cats0 | exact cats1 | exact cats2 | exact cats3 | exact cats4 | exact nr_i | exact nr_l | exact nr_z0 | exact nr_z1 | exact ft_i | exact ft_l | omega | rfl | assumption | (refine i_ne0 ?_ ?_ ?_ <;> omega) | (refine j_ne0 ?_ ?_ ?_ <;> omega) | (refine i_new ?_ ?_ <;> omega) | (refine bl_t ?_; with_unfolding_all rfl) | exact ft_z0 | exact ft_z1) only [↓reduceIte, q_X10_isSound_3, q_X10_isSound_5, q_X10_isSound_8, q_X10_isSound_9, q_X10_isSound_12, q_X10_isSound_13, q_X10_isSound_14, q_X10_isSound_15, q_X10_isSound_16, q_X10_isSound_17, q_X10_isSound_18, q_X10_isSound_20, q_X10_isSound_23, q_X10_isSound_24, q_X10_isSound_27, q_X10_isSound_28, q_X10_isSound_29, q_X10_isSound_30, q_X10_isSound_31, q_X10_isSound_34, q_X10_isSound_35, q_X10_isSound_36, q_X10_isSound_37n, q_X10_isSound_37, q_X10_isSound_40, q_X10_isSound_41, q_X10_isSound_42, q_X10_isSound_45, q_X10_isSound_48, q_X10_isSound_49, q_X10_isSound_50, q_X10_isSound_51n, q_X10_isSound_51, q_X10_isSound_54, q_X10_isSound_55n, q_X10_isSound_55, q_X10_isSound_58, q_X10_isSound_59, q_X10_isSound_60, q_X10_isSound_63, q_X10_isSound_66, q_X10_isSound_67, q_X10_isSound_68, q_X10_isSound_71, i_add, i_sub, i_mul, i_neg, i_lt, i_le, i_eq, i_tm, i_div, i_j, j_i, j_add, j_sub, j_mul, j_neg, j_lt, j_le, j_eq, j_div, c_lt, c_le, c_gt, c_ge, c_eq, i_nat, rz_k, Nat.add_zero, Nat.zero_add, Nat.add_assoc, Nat.reduceAdd, if_true, if_false, gf_eq hy, List.getElem?_cons_zero, List.getElem?_cons_succ, aa_eq hG, ti, ti1, hg, hg2, rf_none, eq_false c0, eq_false (show ¬ (8 : Int) ≤ (i : Int) + 1 by omega)]
            rfl
          rcases hr with ⟨k1, k2⟩ | ⟨⟨j, k1, k2, k3⟩, k4⟩
          · exact .inl ⟨next .null none none k1, e.trans k2⟩
          · exact .inr ⟨⟨j, by omega, k2, k3⟩, e.trans k4⟩
        | some g2 =>
          obtain ⟨w', c, s, l2', l3', b1, b2, f, hm', hr⟩ := ih w (i + 1) (some .null) (some (.ref g2)) nc ns (by omega) hy hmi h
          refine ⟨w', c, s, l2', l3', by omega, by omega, f, hm', ?_⟩
          have e : rz_G X (d + 5) mz_X10_isSound 2 [some (.ref 0), some (.int (Int32.ofInt (i : Int))), l2, l3] [] w nc ns = rz_G X (d + 5) mz_X10_isSound 2 [some (.ref 0), some (.int (Int32.ofInt ((i + 1 : Nat) : Int))), some .null, some (.ref g2)] [] w nc ns := by
            rw [q_X10_isSound_2]
            simp (disch := first | exact nl_i | exact nl_r | exact nl_0 | exact nl_n | exact nl_x | exact kd_r | exact kd_n | exact kd_x | exact kd_o | exact cats0 | exact cats1 | exact cats2 | exact cats3 | exact cats4 | exact nr_i | exact nr_l | exact nr_z0 | exact nr_z1 | exact ft_i | exact ft_l | omega | rfl | assumption | (refine i_ne0 ?_ ?_ ?_ <;> omega) | (refine j_ne0 ?_ ?_ ?_ <;> omega) | (refine i_new ?_ ?_ <;> omega) | (refine bl_t ?_; with_unfolding_all rfl) | exact ft_z0 | exact ft_z1) only [↓reduceIte, q_X10_isSound_3, q_X10_isSound_5, q_X10_isSound_8, q_X10_isSound_9, q_X10_isSound_12, q_X10_isSound_13, q_X10_isSound_14, q_X10_isSound_15, q_X10_isSound_16, q_X10_isSound_17, q_X10_isSound_18, q_X10_isSound_20, q_X10_isSound_23, q_X10_isSound_24, q_X10_isSound_27, q_X10_isSound_28, q_X10_isSound_29, q_X10_isSound_30, q_X10_isSound_31, q_X10_isSound_34, q_X10_isSound_35, q_X10_isSound_36, q_X10_isSound_37n, q_X10_isSound_37, q_X10_isSound_40, q_X10_isSound_41, q_X10_isSound_42, q_X10_isSound_45, q_X10_isSound_48, q_X10_isSound_49, q_X10_isSound_50, q_X10_isSound_51n, q_X10_isSound_51, q_X10_isSound_54, q_X10_isSound_55n, q_X10_isSound_55, q_X10_isSound_58, q_X10_isSound_59, q_X10_isSound_60, q_X10_isSound_63, q_X10_isSound_66, q_X10_isSound_67, q_X10_isSound_68, q_X10_isSound_71, i_add, i_sub, i_mul, i_neg, i_lt, i_le, i_eq, i_tm, i_div, i_j, j_i, j_add, j_sub, j_mul, j_neg, j_lt, j_le, j_eq, j_div, c_lt, c_le, c_gt, c_ge, c_eq, i_nat, rz_k, Nat.add_zero, Nat.zero_add, Nat.add_assoc, Nat.reduceAdd, if_true, if_false, gf_eq hy, List.getElem?_cons_zero, List.getElem?_cons_succ, aa_eq hG, ti, ti1, hg, hg2, rf_none, rf_some, eq_false c0, eq_false (show ¬ (8 : Int) ≤ (i : Int) + 1 by omega)]
            rfl
          rcases hr with ⟨k1, k2⟩ | ⟨⟨j, k1, k2, k3⟩, k4⟩
          · exact .inl ⟨next .null none none k1, e.trans k2⟩
          · exact .inr ⟨⟨j, by omega, k2, k3⟩, e.trans k4⟩
      · obtain ⟨w', c, s, l2', l3', b1, b2, f, hm', hr⟩ := ih w (i + 1) (some .null) (some .null) nc ns (by omega) hy hmi h
        refine ⟨w', c, s, l2', l3', by omega, by omega, f, hm', ?_⟩
        have e : rz_G X (d + 5) mz_X10_isSound 2 [some (.ref 0), some (.int (Int32.ofInt (i : Int))), l2, l3] [] w nc ns = rz_G X (d + 5) mz_X10_isSound 2 [some (.ref 0), some (.int (Int32.ofInt ((i + 1 : Nat) : Int))), some .null, some .null] [] w nc ns := by
          rw [q_X10_isSound_2]
          simp (disch := first | exact nl_i | exact nl_r | exact nl_0 | exact nl_n | exact nl_x | exact kd_r | exact kd_n | exact kd_x | exact kd_o | exact cats0 | exact cats1 | exact cats2 | exact cats3 | exact cats4 | exact nr_i | exact nr_l | exact nr_z0 | exact nr_z1 | exact ft_i | exact ft_l | omega | rfl | assumption | (refine i_ne0 ?_ ?_ ?_ <;> omega) | (refine j_ne0 ?_ ?_ ?_ <;> omega) | (refine i_new ?_ ?_ <;> omega) | (refine bl_t ?_; with_unfolding_all rfl) | exact ft_z0 | exact ft_z1) only [↓reduceIte, q_X10_isSound_3, q_X10_isSound_5, q_X10_isSound_8, q_X10_isSound_9, q_X10_isSound_12, q_X10_isSound_13, q_X10_isSound_14, q_X10_isSound_15, q_X10_isSound_16, q_X10_isSound_17, q_X10_isSound_18, q_X10_isSound_20, q_X10_isSound_23, q_X10_isSound_24, q_X10_isSound_27, q_X10_isSound_28, q_X10_isSound_29, q_X10_isSound_30, q_X10_isSound_31, q_X10_isSound_34, q_X10_isSound_35, q_X10_isSound_36, q_X10_isSound_37n, q_X10_isSound_37, q_X10_isSound_40, q_X10_isSound_41, q_X10_isSound_42, q_X10_isSound_45, q_X10_isSound_48, q_X10_isSound_49, q_X10_isSound_50, q_X10_isSound_51n, q_X10_isSound_51, q_X10_isSound_54, q_X10_isSound_55n, q_X10_isSound_55, q_X10_isSound_58, q_X10_isSound_59, q_X10_isSound_60, q_X10_isSound_63, q_X10_isSound_66, q_X10_isSound_67, q_X10_isSound_68, q_X10_isSound_71, i_add, i_sub, i_mul, i_neg, i_lt, i_le, i_eq, i_tm, i_div, i_j, j_i, j_add, j_sub, j_mul, j_neg, j_lt, j_le, j_eq, j_div, c_lt, c_le, c_gt, c_ge, c_eq, i_nat, rz_k, Nat.add_zero, Nat.zero_add, Nat.add_assoc, Nat.reduceAdd, if_true, if_false, gf_eq hy, List.getElem?_cons_zero, List.getElem?_cons_succ, aa_eq hG, ti, ti1, hg, rf_none, eq_false c0, eq_true (show (8 : Int) ≤ (i : Int) + 1 by omega)]
          rfl
        rcases hr with ⟨k1, k2⟩ | ⟨⟨j, k1, k2, k3⟩, k4⟩
        · exact .inl ⟨next .null none none k1, e.trans k2⟩
        · exact .inr ⟨⟨j, by omega, k2, k3⟩, e.trans k4⟩
    | some g =>
      obtain ⟨w1, e1, f1, hm1⟩ := x_lssT (X := X) (d := d) hy hmi h (show i < 8 by omega) hg
      have hy1 : v_yard w1 kp := fr_get f1 (by decide) hy
      have h1 := zs_H_fr h f1 (by decide)
      cases hv : (T i).2.2.2 with
      | false =>
        rw [hv, zb_f] at e1
        refine ⟨w1, 0, 0, l2, l3, by omega, by omega, f1, hm1, .inr ⟨⟨i, by omega, by omega, by rw [hg]; simp, hv⟩, ?_⟩⟩
        by_cases hlast : i + 1 < 8
        · cases hg2 : G (i + 1) with
          | none =>
            rw [q_X10_isSound_2]
            simp (disch := first | exact nl_i | exact nl_r | exact nl_0 | exact nl_n | exact nl_x | exact kd_r | exact kd_n | exact kd_x | exact kd_o | exact cats0 | exact cats1 | exact cats2 | exact cats3 | exact cats4 | exact nr_i | exact nr_l | exact nr_z0 | exact nr_z1 | exact ft_i | exact ft_l | omega | rfl | assumption | (refine i_ne0 ?_ ?_ ?_ <;> omega) | (refine j_ne0 ?_ ?_ ?_ <;> omega) | (refine i_new ?_ ?_ <;> omega) | (refine bl_t ?_; with_unfolding_all rfl) | exact ft_z0 | exact ft_z1) only [↓reduceIte, q_X10_isSound_3, q_X10_isSound_5, q_X10_isSound_8, q_X10_isSound_9, q_X10_isSound_12, q_X10_isSound_13, q_X10_isSound_14, q_X10_isSound_15, q_X10_isSound_16, q_X10_isSound_17, q_X10_isSound_18, q_X10_isSound_20, q_X10_isSound_23, q_X10_isSound_24, q_X10_isSound_27, q_X10_isSound_28, q_X10_isSound_29, q_X10_isSound_30, q_X10_isSound_31, q_X10_isSound_34, q_X10_isSound_35, q_X10_isSound_36, q_X10_isSound_37n, q_X10_isSound_37, q_X10_isSound_40, q_X10_isSound_41, q_X10_isSound_42, q_X10_isSound_45, q_X10_isSound_48, q_X10_isSound_49, q_X10_isSound_50, q_X10_isSound_51n, q_X10_isSound_51, q_X10_isSound_54, q_X10_isSound_55n, q_X10_isSound_55, q_X10_isSound_58, q_X10_isSound_59, q_X10_isSound_60, q_X10_isSound_63, q_X10_isSound_66, q_X10_isSound_67, q_X10_isSound_68, q_X10_isSound_71, i_add, i_sub, i_mul, i_neg, i_lt, i_le, i_eq, i_tm, i_div, i_j, j_i, j_add, j_sub, j_mul, j_neg, j_lt, j_le, j_eq, j_div, c_lt, c_le, c_gt, c_ge, c_eq, i_nat, rz_k, Nat.add_zero, Nat.zero_add, Nat.add_assoc, Nat.reduceAdd, if_true, if_false, gf_eq hy, vk_eq hy, List.getElem?_cons_zero, List.getElem?_cons_succ, aa_eq hG, ti, ti1, hg, hg2, rf_none, rf_some, eq_false c0, eq_false (show ¬ (8 : Int) ≤ (i : Int) + 1 by omega), e1, not_true_eq_false]
          | some g2 =>
            rw [q_X10_isSound_2]
            simp (disch := first | exact nl_i | exact nl_r | exact nl_0 | exact nl_n | exact nl_x | exact kd_r | exact kd_n | exact kd_x | exact kd_o | exact cats0 | exact cats1 | exact cats2 | exact cats3 | exact cats4 | exact nr_i | exact nr_l | exact nr_z0 | exact nr_z1 | exact ft_i | exact ft_l | omega | rfl | assumption | (refine i_ne0 ?_ ?_ ?_ <;> omega) | (refine j_ne0 ?_ ?_ ?_ <;> omega) | (refine i_new ?_ ?_ <;> omega) | (refine bl_t ?_; with_unfolding_all rfl) | exact ft_z0 | exact ft_z1) only [↓reduceIte, q_X10_isSound_3, q_X10_isSound_5, q_X10_isSound_8, q_X10_isSound_9, q_X10_isSound_12, q_X10_isSound_13, q_X10_isSound_14, q_X10_isSound_15, q_X10_isSound_16, q_X10_isSound_17, q_X10_isSound_18, q_X10_isSound_20, q_X10_isSound_23, q_X10_isSound_24, q_X10_isSound_27, q_X10_isSound_28, q_X10_isSound_29, q_X10_isSound_30, q_X10_isSound_31, q_X10_isSound_34, q_X10_isSound_35, q_X10_isSound_36, q_X10_isSound_37n, q_X10_isSound_37, q_X10_isSound_40, q_X10_isSound_41, q_X10_isSound_42, q_X10_isSound_45, q_X10_isSound_48, q_X10_isSound_49, q_X10_isSound_50, q_X10_isSound_51n, q_X10_isSound_51, q_X10_isSound_54, q_X10_isSound_55n, q_X10_isSound_55, q_X10_isSound_58, q_X10_isSound_59, q_X10_isSound_60, q_X10_isSound_63, q_X10_isSound_66, q_X10_isSound_67, q_X10_isSound_68, q_X10_isSound_71, i_add, i_sub, i_mul, i_neg, i_lt, i_le, i_eq, i_tm, i_div, i_j, j_i, j_add, j_sub, j_mul, j_neg, j_lt, j_le, j_eq, j_div, c_lt, c_le, c_gt, c_ge, c_eq, i_nat, rz_k, Nat.add_zero, Nat.zero_add, Nat.add_assoc, Nat.reduceAdd, if_true, if_false, gf_eq hy, vk_eq hy, List.getElem?_cons_zero, List.getElem?_cons_succ, aa_eq hG, ti, ti1, hg, hg2, rf_none, rf_some, eq_false c0, eq_false (show ¬ (8 : Int) ≤ (i : Int) + 1 by omega), e1, not_true_eq_false]
        · rw [q_X10_isSound_2]
          simp (disch := first | exact nl_i | exact nl_r | exact nl_0 | exact nl_n | exact nl_x | exact kd_r | exact kd_n | exact kd_x | exact kd_o | exact cats0 | exact cats1 | exact cats2 | exact cats3 | exact cats4 | exact nr_i | exact nr_l | exact nr_z0 | exact nr_z1 | exact ft_i | exact ft_l | omega | rfl | assumption | (refine i_ne0 ?_ ?_ ?_ <;> omega) | (refine j_ne0 ?_ ?_ ?_ <;> omega) | (refine i_new ?_ ?_ <;> omega) | (refine bl_t ?_; with_unfolding_all rfl) | exact ft_z0 | exact ft_z1) only [↓reduceIte, q_X10_isSound_3, q_X10_isSound_5, q_X10_isSound_8, q_X10_isSound_9, q_X10_isSound_12, q_X10_isSound_13, q_X10_isSound_14, q_X10_isSound_15, q_X10_isSound_16, q_X10_isSound_17, q_X10_isSound_18, q_X10_isSound_20, q_X10_isSound_23, q_X10_isSound_24, q_X10_isSound_27, q_X10_isSound_28, q_X10_isSound_29, q_X10_isSound_30, q_X10_isSound_31, q_X10_isSound_34, q_X10_isSound_35, q_X10_isSound_36, q_X10_isSound_37n, q_X10_isSound_37, q_X10_isSound_40, q_X10_isSound_41, q_X10_isSound_42, q_X10_isSound_45, q_X10_isSound_48, q_X10_isSound_49, q_X10_isSound_50, q_X10_isSound_51n, q_X10_isSound_51, q_X10_isSound_54, q_X10_isSound_55n, q_X10_isSound_55, q_X10_isSound_58, q_X10_isSound_59, q_X10_isSound_60, q_X10_isSound_63, q_X10_isSound_66, q_X10_isSound_67, q_X10_isSound_68, q_X10_isSound_71, i_add, i_sub, i_mul, i_neg, i_lt, i_le, i_eq, i_tm, i_div, i_j, j_i, j_add, j_sub, j_mul, j_neg, j_lt, j_le, j_eq, j_div, c_lt, c_le, c_gt, c_ge, c_eq, i_nat, rz_k, Nat.add_zero, Nat.zero_add, Nat.add_assoc, Nat.reduceAdd, if_true, if_false, gf_eq hy, vk_eq hy, List.getElem?_cons_zero, List.getElem?_cons_succ, aa_eq hG, ti, ti1, hg, rf_none, rf_some, eq_false c0, eq_true (show (8 : Int) ≤ (i : Int) + 1 by omega), e1, not_true_eq_false]
      | true =>
        rw [hv, zb_t] at e1
        have next : (∀ j, i + 1 ≤ j → j < 8 → G j ≠ none → (T j).2.2.2 = true) → ∀ j, i ≤ j → j < 8 → G j ≠ none → (T j).2.2.2 = true := by
          intro hall j k1 k2 k3
          by_cases hj : j = i
          · subst hj; exact hv
          · exact hall j (by omega) k2 k3
        by_cases hlast : i + 1 < 8
        · cases hg2 : G (i + 1) with
          | none =>
            obtain ⟨w', c, s, l2', l3', b1, b2, f, hm', hr⟩ := ih w1 (i + 1) (some (.ref g)) (some .null) nc ns (by omega) hy1 hm1 h1
            refine ⟨w', c, s, l2', l3', by omega, by omega, fr_trans f1 f, hm', ?_⟩
            have e : rz_G X (d + 5) mz_X10_isSound 2 [some (.ref 0), some (.int (Int32.ofInt (i : Int))), l2, l3] [] w nc ns = rz_G X (d + 5) mz_X10_isSound 2 [some (.ref 0), some (.int (Int32.ofInt ((i + 1 : Nat) : Int))), some (.ref g), some .null] [] w1 nc ns := by
              rw [q_X10_isSound_2]
              simp (disch := first | exact nl_i | exact nl_r | exact nl_0 | exact nl_n | exact nl_x | exact kd_r | exact kd_n | exact kd_x | exact kd_o | exact cats0 | exact cats1 | exact cats2 | exact cats3 | exact cats4 | exact nr_i | exact nr_l | exact nr_z0 | exact nr_z1 | exact ft_i | exact ft_l | omega | rfl | assumption | (refine i_ne0 ?_ ?_ ?_ <;> omega) | (refine j_ne0 ?_ ?_ ?_ <;> omega) | (refine i_new ?_ ?_ <;> omega) | (refine bl_t ?_; with_unfolding_all rfl) | exact ft_z0 | exact ft_z1) only [↓reduceIte, q_X10_isSound_3, q_X10_isSound_5, q_X10_isSound_8, q_X10_isSound_9, q_X10_isSound_12, q_X10_isSound_13, q_X10_isSound_14, q_X10_isSound_15, q_X10_isSound_16, q_X10_isSound_17, q_X10_isSound_18, q_X10_isSound_20, q_X10_isSound_23, q_X10_isSound_24, q_X10_isSound_27, q_X10_isSound_28, q_X10_isSound_29, q_X10_isSound_30, q_X10_isSound_31, q_X10_isSound_34, q_X10_isSound_35, q_X10_isSound_36, q_X10_isSound_37n, q_X10_isSound_37, q_X10_isSound_40, q_X10_isSound_41, q_X10_isSound_42, q_X10_isSound_45, q_X10_isSound_48, q_X10_isSound_49, q_X10_isSound_50, q_X10_isSound_51n, q_X10_isSound_51, q_X10_isSound_54, q_X10_isSound_55n, q_X10_isSound_55, q_X10_isSound_58, q_X10_isSound_59, q_X10_isSound_60, q_X10_isSound_63, q_X10_isSound_66, q_X10_isSound_67, q_X10_isSound_68, q_X10_isSound_71, i_add, i_sub, i_mul, i_neg, i_lt, i_le, i_eq, i_tm, i_div, i_j, j_i, j_add, j_sub, j_mul, j_neg, j_lt, j_le, j_eq, j_div, c_lt, c_le, c_gt, c_ge, c_eq, i_nat, rz_k, Nat.add_zero, Nat.zero_add, Nat.add_assoc, Nat.reduceAdd, if_true, if_false, gf_eq hy, vk_eq hy, List.getElem?_cons_zero, List.getElem?_cons_succ, aa_eq hG, ti, ti1, hg, hg2, rf_none, rf_some, eq_false c0, eq_false (show ¬ (8 : Int) ≤ (i : Int) + 1 by omega), e1, Int.reduceEq, not_false_eq_true]
              rfl
            rcases hr with ⟨k1, k2⟩ | ⟨⟨j, k1, k2, k3⟩, k4⟩
            · exact .inl ⟨next k1, e.trans k2⟩
            · exact .inr ⟨⟨j, by omega, k2, k3⟩, e.trans k4⟩
          | some g2 =>
            obtain ⟨p1, p2, p3, -⟩ := h1.2 i g (by omega) hg
            obtain ⟨p5, p6, p7, -⟩ := h1.2 (i + 1) g2 (by omega) hg2
            obtain ⟨l, c1, s1, e2, b3, b4⟩ := x_agree (X := X) (d := d) p3 p7 p2 p6
            have fl : rz_fr [4, 5, 6, 7, 8] w1 (w1 ++ l) := fr_app
            have hy2 : v_yard (w1 ++ l) kp := fr_get fl (by decide) hy1
            have hm2 : v_misc (w1 ++ l) := v_misc_fr (S := []) fr_app (by simp) hm1
            obtain ⟨w', c, s, l2', l3', b1, b2, f, hm', hr⟩ := ih (w1 ++ l) (i + 1) (some (.ref g)) (some (.ref g2)) (nc + c1) (ns + s1) (by omega) hy2 hm2 (zs_H_fr h1 fl (by decide))
            refine ⟨w', c1 + c, s1 + s, l2', l3', by omega, by omega, fr_trans f1 (fr_trans fl f), hm', ?_⟩
            have e : rz_G X (d + 5) mz_X10_isSound 2 [some (.ref 0), some (.int (Int32.ofInt (i : Int))), l2, l3] [] w nc ns = rz_G X (d + 5) mz_X10_isSound 2 [some (.ref 0), some (.int (Int32.ofInt ((i + 1 : Nat) : Int))), some (.ref g), some (.ref g2)] [] (w1 ++ l) (nc + c1) (ns + s1) := by
              rw [q_X10_isSound_2]
              simp (disch := first | exact nl_i | exact nl_r | exact nl_0 | exact nl_n | exact nl_x | exact kd_r | exact kd_n | exact kd_x | exact kd_o | exact cats0 | exact cats1 | exact cats2 | exact cats3 | exact cats4 | exact nr_i | exact nr_l | exact nr_z0 | exact nr_z1 | exact ft_i | exact ft_l | omega | rfl | assumption | (refine i_ne0 ?_ ?_ ?_ <;> omega) | (refine j_ne0 ?_ ?_ ?_ <;> omega) | (refine i_new ?_ ?_ <;> omega) | (refine bl_t ?_; with_unfolding_all rfl) | exact ft_z0 | exact ft_z1) only [↓reduceIte, q_X10_isSound_3, q_X10_isSound_5, q_X10_isSound_8, q_X10_isSound_9, q_X10_isSound_12, q_X10_isSound_13, q_X10_isSound_14, q_X10_isSound_15, q_X10_isSound_16, q_X10_isSound_17, q_X10_isSound_18, q_X10_isSound_20, q_X10_isSound_23, q_X10_isSound_24, q_X10_isSound_27, q_X10_isSound_28, q_X10_isSound_29, q_X10_isSound_30, q_X10_isSound_31, q_X10_isSound_34, q_X10_isSound_35, q_X10_isSound_36, q_X10_isSound_37n, q_X10_isSound_37, q_X10_isSound_40, q_X10_isSound_41, q_X10_isSound_42, q_X10_isSound_45, q_X10_isSound_48, q_X10_isSound_49, q_X10_isSound_50, q_X10_isSound_51n, q_X10_isSound_51, q_X10_isSound_54, q_X10_isSound_55n, q_X10_isSound_55, q_X10_isSound_58, q_X10_isSound_59, q_X10_isSound_60, q_X10_isSound_63, q_X10_isSound_66, q_X10_isSound_67, q_X10_isSound_68, q_X10_isSound_71, i_add, i_sub, i_mul, i_neg, i_lt, i_le, i_eq, i_tm, i_div, i_j, j_i, j_add, j_sub, j_mul, j_neg, j_lt, j_le, j_eq, j_div, c_lt, c_le, c_gt, c_ge, c_eq, i_nat, rz_k, Nat.add_zero, Nat.zero_add, Nat.add_assoc, Nat.reduceAdd, if_true, if_false, gf_eq hy, vk_eq hy, vk_eq p3, List.getElem?_cons_zero, List.getElem?_cons_succ, aa_eq hG, ti, ti1, hg, hg2, rf_none, rf_some, eq_false c0, eq_false (show ¬ (8 : Int) ≤ (i : Int) + 1 by omega), e1, e2, Int.reduceEq, not_false_eq_true]
              rfl
            rw [Nat.add_assoc, Nat.add_assoc] at hr
            rcases hr with ⟨k1, k2⟩ | ⟨⟨j, k1, k2, k3⟩, k4⟩
            · exact .inl ⟨next k1, e.trans k2⟩
            · exact .inr ⟨⟨j, by omega, k2, k3⟩, e.trans k4⟩
        · obtain ⟨w', c, s, l2', l3', b1, b2, f, hm', hr⟩ := ih w1 (i + 1) (some (.ref g)) (some .null) nc ns (by omega) hy1 hm1 h1
          refine ⟨w', c, s, l2', l3', by omega, by omega, fr_trans f1 f, hm', ?_⟩
          have e : rz_G X (d + 5) mz_X10_isSound 2 [some (.ref 0), some (.int (Int32.ofInt (i : Int))), l2, l3] [] w nc ns = rz_G X (d + 5) mz_X10_isSound 2 [some (.ref 0), some (.int (Int32.ofInt ((i + 1 : Nat) : Int))), some (.ref g), some .null] [] w1 nc ns := by
            rw [q_X10_isSound_2]
            simp (disch := first | exact nl_i | exact nl_r | exact nl_0 | exact nl_n | exact nl_x | exact kd_r | exact kd_n | exact kd_x | exact kd_o | exact cats0 | exact cats1 | exact cats2 | exact cats3 | exact cats4 | exact nr_i | exact nr_l | exact nr_z0 | exact nr_z1 | exact ft_i | exact ft_l | omega | rfl | assumption | (refine i_ne0 ?_ ?_ ?_ <;> omega) | (refine j_ne0 ?_ ?_ ?_ <;> omega) | (refine i_new ?_ ?_ <;> omega) | (refine bl_t ?_; with_unfolding_all rfl) | exact ft_z0 | exact ft_z1) only [↓reduceIte, q_X10_isSound_3, q_X10_isSound_5, q_X10_isSound_8, q_X10_isSound_9, q_X10_isSound_12, q_X10_isSound_13, q_X10_isSound_14, q_X10_isSound_15, q_X10_isSound_16, q_X10_isSound_17, q_X10_isSound_18, q_X10_isSound_20, q_X10_isSound_23, q_X10_isSound_24, q_X10_isSound_27, q_X10_isSound_28, q_X10_isSound_29, q_X10_isSound_30, q_X10_isSound_31, q_X10_isSound_34, q_X10_isSound_35, q_X10_isSound_36, q_X10_isSound_37n, q_X10_isSound_37, q_X10_isSound_40, q_X10_isSound_41, q_X10_isSound_42, q_X10_isSound_45, q_X10_isSound_48, q_X10_isSound_49, q_X10_isSound_50, q_X10_isSound_51n, q_X10_isSound_51, q_X10_isSound_54, q_X10_isSound_55n, q_X10_isSound_55, q_X10_isSound_58, q_X10_isSound_59, q_X10_isSound_60, q_X10_isSound_63, q_X10_isSound_66, q_X10_isSound_67, q_X10_isSound_68, q_X10_isSound_71, i_add, i_sub, i_mul, i_neg, i_lt, i_le, i_eq, i_tm, i_div, i_j, j_i, j_add, j_sub, j_mul, j_neg, j_lt, j_le, j_eq, j_div, c_lt, c_le, c_gt, c_ge, c_eq, i_nat, rz_k, Nat.add_zero, Nat.zero_add, Nat.add_assoc, Nat.reduceAdd, if_true, if_false, gf_eq hy, vk_eq hy, List.getElem?_cons_zero, List.getElem?_cons_succ, aa_eq hG, ti, ti1, hg, rf_none, rf_some, eq_false c0, eq_true (show (8 : Int) ≤ (i : Int) + 1 by omega), e1, Int.reduceEq, not_false_eq_true]
            rfl
          rcases hr with ⟨k1, k2⟩ | ⟨⟨j, k1, k2, k3⟩, k4⟩
          · exact .inl ⟨next k1, e.trans k2⟩
          · exact .inr ⟨⟨j, by omega, k2, k3⟩, e.trans k4⟩
end RZJA
