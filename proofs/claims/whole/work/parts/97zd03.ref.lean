/-! part 97zd03: level 2: isSound: the reference's slots -/
section RZJC
variable {X : rz_X} {d : Nat} {w : rz_W} {nc ns : Nat} {kp tl kd ty cl th : Int} {G : Nat → Option Nat} {T : Nat → Int × Int × Int × Bool} {H : Nat → Int32} {A B C : Nat → Int64}
theorem y_sec {s a b c r1 r2 r3 r4 : Int} {r : List (Int × Int)} {q : Nat → Int × Int} (hm : v_model w kp tl kd ty cl th) (g33 : v_za w 33 8 H) (g34 : v_la w 34 8 A) (g35 : v_la w 35 8 B) (g36 : v_la w 36 8 C) (ha : 0 ≤ s ∧ s ≤ 7) (hh : H s.toNat = Int32.ofInt 1) (ea : A s.toNat = Int64.ofInt a) (eb : B s.toNat = Int64.ofInt b) (ec : C s.toNat = Int64.ofInt c) (hr : 1 ≤ a ∧ 0 ≤ b ∧ b < c ∧ a * c ≤ 1000000) (hrr : zr_red 50 a b 0 c = some (r1, r2, r3, r4)) (hI : zt_I (zt_S r1 r2 r3 r4) r) (hl : r.length = 20) (hbd : zt_bd r) (hq : ∀ k, k < 20 → r.reverse[k]? = some (q k)) : ∃ l : rz_W, rz_ex X (d + 4) 207 [.ref 32, .int (Int32.ofInt s)] w = some (.inl (some (.int (Int32.ofInt (zt_asI (zt_as2 q 19 1))))), w.set 32 (rz_mo kp tl kd ty cl 0) ++ l, 2, 46) := by
  have hl0 := y_lacks0 (X := X) (d := d) hm g33 ha.1 ha.2 hh
  have hm1 := v_mo (t := 0) hm
  have fa : rz_fr [32] w (w.set 32 (rz_mo kp tl kd ty cl 0)) := fr_set (by decide)
  obtain ⟨l, p, F, e2, hF, hrp⟩ := y_stepsOf (X := X) (d := d) hm1 (fr_get fa (by decide) g34) (fr_get fa (by decide) g35) (fr_get fa (by decide) g36) ha ea eb ec hr hrr hI hl
  have hls := l_ysec (X := X) (d := d + 3) (nc := 2) (ns := 46) (i1 := Int32.ofInt s) (r := q) hF (fun k hk => by
    have z := zt_rp_at r hrp k _ (hq k hk)
    have := hbd (q k) (List.mem_reverse.mp (List.mem_of_getElem? (hq k hk)))
    exact ⟨z.1, z.2, this.1, this.2⟩) 19 1 rfl
  refine ⟨l, ?_⟩
  rw [← hls]
  simp (disch := first | exact nl_i | exact nl_r | exact nl_0 | exact nl_n | exact nl_x | exact kd_r | exact kd_n | exact kd_x | exact kd_o | exact cats0 | exact cats1 | exact cats2 | exact cats3 | exact cats4 | exact nr_i | exact nr_l | exact nr_z0 | exact nr_z1 | exact ft_i | exact ft_l | omega | rfl | assumption | (refine i_ne0 ?_ ?_ ?_ <;> omega) | (refine j_ne0 ?_ ?_ ?_ <;> omega) | (refine i_new ?_ ?_ <;> omega)) only [n_X11_second, q_X11_second_0, q_X11_second_1, q_X11_second_2, q_X11_second_5, q_X11_second_8, q_X11_second_9, q_X11_second_10, q_X11_second_11, q_X11_second_12, q_X11_second_15, q_X11_second_16, q_X11_second_17, i_add, i_sub, i_mul, i_neg, i_lt, i_le, i_eq, i_tm, i_div, i_j, j_i, j_add, j_sub, j_mul, j_neg, j_lt, j_le, j_eq, j_div, c_lt, c_le, c_gt, c_ge, c_eq, i_nat, rz_k, Nat.add_zero, Nat.zero_add, Nat.add_assoc, Nat.reduceAdd, if_true, if_false, hl0, vk_eq hm, vk_eq hm1, e2, Int.reduceEq, not_false_eq_true, not_true_eq_false]
  rfl
/-- the reference's slots, with the forms of their grids -/
def zs_Q (G : Nat → Option Nat) (T : Nat → Int × Int × Int × Bool) (H : Nat → Int32) (A B C : Nat → Int64) : Prop := ∀ i, i < 8 → match G i with
  | none => H i = Int32.ofInt 0
  | some _ => H i = Int32.ofInt 1 ∧ (1 ≤ (T i).1 ∧ 0 ≤ (T i).2.1 ∧ (T i).2.1 < (T i).2.2.1 ∧ (T i).1 * (T i).2.2.1 ≤ 1000000) ∧ (A i = Int64.ofInt (T i).1 ∧ B i = Int64.ofInt (T i).2.1 ∧ C i = Int64.ofInt (T i).2.2.1) ∧ zz_R (T i).1 (T i).2.1 (T i).2.2.1 (T i).2.2.2
/-- whether all that are held from a place on span -/
def zsl_all (G : Nat → Option Nat) (T : Nat → Int × Int × Int × Bool) : Nat → Nat → Bool
  | _, 0 => true
  | i, m + 1 => (match G i with | none => true | some _ => (T i).2.2.2) && zsl_all G T (i + 1) m
theorem y_slot {i : Nat} {g : Nat} {b : Bool} {l3 l4 l5 l6 : Option Value} (hQ : zs_Q G T H A B C) (hi : i < 8) (hg : G i = some g) (hm : v_model w kp tl kd ty cl th) (g33 : v_za w 33 8 H) (g34 : v_la w 34 8 A) (g35 : v_la w 35 8 B) (g36 : v_la w 36 8 C) : ∃ (w' : rz_W) (l3' l4' l5' : Option Value), rz_G X (d + 5) mz_X11_isSound 9 [some (.ref 32), some (.int (Int32.ofInt (zb b))), some (.int (Int32.ofInt (i : Int))), l3, l4, l5, l6] [] w nc ns = rz_G X (d + 5) mz_X11_isSound 9 [some (.ref 32), some (.int (Int32.ofInt (zb (b && (T i).2.2.2)))), some (.int (Int32.ofInt ((i + 1 : Nat) : Int))), l3', l4', l5', none] [] w' (nc + 4) (ns + 92) ∧ rz_fr [32] w w' ∧ v_model w' kp tl kd ty cl 0 := by
  have h0 := hQ i hi
  rw [hg] at h0
  obtain ⟨hh, hr, ⟨ea, eb, ec⟩, r1, r2, r3, r4, r, q, hrr, hI, hl, hbd, hq, hv⟩ := h0
  generalize (T i).1 = a at *
  generalize (T i).2.1 = bb at *
  generalize (T i).2.2.1 = c at *
  generalize (T i).2.2.2 = vv at *
  have ti : (i : Int).toNat = i := by omega
  obtain ⟨l1, p, F, e1, hF, hrp⟩ := y_stepsOf (X := X) (d := d + 2) (i := (i : Int)) hm g34 g35 g36 (by omega) (by rw [ti]; exact ea) (by rw [ti]; exact eb) (by rw [ti]; exact ec) hr hrr hI hl
  have f1 : rz_fr [] w (w ++ l1) := fr_app
  have hm1 : v_model (w ++ l1) kp tl kd ty cl th := fr_get f1 (by simp) hm
  obtain ⟨l2, e2⟩ := y_sec (X := X) (d := d + 1) (s := (i : Int)) hm1 (fr_get f1 (by simp) g33) (fr_get f1 (by simp) g34) (fr_get f1 (by simp) g35) (fr_get f1 (by simp) g36) (by omega) (by rw [ti]; exact hh) (by rw [ti]; exact ea) (by rw [ti]; exact eb) (by rw [ti]; exact ec) hr hrr hI hl hbd hq
  generalize hw2 : (w ++ l1).set 32 (rz_mo kp tl kd ty cl 0) ++ l2 = w2 at *
  have f2 : rz_fr [32] (w ++ l1) w2 := by rw [← hw2]; exact fr_trans (fr_set (by decide)) fr_app
  have hm2 : v_model w2 kp tl kd ty cl 0 := by
    rw [← hw2]; exact fr_get (S := []) fr_app (by simp) (v_mo (t := 0) hm1)
  have hp32 : p ≠ 32 := by
    intro hc
    have h1 : (w ++ l1)[p]? = _ := hF
    have h2 : (w ++ l1)[32]? = _ := hm1
    rw [hc, h2] at h1
    injection h1 with h1
    injection h1
  have hF2 : v_la w2 p 42 F := fr_get f2 (by simpa using hp32) hF
  have k34 : v_la w2 34 8 A := fr_get (fr_trans (fr_sub f1 (by simp)) f2) (by decide) g34
  have k36 : v_la w2 36 8 C := fr_get (fr_trans (fr_sub f1 (by simp)) f2) (by decide) g36
  have hA : a ≤ 1000000 := Int.le_trans (by have := Int.mul_le_mul_of_nonneg_left (show (1 : Int) ≤ c by omega) (show 0 ≤ a by omega); omega) hr.2.2.2
  have hC : c ≤ 1000000 := Int.le_trans (by have := Int.mul_le_mul_of_nonneg_right (show (1 : Int) ≤ a by omega) (show 0 ≤ c by omega); omega) hr.2.2.2
  have hAC : 0 ≤ a * c := Int.mul_nonneg (by omega) (by omega)
  have hac := x_absJ (X := X) (d := d + 4) (w := w2) (a := a * c) (by omega) (by omega)
  rw [show (((a * c).natAbs : Nat) : Int) = a * c by omega] at hac
  have c0 : ¬ (8 : Int) ≤ (i : Int) := by omega
  have ha1 : A (i : Int).toNat = Int64.ofInt a := by rw [ti]; exact ea
  have hc1 : C (i : Int).toNat = Int64.ofInt c := by rw [ti]; exact ec
  have hh1 : H (i : Int).toNat = Int32.ofInt 1 := by rw [ti]; exact hh
  unfold zz_ls at hv
  cases has : zt_as2 q 19 1 with
  | none =>
    rw [has] at e2 hv
    dsimp only at hv
    subst hv
    have e2' : rz_ex X (d + 5) 207 [.ref 32, .int (Int32.ofInt (i : Int))] (w ++ l1) = some (.inl (some (.int (Int32.ofInt (-1)))), w2, 2, 46) := e2
    refine ⟨w2, some (.ref p), some (.int (Int32.ofInt (-1))), some (.long (Int64.ofInt (a * c))), ?_, fr_trans (fr_sub f1 (by simp)) f2, hm2⟩
    rw [q_X11_isSound_9]
    cases b with
    | true =>
      simp (disch := first | exact nl_i | exact nl_r | exact nl_0 | exact nl_n | exact nl_x | exact kd_r | exact kd_n | exact kd_x | exact kd_o | exact cats0 | exact cats1 | exact cats2 | exact cats3 | exact cats4 | exact nr_i | exact nr_l | exact nr_z0 | exact nr_z1 | exact ft_i | exact ft_l | omega | rfl | assumption | (refine i_ne0 ?_ ?_ ?_ <;> omega) | (refine j_ne0 ?_ ?_ ?_ <;> omega) | (refine i_new ?_ ?_ <;> omega) | (refine bl_t ?_; with_unfolding_all rfl) | exact ft_z0 | exact ft_z1) only [↓reduceIte, q_X11_isSound_10, q_X11_isSound_12, q_X11_isSound_15, q_X11_isSound_16, q_X11_isSound_19, q_X11_isSound_20, q_X11_isSound_21, q_X11_isSound_24, q_X11_isSound_25, q_X11_isSound_26, q_X11_isSound_29, q_X11_isSound_30, q_X11_isSound_31, q_X11_isSound_32, q_X11_isSound_35, q_X11_isSound_37, q_X11_isSound_39, q_X11_isSound_42, q_X11_isSound_43, q_X11_isSound_46, q_X11_isSound_47, q_X11_isSound_48, q_X11_isSound_49, q_X11_isSound_52, q_X11_isSound_53, q_X11_isSound_54, q_X11_isSound_55, q_X11_isSound_58, q_X11_isSound_59, q_X11_isSound_60, q_X11_isSound_61, q_X11_isSound_62, q_X11_isSound_63, q_X11_isSound_65, q_X11_isSound_66, q_X11_isSound_67, q_X11_isSound_68, q_X11_isSound_69, q_X11_isSound_70, q_X11_isSound_71, q_X11_isSound_72, q_X11_isSound_73, q_X11_isSound_74, q_X11_isSound_75, q_X11_isSound_77, q_X11_isSound_78, q_X11_isSound_79, q_X11_isSound_80, q_X11_isSound_81, q_X11_isSound_83, q_X11_isSound_84, q_X11_isSound_87, q_X11_isSound_89, q_X11_isSound_92, q_X11_isSound_93, q_X11_isSound_96, q_X11_isSound_97, q_X11_isSound_98, q_X11_isSound_99, q_X11_isSound_102, q_X11_isSound_103, q_X11_isSound_104, q_X11_isSound_105, q_X11_isSound_106, q_X11_isSound_109, q_X11_isSound_110, q_X11_isSound_113, q_X11_isSound_114, q_X11_isSound_115, q_X11_isSound_118, i_add, i_sub, i_mul, i_neg, i_lt, i_le, i_eq, i_tm, i_div, i_j, j_i, j_add, j_sub, j_mul, j_neg, j_lt, j_le, j_eq, j_div, c_lt, c_le, c_gt, c_ge, c_eq, i_nat, rz_k, Nat.add_zero, Nat.zero_add, Nat.add_assoc, Nat.reduceAdd, if_true, if_false, vk_eq hm, gf_eq hm, vk_eq hm1, vk_eq hm2, gf_eq hm2, List.getElem?_cons_zero, List.getElem?_cons_succ, az_eq g33, hh1, e1, e2', al_eq k34, al_eq k36, ha1, hc1, hac, zb_t, Int.reduceEq, Int.reduceLE, not_true_eq_false, not_false_eq_true, eq_false c0, Bool.and_true]
      rfl
    | false =>
      simp (disch := first | exact nl_i | exact nl_r | exact nl_0 | exact nl_n | exact nl_x | exact kd_r | exact kd_n | exact kd_x | exact kd_o | exact cats0 | exact cats1 | exact cats2 | exact cats3 | exact cats4 | exact nr_i | exact nr_l | exact nr_z0 | exact nr_z1 | exact ft_i | exact ft_l | omega | rfl | assumption | (refine i_ne0 ?_ ?_ ?_ <;> omega) | (refine j_ne0 ?_ ?_ ?_ <;> omega) | (refine i_new ?_ ?_ <;> omega) | (refine bl_t ?_; with_unfolding_all rfl) | exact ft_z0 | exact ft_z1) only [↓reduceIte, q_X11_isSound_10, q_X11_isSound_12, q_X11_isSound_15, q_X11_isSound_16, q_X11_isSound_19, q_X11_isSound_20, q_X11_isSound_21, q_X11_isSound_24, q_X11_isSound_25, q_X11_isSound_26, q_X11_isSound_29, q_X11_isSound_30, q_X11_isSound_31, q_X11_isSound_32, q_X11_isSound_35, q_X11_isSound_37, q_X11_isSound_39, q_X11_isSound_42, q_X11_isSound_43, q_X11_isSound_46, q_X11_isSound_47, q_X11_isSound_48, q_X11_isSound_49, q_X11_isSound_52, q_X11_isSound_53, q_X11_isSound_54, q_X11_isSound_55, q_X11_isSound_58, q_X11_isSound_59, q_X11_isSound_60, q_X11_isSound_61, q_X11_isSound_62, q_X11_isSound_63, q_X11_isSound_65, q_X11_isSound_66, q_X11_isSound_67, q_X11_isSound_68, q_X11_isSound_69, q_X11_isSound_70, q_X11_isSound_71, q_X11_isSound_72, q_X11_isSound_73, q_X11_isSound_74, q_X11_isSound_75, q_X11_isSound_77, q_X11_isSound_78, q_X11_isSound_79, q_X11_isSound_80, q_X11_isSound_81, q_X11_isSound_83, q_X11_isSound_84, q_X11_isSound_87, q_X11_isSound_89, q_X11_isSound_92, q_X11_isSound_93, q_X11_isSound_96, q_X11_isSound_97, q_X11_isSound_98, q_X11_isSound_99, q_X11_isSound_102, q_X11_isSound_103, q_X11_isSound_104, q_X11_isSound_105, q_X11_isSound_106, q_X11_isSound_109, q_X11_isSound_110, q_X11_isSound_113, q_X11_isSound_114, q_X11_isSound_115, q_X11_isSound_118, i_add, i_sub, i_mul, i_neg, i_lt, i_le, i_eq, i_tm, i_div, i_j, j_i, j_add, j_sub, j_mul, j_neg, j_lt, j_le, j_eq, j_div, c_lt, c_le, c_gt, c_ge, c_eq, i_nat, rz_k, Nat.add_zero, Nat.zero_add, Nat.add_assoc, Nat.reduceAdd, if_true, if_false, vk_eq hm, gf_eq hm, vk_eq hm1, vk_eq hm2, gf_eq hm2, List.getElem?_cons_zero, List.getElem?_cons_succ, az_eq g33, hh1, e1, e2', al_eq k34, al_eq k36, ha1, hc1, hac, zb_f, Int.reduceEq, Int.reduceLE, not_true_eq_false, not_false_eq_true, eq_false c0, Bool.and_true]
      rfl
  | some k =>
    rw [has] at e2 hv
    dsimp only at hv
    have e2' : rz_ex X (d + 5) 207 [.ref 32, .int (Int32.ofInt (i : Int))] (w ++ l1) = some (.inl (some (.int (Int32.ofInt (k : Int)))), w2, 2, 46) := e2
    have hk := zz_as 19 1 k has
    have z0 := zt_rp_at r hrp 0 _ (hq 0 (by omega))
    have zk := zt_rp_at r hrp k _ (hq k (by omega))
    have b0 := hbd (q 0) (List.mem_reverse.mp (List.mem_of_getElem? (hq 0 (by omega))))
    have bk := hbd (q k) (List.mem_reverse.mp (List.mem_of_getElem? (hq k (by omega))))
    have t0 : F 0 = Int64.ofInt (q 0).1 := z0.1
    have t0' : F 1 = Int64.ofInt (q 0).2 := z0.2
    have tk : (2 * (k : Int)).toNat = 2 * k := by omega
    have tk' : (2 * (k : Int) + 1).toNat = 2 * k + 1 := by omega
    have tz : (0 : Int).toNat = 0 := rfl
    have tz' : (1 : Int).toNat = 1 := rfl
    have zk1 := zk.1
    have zk2 := zk.2
    clear hq hI hrp hbd e2 z0 zk hrr hQ
    generalize (q 0).1 = x at *
    generalize (q 0).2 = y at *
    generalize (q k).1 = u at *
    generalize (q k).2 = v at *
    have n1 := z_nmul (a := x) (b := v) (M := 100000000) (N := 100000000) (by omega) (by omega)
    have n2 := z_nmul (a := y) (b := u) (M := 100000000) (N := 100000000) (by omega) (by omega)
    have habs := x_absJ (X := X) (d := d + 4) (w := w2) (a := x * v - y * u) (by omega) (by omega)
    have hab : (x * v - y * u).natAbs ≤ 30000000000000000 := by omega
    refine ⟨w2, some (.ref p), some (.int (Int32.ofInt (k : Int))), some (.long (Int64.ofInt (x * v - y * u))), ?_, fr_trans (fr_sub f1 (by simp)) f2, hm2⟩
    rw [q_X11_isSound_9]
    have kk : (0 : Int) ≤ (k : Int) := by omega
    by_cases hW : ((x * v - y * u).natAbs : Int) = a * c
    · rw [decide_eq_true hW] at hv
      subst hv
      cases b with
      | true =>
        simp (disch := first | exact nl_i | exact nl_r | exact nl_0 | exact nl_n | exact nl_x | exact kd_r | exact kd_n | exact kd_x | exact kd_o | exact cats0 | exact cats1 | exact cats2 | exact cats3 | exact cats4 | exact nr_i | exact nr_l | exact nr_z0 | exact nr_z1 | exact ft_i | exact ft_l | omega | rfl | assumption | (refine i_ne0 ?_ ?_ ?_ <;> omega) | (refine j_ne0 ?_ ?_ ?_ <;> omega) | (refine i_new ?_ ?_ <;> omega) | (refine bl_t ?_; with_unfolding_all rfl) | exact ft_z0 | exact ft_z1) only [↓reduceIte, q_X11_isSound_10, q_X11_isSound_12, q_X11_isSound_15, q_X11_isSound_16, q_X11_isSound_19, q_X11_isSound_20, q_X11_isSound_21, q_X11_isSound_24, q_X11_isSound_25, q_X11_isSound_26, q_X11_isSound_29, q_X11_isSound_30, q_X11_isSound_31, q_X11_isSound_32, q_X11_isSound_35, q_X11_isSound_37, q_X11_isSound_39, q_X11_isSound_42, q_X11_isSound_43, q_X11_isSound_46, q_X11_isSound_47, q_X11_isSound_48, q_X11_isSound_49, q_X11_isSound_52, q_X11_isSound_53, q_X11_isSound_54, q_X11_isSound_55, q_X11_isSound_58, q_X11_isSound_59, q_X11_isSound_60, q_X11_isSound_61, q_X11_isSound_62, q_X11_isSound_63, q_X11_isSound_65, q_X11_isSound_66, q_X11_isSound_67, q_X11_isSound_68, q_X11_isSound_69, q_X11_isSound_70, q_X11_isSound_71, q_X11_isSound_72, q_X11_isSound_73, q_X11_isSound_74, q_X11_isSound_75, q_X11_isSound_77, q_X11_isSound_78, q_X11_isSound_79, q_X11_isSound_80, q_X11_isSound_81, q_X11_isSound_83, q_X11_isSound_84, q_X11_isSound_87, q_X11_isSound_89, q_X11_isSound_92, q_X11_isSound_93, q_X11_isSound_96, q_X11_isSound_97, q_X11_isSound_98, q_X11_isSound_99, q_X11_isSound_102, q_X11_isSound_103, q_X11_isSound_104, q_X11_isSound_105, q_X11_isSound_106, q_X11_isSound_109, q_X11_isSound_110, q_X11_isSound_113, q_X11_isSound_114, q_X11_isSound_115, q_X11_isSound_118, i_add, i_sub, i_mul, i_neg, i_lt, i_le, i_eq, i_tm, i_div, i_j, j_i, j_add, j_sub, j_mul, j_neg, j_lt, j_le, j_eq, j_div, c_lt, c_le, c_gt, c_ge, c_eq, i_nat, rz_k, Nat.add_zero, Nat.zero_add, Nat.add_assoc, Nat.reduceAdd, if_true, if_false, vk_eq hm, gf_eq hm, vk_eq hm1, vk_eq hm2, gf_eq hm2, List.getElem?_cons_zero, List.getElem?_cons_succ, az_eq g33, hh1, e1, e2', al_eq k34, al_eq k36, ha1, hc1, al_eq hF2, tz, tz', t0, t0', tk, tk', zk1, zk2, habs, zb_t, Int.reduceEq, Int.reduceLE, not_true_eq_false, not_false_eq_true, eq_false c0, Bool.and_true, eq_true kk, eq_true hW]
        rfl
      | false =>
        simp (disch := first | exact nl_i | exact nl_r | exact nl_0 | exact nl_n | exact nl_x | exact kd_r | exact kd_n | exact kd_x | exact kd_o | exact cats0 | exact cats1 | exact cats2 | exact cats3 | exact cats4 | exact nr_i | exact nr_l | exact nr_z0 | exact nr_z1 | exact ft_i | exact ft_l | omega | rfl | assumption | (refine i_ne0 ?_ ?_ ?_ <;> omega) | (refine j_ne0 ?_ ?_ ?_ <;> omega) | (refine i_new ?_ ?_ <;> omega) | (refine bl_t ?_; with_unfolding_all rfl) | exact ft_z0 | exact ft_z1) only [↓reduceIte, q_X11_isSound_10, q_X11_isSound_12, q_X11_isSound_15, q_X11_isSound_16, q_X11_isSound_19, q_X11_isSound_20, q_X11_isSound_21, q_X11_isSound_24, q_X11_isSound_25, q_X11_isSound_26, q_X11_isSound_29, q_X11_isSound_30, q_X11_isSound_31, q_X11_isSound_32, q_X11_isSound_35, q_X11_isSound_37, q_X11_isSound_39, q_X11_isSound_42, q_X11_isSound_43, q_X11_isSound_46, q_X11_isSound_47, q_X11_isSound_48, q_X11_isSound_49, q_X11_isSound_52, q_X11_isSound_53, q_X11_isSound_54, q_X11_isSound_55, q_X11_isSound_58, q_X11_isSound_59, q_X11_isSound_60, q_X11_isSound_61, q_X11_isSound_62, q_X11_isSound_63, q_X11_isSound_65, q_X11_isSound_66, q_X11_isSound_67, q_X11_isSound_68, q_X11_isSound_69, q_X11_isSound_70, q_X11_isSound_71, q_X11_isSound_72, q_X11_isSound_73, q_X11_isSound_74, q_X11_isSound_75, q_X11_isSound_77, q_X11_isSound_78, q_X11_isSound_79, q_X11_isSound_80, q_X11_isSound_81, q_X11_isSound_83, q_X11_isSound_84, q_X11_isSound_87, q_X11_isSound_89, q_X11_isSound_92, q_X11_isSound_93, q_X11_isSound_96, q_X11_isSound_97, q_X11_isSound_98, q_X11_isSound_99, q_X11_isSound_102, q_X11_isSound_103, q_X11_isSound_104, q_X11_isSound_105, q_X11_isSound_106, q_X11_isSound_109, q_X11_isSound_110, q_X11_isSound_113, q_X11_isSound_114, q_X11_isSound_115, q_X11_isSound_118, i_add, i_sub, i_mul, i_neg, i_lt, i_le, i_eq, i_tm, i_div, i_j, j_i, j_add, j_sub, j_mul, j_neg, j_lt, j_le, j_eq, j_div, c_lt, c_le, c_gt, c_ge, c_eq, i_nat, rz_k, Nat.add_zero, Nat.zero_add, Nat.add_assoc, Nat.reduceAdd, if_true, if_false, vk_eq hm, gf_eq hm, vk_eq hm1, vk_eq hm2, gf_eq hm2, List.getElem?_cons_zero, List.getElem?_cons_succ, az_eq g33, hh1, e1, e2', al_eq k34, al_eq k36, ha1, hc1, al_eq hF2, tz, tz', t0, t0', tk, tk', zk1, zk2, habs, zb_f, Int.reduceEq, Int.reduceLE, not_true_eq_false, not_false_eq_true, eq_false c0, Bool.and_true, eq_true kk, eq_true hW]
        rfl
    · rw [decide_eq_false hW] at hv
      subst hv
      cases b with
      | true =>
        simp (disch := first | exact nl_i | exact nl_r | exact nl_0 | exact nl_n | exact nl_x | exact kd_r | exact kd_n | exact kd_x | exact kd_o | exact cats0 | exact cats1 | exact cats2 | exact cats3 | exact cats4 | exact nr_i | exact nr_l | exact nr_z0 | exact nr_z1 | exact ft_i | exact ft_l | omega | rfl | assumption | (refine i_ne0 ?_ ?_ ?_ <;> omega) | (refine j_ne0 ?_ ?_ ?_ <;> omega) | (refine i_new ?_ ?_ <;> omega) | (refine bl_t ?_; with_unfolding_all rfl) | exact ft_z0 | exact ft_z1) only [↓reduceIte, q_X11_isSound_10, q_X11_isSound_12, q_X11_isSound_15, q_X11_isSound_16, q_X11_isSound_19, q_X11_isSound_20, q_X11_isSound_21, q_X11_isSound_24, q_X11_isSound_25, q_X11_isSound_26, q_X11_isSound_29, q_X11_isSound_30, q_X11_isSound_31, q_X11_isSound_32, q_X11_isSound_35, q_X11_isSound_37, q_X11_isSound_39, q_X11_isSound_42, q_X11_isSound_43, q_X11_isSound_46, q_X11_isSound_47, q_X11_isSound_48, q_X11_isSound_49, q_X11_isSound_52, q_X11_isSound_53, q_X11_isSound_54, q_X11_isSound_55, q_X11_isSound_58, q_X11_isSound_59, q_X11_isSound_60, q_X11_isSound_61, q_X11_isSound_62, q_X11_isSound_63, q_X11_isSound_65, q_X11_isSound_66, q_X11_isSound_67, q_X11_isSound_68, q_X11_isSound_69, q_X11_isSound_70, q_X11_isSound_71, q_X11_isSound_72, q_X11_isSound_73, q_X11_isSound_74, q_X11_isSound_75, q_X11_isSound_77, q_X11_isSound_78, q_X11_isSound_79, q_X11_isSound_80, q_X11_isSound_81, q_X11_isSound_83, q_X11_isSound_84, q_X11_isSound_87, q_X11_isSound_89, q_X11_isSound_92, q_X11_isSound_93, q_X11_isSound_96, q_X11_isSound_97, q_X11_isSound_98, q_X11_isSound_99, q_X11_isSound_102, q_X11_isSound_103, q_X11_isSound_104, q_X11_isSound_105, q_X11_isSound_106, q_X11_isSound_109, q_X11_isSound_110, q_X11_isSound_113, q_X11_isSound_114, q_X11_isSound_115, q_X11_isSound_118, i_add, i_sub, i_mul, i_neg, i_lt, i_le, i_eq, i_tm, i_div, i_j, j_i, j_add, j_sub, j_mul, j_neg, j_lt, j_le, j_eq, j_div, c_lt, c_le, c_gt, c_ge, c_eq, i_nat, rz_k, Nat.add_zero, Nat.zero_add, Nat.add_assoc, Nat.reduceAdd, if_true, if_false, vk_eq hm, gf_eq hm, vk_eq hm1, vk_eq hm2, gf_eq hm2, List.getElem?_cons_zero, List.getElem?_cons_succ, az_eq g33, hh1, e1, e2', al_eq k34, al_eq k36, ha1, hc1, al_eq hF2, tz, tz', t0, t0', tk, tk', zk1, zk2, habs, zb_t, zb_f, Int.reduceEq, Int.reduceLE, not_true_eq_false, not_false_eq_true, eq_false c0, Bool.and_false, eq_true kk, eq_false hW]
        rfl
      | false =>
        simp (disch := first | exact nl_i | exact nl_r | exact nl_0 | exact nl_n | exact nl_x | exact kd_r | exact kd_n | exact kd_x | exact kd_o | exact cats0 | exact cats1 | exact cats2 | exact cats3 | exact cats4 | exact nr_i | exact nr_l | exact nr_z0 | exact nr_z1 | exact ft_i | exact ft_l | omega | rfl | assumption | (refine i_ne0 ?_ ?_ ?_ <;> omega) | (refine j_ne0 ?_ ?_ ?_ <;> omega) | (refine i_new ?_ ?_ <;> omega) | (refine bl_t ?_; with_unfolding_all rfl) | exact ft_z0 | exact ft_z1) only [↓reduceIte, q_X11_isSound_10, q_X11_isSound_12, q_X11_isSound_15, q_X11_isSound_16, q_X11_isSound_19, q_X11_isSound_20, q_X11_isSound_21, q_X11_isSound_24, q_X11_isSound_25, q_X11_isSound_26, q_X11_isSound_29, q_X11_isSound_30, q_X11_isSound_31, q_X11_isSound_32, q_X11_isSound_35, q_X11_isSound_37, q_X11_isSound_39, q_X11_isSound_42, q_X11_isSound_43, q_X11_isSound_46, q_X11_isSound_47, q_X11_isSound_48, q_X11_isSound_49, q_X11_isSound_52, q_X11_isSound_53, q_X11_isSound_54, q_X11_isSound_55, q_X11_isSound_58, q_X11_isSound_59, q_X11_isSound_60, q_X11_isSound_61, q_X11_isSound_62, q_X11_isSound_63, q_X11_isSound_65, q_X11_isSound_66, q_X11_isSound_67, q_X11_isSound_68, q_X11_isSound_69, q_X11_isSound_70, q_X11_isSound_71, q_X11_isSound_72, q_X11_isSound_73, q_X11_isSound_74, q_X11_isSound_75, q_X11_isSound_77, q_X11_isSound_78, q_X11_isSound_79, q_X11_isSound_80, q_X11_isSound_81, q_X11_isSound_83, q_X11_isSound_84, q_X11_isSound_87, q_X11_isSound_89, q_X11_isSound_92, q_X11_isSound_93, q_X11_isSound_96, q_X11_isSound_97, q_X11_isSound_98, q_X11_isSound_99, q_X11_isSound_102, q_X11_isSound_103, q_X11_isSound_104, q_X11_isSound_105, q_X11_isSound_106, q_X11_isSound_109, q_X11_isSound_110, q_X11_isSound_113, q_X11_isSound_114, q_X11_isSound_115, q_X11_isSound_118, i_add, i_sub, i_mul, i_neg, i_lt, i_le, i_eq, i_tm, i_div, i_j, j_i, j_add, j_sub, j_mul, j_neg, j_lt, j_le, j_eq, j_div, c_lt, c_le, c_gt, c_ge, c_eq, i_nat, rz_k, Nat.add_zero, Nat.zero_add, Nat.add_assoc, Nat.reduceAdd, if_true, if_false, vk_eq hm, gf_eq hm, vk_eq hm1, vk_eq hm2, gf_eq hm2, List.getElem?_cons_zero, List.getElem?_cons_succ, az_eq g33, hh1, e1, e2', al_eq k34, al_eq k36, ha1, hc1, al_eq hF2, tz, tz', t0, t0', tk, tk', zk1, zk2, habs, zb_f, Int.reduceEq, Int.reduceLE, not_true_eq_false, not_false_eq_true, eq_false c0, Bool.and_false, eq_true kk, eq_false hW]
        rfl
end RZJC
