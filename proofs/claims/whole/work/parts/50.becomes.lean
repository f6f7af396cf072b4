/-! part 50: level 2: a slot becomes a grid: the reference's -/
section RZBE
variable {X : rz_X} {d : Nat} {w : rz_W} {nc ns : Nat} {kp tl kd ty cl th : Int}
theorem sh_updZ {f : Nat → Int32} {i : Nat} (h : 1 ≤ i) : upd (zf_sh f i) (i - 1) (f i) = zf_sh f (i + 1) := by
  rw [← sh_upd h, sh_at]
theorem sh_updLZ {f : Nat → Int64} {i : Nat} (h : 1 ≤ i) : vp_updL (zf_sh f i) (i - 1) (f i) = zf_sh f (i + 1) := by
  rw [← sh_updL h, sh_at]
theorem l_bshift {KT KH : Nat → Int32} {KA KB KC : Nat → Int64} {l0 l1 l2 l3 l4 l5 l6 l7 : Option Value} (h0 : l0 = some (.ref 32)) (h7 : rz_nl l7 = true) (n : Nat) : ∀ (i : Nat) (w : rz_W), i + n = 10 → 1 ≤ i → v_model w kp tl kd ty cl th → v_ia w 37 10 (zf_sh KT i) → v_za w 38 10 (zf_sh KH i) → v_la w 39 10 (zf_sh KA i) → v_la w 40 10 (zf_sh KB i) → v_la w 41 10 (zf_sh KC i) → (∀ j, j < 10 → vp_nar .boolean (KH j) = KH j) → ∃ w', rz_G X d mz_X11_becomes 12 [l0, l1, l2, l3, l4, l5, l6, l7, some (.int (Int32.ofInt i))] [] w nc ns = rz_G X d mz_X11_becomes 105 [l0, l1, l2, l3, l4, l5, l6, l7, some (.int (Int32.ofInt 10))] [] w' nc ns ∧ rz_fr [37, 38, 39, 40, 41] w w' ∧ v_ia w' 37 10 (zf_sh KT 10) ∧ v_za w' 38 10 (zf_sh KH 10) ∧ v_la w' 39 10 (zf_sh KA 10) ∧ v_la w' 40 10 (zf_sh KB 10) ∧ v_la w' 41 10 (zf_sh KC 10) := by
  subst h0
  induction n with
  | zero =>
    intro i w hi h1 hm a b c e f hb
    obtain rfl : i = 10 := by omega
    refine ⟨w, ?_, fr_refl, a, b, c, e, f⟩
    rw [q_X11_becomes_12]
    simp (disch := first | exact nl_i | exact nl_r | exact nl_0 | exact nl_n | exact nl_x | exact kd_r | exact kd_n | exact kd_x | exact kd_o | exact cats0 | exact cats1 | exact cats2 | exact cats3 | exact cats4 | exact nr_i | exact nr_l | exact nr_z0 | exact nr_z1 | exact ft_i | exact ft_l | omega | rfl | assumption | (refine i_ne0 ?_ ?_ ?_ <;> omega) | (refine j_ne0 ?_ ?_ ?_ <;> omega) | (refine i_new ?_ ?_ <;> omega) | (refine bl_t ?_; with_unfolding_all rfl) | exact ft_z0 | exact ft_z1) only [q_X11_becomes_14, q_X11_becomes_16, i_add, i_sub, i_mul, i_neg, i_lt, i_le, i_eq, i_tm, i_div, i_j, j_i, j_add, j_sub, j_mul, j_neg, j_lt, j_le, j_eq, j_div, c_lt, c_le, c_gt, c_ge, c_eq, i_nat, rz_k, Nat.add_zero, Nat.zero_add, Nat.add_assoc, Nat.reduceAdd, if_true, if_false]
    rw [if_pos (by omega)]
    rfl
  | succ n ih =>
    intro i w hi h1 hm a b c e f hb
    have hc1 : ((i : Int) - 1).toNat = i - 1 := by omega
    have hc2 : (i : Int).toNat = i := by omega
    have la := w_lt a
    have lb := w_lt b
    have lc := w_lt c
    have le := w_lt e
    have lf := w_lt f
    generalize hw1 : w.set 37 (.inl (.int, 10, .inl (zf_sh KT (i + 1)))) = w1
    have f1 : rz_fr [37] w w1 := by rw [← hw1]; exact fr_set (by decide)
    have b1 : v_za w1 38 10 (zf_sh KH i) := fr_get f1 (by decide) b
    generalize hw2 : w1.set 38 (.inl (.boolean, 10, .inl (zf_sh KH (i + 1)))) = w2
    have f2 : rz_fr [38] w1 w2 := by rw [← hw2]; exact fr_set (by decide)
    have c1 : v_la w2 39 10 (zf_sh KA i) := fr_get f2 (by decide) (fr_get f1 (by decide) c)
    generalize hw3 : w2.set 39 (.inl (.long, 10, .inr (.inl (zf_sh KA (i + 1))))) = w3
    have f3 : rz_fr [39] w2 w3 := by rw [← hw3]; exact fr_set (by decide)
    have e1 : v_la w3 40 10 (zf_sh KB i) := fr_get f3 (by decide) (fr_get f2 (by decide) (fr_get f1 (by decide) e))
    generalize hw4 : w3.set 40 (.inl (.long, 10, .inr (.inl (zf_sh KB (i + 1))))) = w4
    have f4 : rz_fr [40] w3 w4 := by rw [← hw4]; exact fr_set (by decide)
    have g1 : v_la w4 41 10 (zf_sh KC i) := fr_get f4 (by decide) (fr_get f3 (by decide) (fr_get f2 (by decide) (fr_get f1 (by decide) f)))
    generalize hw5 : w4.set 41 (.inl (.long, 10, .inr (.inl (zf_sh KC (i + 1))))) = w5
    have f5 : rz_fr [41] w4 w5 := by rw [← hw5]; exact fr_set (by decide)
    have m1 : v_model w1 kp tl kd ty cl th := fr_get f1 (by decide) hm
    have m2 : v_model w2 kp tl kd ty cl th := fr_get f2 (by decide) m1
    have m3 : v_model w3 kp tl kd ty cl th := fr_get f3 (by decide) m2
    have m4 : v_model w4 kp tl kd ty cl th := fr_get f4 (by decide) m3
    have m5 : v_model w5 kp tl kd ty cl th := fr_get f5 (by decide) m4
    have hbi := hb i (by omega)
    have f15 : rz_fr [37, 38, 39, 40, 41] w w5 := fr_trans (fr_sub f1 (by decide)) (fr_trans (fr_sub f2 (by decide)) (fr_trans (fr_sub f3 (by decide)) (fr_trans (fr_sub f4 (by decide)) (fr_sub f5 (by decide)))))
    obtain ⟨w', e2, f6, r⟩ := ih (i + 1) w5 (by omega) (by omega) m5 (fr_get f5 (by decide) (fr_get f4 (by decide) (fr_get f3 (by decide) (fr_get f2 (by decide) (by rw [← hw1]; exact w_eq la))))) (fr_get f5 (by decide) (fr_get f4 (by decide) (fr_get f3 (by decide) (by rw [← hw2]; exact w_eq (w_lt b1))))) (fr_get f5 (by decide) (fr_get f4 (by decide) (by rw [← hw3]; exact w_eq (w_lt c1)))) (fr_get f5 (by decide) (by rw [← hw4]; exact w_eq (w_lt e1))) (by rw [← hw5]; exact w_eq (w_lt g1)) hb
    refine ⟨w', Eq.trans ?_ e2, fr_trans f15 f6, r⟩
    rw [q_X11_becomes_12]
    simp (disch := first | exact nl_i | exact nl_r | exact nl_0 | exact nl_n | exact nl_x | exact kd_r | exact kd_n | exact kd_x | exact kd_o | exact cats0 | exact cats1 | exact cats2 | exact cats3 | exact cats4 | exact nr_i | exact nr_l | exact nr_z0 | exact nr_z1 | exact ft_i | exact ft_l | omega | rfl | assumption | (refine i_ne0 ?_ ?_ ?_ <;> omega) | (refine j_ne0 ?_ ?_ ?_ <;> omega) | (refine i_new ?_ ?_ <;> omega) | (refine bl_t ?_; with_unfolding_all rfl) | exact ft_z0 | exact ft_z1) only [n_X11_becomes, q_X11_becomes_0, q_X11_becomes_1, q_X11_becomes_4, q_X11_becomes_6, q_X11_becomes_9, q_X11_becomes_10, q_X11_becomes_19, q_X11_becomes_20, q_X11_becomes_23, q_X11_becomes_25, q_X11_becomes_26, q_X11_becomes_27, q_X11_becomes_28, q_X11_becomes_31, q_X11_becomes_33, q_X11_becomes_33x, q_X11_becomes_34, q_X11_becomes_35, q_X11_becomes_36, q_X11_becomes_39, q_X11_becomes_41, q_X11_becomes_42, q_X11_becomes_43, q_X11_becomes_44, q_X11_becomes_47, q_X11_becomes_49, q_X11_becomes_50, q_X11_becomes_51, q_X11_becomes_52, q_X11_becomes_55, q_X11_becomes_57, q_X11_becomes_58, q_X11_becomes_59, q_X11_becomes_60, q_X11_becomes_63, q_X11_becomes_65, q_X11_becomes_66, q_X11_becomes_67, q_X11_becomes_68, q_X11_becomes_71, q_X11_becomes_73, q_X11_becomes_74, q_X11_becomes_75, q_X11_becomes_76, q_X11_becomes_79, q_X11_becomes_81, q_X11_becomes_82, q_X11_becomes_83, q_X11_becomes_84, q_X11_becomes_87, q_X11_becomes_89, q_X11_becomes_90, q_X11_becomes_91, q_X11_becomes_92, q_X11_becomes_95, q_X11_becomes_97, q_X11_becomes_98, q_X11_becomes_99, q_X11_becomes_102, q_X11_becomes_106, q_X11_becomes_106r, q_X11_becomes_107, q_X11_becomes_110, q_X11_becomes_111, q_X11_becomes_112, q_X11_becomes_115, q_X11_becomes_116, q_X11_becomes_119, q_X11_becomes_120, q_X11_becomes_123, q_X11_becomes_124, q_X11_becomes_125, q_X11_becomes_126, q_X11_becomes_129, q_X11_becomes_130, q_X11_becomes_133, q_X11_becomes_134, q_X11_becomes_137, q_X11_becomes_138, q_X11_becomes_139, q_X11_becomes_140, q_X11_becomes_141, q_X11_becomes_144, q_X11_becomes_145, q_X11_becomes_148, q_X11_becomes_149, q_X11_becomes_152, q_X11_becomes_153, q_X11_becomes_154, q_X11_becomes_155, q_X11_becomes_156, q_X11_becomes_159, q_X11_becomes_160, q_X11_becomes_163, q_X11_becomes_164, q_X11_becomes_167, q_X11_becomes_168, q_X11_becomes_169, q_X11_becomes_170, q_X11_becomes_171, q_X11_becomes_174, q_X11_becomes_175, q_X11_becomes_178, q_X11_becomes_179, q_X11_becomes_182, q_X11_becomes_183, q_X11_becomes_184, q_X11_becomes_185, q_X11_becomes_186, q_X11_becomes_186r, q_X11_becomes_187, q_X11_becomes_190, q_X11_becomes_191, q_X11_becomes_192, q_X11_becomes_195, q_X11_becomes_196, q_X11_becomes_199, q_X11_becomes_200, q_X11_becomes_201, q_X11_becomes_202, q_X11_becomes_203, q_X11_becomes_206, q_X11_becomes_207, q_X11_becomes_208, q_X11_becomes_209, q_X11_becomes_210, q_X11_becomes_213, q_X11_becomes_214, q_X11_becomes_216, q_X11_becomes_217, q_X11_becomes_218, q_X11_becomes_221, q_X11_becomes_222, q_X11_becomes_224, q_X11_becomes_225, q_X11_becomes_226, q_X11_becomes_228, q_X11_becomes_229, q_X11_becomes_230, q_X11_becomes_14, q_X11_becomes_16, i_add, i_sub, i_mul, i_neg, i_lt, i_le, i_eq, i_tm, i_div, i_j, j_i, j_add, j_sub, j_mul, j_neg, j_lt, j_le, j_eq, j_div, c_lt, c_le, c_gt, c_ge, c_eq, i_nat, rz_k, Nat.add_zero, Nat.zero_add, Nat.add_assoc, Nat.reduceAdd, if_true, if_false, gf_eq hm, List.getElem?_cons_zero, List.getElem?_cons_succ, ai_eq a, si_eq a, hc1, hc2, sh_at, sh_updZ h1, hw1, gf_eq m1, az_eq b1, sz_eq b1, hw2, gf_eq m2, al_eq c1, sl_eq c1, sh_updLZ h1, hw3, gf_eq m3, al_eq e1, sl_eq e1, hw4, gf_eq m4, al_eq g1, sl_eq g1, hw5]
    rw [if_neg (by omega)]
    rfl
theorem l_becomes {A B C s kk : Int} {H KT KH : Nat → Int32} {fA fB fC KA KB KC : Nat → Int64} {l8 : Option Value} (hm : v_model w kk tl kd ty cl th) (hk : 0 ≤ kk ∧ kk ≤ 9) (hs : 0 ≤ s ∧ s ≤ 7) (g33 : v_za w 33 8 H) (g34 : v_la w 34 8 fA) (g35 : v_la w 35 8 fB) (g36 : v_la w 36 8 fC) (g37 : v_ia w 37 10 KT) (g38 : v_za w 38 10 KH) (g39 : v_la w 39 10 KA) (g40 : v_la w 40 10 KB) (g41 : v_la w 41 10 KC) (hb : vp_nar .boolean (H s.toNat) = H s.toNat) : ∃ w', rz_G X d mz_X11_becomes 115 [some (.ref 32), some (.int (Int32.ofInt s)), some (.long (Int64.ofInt A)), none, some (.long (Int64.ofInt B)), none, some (.long (Int64.ofInt C)), none, l8] [] w nc ns = some (.inl (some (.int (Int32.ofInt (A * C)))), w', nc, ns) ∧ rz_fr [32, 33, 34, 35, 36, 37, 38, 39, 40, 41] w w' ∧ v_model w' (kk + 1) tl kd ty cl th ∧ v_za w' 33 8 (upd H s.toNat (Int32.ofInt 1)) ∧ v_la w' 34 8 (vp_updL fA s.toNat (Int64.ofInt A)) ∧ v_la w' 35 8 (vp_updL fB s.toNat (Int64.ofInt B)) ∧ v_la w' 36 8 (vp_updL fC s.toNat (Int64.ofInt C)) ∧ v_ia w' 37 10 (upd KT kk.toNat (Int32.ofInt s)) ∧ v_za w' 38 10 (upd KH kk.toNat (H s.toNat)) ∧ v_la w' 39 10 (vp_updL KA kk.toNat (fA s.toNat)) ∧ v_la w' 40 10 (vp_updL KB kk.toNat (fB s.toNat)) ∧ v_la w' 41 10 (vp_updL KC kk.toNat (fC s.toNat)) := by
  generalize hw1 : w.set 37 (.inl (.int, 10, .inl (upd KT kk.toNat (Int32.ofInt s)))) = w1
  have f1 : rz_fr [37] w w1 := by rw [← hw1]; exact fr_set (by decide)
  have r1 : v_ia w1 37 10 (upd KT kk.toNat (Int32.ofInt s)) := by rw [← hw1]; exact w_eq (w_lt g37)
  have b1 : v_za w1 38 10 KH := fr_get f1 (by decide) g38
  generalize hw2 : w1.set 38 (.inl (.boolean, 10, .inl (upd KH kk.toNat (H s.toNat)))) = w2
  have f2 : rz_fr [38] w1 w2 := by rw [← hw2]; exact fr_set (by decide)
  have r2 : v_za w2 38 10 (upd KH kk.toNat (H s.toNat)) := by rw [← hw2]; exact w_eq (w_lt b1)
  have f12 : rz_fr [37, 38] w w2 := fr_trans (fr_sub f1 (by decide)) (fr_sub f2 (by decide))
  have c1 : v_la w2 39 10 KA := fr_get f12 (by decide) g39
  generalize hw3 : w2.set 39 (.inl (.long, 10, .inr (.inl (vp_updL KA kk.toNat (fA s.toNat))))) = w3
  have f3 : rz_fr [39] w2 w3 := by rw [← hw3]; exact fr_set (by decide)
  have r3 : v_la w3 39 10 (vp_updL KA kk.toNat (fA s.toNat)) := by rw [← hw3]; exact w_eq (w_lt c1)
  have f13 : rz_fr [37, 38, 39] w w3 := fr_trans (fr_sub f12 (by decide)) (fr_sub f3 (by decide))
  have e1 : v_la w3 40 10 KB := fr_get f13 (by decide) g40
  generalize hw4 : w3.set 40 (.inl (.long, 10, .inr (.inl (vp_updL KB kk.toNat (fB s.toNat))))) = w4
  have f4 : rz_fr [40] w3 w4 := by rw [← hw4]; exact fr_set (by decide)
  have r4 : v_la w4 40 10 (vp_updL KB kk.toNat (fB s.toNat)) := by rw [← hw4]; exact w_eq (w_lt e1)
  have f14 : rz_fr [37, 38, 39, 40] w w4 := fr_trans (fr_sub f13 (by decide)) (fr_sub f4 (by decide))
  have h1 : v_la w4 41 10 KC := fr_get f14 (by decide) g41
  generalize hw5 : w4.set 41 (.inl (.long, 10, .inr (.inl (vp_updL KC kk.toNat (fC s.toNat))))) = w5
  have f5 : rz_fr [41] w4 w5 := by rw [← hw5]; exact fr_set (by decide)
  have r5 : v_la w5 41 10 (vp_updL KC kk.toNat (fC s.toNat)) := by rw [← hw5]; exact w_eq (w_lt h1)
  have f15 : rz_fr [37, 38, 39, 40, 41] w w5 := fr_trans (fr_sub f14 (by decide)) (fr_sub f5 (by decide))
  have m1 : v_model w1 kk tl kd ty cl th := fr_get f1 (by decide) hm
  have m2 : v_model w2 kk tl kd ty cl th := fr_get f2 (by decide) m1
  have m3 : v_model w3 kk tl kd ty cl th := fr_get f3 (by decide) m2
  have m4 : v_model w4 kk tl kd ty cl th := fr_get f4 (by decide) m3
  have m5 : v_model w5 kk tl kd ty cl th := fr_get f5 (by decide) m4
  have p1 : v_za w1 33 8 H := fr_get f1 (by decide) g33
  have p2 : v_la w2 34 8 fA := fr_get f12 (by decide) g34
  have p3 : v_la w3 35 8 fB := fr_get f13 (by decide) g35
  have p4 : v_la w4 36 8 fC := fr_get f14 (by decide) g36
  generalize hw6 : w5.set 32 (rz_mo (kk + 1) tl kd ty cl th) = w6
  have hw6' : w5.set 32 (.inr (11, [.ref 33, .ref 34, .ref 35, .ref 36, .ref 37, .ref 38, .ref 39, .ref 40, .ref 41, .int (Int32.ofInt (kk + 1)), .ref 42, .int (Int32.ofInt tl), .ref 43, .int (Int32.ofInt kd), .ref 44, .ref 45, .int (Int32.ofInt ty), .int (Int32.ofInt cl), .int (Int32.ofInt th), .ref 46, .ref 47])) = w6 := hw6
  have f6 : rz_fr [32] w5 w6 := by rw [← hw6]; exact fr_set (by decide)
  have m6 : v_model w6 (kk + 1) tl kd ty cl th := by rw [← hw6]; exact w_eq (w_lt m5)
  have f16 : rz_fr [32, 37, 38, 39, 40, 41] w w6 := fr_trans (fr_sub f15 (by decide)) (fr_sub f6 (by decide))
  have q1 : v_za w6 33 8 H := fr_get f16 (by decide) g33
  generalize hw7 : w6.set 33 (.inl (.boolean, 8, .inl (upd H s.toNat (Int32.ofInt 1)))) = w7
  have f7 : rz_fr [33] w6 w7 := by rw [← hw7]; exact fr_set (by decide)
  have s7 : v_za w7 33 8 (upd H s.toNat (Int32.ofInt 1)) := by rw [← hw7]; exact w_eq (w_lt q1)
  have m7 : v_model w7 (kk + 1) tl kd ty cl th := fr_get f7 (by decide) m6
  have f17 : rz_fr [32, 33, 37, 38, 39, 40, 41] w w7 := fr_trans (fr_sub f16 (by decide)) (fr_sub f7 (by decide))
  have q2 : v_la w7 34 8 fA := fr_get f17 (by decide) g34
  generalize hw8 : w7.set 34 (.inl (.long, 8, .inr (.inl (vp_updL fA s.toNat (Int64.ofInt A))))) = w8
  have f8 : rz_fr [34] w7 w8 := by rw [← hw8]; exact fr_set (by decide)
  have s8 : v_la w8 34 8 (vp_updL fA s.toNat (Int64.ofInt A)) := by rw [← hw8]; exact w_eq (w_lt q2)
  have m8 : v_model w8 (kk + 1) tl kd ty cl th := fr_get f8 (by decide) m7
  have f18 : rz_fr [32, 33, 34, 37, 38, 39, 40, 41] w w8 := fr_trans (fr_sub f17 (by decide)) (fr_sub f8 (by decide))
  have q3 : v_la w8 35 8 fB := fr_get f18 (by decide) g35
  generalize hw9 : w8.set 35 (.inl (.long, 8, .inr (.inl (vp_updL fB s.toNat (Int64.ofInt B))))) = w9
  have f9 : rz_fr [35] w8 w9 := by rw [← hw9]; exact fr_set (by decide)
  have s9 : v_la w9 35 8 (vp_updL fB s.toNat (Int64.ofInt B)) := by rw [← hw9]; exact w_eq (w_lt q3)
  have m9 : v_model w9 (kk + 1) tl kd ty cl th := fr_get f9 (by decide) m8
  have f19 : rz_fr [32, 33, 34, 35, 37, 38, 39, 40, 41] w w9 := fr_trans (fr_sub f18 (by decide)) (fr_sub f9 (by decide))
  have q4 : v_la w9 36 8 fC := fr_get f19 (by decide) g36
  generalize hwA : w9.set 36 (.inl (.long, 8, .inr (.inl (vp_updL fC s.toNat (Int64.ofInt C))))) = wA
  have fA' : rz_fr [36] w9 wA := by rw [← hwA]; exact fr_set (by decide)
  have sA : v_la wA 36 8 (vp_updL fC s.toNat (Int64.ofInt C)) := by rw [← hwA]; exact w_eq (w_lt q4)
  have f7A : rz_fr [34, 35, 36] w7 wA := fr_trans (fr_sub f8 (by decide)) (fr_trans (fr_sub f9 (by decide)) (fr_sub fA' (by decide)))
  have f6A : rz_fr [33, 34, 35, 36] w6 wA := fr_trans (fr_sub f7 (by decide)) (fr_sub f7A (by decide))
  have f5A : rz_fr [32, 33, 34, 35, 36] w5 wA := fr_trans (fr_sub f6 (by decide)) (fr_sub f6A (by decide))
  refine ⟨wA, ?_, fr_trans (fr_sub f19 (by decide)) (fr_sub fA' (by decide)), fr_get f6A (by decide) m6, fr_get f7A (by decide) s7, fr_get fA' (by decide) (fr_get f9 (by decide) s8), fr_get fA' (by decide) s9, sA, fr_get f5A (by decide) (fr_get f5 (by decide) (fr_get (fr_trans (fr_sub f2 (by decide)) (fr_trans (fr_sub f3 (by decide)) (fr_sub f4 (by decide))) : rz_fr [38, 39, 40] w1 w4) (by decide) r1)), fr_get f5A (by decide) (fr_get f5 (by decide) (fr_get (fr_trans (fr_sub f3 (by decide)) (fr_sub f4 (by decide)) : rz_fr [39, 40] w2 w4) (by decide) r2)), fr_get f5A (by decide) (fr_get f5 (by decide) (fr_get f4 (by decide) r3)), fr_get f5A (by decide) (fr_get f5 (by decide) r4), fr_get f5A (by decide) r5⟩
  simp (disch := first | exact nl_i | exact nl_r | exact nl_0 | exact nl_n | exact nl_x | exact kd_r | exact kd_n | exact kd_x | exact kd_o | exact cats0 | exact cats1 | exact cats2 | exact cats3 | exact cats4 | exact nr_i | exact nr_l | exact nr_z0 | exact nr_z1 | exact ft_i | exact ft_l | omega | rfl | assumption | (refine i_ne0 ?_ ?_ ?_ <;> omega) | (refine j_ne0 ?_ ?_ ?_ <;> omega) | (refine i_new ?_ ?_ <;> omega) | (refine bl_t ?_; with_unfolding_all rfl) | exact ft_z0 | exact ft_z1) only [n_X11_becomes, q_X11_becomes_0, q_X11_becomes_1, q_X11_becomes_4, q_X11_becomes_6, q_X11_becomes_9, q_X11_becomes_10, q_X11_becomes_12, q_X11_becomes_14, q_X11_becomes_16, q_X11_becomes_19, q_X11_becomes_20, q_X11_becomes_23, q_X11_becomes_25, q_X11_becomes_26, q_X11_becomes_27, q_X11_becomes_28, q_X11_becomes_31, q_X11_becomes_33, q_X11_becomes_33x, q_X11_becomes_34, q_X11_becomes_35, q_X11_becomes_36, q_X11_becomes_39, q_X11_becomes_41, q_X11_becomes_42, q_X11_becomes_43, q_X11_becomes_44, q_X11_becomes_47, q_X11_becomes_49, q_X11_becomes_50, q_X11_becomes_51, q_X11_becomes_52, q_X11_becomes_55, q_X11_becomes_57, q_X11_becomes_58, q_X11_becomes_59, q_X11_becomes_60, q_X11_becomes_63, q_X11_becomes_65, q_X11_becomes_66, q_X11_becomes_67, q_X11_becomes_68, q_X11_becomes_71, q_X11_becomes_73, q_X11_becomes_74, q_X11_becomes_75, q_X11_becomes_76, q_X11_becomes_79, q_X11_becomes_81, q_X11_becomes_82, q_X11_becomes_83, q_X11_becomes_84, q_X11_becomes_87, q_X11_becomes_89, q_X11_becomes_90, q_X11_becomes_91, q_X11_becomes_92, q_X11_becomes_95, q_X11_becomes_97, q_X11_becomes_98, q_X11_becomes_99, q_X11_becomes_102, q_X11_becomes_105, q_X11_becomes_106, q_X11_becomes_106r, q_X11_becomes_107, q_X11_becomes_110, q_X11_becomes_111, q_X11_becomes_112, q_X11_becomes_115, q_X11_becomes_116, q_X11_becomes_119, q_X11_becomes_120, q_X11_becomes_123, q_X11_becomes_124, q_X11_becomes_125, q_X11_becomes_126, q_X11_becomes_129, q_X11_becomes_130, q_X11_becomes_133, q_X11_becomes_134, q_X11_becomes_137, q_X11_becomes_138, q_X11_becomes_139, q_X11_becomes_140, q_X11_becomes_141, q_X11_becomes_144, q_X11_becomes_145, q_X11_becomes_148, q_X11_becomes_149, q_X11_becomes_152, q_X11_becomes_153, q_X11_becomes_154, q_X11_becomes_155, q_X11_becomes_156, q_X11_becomes_159, q_X11_becomes_160, q_X11_becomes_163, q_X11_becomes_164, q_X11_becomes_167, q_X11_becomes_168, q_X11_becomes_169, q_X11_becomes_170, q_X11_becomes_171, q_X11_becomes_174, q_X11_becomes_175, q_X11_becomes_178, q_X11_becomes_179, q_X11_becomes_182, q_X11_becomes_183, q_X11_becomes_184, q_X11_becomes_185, q_X11_becomes_186, q_X11_becomes_186r, q_X11_becomes_187, q_X11_becomes_190, q_X11_becomes_191, q_X11_becomes_192, q_X11_becomes_195, q_X11_becomes_196, q_X11_becomes_199, q_X11_becomes_200, q_X11_becomes_201, q_X11_becomes_202, q_X11_becomes_203, q_X11_becomes_206, q_X11_becomes_207, q_X11_becomes_208, q_X11_becomes_209, q_X11_becomes_210, q_X11_becomes_213, q_X11_becomes_214, q_X11_becomes_216, q_X11_becomes_217, q_X11_becomes_218, q_X11_becomes_221, q_X11_becomes_222, q_X11_becomes_224, q_X11_becomes_225, q_X11_becomes_226, q_X11_becomes_228, q_X11_becomes_229, q_X11_becomes_230, i_add, i_sub, i_mul, i_neg, i_lt, i_le, i_eq, i_tm, i_div, i_j, j_i, j_add, j_sub, j_mul, j_neg, j_lt, j_le, j_eq, j_div, c_lt, c_le, c_gt, c_ge, c_eq, i_nat, rz_k, Nat.add_zero, Nat.zero_add, Nat.add_assoc, Nat.reduceAdd, if_true, if_false, gf_eq hm, List.getElem?_cons_zero, List.getElem?_cons_succ, si_eq g37, hw1, gf_eq m1, az_eq p1, sz_eq b1, hw2, gf_eq m2, al_eq p2, sl_eq c1, hw3, gf_eq m3, al_eq p3, sl_eq e1, hw4, gf_eq m4, al_eq p4, sl_eq h1, hw5, gf_eq m5, pf_eq m5, List.set_cons_zero, List.set_cons_succ, hw6', gf_eq m6, sz_eq q1 (h4 := nz_1), hw7, gf_eq m7, sl_eq q2, hw8, gf_eq m8, sl_eq q3, hw9, gf_eq m9, sl_eq q4, hwA]
theorem y_becomes {A B C s : Int} {H KT KH : Nat → Int32} {fA fB fC KA KB KC : Nat → Int64} (hm : v_model w kp tl kd ty cl th) (hk : 0 ≤ kp ∧ kp ≤ 10) (hs : 0 ≤ s ∧ s ≤ 7) (g33 : v_za w 33 8 H) (g34 : v_la w 34 8 fA) (g35 : v_la w 35 8 fB) (g36 : v_la w 36 8 fC) (g37 : v_ia w 37 10 KT) (g38 : v_za w 38 10 KH) (g39 : v_la w 39 10 KA) (g40 : v_la w 40 10 KB) (g41 : v_la w 41 10 KC) (hb : vp_nar .boolean (H s.toNat) = H s.toNat) (hbk : kp = 10 → ∀ j, j < 10 → vp_nar .boolean (KH j) = KH j) : ∃ w', rz_ex X (d + 1) 180 [.ref 32, .int (Int32.ofInt s), .long (Int64.ofInt A), .long (Int64.ofInt B), .long (Int64.ofInt C)] w = some (.inl (some (.int (Int32.ofInt (A * C)))), w', 0, 0) ∧ rz_fr [32, 33, 34, 35, 36, 37, 38, 39, 40, 41] w w' ∧ v_model w' (zf_kk kp + 1) tl kd ty cl th ∧ v_za w' 33 8 (upd H s.toNat (Int32.ofInt 1)) ∧ v_la w' 34 8 (vp_updL fA s.toNat (Int64.ofInt A)) ∧ v_la w' 35 8 (vp_updL fB s.toNat (Int64.ofInt B)) ∧ v_la w' 36 8 (vp_updL fC s.toNat (Int64.ofInt C)) ∧ v_ia w' 37 10 (upd (zf_ks KT kp) (zf_kk kp).toNat (Int32.ofInt s)) ∧ v_za w' 38 10 (upd (zf_ks KH kp) (zf_kk kp).toNat (H s.toNat)) ∧ v_la w' 39 10 (vp_updL (zf_ks KA kp) (zf_kk kp).toNat (fA s.toNat)) ∧ v_la w' 40 10 (vp_updL (zf_ks KB kp) (zf_kk kp).toNat (fB s.toNat)) ∧ v_la w' 41 10 (vp_updL (zf_ks KC kp) (zf_kk kp).toNat (fC s.toNat)) := by
  by_cases h10 : kp = 10
  · subst h10
    obtain ⟨w1, e1, f1, a1, a2, a3, a4, a5⟩ := l_bshift (X := X) (d := d) (nc := 0) (ns := 0) (KT := KT) (KH := KH) (KA := KA) (KB := KB) (KC := KC) (l0 := some (.ref 32)) (l1 := some (.int (Int32.ofInt s))) (l2 := some (.long (Int64.ofInt A))) (l3 := none) (l4 := some (.long (Int64.ofInt B))) (l5 := none) (l6 := some (.long (Int64.ofInt C))) (l7 := none) rfl rfl 9 1 w rfl (by omega) hm (by rw [sh_one]; exact g37) (by rw [sh_one]; exact g38) (by rw [sh_one]; exact g39) (by rw [sh_one]; exact g40) (by rw [sh_one]; exact g41) (hbk rfl)
    have hm1 : v_model w1 10 tl kd ty cl th := fr_get f1 (by decide) hm
    generalize hw2 : w1.set 32 (rz_mo 9 tl kd ty cl th) = w2
    have hw2' : w1.set 32 (.inr (11, [.ref 33, .ref 34, .ref 35, .ref 36, .ref 37, .ref 38, .ref 39, .ref 40, .ref 41, .int (Int32.ofInt (10 - 1)), .ref 42, .int (Int32.ofInt tl), .ref 43, .int (Int32.ofInt kd), .ref 44, .ref 45, .int (Int32.ofInt ty), .int (Int32.ofInt cl), .int (Int32.ofInt th), .ref 46, .ref 47])) = w2 := hw2
    have m2 : v_model w2 9 tl kd ty cl th := by rw [← hw2]; exact w_eq (w_lt hm1)
    have f2 : rz_fr [32] w1 w2 := by rw [← hw2]; exact fr_set (by decide)
    have f12 : rz_fr [32, 37, 38, 39, 40, 41] w w2 := fr_trans (fr_sub f1 (by decide)) (fr_sub f2 (by decide))
    obtain ⟨w', e2, f3, r⟩ := l_becomes (X := X) (d := d) (nc := 0) (ns := 0) (A := A) (B := B) (C := C) (l8 := some (.int (Int32.ofInt 10))) m2 (by omega) hs (fr_get f12 (by decide) g33) (fr_get f12 (by decide) g34) (fr_get f12 (by decide) g35) (fr_get f12 (by decide) g36) (fr_get f2 (by decide) a1) (fr_get f2 (by decide) a2) (fr_get f2 (by decide) a3) (fr_get f2 (by decide) a4) (fr_get f2 (by decide) a5) hb
    refine ⟨w', ?_, fr_trans (fr_sub f12 (by decide)) (fr_sub f3 (by decide)), r⟩
    simp (disch := first | exact nl_i | exact nl_r | exact nl_0 | exact nl_n | exact nl_x | exact kd_r | exact kd_n | exact kd_x | exact kd_o | exact cats0 | exact cats1 | exact cats2 | exact cats3 | exact cats4 | exact nr_i | exact nr_l | exact nr_z0 | exact nr_z1 | exact ft_i | exact ft_l | omega | rfl | assumption | (refine i_ne0 ?_ ?_ ?_ <;> omega) | (refine j_ne0 ?_ ?_ ?_ <;> omega) | (refine i_new ?_ ?_ <;> omega) | (refine bl_t ?_; with_unfolding_all rfl) | exact ft_z0 | exact ft_z1) only [n_X11_becomes, q_X11_becomes_0, q_X11_becomes_1, q_X11_becomes_4, q_X11_becomes_6, q_X11_becomes_9, q_X11_becomes_10, i_add, i_sub, i_mul, i_neg, i_lt, i_le, i_eq, i_tm, i_div, i_j, j_i, j_add, j_sub, j_mul, j_neg, j_lt, j_le, j_eq, j_div, c_lt, c_le, c_gt, c_ge, c_eq, i_nat, rz_k, Nat.add_zero, Nat.zero_add, Nat.add_assoc, Nat.reduceAdd, if_true, if_false, gf_eq hm, List.getElem?_cons_zero, List.getElem?_cons_succ, not_true_eq_false]
    refine Eq.trans e1 ?_
    simp (disch := first | exact nl_i | exact nl_r | exact nl_0 | exact nl_n | exact nl_x | exact kd_r | exact kd_n | exact kd_x | exact kd_o | exact cats0 | exact cats1 | exact cats2 | exact cats3 | exact cats4 | exact nr_i | exact nr_l | exact nr_z0 | exact nr_z1 | exact ft_i | exact ft_l | omega | rfl | assumption | (refine i_ne0 ?_ ?_ ?_ <;> omega) | (refine j_ne0 ?_ ?_ ?_ <;> omega) | (refine i_new ?_ ?_ <;> omega) | (refine bl_t ?_; with_unfolding_all rfl) | exact ft_z0 | exact ft_z1) only [q_X11_becomes_105, q_X11_becomes_106r, q_X11_becomes_107, q_X11_becomes_110, q_X11_becomes_111, q_X11_becomes_112, i_add, i_sub, i_mul, i_neg, i_lt, i_le, i_eq, i_tm, i_div, i_j, j_i, j_add, j_sub, j_mul, j_neg, j_lt, j_le, j_eq, j_div, c_lt, c_le, c_gt, c_ge, c_eq, i_nat, rz_k, Nat.add_zero, Nat.zero_add, Nat.add_assoc, Nat.reduceAdd, if_true, if_false, gf_eq hm1, pf_eq hm1, List.getElem?_cons_zero, List.getElem?_cons_succ, List.set_cons_zero, List.set_cons_succ, hw2']
    exact e2
  · obtain ⟨w', e2, f2, r⟩ := l_becomes (X := X) (d := d) (nc := 0) (ns := 0) (A := A) (B := B) (C := C) (l8 := none) hm (by omega) hs g33 g34 g35 g36 g37 g38 g39 g40 g41 hb
    have hkk : zf_kk kp = kp := if_neg h10
    have hks : ∀ {α : Type} (f : Nat → α), zf_ks f kp = f := fun f => if_neg h10
    rw [hkk, hks, hks, hks, hks, hks]
    refine ⟨w', ?_, f2, r⟩
    simp (disch := first | exact nl_i | exact nl_r | exact nl_0 | exact nl_n | exact nl_x | exact kd_r | exact kd_n | exact kd_x | exact kd_o | exact cats0 | exact cats1 | exact cats2 | exact cats3 | exact cats4 | exact nr_i | exact nr_l | exact nr_z0 | exact nr_z1 | exact ft_i | exact ft_l | omega | rfl | assumption | (refine i_ne0 ?_ ?_ ?_ <;> omega) | (refine j_ne0 ?_ ?_ ?_ <;> omega) | (refine i_new ?_ ?_ <;> omega) | (refine bl_t ?_; with_unfolding_all rfl) | exact ft_z0 | exact ft_z1) only [n_X11_becomes, q_X11_becomes_0, q_X11_becomes_1, q_X11_becomes_4, q_X11_becomes_6, q_X11_becomes_9, q_X11_becomes_10, i_add, i_sub, i_mul, i_neg, i_lt, i_le, i_eq, i_tm, i_div, i_j, j_i, j_add, j_sub, j_mul, j_neg, j_lt, j_le, j_eq, j_div, c_lt, c_le, c_gt, c_ge, c_eq, i_nat, rz_k, Nat.add_zero, Nat.zero_add, Nat.add_assoc, Nat.reduceAdd, if_true, if_false, gf_eq hm, List.getElem?_cons_zero, List.getElem?_cons_succ]
    rw [if_pos h10]
    exact e2
end RZBE
