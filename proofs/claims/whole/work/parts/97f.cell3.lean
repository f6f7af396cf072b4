/-! part 97f: level 2: corners, tellCorner -/
section RZCG
variable {X : rz_X} {d : Nat} {w : rz_W} {nc ns : Nat} {kp tl kd ty cl th : Int} {f g h : Int64}
/-- the reference's points around -/
def zc_Q (x y u v : Int) : Nat → Int × Int := if zr_p x y u v = 0 then zc_P4 x y u v else zc_R x y u v
theorem y_around0 {A : Nat} {G : Nat → Int64} {i : Int32} {x y u v u0 v0 : Int} (hA : v_la w A 4 G) (hG : G 0 = Int64.ofInt x ∧ G 1 = Int64.ofInt y ∧ G 2 = Int64.ofInt u0 ∧ G 3 = Int64.ofInt v0) (huv : (u, v) = if x * v0 - y * u0 < 0 then (-u0, -v0) else (u0, v0)) (hb : (x * v0 - y * u0).natAbs ≤ 9000000000000000000) (hp : (zr_p x y u v).natAbs ≤ 9000000000000000000) : ∃ F : Nat → Int64, rz_G X (d + 2) mz_X11_around 6 [some (.ref 32), some (.int i), some (.ref A), none, none, none, none, none, none, none, none, none, none] [] w nc ns = some (.inl (some (.ref w.length)), w ++ [.inl (.long, 2 * zc_m x y u v, .inr (.inl F))], nc + 1, ns + 2 * zc_m x y u v) ∧ ∀ k, k < zc_m x y u v → F (2 * k) = Int64.ofInt (zc_Q x y u v k).1 ∧ F (2 * k + 1) = Int64.ofInt (zc_Q x y u v k).2 := by
  have e1 : ∀ x y u v : Int, x * u + y * v = zr_p x y u v := fun _ _ _ _ => rfl
  have pre : rz_G X (d + 2) mz_X11_around 6 [some (.ref 32), some (.int i), some (.ref A), none, none, none, none, none, none, none, none, none, none] [] w nc ns = rz_G X (d + 2) mz_X11_around 62 [some (.ref 32), some (.int i), some (.ref A), some (.long (Int64.ofInt x)), none, some (.long (Int64.ofInt y)), none, some (.long (Int64.ofInt u)), none, some (.long (Int64.ofInt v)), none, some (.long (Int64.ofInt (zr_p x y u v))), none] [] w nc ns := by
    by_cases hn : x * v0 - y * u0 < 0
    · rw [if_pos hn] at huv
      simp only [Prod.mk.injEq] at huv
      obtain ⟨rfl, rfl⟩ := huv
      simp (disch := first | exact nl_i | exact nl_r | exact nl_0 | exact nl_n | exact nl_x | exact kd_r | exact kd_n | exact kd_x | exact kd_o | exact cats0 | exact cats1 | exact cats2 | exact cats3 | exact cats4 | exact nr_i | exact nr_l | exact nr_z0 | exact nr_z1 | exact ft_i | exact ft_l | omega | rfl | assumption | (refine i_ne0 ?_ ?_ ?_ <;> omega) | (refine j_ne0 ?_ ?_ ?_ <;> omega) | (refine i_new ?_ ?_ <;> omega) | (refine bl_t ?_; with_unfolding_all rfl) | exact ft_z0 | exact ft_z1) only [q_X11_around_6, q_X11_around_7, q_X11_around_8, q_X11_around_9, q_X11_around_10, q_X11_around_11, q_X11_around_12, q_X11_around_13, q_X11_around_15, q_X11_around_16, q_X11_around_17, q_X11_around_18, q_X11_around_20, q_X11_around_21, q_X11_around_22, q_X11_around_23, q_X11_around_25, q_X11_around_26, q_X11_around_28, q_X11_around_29, q_X11_around_31, q_X11_around_33, q_X11_around_34, q_X11_around_35, q_X11_around_36, q_X11_around_37, q_X11_around_40, q_X11_around_42, q_X11_around_43, q_X11_around_45, q_X11_around_47, q_X11_around_48, q_X11_around_50, q_X11_around_51, q_X11_around_53, q_X11_around_55, q_X11_around_57, q_X11_around_60, i_add, i_sub, i_mul, i_neg, i_lt, i_le, i_eq, i_tm, i_div, i_j, j_i, j_add, j_sub, j_mul, j_neg, j_lt, j_le, j_eq, j_div, c_lt, c_le, c_gt, c_ge, c_eq, i_nat, rz_k, Nat.add_zero, Nat.zero_add, Nat.add_assoc, Nat.reduceAdd, if_true, if_false, al_eq hA, Int.reduceToNat, hG.1, hG.2.1, hG.2.2.1, hG.2.2.2, if_neg (show ¬ 0 ≤ x * v0 - y * u0 by omega), y_times, e1]
    · rw [if_neg hn] at huv
      simp only [Prod.mk.injEq] at huv
      obtain ⟨rfl, rfl⟩ := huv
      simp (disch := first | exact nl_i | exact nl_r | exact nl_0 | exact nl_n | exact nl_x | exact kd_r | exact kd_n | exact kd_x | exact kd_o | exact cats0 | exact cats1 | exact cats2 | exact cats3 | exact cats4 | exact nr_i | exact nr_l | exact nr_z0 | exact nr_z1 | exact ft_i | exact ft_l | omega | rfl | assumption | (refine i_ne0 ?_ ?_ ?_ <;> omega) | (refine j_ne0 ?_ ?_ ?_ <;> omega) | (refine i_new ?_ ?_ <;> omega) | (refine bl_t ?_; with_unfolding_all rfl) | exact ft_z0 | exact ft_z1) only [q_X11_around_6, q_X11_around_7, q_X11_around_8, q_X11_around_9, q_X11_around_10, q_X11_around_11, q_X11_around_12, q_X11_around_13, q_X11_around_15, q_X11_around_16, q_X11_around_17, q_X11_around_18, q_X11_around_20, q_X11_around_21, q_X11_around_22, q_X11_around_23, q_X11_around_25, q_X11_around_26, q_X11_around_28, q_X11_around_29, q_X11_around_31, q_X11_around_33, q_X11_around_34, q_X11_around_35, q_X11_around_36, q_X11_around_37, q_X11_around_40, q_X11_around_42, q_X11_around_43, q_X11_around_45, q_X11_around_47, q_X11_around_48, q_X11_around_50, q_X11_around_51, q_X11_around_53, q_X11_around_55, q_X11_around_57, q_X11_around_60, i_add, i_sub, i_mul, i_neg, i_lt, i_le, i_eq, i_tm, i_div, i_j, j_i, j_add, j_sub, j_mul, j_neg, j_lt, j_le, j_eq, j_div, c_lt, c_le, c_gt, c_ge, c_eq, i_nat, rz_k, Nat.add_zero, Nat.zero_add, Nat.add_assoc, Nat.reduceAdd, if_true, if_false, al_eq hA, Int.reduceToNat, hG.1, hG.2.1, hG.2.2.1, hG.2.2.2, if_pos (show 0 ≤ x * v - y * u by omega), y_times, e1]
  rw [pre]
  by_cases h0 : zr_p x y u v = 0
  · have hm : zc_m x y u v = 4 := if_pos h0
    have hQ : zc_Q x y u v = zc_P4 x y u v := if_pos h0
    rw [hm, hQ]
    refine ⟨(vp_updL (vp_updL (vp_updL (vp_updL (vp_updL (vp_updL (vp_updL (vp_updL (fun _ => 0) 0 (Int64.ofInt (x))) 1 (Int64.ofInt (y))) 2 (Int64.ofInt (u))) 3 (Int64.ofInt (v))) 4 (Int64.ofInt (-x))) 5 (Int64.ofInt (-y))) 6 (Int64.ofInt (-u))) 7 (Int64.ofInt (-v))), ?_, ?_⟩
    · simp (disch := first | exact nl_i | exact nl_r | exact nl_0 | exact nl_n | exact nl_x | exact kd_r | exact kd_n | exact kd_x | exact kd_o | exact cats0 | exact cats1 | exact cats2 | exact cats3 | exact cats4 | exact nr_i | exact nr_l | exact nr_z0 | exact nr_z1 | exact ft_i | exact ft_l | omega | rfl | assumption | (refine i_ne0 ?_ ?_ ?_ <;> omega) | (refine j_ne0 ?_ ?_ ?_ <;> omega) | (refine i_new ?_ ?_ <;> omega) | (refine bl_t ?_; with_unfolding_all rfl) | exact ft_z0 | exact ft_z1) only [q_X11_around_62, q_X11_around_64, q_X11_around_65, q_X11_around_66, q_X11_around_69, q_X11_around_71, q_X11_around_73, q_X11_around_73r, q_X11_around_74, q_X11_around_75, q_X11_around_76, q_X11_around_77, q_X11_around_77r, q_X11_around_78, q_X11_around_79, q_X11_around_81, q_X11_around_82, q_X11_around_82r, q_X11_around_83, q_X11_around_84, q_X11_around_86, q_X11_around_87, q_X11_around_87r, q_X11_around_88, q_X11_around_89, q_X11_around_91, q_X11_around_92, q_X11_around_92r, q_X11_around_93, q_X11_around_94, q_X11_around_95, q_X11_around_96, q_X11_around_97, q_X11_around_97r, q_X11_around_98, q_X11_around_99, q_X11_around_101, q_X11_around_102, q_X11_around_103, q_X11_around_103r, q_X11_around_104, q_X11_around_106, q_X11_around_108, q_X11_around_109, q_X11_around_110, q_X11_around_110r, q_X11_around_111, q_X11_around_113, q_X11_around_115, q_X11_around_116, q_X11_around_117, q_X11_around_117n, i_add, i_sub, i_mul, i_neg, i_lt, i_le, i_eq, i_tm, i_div, i_j, j_i, j_add, j_sub, j_mul, j_neg, j_lt, j_le, j_eq, j_div, c_lt, c_le, c_gt, c_ge, c_eq, i_nat, rz_k, Nat.add_zero, Nat.zero_add, Nat.add_assoc, Nat.reduceAdd, if_true, if_false, eq_true h0, not_true_eq_false, sl_app, Int.reduceToNat]
    · intro k hk
      have : k = 0 ∨ k = 1 ∨ k = 2 ∨ k = 3 := by omega
      rcases this with rfl | rfl | rfl | rfl <;> exact ⟨rfl, rfl⟩
  · have hm : zc_m x y u v = 6 := if_neg h0
    have hQ : zc_Q x y u v = zc_R x y u v := if_neg h0
    rw [hm, hQ]
    by_cases h1 : 0 < zr_p x y u v
    · have hR : zc_R x y u v = (fun k => match k with
        | 0 => (x, y)
        | 1 => (u, v)
        | 2 => (u - x, v - y)
        | 3 => (-x, -y)
        | 4 => (-u, -v)
        | _ => (x - u, y - v)) := if_pos h1
      rw [hR]
      refine ⟨(vp_updL (vp_updL (vp_updL (vp_updL (vp_updL (vp_updL (vp_updL (vp_updL (vp_updL (vp_updL (vp_updL (vp_updL (fun _ => 0) 0 (Int64.ofInt (x))) 1 (Int64.ofInt (y))) 2 (Int64.ofInt (u))) 3 (Int64.ofInt (v))) 4 (Int64.ofInt (u - x))) 5 (Int64.ofInt (v - y))) 6 (Int64.ofInt (-x))) 7 (Int64.ofInt (-y))) 8 (Int64.ofInt (-u))) 9 (Int64.ofInt (-v))) 10 (Int64.ofInt (x - u))) 11 (Int64.ofInt (y - v))), ?_, ?_⟩
      · simp (disch := first | exact nl_i | exact nl_r | exact nl_0 | exact nl_n | exact nl_x | exact kd_r | exact kd_n | exact kd_x | exact kd_o | exact cats0 | exact cats1 | exact cats2 | exact cats3 | exact cats4 | exact nr_i | exact nr_l | exact nr_z0 | exact nr_z1 | exact ft_i | exact ft_l | omega | rfl | assumption | (refine i_ne0 ?_ ?_ ?_ <;> omega) | (refine j_ne0 ?_ ?_ ?_ <;> omega) | (refine i_new ?_ ?_ <;> omega) | (refine bl_t ?_; with_unfolding_all rfl) | exact ft_z0 | exact ft_z1) only [q_X11_around_62, q_X11_around_64, q_X11_around_65, q_X11_around_66, q_X11_around_69, q_X11_around_71, q_X11_around_73, q_X11_around_73r, q_X11_around_74, q_X11_around_75, q_X11_around_76, q_X11_around_77, q_X11_around_77r, q_X11_around_78, q_X11_around_79, q_X11_around_81, q_X11_around_82, q_X11_around_82r, q_X11_around_83, q_X11_around_84, q_X11_around_86, q_X11_around_87, q_X11_around_87r, q_X11_around_88, q_X11_around_89, q_X11_around_91, q_X11_around_92, q_X11_around_92r, q_X11_around_93, q_X11_around_94, q_X11_around_95, q_X11_around_96, q_X11_around_97, q_X11_around_97r, q_X11_around_98, q_X11_around_99, q_X11_around_101, q_X11_around_102, q_X11_around_103, q_X11_around_103r, q_X11_around_104, q_X11_around_106, q_X11_around_108, q_X11_around_109, q_X11_around_110, q_X11_around_110r, q_X11_around_111, q_X11_around_113, q_X11_around_115, q_X11_around_116, q_X11_around_117, q_X11_around_117n, q_X11_around_118, q_X11_around_120, q_X11_around_121, q_X11_around_122, q_X11_around_125, q_X11_around_127, q_X11_around_129, q_X11_around_129r, q_X11_around_130, q_X11_around_131, q_X11_around_132, q_X11_around_133, q_X11_around_133r, q_X11_around_134, q_X11_around_135, q_X11_around_137, q_X11_around_138, q_X11_around_138r, q_X11_around_139, q_X11_around_140, q_X11_around_142, q_X11_around_143, q_X11_around_143r, q_X11_around_144, q_X11_around_145, q_X11_around_147, q_X11_around_148, q_X11_around_148r, q_X11_around_149, q_X11_around_150, q_X11_around_152, q_X11_around_153, q_X11_around_154, q_X11_around_155, q_X11_around_155r, q_X11_around_156, q_X11_around_157, q_X11_around_159, q_X11_around_161, q_X11_around_162, q_X11_around_163, q_X11_around_163r, q_X11_around_164, q_X11_around_166, q_X11_around_167, q_X11_around_168, q_X11_around_169, q_X11_around_169r, q_X11_around_170, q_X11_around_172, q_X11_around_174, q_X11_around_175, q_X11_around_176, q_X11_around_176r, q_X11_around_177, q_X11_around_179, q_X11_around_181, q_X11_around_182, q_X11_around_183, q_X11_around_183r, q_X11_around_184, q_X11_around_186, q_X11_around_188, q_X11_around_189, q_X11_around_190, q_X11_around_190r, q_X11_around_191, q_X11_around_193, q_X11_around_194, q_X11_around_196, q_X11_around_197, q_X11_around_198, q_X11_around_198r, q_X11_around_199, q_X11_around_201, q_X11_around_203, q_X11_around_205, q_X11_around_206, q_X11_around_207, q_X11_around_207n, i_add, i_sub, i_mul, i_neg, i_lt, i_le, i_eq, i_tm, i_div, i_j, j_i, j_add, j_sub, j_mul, j_neg, j_lt, j_le, j_eq, j_div, c_lt, c_le, c_gt, c_ge, c_eq, i_nat, rz_k, Nat.add_zero, Nat.zero_add, Nat.add_assoc, Nat.reduceAdd, if_true, if_false, eq_false h0, not_false_eq_true, if_neg (show ¬ zr_p x y u v ≤ 0 by omega), sl_app, Int.reduceToNat]
      · intro k hk
        have : k = 0 ∨ k = 1 ∨ k = 2 ∨ k = 3 ∨ k = 4 ∨ k = 5 := by omega
        rcases this with rfl | rfl | rfl | rfl | rfl | rfl <;> exact ⟨rfl, rfl⟩
    · have hR : zc_R x y u v = zc_P6 x y u v := if_neg h1
      rw [hR]
      refine ⟨(vp_updL (vp_updL (vp_updL (vp_updL (vp_updL (vp_updL (vp_updL (vp_updL (vp_updL (vp_updL (vp_updL (vp_updL (fun _ => 0) 0 (Int64.ofInt (x))) 1 (Int64.ofInt (y))) 2 (Int64.ofInt (x + u))) 3 (Int64.ofInt (y + v))) 4 (Int64.ofInt (u))) 5 (Int64.ofInt (v))) 6 (Int64.ofInt (-x))) 7 (Int64.ofInt (-y))) 8 (Int64.ofInt (-x - u))) 9 (Int64.ofInt (-y - v))) 10 (Int64.ofInt (-u))) 11 (Int64.ofInt (-v))), ?_, ?_⟩
      · simp (disch := first | exact nl_i | exact nl_r | exact nl_0 | exact nl_n | exact nl_x | exact kd_r | exact kd_n | exact kd_x | exact kd_o | exact cats0 | exact cats1 | exact cats2 | exact cats3 | exact cats4 | exact nr_i | exact nr_l | exact nr_z0 | exact nr_z1 | exact ft_i | exact ft_l | omega | rfl | assumption | (refine i_ne0 ?_ ?_ ?_ <;> omega) | (refine j_ne0 ?_ ?_ ?_ <;> omega) | (refine i_new ?_ ?_ <;> omega) | (refine bl_t ?_; with_unfolding_all rfl) | exact ft_z0 | exact ft_z1) only [q_X11_around_62, q_X11_around_64, q_X11_around_65, q_X11_around_66, q_X11_around_69, q_X11_around_71, q_X11_around_73, q_X11_around_73r, q_X11_around_74, q_X11_around_75, q_X11_around_76, q_X11_around_77, q_X11_around_77r, q_X11_around_78, q_X11_around_79, q_X11_around_81, q_X11_around_82, q_X11_around_82r, q_X11_around_83, q_X11_around_84, q_X11_around_86, q_X11_around_87, q_X11_around_87r, q_X11_around_88, q_X11_around_89, q_X11_around_91, q_X11_around_92, q_X11_around_92r, q_X11_around_93, q_X11_around_94, q_X11_around_95, q_X11_around_96, q_X11_around_97, q_X11_around_97r, q_X11_around_98, q_X11_around_99, q_X11_around_101, q_X11_around_102, q_X11_around_103, q_X11_around_103r, q_X11_around_104, q_X11_around_106, q_X11_around_108, q_X11_around_109, q_X11_around_110, q_X11_around_110r, q_X11_around_111, q_X11_around_113, q_X11_around_115, q_X11_around_116, q_X11_around_117, q_X11_around_117n, q_X11_around_118, q_X11_around_120, q_X11_around_121, q_X11_around_122, q_X11_around_125, q_X11_around_127, q_X11_around_129, q_X11_around_129r, q_X11_around_130, q_X11_around_131, q_X11_around_132, q_X11_around_133, q_X11_around_133r, q_X11_around_134, q_X11_around_135, q_X11_around_137, q_X11_around_138, q_X11_around_138r, q_X11_around_139, q_X11_around_140, q_X11_around_142, q_X11_around_143, q_X11_around_143r, q_X11_around_144, q_X11_around_145, q_X11_around_147, q_X11_around_148, q_X11_around_148r, q_X11_around_149, q_X11_around_150, q_X11_around_152, q_X11_around_153, q_X11_around_154, q_X11_around_155, q_X11_around_155r, q_X11_around_156, q_X11_around_157, q_X11_around_159, q_X11_around_161, q_X11_around_162, q_X11_around_163, q_X11_around_163r, q_X11_around_164, q_X11_around_166, q_X11_around_167, q_X11_around_168, q_X11_around_169, q_X11_around_169r, q_X11_around_170, q_X11_around_172, q_X11_around_174, q_X11_around_175, q_X11_around_176, q_X11_around_176r, q_X11_around_177, q_X11_around_179, q_X11_around_181, q_X11_around_182, q_X11_around_183, q_X11_around_183r, q_X11_around_184, q_X11_around_186, q_X11_around_188, q_X11_around_189, q_X11_around_190, q_X11_around_190r, q_X11_around_191, q_X11_around_193, q_X11_around_194, q_X11_around_196, q_X11_around_197, q_X11_around_198, q_X11_around_198r, q_X11_around_199, q_X11_around_201, q_X11_around_203, q_X11_around_205, q_X11_around_206, q_X11_around_207, q_X11_around_207n, q_X11_around_208, q_X11_around_210, q_X11_around_212, q_X11_around_212r, q_X11_around_213, q_X11_around_214, q_X11_around_215, q_X11_around_216, q_X11_around_216r, q_X11_around_217, q_X11_around_218, q_X11_around_220, q_X11_around_221, q_X11_around_221r, q_X11_around_222, q_X11_around_223, q_X11_around_224, q_X11_around_226, q_X11_around_227, q_X11_around_228, q_X11_around_228r, q_X11_around_229, q_X11_around_230, q_X11_around_232, q_X11_around_234, q_X11_around_235, q_X11_around_236, q_X11_around_236r, q_X11_around_237, q_X11_around_238, q_X11_around_240, q_X11_around_241, q_X11_around_241r, q_X11_around_242, q_X11_around_243, q_X11_around_245, q_X11_around_246, q_X11_around_246r, q_X11_around_247, q_X11_around_249, q_X11_around_250, q_X11_around_251, q_X11_around_252, q_X11_around_252r, q_X11_around_253, q_X11_around_255, q_X11_around_257, q_X11_around_258, q_X11_around_259, q_X11_around_259r, q_X11_around_260, q_X11_around_262, q_X11_around_263, q_X11_around_264, q_X11_around_266, q_X11_around_267, q_X11_around_268, q_X11_around_268r, q_X11_around_269, q_X11_around_271, q_X11_around_273, q_X11_around_274, q_X11_around_276, q_X11_around_277, q_X11_around_278, q_X11_around_278r, q_X11_around_279, q_X11_around_281, q_X11_around_283, q_X11_around_284, q_X11_around_285, q_X11_around_285r, q_X11_around_286, q_X11_around_288, q_X11_around_290, q_X11_around_291, q_X11_around_292, q_X11_around_292n, i_add, i_sub, i_mul, i_neg, i_lt, i_le, i_eq, i_tm, i_div, i_j, j_i, j_add, j_sub, j_mul, j_neg, j_lt, j_le, j_eq, j_div, c_lt, c_le, c_gt, c_ge, c_eq, i_nat, rz_k, Nat.add_zero, Nat.zero_add, Nat.add_assoc, Nat.reduceAdd, if_true, if_false, eq_false h0, not_false_eq_true, if_pos (show zr_p x y u v ≤ 0 by omega), sl_app, Int.reduceToNat]
      · intro k hk
        have : k = 0 ∨ k = 1 ∨ k = 2 ∨ k = 3 ∨ k = 4 ∨ k = 5 := by omega
        rcases this with rfl | rfl | rfl | rfl | rfl | rfl <;> exact ⟨rfl, rfl⟩
theorem zc_l_p {r1 r2 r3 r4 : Int} : zr_p (zc_l (r1, r2, r3, r4)).1 (zc_l (r1, r2, r3, r4)).2.1 (zc_l (r1, r2, r3, r4)).2.2.1 (zc_l (r1, r2, r3, r4)).2.2.2 = zr_p r1 r2 r3 r4 ∨ zr_p (zc_l (r1, r2, r3, r4)).1 (zc_l (r1, r2, r3, r4)).2.1 (zc_l (r1, r2, r3, r4)).2.2.1 (zc_l (r1, r2, r3, r4)).2.2.2 = -zr_p r1 r2 r3 r4 := by
  unfold zc_l
  dsimp only
  split
  · right; simp only [zr_p]; grind
  · left; rfl
theorem zr_fl_p {r1 r2 r3 r4 : Int} : zr_p (zr_fl (r1, r2, r3, r4)).1 (zr_fl (r1, r2, r3, r4)).2.1 (zr_fl (r1, r2, r3, r4)).2.2.1 (zr_fl (r1, r2, r3, r4)).2.2.2 = -((zr_p r1 r2 r3 r4).natAbs : Int) := by
  unfold zr_fl
  dsimp only
  by_cases h : 0 < zr_p r1 r2 r3 r4
  · rw [if_pos h]
    split
    · have : zr_p (-r3) (-r4) r1 r2 = -zr_p r1 r2 r3 r4 := by simp only [zr_p]; grind
      dsimp only
      rw [this]; omega
    · have : zr_p r1 r2 (-r3) (-r4) = -zr_p r1 r2 r3 r4 := by simp only [zr_p]; grind
      dsimp only
      rw [this]; omega
  · rw [if_neg h]
    split
    · have : zr_p r3 r4 r1 r2 = zr_p r1 r2 r3 r4 := by simp only [zr_p]; grind
      dsimp only
      rw [this]; omega
    · dsimp only; omega
theorem zr_fl_N {r1 r2 r3 r4 : Int} : (zr_N (zr_fl (r1, r2, r3, r4)).1 (zr_fl (r1, r2, r3, r4)).2.1 = zr_N r1 r2 ∧ zr_N (zr_fl (r1, r2, r3, r4)).2.2.1 (zr_fl (r1, r2, r3, r4)).2.2.2 = zr_N r3 r4) ∨ (zr_N (zr_fl (r1, r2, r3, r4)).1 (zr_fl (r1, r2, r3, r4)).2.1 = zr_N r3 r4 ∧ zr_N (zr_fl (r1, r2, r3, r4)).2.2.1 (zr_fl (r1, r2, r3, r4)).2.2.2 = zr_N r1 r2) := by
  have n1 : ∀ a b : Int, zr_N (-a) (-b) = zr_N a b := zn_Nneg
  unfold zr_fl
  dsimp only
  split
  · split
    · right; exact ⟨n1 _ _, rfl⟩
    · left; exact ⟨rfl, n1 _ _⟩
  · split
    · right; exact ⟨rfl, rfl⟩
    · left; exact ⟨rfl, rfl⟩
/-- the corners' size -/
theorem zc_small {x y u v A : Int} (h1 : 0 < zr_N x y ∧ zr_N x y ≤ 2 ^ 41) (h2 : 0 < zr_N u v ∧ zr_N u v ≤ 2 ^ 41) (hA : 0 ≤ A ∧ A ≤ 1000000) (hAA : A * A = zr_N x y * zr_N u v - zr_p x y u v * zr_p x y u v) (hp1 : 2 * (zr_p x y u v).natAbs ≤ zr_N x y) (hp2 : 2 * (zr_p x y u v).natAbs ≤ zr_N u v) (hp : zr_p x y u v ≤ 0) : ∀ k, k < zc_m x y u v → (zc_q x y u v k).1.natAbs ≤ 100000000000000 ∧ (zc_q x y u v k).2.natAbs ≤ 100000000000000 := by
  have nn := Int.mul_pos h1.1 h2.1
  -- p² is at most a quarter of the product
  have pp : 4 * (zr_p x y u v * zr_p x y u v) ≤ zr_N x y * zr_N u v := by
    have a1 := Int.mul_le_mul hp1 hp2 (by omega) (by omega)
    have a2 : (2 * ((zr_p x y u v).natAbs : Int)) * (2 * ((zr_p x y u v).natAbs : Int)) = 4 * (zr_p x y u v * zr_p x y u v) := by
      have : ((zr_p x y u v).natAbs : Int) * ((zr_p x y u v).natAbs : Int) = zr_p x y u v * zr_p x y u v := by rw [← Int.natCast_mul, ← Int.natAbs_mul, Int.natAbs_of_nonneg (zr_sqn _)]
      grind
    omega
  have hA2 := Int.mul_le_mul hA.2 hA.2 hA.1 (by omega)
  have hM : zr_N x y * zr_N u v ≤ 2000000000000 := by omega
  have co : ∀ {a b : Int}, a * a ≤ zr_N a b ∧ b * b ≤ zr_N a b := fun {a b} => by
    have := zr_sqn a
    have := zr_sqn b
    unfold zr_N
    omega
  -- one norm times a coordinate of the other
  have key : ∀ {N M z : Int}, 0 < N → N ≤ 2 ^ 41 → N * M ≤ 2000000000000 → z * z ≤ M → (N * z).natAbs ≤ 10000000000000 := by
    intro N M z q1 q2 q3 q4
    have a1 : (N * z) * (N * z) = N * (N * (z * z)) := by grind
    have a2 : N * (z * z) ≤ 2000000000000 := Int.le_trans (Int.mul_le_mul_of_nonneg_left q4 (by omega)) q3
    have a3 : N * (N * (z * z)) ≤ N * 2000000000000 := Int.mul_le_mul_of_nonneg_left a2 (by omega)
    have a4 : N * 2000000000000 ≤ 2 ^ 41 * 2000000000000 := Int.mul_le_mul_of_nonneg_right q2 (by omega)
    rcases Nat.lt_or_ge 10000000000000 (N * z).natAbs with h | h
    · exfalso
      have h4 := Nat.mul_le_mul h h
      have h5 : (((N * z).natAbs * (N * z).natAbs : Nat) : Int) = (N * z) * (N * z) := by rw [← Int.natAbs_mul, Int.natAbs_of_nonneg (zr_sqn _)]
      omega
    · exact h
  have k1 := key (z := v) h1.1 h1.2 hM co.2
  have k2 := key (z := u) h1.1 h1.2 hM co.1
  have hM' : zr_N u v * zr_N x y ≤ 2000000000000 := by rw [Int.mul_comm]; exact hM
  have k3 := key (z := y) h2.1 h2.2 hM' co.2
  have k4 := key (z := x) h2.1 h2.2 hM' co.1
  -- a smaller factor
  have sm : ∀ {s N z : Int}, -N ≤ s → s ≤ N → (N * z).natAbs ≤ 10000000000000 → (s * z).natAbs ≤ 10000000000000 := by
    intro s N z q1 q2 q3
    have h3 : s.natAbs ≤ N.natAbs := by omega
    rw [Int.natAbs_mul] at q3 ⊢
    exact Nat.le_trans (Nat.mul_le_mul_right _ h3) q3
  intro k hk
  have fin : ∀ s t : Int, -zr_N x y ≤ s → s ≤ zr_N x y → -zr_N u v ≤ t → t ≤ zr_N u v → zc_q x y u v k = (s * v - t * y, t * x - s * u) → (zc_q x y u v k).1.natAbs ≤ 100000000000000 ∧ (zc_q x y u v k).2.natAbs ≤ 100000000000000 := by
    intro s t q1 q2 q3 q4 q5
    rw [q5]
    have a1 := sm q1 q2 k1
    have a2 := sm q1 q2 k2
    have a3 := sm q3 q4 k3
    have a4 := sm q3 q4 k4
    dsimp only
    omega
  by_cases h0 : zr_p x y u v = 0
  · have hm : zc_m x y u v = 4 := if_pos h0
    have hq : zc_q x y u v k = zc_q4 x y u v k := if_pos h0
    rw [hm] at hk
    obtain ⟨s, t, -, -, e, hst⟩ := zc_dot4 x y u v h0 k hk
    rw [← hq] at e
    have : k = 0 ∨ k = 1 ∨ k = 2 ∨ k = 3 := by omega
    rcases this with rfl | rfl | rfl | rfl <;> simp only [Prod.mk.injEq] at hst <;> exact fin s t (by omega) (by omega) (by omega) (by omega) e
  · have hm : zc_m x y u v = 6 := if_neg h0
    have hq : zc_q x y u v k = zc_q6 x y u v k := if_neg h0
    rw [hm] at hk
    obtain ⟨s, t, -, -, e, hst⟩ := zc_dot6 x y u v k hk
    rw [← hq] at e
    have : k = 0 ∨ k = 1 ∨ k = 2 ∨ k = 3 ∨ k = 4 ∨ k = 5 := by omega
    rcases this with rfl | rfl | rfl | rfl | rfl | rfl <;> simp only [Prod.mk.injEq] at hst <;> exact fin s t (by omega) (by omega) (by omega) (by omega) e
/-- the cell of a grid, drawn by the class -/
theorem x_drawCell {g' : Nat} {a b c r1 r2 r3 r4 : Int} (hy : v_yard w kp) (hmi : v_misc w) (ho : v_ob w g' 3 [.int (Int32.ofInt a), .int (Int32.ofInt b), .int (Int32.ofInt c)]) (hg : 49 ≤ g') (hr : 1 ≤ a ∧ 0 ≤ b ∧ b < c ∧ a * c ≤ 1000000) (hrr : zr_red 50 a b 0 c = some (r1, r2, r3, r4)) : ∃ (w' : rz_W) (x y u v : Int), (x, y, u, v) = zr_fl (r1, r2, r3, r4) ∧ x * v - y * u = a * c ∧ 0 < zr_N x y ∧ 0 < zr_N u v ∧ zr_p x y u v ≤ 0 ∧ -zr_N x y ≤ 2 * zr_p x y u v ∧ -zr_N u v ≤ 2 * zr_p x y u v ∧ (∀ k, k < zc_m x y u v → (zc_q x y u v k).1.natAbs ≤ 100000000000000 ∧ (zc_q x y u v k).2.natAbs ≤ 100000000000000) ∧ rz_ex X (d + 4) 161 [.ref 0, .ref g'] w = some (.inl none, w', 0, 0) ∧ rz_fr [4, 9, 10, 11] w w' ∧ v_misc w' ∧ v_cell w' (zc_m x y u v) (2 * (a * c)) (zc_first (zc_q x y u v) (zc_m x y u v - 1) 1 0) (zc_q x y u v) := by
  obtain ⟨t1, t2, t3, t4, htt, k1, k2, k3, k4, k5, k6⟩ := zr_grid hr
  rw [hrr] at htt
  simp only [Option.some.injEq, Prod.mk.injEq] at htt
  obtain ⟨rfl, rfl, rfl, rfl⟩ := htt
  obtain ⟨⟨o, o1, o2, o3, f, g, h, p4⟩, -, ⟨c1, c2, c3, c4, c5, p9, p10, p11⟩, -⟩ := id hmi
  obtain ⟨s1, s2, s3, s4, hss, e1⟩ := x_reduce (X := X) (d := d) (f := f) (g := g) (h := h) p4 ho hg hr
  rw [hrr] at hss
  simp only [Option.some.injEq, Prod.mk.injEq] at hss
  obtain ⟨rfl, rfl, rfl, rfl⟩ := hss
  have hac := Int.mul_pos (show 0 < a by omega) (show 0 < c by omega)
  have hdet := zr_fl_det k2
  have hdd : ((r1 * r4 - r2 * r3).natAbs : Int) = a * c := by clear hdet e1 k4 k5 k6 k3; omega
  rw [hdd] at hdet
  have hpp := zr_fl_p (r1 := r1) (r2 := r2) (r3 := r3) (r4 := r4)
  have hNN := zr_fl_N (r1 := r1) (r2 := r2) (r3 := r3) (r4 := r4)
  have hN1 : 0 < zr_N r1 r2 := by omega
  have m1 := z_nmul k4.2.2.1 k4.2.2.1
  have m2 := z_nmul k4.2.2.2 k4.2.2.2
  have hB : zr_N r3 r4 ≤ 2 ^ 41 := by
    have q := z_ac hr.1 (show 1 ≤ c by omega) hr.2.2.2
    have n1 := z_nmul (a := a) (b := a) (M := 1000000) (N := 1000000) (by omega) (by omega)
    have n2 := z_nmul (a := b) (b := b) (M := 1000000) (N := 1000000) (by omega) (by omega)
    have n3 := z_nmul (a := c) (b := c) (M := 1000000) (N := 1000000) (by omega) (by omega)
    have N1 : zr_N a b ≤ 2 ^ 41 := by unfold zr_N; omega
    have N2 : zr_N 0 c ≤ 2 ^ 41 := by unfold zr_N; omega
    exact (zr_res (B := 2 ^ 41) (M := fun _ _ => True) (fun _ _ _ _ _ _ _ => trivial) 50 (show a * c - b * 0 ≠ 0 by omega) N1 N2 trivial trivial hrr).2.2.1
  have hAA0 : (a * c) * (a * c) = zr_N r1 r2 * zr_N r3 r4 - zr_p r1 r2 r3 r4 * zr_p r1 r2 r3 r4 := by
    have e : (r1 * r4 - r2 * r3) * (r1 * r4 - r2 * r3) = zr_N r1 r2 * zr_N r3 r4 - zr_p r1 r2 r3 r4 * zr_p r1 r2 r3 r4 := by simp only [zr_N, zr_p]; grind
    rw [← e]
    rcases k1 with k1 | k1
    · rw [k1]
    · rw [k1, Int.neg_mul_neg]
  have hAA : (a * c) * (a * c) = zr_N (zr_fl (r1, r2, r3, r4)).1 (zr_fl (r1, r2, r3, r4)).2.1 * zr_N (zr_fl (r1, r2, r3, r4)).2.2.1 (zr_fl (r1, r2, r3, r4)).2.2.2 - zr_p (zr_fl (r1, r2, r3, r4)).1 (zr_fl (r1, r2, r3, r4)).2.1 (zr_fl (r1, r2, r3, r4)).2.2.1 (zr_fl (r1, r2, r3, r4)).2.2.2 * zr_p (zr_fl (r1, r2, r3, r4)).1 (zr_fl (r1, r2, r3, r4)).2.1 (zr_fl (r1, r2, r3, r4)).2.2.1 (zr_fl (r1, r2, r3, r4)).2.2.2 := by
    rw [hAA0, hpp, Int.neg_mul_neg]
    have e0 : ((zr_p r1 r2 r3 r4).natAbs : Int) * ((zr_p r1 r2 r3 r4).natAbs : Int) = zr_p r1 r2 r3 r4 * zr_p r1 r2 r3 r4 := by rw [← Int.natCast_mul, ← Int.natAbs_mul, Int.natAbs_of_nonneg (zr_sqn _)]
    rw [e0]
    rcases hNN with ⟨z1, z2⟩ | ⟨z1, z2⟩
    · rw [z1, z2]
    · rw [z1, z2, Int.mul_comm (zr_N r3 r4)]
  generalize hcc : zr_fl (r1, r2, r3, r4) = q at *
  obtain ⟨x, y, u, v⟩ := q
  dsimp only at *
  have b1 : 0 < zr_N x y ∧ zr_N x y ≤ 2 ^ 41 := by clear e1 hAA hAA0 m1 m2; omega
  have b2 : 0 < zr_N u v ∧ zr_N u v ≤ 2 ^ 41 := by clear e1 hAA hAA0 m1 m2; omega
  have b3 : 2 * ((zr_p x y u v).natAbs : Int) ≤ zr_N x y ∧ 2 * ((zr_p x y u v).natAbs : Int) ≤ zr_N u v := by clear e1 hAA hAA0 m1 m2; omega
  have b4 : zr_p x y u v ≤ 0 := by rw [hpp]; omega
  have hsm := zc_small b1 b2 (show 0 ≤ a * c ∧ a * c ≤ 1000000 by omega) hAA b3.1 b3.2 b4
  have f1 : rz_fr [4] w (w.set 4 (.inr (0, [.long (Int64.ofInt x), .long (Int64.ofInt y), .long (Int64.ofInt u), .long (Int64.ofInt v), .long f, .long g, .long h]))) := fr_set (by decide)
  have g4 : v_ob (w.set 4 (.inr (0, [.long (Int64.ofInt x), .long (Int64.ofInt y), .long (Int64.ofInt u), .long (Int64.ofInt v), .long f, .long g, .long h]))) 4 0 [.long (Int64.ofInt x), .long (Int64.ofInt y), .long (Int64.ofInt u), .long (Int64.ofInt v), .long f, .long g, .long h] := w_eq (w_lt p4)
  generalize hw1 : w.set 4 (.inr (0, [.long (Int64.ofInt x), .long (Int64.ofInt y), .long (Int64.ofInt u), .long (Int64.ofInt v), .long f, .long g, .long h])) = w1 at *
  have hy1 : v_yard w1 kp := fr_get f1 (by decide) hy
  have q9 := fr_get f1 (by decide) p9
  obtain ⟨w2, e2, f2, v2⟩ := x_draw (X := X) (d := d) g4 q9 (fr_get f1 (by decide) p10) (fr_get f1 (by decide) p11) (by clear e1 hAA hAA0 m1 m2; omega) hsm
  rw [hdet] at v2
  have f3 : rz_fr [4, 9, 10, 11] w w2 := fr_trans (fr_sub f1 (by decide)) (fr_sub f2 (by decide))
  refine ⟨w2, x, y, u, v, rfl, hdet, b1.1, b2.1, b4, by clear e1 hAA hAA0 m1 m2; omega, by clear e1 hAA hAA0 m1 m2; omega, hsm, ?_, f3, ?_, v2⟩
  · simp (disch := first | exact nl_i | exact nl_r | exact nl_0 | exact nl_n | exact nl_x | exact kd_r | exact kd_n | exact kd_x | exact kd_o | exact cats0 | exact cats1 | exact cats2 | exact cats3 | exact cats4 | exact nr_i | exact nr_l | exact nr_z0 | exact nr_z1 | exact ft_i | exact ft_l | omega | rfl | assumption | (refine i_ne0 ?_ ?_ ?_ <;> omega) | (refine j_ne0 ?_ ?_ ?_ <;> omega) | (refine i_new ?_ ?_ <;> omega) | (refine bl_t ?_; with_unfolding_all rfl) | exact ft_z0 | exact ft_z1) only [n_X10_drawCell, q_X10_drawCell_0, q_X10_drawCell_1, q_X10_drawCell_4, q_X10_drawCell_5, q_X10_drawCell_8, q_X10_drawCell_9, q_X10_drawCell_12, q_X10_drawCell_13, q_X10_drawCell_16, q_X10_drawCell_19, i_add, i_sub, i_mul, i_neg, i_lt, i_le, i_eq, i_tm, i_div, i_j, j_i, j_add, j_sub, j_mul, j_neg, j_lt, j_le, j_eq, j_div, c_lt, c_le, c_gt, c_ge, c_eq, i_nat, rz_k, Nat.add_zero, Nat.zero_add, Nat.add_assoc, Nat.reduceAdd, if_true, if_false, gf_eq hy, List.getElem?_cons_zero, List.getElem?_cons_succ, vk_eq p4, e1, gf_eq hy1, vk_eq q9, e2]
  · obtain ⟨Xf, Yf, u9, u10, u11, -⟩ := v2
    obtain ⟨-, ⟨n5, L5, P5, Q5, p5, p6, p7, p8⟩, -, ⟨d1, d2, d3, q1, q2, q3⟩, ⟨z1, z2, z3, y1, y2, y3⟩, ⟨x1, x2, p12, p13⟩, ⟨x3, p14⟩⟩ := id hmi
    have k : ∀ {q : Nat} {u : rz_E}, q ∉ [4, 9, 10, 11] → w[q]? = some u → w2[q]? = some u := fun hq h => fr_get f3 hq h
    exact ⟨⟨_, _, _, _, _, _, _, fr_get f2 (by decide) g4⟩, ⟨n5, L5, P5, Q5, k (by decide) p5, k (by decide) p6, k (by decide) p7, k (by decide) p8⟩, ⟨_, _, _, Xf, Yf, u9, u10, u11⟩, ⟨d1, d2, d3, k (by decide) q1, k (by decide) q2, k (by decide) q3⟩, ⟨z1, z2, z3, k (by decide) y1, k (by decide) y2, k (by decide) y3⟩, ⟨x1, x2, k (by decide) p12, k (by decide) p13⟩, ⟨x3, k (by decide) p14⟩⟩
/-- the points around, made by the reference -/
theorem y_around {A B C : Nat → Int64} {i a b c r1 r2 r3 r4 : Int} (hm : v_model w kp tl kd ty cl th) (g34 : v_la w 34 8 A) (g35 : v_la w 35 8 B) (g36 : v_la w 36 8 C) (hi : 0 ≤ i ∧ i ≤ 7) (ea : A i.toNat = Int64.ofInt a) (eb : B i.toNat = Int64.ofInt b) (ec : C i.toNat = Int64.ofInt c) (hr : 1 ≤ a ∧ 0 ≤ b ∧ b < c ∧ a * c ≤ 1000000) (hrr : zr_red 50 a b 0 c = some (r1, r2, r3, r4)) (hb4 : r1.natAbs ≤ 1500000 ∧ r2.natAbs ≤ 1500000 ∧ r3.natAbs ≤ 1500000 ∧ r4.natAbs ≤ 1500000) : ∃ (l : rz_W) (p m : Nat) (F : Nat → Int64), m = zc_m (zc_l (r1, r2, r3, r4)).1 (zc_l (r1, r2, r3, r4)).2.1 (zc_l (r1, r2, r3, r4)).2.2.1 (zc_l (r1, r2, r3, r4)).2.2.2 ∧ rz_ex X (d + 3) 213 [.ref 32, .int (Int32.ofInt i)] w = some (.inl (some (.ref p)), w ++ l, 2, 4 + 2 * m) ∧ v_la (w ++ l) p (2 * m) F ∧ ∀ k, k < m → F (2 * k) = Int64.ofInt (zc_Q (zc_l (r1, r2, r3, r4)).1 (zc_l (r1, r2, r3, r4)).2.1 (zc_l (r1, r2, r3, r4)).2.2.1 (zc_l (r1, r2, r3, r4)).2.2.2 k).1 ∧ F (2 * k + 1) = Int64.ofInt (zc_Q (zc_l (r1, r2, r3, r4)).1 (zc_l (r1, r2, r3, r4)).2.1 (zc_l (r1, r2, r3, r4)).2.2.1 (zc_l (r1, r2, r3, r4)).2.2.2 k).2 := by
  obtain ⟨G, e1, G0, G1, G2, G3⟩ := y_short (X := X) (d := d) hm g34 g35 g36 hi ea eb ec hr hrr
  have a1 : v_la (w ++ [.inl (.long, 4, .inr (.inl G))]) w.length 4 G := w_new
  have n1 := z_nmul hb4.1 hb4.2.2.2
  have n2 := z_nmul hb4.2.1 hb4.2.2.1
  have n3 := z_nmul hb4.1 hb4.2.2.1
  have n4 := z_nmul hb4.2.1 hb4.2.2.2
  have hpb : (zr_p r1 r2 r3 r4).natAbs ≤ 9000000000000000000 := by unfold zr_p; omega
  have hlp := zc_l_p (r1 := r1) (r2 := r2) (r3 := r3) (r4 := r4)
  have hl : zc_l (r1, r2, r3, r4) = (r1, r2, (if r1 * r4 - r2 * r3 < 0 then (-r3, -r4) else (r3, r4)).1, (if r1 * r4 - r2 * r3 < 0 then (-r3, -r4) else (r3, r4)).2) := by
    unfold zc_l
    dsimp only
    split <;> rfl
  rw [hl] at hlp ⊢
  dsimp only at hlp ⊢
  generalize huv : (if r1 * r4 - r2 * r3 < 0 then (-r3, -r4) else (r3, r4)) = uv at *
  obtain ⟨F, e2, hF⟩ := y_around0 (X := X) (d := d) (nc := 1) (ns := 4) (i := Int32.ofInt i) (u := uv.1) (v := uv.2) a1 ⟨G0, G1, G2, G3⟩ (by rw [huv]) (by omega) (by omega)
  refine ⟨[.inl (.long, 4, .inr (.inl G)), .inl (.long, 2 * zc_m r1 r2 uv.1 uv.2, .inr (.inl F))], (w ++ ([.inl (.long, 4, .inr (.inl G))] : rz_W)).length, _, F, rfl, ?_, ?_, hF⟩
  · have hw2 : w ++ [.inl (.long, 4, .inr (.inl G)), .inl (.long, 2 * zc_m r1 r2 uv.1 uv.2, .inr (.inl F))] = (w ++ ([.inl (.long, 4, .inr (.inl G))] : rz_W)) ++ ([.inl (.long, 2 * zc_m r1 r2 uv.1 uv.2, .inr (.inl F))] : rz_W) := by rw [List.append_assoc]; rfl
    rw [hw2, show (2 : Nat) = 1 + 1 from rfl, ← e2]
    simp (disch := first | exact nl_i | exact nl_r | exact nl_0 | exact nl_n | exact nl_x | exact kd_r | exact kd_n | exact kd_x | exact kd_o | exact cats0 | exact cats1 | exact cats2 | exact cats3 | exact cats4 | exact nr_i | exact nr_l | exact nr_z0 | exact nr_z1 | exact ft_i | exact ft_l | omega | rfl | assumption | (refine i_ne0 ?_ ?_ ?_ <;> omega) | (refine j_ne0 ?_ ?_ ?_ <;> omega) | (refine i_new ?_ ?_ <;> omega) | (refine bl_t ?_; with_unfolding_all rfl) | exact ft_z0 | exact ft_z1) only [n_X11_around, q_X11_around_0, q_X11_around_1, q_X11_around_2, q_X11_around_5, i_add, i_sub, i_mul, i_neg, i_lt, i_le, i_eq, i_tm, i_div, i_j, j_i, j_add, j_sub, j_mul, j_neg, j_lt, j_le, j_eq, j_div, c_lt, c_le, c_gt, c_ge, c_eq, i_nat, rz_k, Nat.add_zero, Nat.zero_add, Nat.add_assoc, Nat.reduceAdd, if_true, if_false, vk_eq hm, e1]
  · have hw2 : w ++ [.inl (.long, 4, .inr (.inl G)), .inl (.long, 2 * zc_m r1 r2 uv.1 uv.2, .inr (.inl F))] = (w ++ ([.inl (.long, 4, .inr (.inl G))] : rz_W)) ++ ([.inl (.long, 2 * zc_m r1 r2 uv.1 uv.2, .inr (.inl F))] : rz_W) := by rw [List.append_assoc]; rfl
    rw [hw2]
    exact w_new
theorem zc_m_eq {r1 r2 r3 r4 x y u v : Int} (h : (x, y, u, v) = zr_fl (r1, r2, r3, r4)) : zc_m (zc_l (r1, r2, r3, r4)).1 (zc_l (r1, r2, r3, r4)).2.1 (zc_l (r1, r2, r3, r4)).2.2.1 (zc_l (r1, r2, r3, r4)).2.2.2 = zc_m x y u v := by
  have hlp := zc_l_p (r1 := r1) (r2 := r2) (r3 := r3) (r4 := r4)
  have hpp := zr_fl_p (r1 := r1) (r2 := r2) (r3 := r3) (r4 := r4)
  rw [← h] at hpp
  dsimp only at hpp
  unfold zc_m
  by_cases h0 : zr_p r1 r2 r3 r4 = 0
  · rw [if_pos (by omega), if_pos (by omega)]
  · rw [if_neg (by omega), if_neg (by omega)]
theorem ag_corners {s : Int} (hs1 : -2147483648 ≤ s ∧ s ≤ 2147483647) (hv : v_inv w) : rz_ag X d 123 214 false [.int (Int32.ofInt s)] ["java/lang/IndexOutOfBoundsException", "java/util/NoSuchElementException"] w := by
  obtain ⟨kp, tl, kd, ty, cl, th, hy, hm, hs, ht, hp, hq, hmi⟩ := id hv
  obtain ⟨G, KG, H, KH, KS, KT, A, B, C, KA, KB, KC, ⟨g1, g2, g3, g33, g34, g35, g36, g37, g38, g39, g40, g41⟩, hk, hS, hK⟩ := id hs
  by_cases ha : 0 ≤ s ∧ s ≤ 7
  case neg =>
    refine ag_thr0 (c1 := 1) (s1 := 6) 0 rfl hv hm ?_ ?_
    · simp (disch := first | exact nl_i | exact nl_r | exact nl_0 | exact nl_n | exact nl_x | exact kd_r | exact kd_n | exact kd_x | exact kd_o | exact cats0 | exact cats1 | exact cats2 | exact cats3 | exact cats4 | exact nr_i | exact nr_l | exact nr_z0 | exact nr_z1 | exact ft_i | exact ft_l | omega | rfl | assumption | (refine i_ne0 ?_ ?_ ?_ <;> omega) | (refine j_ne0 ?_ ?_ ?_ <;> omega) | (refine i_new ?_ ?_ <;> omega)) only [n_X10_corners, q_X10_corners_0, q_X10_corners_1, q_X10_corners_4, q_X10_corners_5, q_X10_corners_6, q_X10_corners_7, q_X10_corners_10, q_X10_corners_13, q_X10_corners_14, q_X10_corners_17, q_X10_corners_20, i_add, i_sub, i_mul, i_neg, i_lt, i_le, i_eq, i_tm, i_div, i_j, j_i, j_add, j_sub, j_mul, j_neg, j_lt, j_le, j_eq, j_div, c_lt, c_le, c_gt, c_ge, c_eq, i_nat, rz_k, Nat.add_zero, Nat.zero_add, Nat.add_assoc, Nat.reduceAdd, if_true, if_false, x_slot, if_neg ha, vk_eq hy]
      all_goals rfl
    · rintro wr hm rfl
      refine ⟨Int32.ofInt 0, [], 0, 0, ?_, by omega, by omega⟩
      have hl := y_lacks2 (X := X) (d := d + 26) hm hs1.1 hs1.2 ha
      simp (disch := first | exact nl_i | exact nl_r | exact nl_0 | exact nl_n | exact nl_x | exact kd_r | exact kd_n | exact kd_x | exact kd_o | exact cats0 | exact cats1 | exact cats2 | exact cats3 | exact cats4 | exact nr_i | exact nr_l | exact nr_z0 | exact nr_z1 | exact ft_i | exact ft_l | omega | rfl | assumption | (refine i_ne0 ?_ ?_ ?_ <;> omega) | (refine j_ne0 ?_ ?_ ?_ <;> omega) | (refine i_new ?_ ?_ <;> omega)) only [n_X11_corners, q_X11_corners_0, q_X11_corners_1, q_X11_corners_2, q_X11_corners_5, q_X11_corners_8, q_X11_corners_9, q_X11_corners_12, q_X11_corners_13, q_X11_corners_14, q_X11_corners_17, q_X11_corners_17x, q_X11_corners_18, q_X11_corners_19, q_X11_corners_20, i_add, i_sub, i_mul, i_neg, i_lt, i_le, i_eq, i_tm, i_div, i_j, j_i, j_add, j_sub, j_mul, j_neg, j_lt, j_le, j_eq, j_div, c_lt, c_le, c_gt, c_ge, c_eq, i_nat, rz_k, Nat.add_zero, Nat.zero_add, Nat.add_assoc, Nat.reduceAdd, if_true, if_false, hl, vk_eq hm, List.append_nil, Int.reduceEq, not_false_eq_true, not_true_eq_false]
      all_goals rfl
  have hi := hS s.toNat (by omega)
  have hgr := x_gridIn (X := X) (d := d + 27) hy g1 ha.1 ha.2
  cases hg : G s.toNat with
  | none =>
    rw [hg] at hi hgr
    refine ag_thr0 (c1 := 1) (s1 := 6) 1 rfl hv hm ?_ ?_
    · simp (disch := first | exact nl_i | exact nl_r | exact nl_0 | exact nl_n | exact nl_x | exact kd_r | exact kd_n | exact kd_x | exact kd_o | exact cats0 | exact cats1 | exact cats2 | exact cats3 | exact cats4 | exact nr_i | exact nr_l | exact nr_z0 | exact nr_z1 | exact ft_i | exact ft_l | omega | rfl | assumption | (refine i_ne0 ?_ ?_ ?_ <;> omega) | (refine j_ne0 ?_ ?_ ?_ <;> omega) | (refine i_new ?_ ?_ <;> omega)) only [n_X10_corners, q_X10_corners_0, q_X10_corners_1, q_X10_corners_4, q_X10_corners_5, q_X10_corners_6, q_X10_corners_7, q_X10_corners_10, q_X10_corners_13, q_X10_corners_14, q_X10_corners_17, q_X10_corners_20, i_add, i_sub, i_mul, i_neg, i_lt, i_le, i_eq, i_tm, i_div, i_j, j_i, j_add, j_sub, j_mul, j_neg, j_lt, j_le, j_eq, j_div, c_lt, c_le, c_gt, c_ge, c_eq, i_nat, rz_k, Nat.add_zero, Nat.zero_add, Nat.add_assoc, Nat.reduceAdd, if_true, if_false, x_slot, if_pos ha, hgr, vk_eq hy]
      all_goals rfl
    · rintro wr hm rfl
      refine ⟨Int32.ofInt 0, [], 0, 0, ?_, by omega, by omega⟩
      have hl := y_lacks1 (X := X) (d := d + 26) hm g33 ha.1 ha.2 hi
      simp (disch := first | exact nl_i | exact nl_r | exact nl_0 | exact nl_n | exact nl_x | exact kd_r | exact kd_n | exact kd_x | exact kd_o | exact cats0 | exact cats1 | exact cats2 | exact cats3 | exact cats4 | exact nr_i | exact nr_l | exact nr_z0 | exact nr_z1 | exact ft_i | exact ft_l | omega | rfl | assumption | (refine i_ne0 ?_ ?_ ?_ <;> omega) | (refine j_ne0 ?_ ?_ ?_ <;> omega) | (refine i_new ?_ ?_ <;> omega)) only [n_X11_corners, q_X11_corners_0, q_X11_corners_1, q_X11_corners_2, q_X11_corners_5, q_X11_corners_8, q_X11_corners_9, q_X11_corners_12, q_X11_corners_13, q_X11_corners_14, q_X11_corners_17, q_X11_corners_17x, q_X11_corners_18, q_X11_corners_19, q_X11_corners_20, i_add, i_sub, i_mul, i_neg, i_lt, i_le, i_eq, i_tm, i_div, i_j, j_i, j_add, j_sub, j_mul, j_neg, j_lt, j_le, j_eq, j_div, c_lt, c_le, c_gt, c_ge, c_eq, i_nat, rz_k, Nat.add_zero, Nat.zero_add, Nat.add_assoc, Nat.reduceAdd, if_true, if_false, hl, vk_eq hm, List.append_nil, Int.reduceEq, not_false_eq_true, not_true_eq_false]
      all_goals rfl
  | some g =>
    rw [hg] at hi hgr
    obtain ⟨hh, hg49, a, b, c, hr, ho, ea, eb, ec⟩ := hi
    obtain ⟨r1, r2, r3, r4, hrr, k1, k2, k3, k4, k5, k6⟩ := zr_grid hr
    obtain ⟨w1, x, y, u, v, hq, -, -, -, -, -, -, -, e1, f1, hmi1, hc⟩ := x_drawCell (X := X) (d := d + 24) hy hmi ho hg49 hr hrr
    have hy1 : v_yard w1 kp := fr_get f1 (by decide) hy
    obtain ⟨Xf, Yf, h9, h10, h11, -⟩ := hc
    refine ag_ret (S1 := [4, 9, 10, 11]) (S2 := []) (c1 := 0) (s1 := 0) (r := Int32.ofInt (zc_m x y u v : Int)) hv hm ?_ f1 (by decide) hmi1 (by simp) (fun h => by cases h) ?_
    · simp (disch := first | exact nl_i | exact nl_r | exact nl_0 | exact nl_n | exact nl_x | exact kd_r | exact kd_n | exact kd_x | exact kd_o | exact cats0 | exact cats1 | exact cats2 | exact cats3 | exact cats4 | exact nr_i | exact nr_l | exact nr_z0 | exact nr_z1 | exact ft_i | exact ft_l | omega | rfl | assumption | (refine i_ne0 ?_ ?_ ?_ <;> omega) | (refine j_ne0 ?_ ?_ ?_ <;> omega) | (refine i_new ?_ ?_ <;> omega)) only [n_X10_corners, q_X10_corners_0, q_X10_corners_1, q_X10_corners_4, q_X10_corners_5, q_X10_corners_6, q_X10_corners_7, q_X10_corners_10, q_X10_corners_13, q_X10_corners_14, q_X10_corners_17, q_X10_corners_20, i_add, i_sub, i_mul, i_neg, i_lt, i_le, i_eq, i_tm, i_div, i_j, j_i, j_add, j_sub, j_mul, j_neg, j_lt, j_le, j_eq, j_div, c_lt, c_le, c_gt, c_ge, c_eq, i_nat, rz_k, Nat.add_zero, Nat.zero_add, Nat.add_assoc, Nat.reduceAdd, if_true, if_false, x_slot, if_pos ha, hgr, vk_eq hy, vk_eq hy1, e1, gf_eq hy1, List.getElem?_cons_zero, List.getElem?_cons_succ, gf_eq h9]
    · intro wr hf hmr hv'
      have hl0 := y_lacks0 (X := X) (d := d + 26) hmr (fr_get hf (by decide) g33) ha.1 ha.2 hh
      have hm1 := v_mo (t := 0) hmr
      have fa : rz_fr [32] wr (wr.set 32 (rz_mo kp tl kd ty cl 0)) := fr_set (by decide)
      have ff : rz_fr [48, 4, 9, 10, 11, 32] w (wr.set 32 (rz_mo kp tl kd ty cl 0)) := fr_trans (fr_sub hf (by decide)) (fr_sub fa (by decide))
      obtain ⟨l, p, m, F, em, e2, hF, -⟩ := y_around (X := X) (d := d + 26) hm1 (fr_get ff (by decide) g34) (fr_get ff (by decide) g35) (fr_get ff (by decide) g36) ha ea eb ec hr hrr k4
      rw [zc_m_eq hq] at em
      have hm6 : m = 4 ∨ m = 6 := by rw [em]; unfold zc_m; split <;> omega
      have fb : rz_fr [32] wr (wr.set 32 (rz_mo kp tl kd ty cl 0) ++ l) := fr_trans fa fr_app
      have t : (((2 * m : Nat) : Int)).tdiv 2 = (m : Int) := by
        rw [show (((2 * m : Nat) : Int)).tdiv 2 = ((2 * m / 2 : Nat) : Int) from (Int.ofNat_tdiv _ _).symm]
        omega
      refine ⟨wr.set 32 (rz_mo kp tl kd ty cl 0) ++ l, 2, 4 + 2 * m, ?_, fb, fr_get (S := []) fr_app (by simp) hm1, v_misc_fr fb (by decide) (v_inv_misc hv'), by omega, by omega⟩
      simp (disch := first | exact nl_i | exact nl_r | exact nl_0 | exact nl_n | exact nl_x | exact kd_r | exact kd_n | exact kd_x | exact kd_o | exact cats0 | exact cats1 | exact cats2 | exact cats3 | exact cats4 | exact nr_i | exact nr_l | exact nr_z0 | exact nr_z1 | exact ft_i | exact ft_l | omega | rfl | assumption | (refine i_ne0 ?_ ?_ ?_ <;> omega) | (refine j_ne0 ?_ ?_ ?_ <;> omega) | (refine i_new ?_ ?_ <;> omega)) only [n_X11_corners, q_X11_corners_0, q_X11_corners_1, q_X11_corners_2, q_X11_corners_5, q_X11_corners_8, q_X11_corners_9, q_X11_corners_12, q_X11_corners_13, q_X11_corners_14, q_X11_corners_17, q_X11_corners_17x, q_X11_corners_18, q_X11_corners_19, q_X11_corners_20, i_add, i_sub, i_mul, i_neg, i_lt, i_le, i_eq, i_tm, i_div, i_j, j_i, j_add, j_sub, j_mul, j_neg, j_lt, j_le, j_eq, j_div, c_lt, c_le, c_gt, c_ge, c_eq, i_nat, rz_k, Nat.add_zero, Nat.zero_add, Nat.add_assoc, Nat.reduceAdd, if_true, if_false, hl0, vk_eq hmr, vk_eq hm1, e2, ln_eq hF, t, Int.reduceEq, not_false_eq_true, not_true_eq_false]
      rw [em]
end RZCG
