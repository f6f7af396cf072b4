/-! part 49: level 2: a slot becomes a grid: the class's -/
section RZBD
variable {X : rz_X} {d : Nat} {w : rz_W} {nc ns : Nat} {kp tl kd ty cl th : Int}
def zf_kk (kp : Int) : Int := if kp = 10 then 9 else kp
def zf_ks {α : Type} (f : Nat → α) (kp : Int) : Nat → α := if kp = 10 then zf_sh f 10 else f
theorem x_index {g : Nat} {A B C : Int} (hg : v_ob w g 3 [.int (Int32.ofInt A), .int (Int32.ofInt B), .int (Int32.ofInt C)]) : rz_ex X (d + 1) 31 [.ref g] w = some (.inl (some (.int (Int32.ofInt (A * C)))), w, 0, 0) := by
  simp (disch := first | exact nl_i | exact nl_r | exact nl_0 | exact nl_n | exact nl_x | exact kd_r | exact kd_n | exact kd_x | exact kd_o | exact cats0 | exact cats1 | exact cats2 | exact cats3 | exact cats4 | exact nr_i | exact nr_l | exact nr_z0 | exact nr_z1 | exact ft_i | exact ft_l | omega | rfl | assumption | (refine i_ne0 ?_ ?_ ?_ <;> omega) | (refine j_ne0 ?_ ?_ ?_ <;> omega) | (refine i_new ?_ ?_ <;> omega)) only [n_X3_index, q_X3_index_0, q_X3_index_1, q_X3_index_4, q_X3_index_5, q_X3_index_8, q_X3_index_9, i_add, i_sub, i_mul, i_neg, i_lt, i_le, i_eq, i_tm, i_div, i_j, j_i, j_add, j_sub, j_mul, j_neg, j_lt, j_le, j_eq, j_div, c_lt, c_le, c_gt, c_ge, c_eq, i_nat, rz_k, Nat.add_zero, Nat.zero_add, Nat.add_assoc, Nat.reduceAdd, if_true, if_false, gf_eq hg, List.getElem?_cons_zero, List.getElem?_cons_succ]
theorem l_become {g : Nat} {A B C s kk : Int} {F : Nat → Int32} {G KG : Nat → Option Nat} (hy : v_yard w kk) (hk : 0 ≤ kk ∧ kk ≤ 9) (hs : 0 ≤ s ∧ s ≤ 7) (g1 : v_ga w 1 8 G) (g2 : v_ia w 2 10 F) (g3 : v_ga w 3 10 KG) (hg : v_ob w g 3 [.int (Int32.ofInt A), .int (Int32.ofInt B), .int (Int32.ofInt C)]) (hg4 : 4 ≤ g) (hG : ∀ j q, j < 8 → G j = some q → 4 ≤ q ∧ ∃ fs, v_ob w q 3 fs) : ∃ w', rz_G X (d + 1) mz_X10_become 29 [some (.ref 0), some (.int (Int32.ofInt s)), some (.ref g)] [] w nc ns = some (.inl (some (.int (Int32.ofInt (A * C)))), w', nc, ns) ∧ rz_fr [0, 1, 2, 3] w w' ∧ v_yard w' (kk + 1) ∧ v_ga w' 1 8 (va_up G s.toNat (some g)) ∧ v_ia w' 2 10 (upd F kk.toNat (Int32.ofInt s)) ∧ v_ga w' 3 10 (va_up KG kk.toNat (G s.toNat)) := by
  have l0 := w_lt hy
  have l1 := w_lt g1
  have l2 := w_lt g2
  have l3 := w_lt g3
  generalize hw1 : w.set 2 (.inl (.int, 10, .inl (upd F kk.toNat (Int32.ofInt s)))) = w1
  have f1 : rz_fr [2] w w1 := by rw [← hw1]; exact fr_set (by decide)
  have hy1 : v_yard w1 kk := fr_get f1 (by decide) hy
  have h31 : v_ga w1 3 10 KG := fr_get f1 (by decide) g3
  have h11 : v_ga w1 1 8 G := fr_get f1 (by decide) g1
  generalize hw2 : w1.set 3 (.inl (.object "Latticeyard$Grid", 10, .inr (.inr (.inr (.inr (va_up KG kk.toNat (G s.toNat))))))) = w2
  have f2 : rz_fr [3] w1 w2 := by rw [← hw2]; exact fr_set (by decide)
  have hy2 : v_yard w2 kk := fr_get f2 (by decide) hy1
  have l02 := w_lt hy2
  generalize hw3 : w2.set 0 (.inr (10, [.ref 1, .ref 2, .ref 3, .int (Int32.ofInt (kk + 1)), .ref 4, .ref 5, .ref 9, .ref 12, .ref 14, .ref 18, .ref 26, .ref 29])) = w3
  have f3 : rz_fr [0] w2 w3 := by rw [← hw3]; exact fr_set (by decide)
  have f13 : rz_fr [0, 2, 3] w w3 := fr_trans (fr_sub f1 (by decide)) (fr_trans (fr_sub f2 (by decide)) (fr_sub f3 (by decide)))
  have hy3 : v_yard w3 (kk + 1) := by rw [← hw3]; exact w_eq l02
  have h13 : v_ga w3 1 8 G := fr_get f13 (by decide) g1
  have hg3 : v_ob w3 g 3 [.int (Int32.ofInt A), .int (Int32.ofInt B), .int (Int32.ofInt C)] := fr_get f13 (by simp; omega) hg
  have l13 := w_lt h13
  have f34 : rz_fr [1] w3 (w3.set 1 (.inl (.object "Latticeyard$Grid", 8, .inr (.inr (.inr (.inr (va_up G s.toNat (some g)))))))) := fr_set (by decide)
  have hg5 : v_ob (w3.set 1 (.inl (.object "Latticeyard$Grid", 8, .inr (.inr (.inr (.inr (va_up G s.toNat (some g)))))))) g 3 [.int (Int32.ofInt A), .int (Int32.ofInt B), .int (Int32.ofInt C)] := fr_get f34 (by simp; omega) hg3
  have hix := x_index (X := X) (d := d) hg5
  have e2 : ∀ v, v = va_rf (G s.toNat) → rz_sa w1 3 (Int32.ofInt kk) v = fun K => K w2 := by
    rintro v rfl
    funext K
    rw [← hw2]
    cases hq : G s.toNat with
    | none => exact sa_n h31 (by omega) (by omega) (by omega)
    | some q =>
      obtain ⟨hq4, fs, ho⟩ := hG s.toNat q (by omega) hq
      exact sa_r h31 (fr_get f1 (by simp; omega) ho) (by decide) (by omega) (by omega) (by omega)
  have kn : va_rf (G s.toNat) = .null ∨ ∃ b, va_rf (G s.toNat) = .ref b := by
    cases G s.toNat with
    | none => exact .inl rfl
    | some q => exact .inr ⟨q, rfl⟩
  refine ⟨_, ?_, fr_trans (fr_sub f13 (by decide)) (fr_sub f34 (by decide)), fr_get f34 (by decide) hy3, w_eq l13, fr_get f34 (by decide) (fr_get f3 (by decide) (fr_get f2 (by decide) (by rw [← hw1]; exact w_eq l2))), fr_get f34 (by decide) (fr_get f3 (by decide) (by rw [← hw2]; exact w_eq (w_lt h31)))⟩
  simp (disch := first | exact nl_i | exact nl_r | exact nl_0 | exact nl_n | exact nl_x | exact kd_r | exact kd_n | exact kd_x | exact kd_o | exact cats0 | exact cats1 | exact cats2 | exact cats3 | exact cats4 | exact nr_i | exact nr_l | exact nr_z0 | exact nr_z1 | exact ft_i | exact ft_l | omega | rfl | assumption | (refine i_ne0 ?_ ?_ ?_ <;> omega) | (refine j_ne0 ?_ ?_ ?_ <;> omega) | (refine i_new ?_ ?_ <;> omega) | (refine bl_t ?_; with_unfolding_all rfl) | exact ft_z0 | exact ft_z1) only [n_X10_become, q_X10_become_0, q_X10_become_1, q_X10_become_4, q_X10_become_5, q_X10_become_7, q_X10_become_10, q_X10_become_11n, q_X10_become_11, q_X10_become_14, q_X10_become_15, q_X10_become_16, q_X10_become_17, q_X10_become_20, q_X10_become_22, q_X10_become_25, q_X10_become_26, q_X10_become_29, q_X10_become_30, q_X10_become_33, q_X10_become_34, q_X10_become_37, q_X10_become_38, q_X10_become_39, q_X10_become_40, q_X10_become_43, q_X10_become_44, q_X10_become_47, q_X10_become_48, q_X10_become_51, q_X10_become_52, q_X10_become_54, q_X10_become_55, q_X10_become_55r, q_X10_become_56, q_X10_become_59, q_X10_become_60, q_X10_become_61, q_X10_become_64, q_X10_become_65, q_X10_become_68, q_X10_become_69, q_X10_become_71, q_X10_become_72, q_X10_become_75, i_add, i_sub, i_mul, i_neg, i_lt, i_le, i_eq, i_tm, i_div, i_j, j_i, j_add, j_sub, j_mul, j_neg, j_lt, j_le, j_eq, j_div, c_lt, c_le, c_gt, c_ge, c_eq, i_nat, rz_k, Nat.add_zero, Nat.zero_add, Nat.add_assoc, Nat.reduceAdd, if_true, if_false, gf_eq hy, List.getElem?_cons_zero, List.getElem?_cons_succ, si_eq g2, hw1, gf_eq hy1, aa_eq h11]
  rw [q_X10_become_53 kn, e2 _ rfl]
  simp (disch := first | exact nl_i | exact nl_r | exact nl_0 | exact nl_n | exact nl_x | exact kd_r | exact kd_n | exact kd_x | exact kd_o | exact cats0 | exact cats1 | exact cats2 | exact cats3 | exact cats4 | exact nr_i | exact nr_l | exact nr_z0 | exact nr_z1 | exact ft_i | exact ft_l | omega | rfl | assumption | (refine i_ne0 ?_ ?_ ?_ <;> omega) | (refine j_ne0 ?_ ?_ ?_ <;> omega) | (refine i_new ?_ ?_ <;> omega) | (refine bl_t ?_; with_unfolding_all rfl) | exact ft_z0 | exact ft_z1) only [n_X10_become, q_X10_become_0, q_X10_become_1, q_X10_become_4, q_X10_become_5, q_X10_become_7, q_X10_become_10, q_X10_become_11n, q_X10_become_11, q_X10_become_14, q_X10_become_15, q_X10_become_16, q_X10_become_17, q_X10_become_20, q_X10_become_22, q_X10_become_25, q_X10_become_26, q_X10_become_29, q_X10_become_30, q_X10_become_33, q_X10_become_34, q_X10_become_37, q_X10_become_38, q_X10_become_39, q_X10_become_40, q_X10_become_43, q_X10_become_44, q_X10_become_47, q_X10_become_48, q_X10_become_51, q_X10_become_52, q_X10_become_54, q_X10_become_55, q_X10_become_55r, q_X10_become_56, q_X10_become_59, q_X10_become_60, q_X10_become_61, q_X10_become_64, q_X10_become_65, q_X10_become_68, q_X10_become_69, q_X10_become_71, q_X10_become_72, q_X10_become_75, i_add, i_sub, i_mul, i_neg, i_lt, i_le, i_eq, i_tm, i_div, i_j, j_i, j_add, j_sub, j_mul, j_neg, j_lt, j_le, j_eq, j_div, c_lt, c_le, c_gt, c_ge, c_eq, i_nat, rz_k, Nat.add_zero, Nat.zero_add, Nat.add_assoc, Nat.reduceAdd, if_true, if_false, gf_eq hy2, List.getElem?_cons_zero, List.getElem?_cons_succ, pf_eq hy2, List.set_cons_zero, List.set_cons_succ, hw3, gf_eq hy3]
  rw [q_X10_become_70 (.inr ⟨_, rfl⟩), sa_r h13 hg3 (by decide) (by omega) (by omega) (by omega)]
  simp (disch := first | exact nl_i | exact nl_r | exact nl_0 | exact nl_n | exact nl_x | exact kd_r | exact kd_n | exact kd_x | exact kd_o | exact cats0 | exact cats1 | exact cats2 | exact cats3 | exact cats4 | exact nr_i | exact nr_l | exact nr_z0 | exact nr_z1 | exact ft_i | exact ft_l | omega | rfl | assumption | (refine i_ne0 ?_ ?_ ?_ <;> omega) | (refine j_ne0 ?_ ?_ ?_ <;> omega) | (refine i_new ?_ ?_ <;> omega) | (refine bl_t ?_; with_unfolding_all rfl) | exact ft_z0 | exact ft_z1) only [n_X10_become, q_X10_become_0, q_X10_become_1, q_X10_become_4, q_X10_become_5, q_X10_become_7, q_X10_become_10, q_X10_become_11n, q_X10_become_11, q_X10_become_14, q_X10_become_15, q_X10_become_16, q_X10_become_17, q_X10_become_20, q_X10_become_22, q_X10_become_25, q_X10_become_26, q_X10_become_29, q_X10_become_30, q_X10_become_33, q_X10_become_34, q_X10_become_37, q_X10_become_38, q_X10_become_39, q_X10_become_40, q_X10_become_43, q_X10_become_44, q_X10_become_47, q_X10_become_48, q_X10_become_51, q_X10_become_52, q_X10_become_54, q_X10_become_55, q_X10_become_55r, q_X10_become_56, q_X10_become_59, q_X10_become_60, q_X10_become_61, q_X10_become_64, q_X10_become_65, q_X10_become_68, q_X10_become_69, q_X10_become_71, q_X10_become_72, q_X10_become_75, i_add, i_sub, i_mul, i_neg, i_lt, i_le, i_eq, i_tm, i_div, i_j, j_i, j_add, j_sub, j_mul, j_neg, j_lt, j_le, j_eq, j_div, c_lt, c_le, c_gt, c_ge, c_eq, i_nat, rz_k, Nat.add_zero, Nat.zero_add, Nat.add_assoc, Nat.reduceAdd, if_true, if_false, vk_eq hg5, hix]
theorem x_become {g : Nat} {A B C s : Int} {F : Nat → Int32} {G KG : Nat → Option Nat} (hy : v_yard w kp) (hk : 0 ≤ kp ∧ kp ≤ 10) (hs : 0 ≤ s ∧ s ≤ 7) (g1 : v_ga w 1 8 G) (g2 : v_ia w 2 10 F) (g3 : v_ga w 3 10 KG) (hg : v_ob w g 3 [.int (Int32.ofInt A), .int (Int32.ofInt B), .int (Int32.ofInt C)]) (hg4 : 4 ≤ g) (hG : ∀ j q, j < 8 → G j = some q → 4 ≤ q ∧ ∃ fs, v_ob w q 3 fs) (hKG : kp = 10 → ∀ j q, j < 10 → KG j = some q → 4 ≤ q ∧ ∃ fs, v_ob w q 3 fs) : ∃ w', rz_ex X (d + 2) 158 [.ref 0, .int (Int32.ofInt s), .ref g] w = some (.inl (some (.int (Int32.ofInt (A * C)))), w', 0, 0) ∧ rz_fr [0, 1, 2, 3] w w' ∧ v_yard w' (zf_kk kp + 1) ∧ v_ga w' 1 8 (va_up G s.toNat (some g)) ∧ v_ia w' 2 10 (upd (zf_ks F kp) (zf_kk kp).toNat (Int32.ofInt s)) ∧ v_ga w' 3 10 (va_up (zf_ks KG kp) (zf_kk kp).toNat (G s.toNat)) := by
  by_cases h10 : kp = 10
  · subst h10
    obtain ⟨w1, e1, f1, hy1, h2, h3⟩ := l_forget (X := X) (d := d) (nc := 0) (ns := 0) (KS := F) (KG := KG) 9 1 w rfl (by omega) hy (by rw [sh_one]; exact g2) (by rw [sh_one]; exact g3) (hKG rfl)
    obtain ⟨w', e2, f2, r⟩ := l_become (X := X) (d := d) (nc := 0) (ns := 0) (w := w1) (s := s) hy1 (by omega) hs (fr_get f1 (by decide) g1) h2 h3 (fr_get f1 (by simp; omega) hg) hg4 (fun j q hj hq => by
      obtain ⟨h4, fs, ho⟩ := hG j q hj hq
      exact ⟨h4, fs, fr_get f1 (by simp; omega) ho⟩)
    refine ⟨w', ?_, fr_trans (fr_sub f1 (by decide)) f2, r⟩
    have e0 : rz_ex X (d + 1) 159 [.ref 0] w = some (.inl none, w1, 0, 0) := by
      simp (disch := first | exact nl_i | exact nl_r | exact nl_0 | exact nl_n | exact nl_x | exact kd_r | exact kd_n | exact kd_x | exact kd_o | exact cats0 | exact cats1 | exact cats2 | exact cats3 | exact cats4 | exact nr_i | exact nr_l | exact nr_z0 | exact nr_z1 | exact ft_i | exact ft_l | omega | rfl | assumption | (refine i_ne0 ?_ ?_ ?_ <;> omega) | (refine j_ne0 ?_ ?_ ?_ <;> omega) | (refine i_new ?_ ?_ <;> omega)) only [n_X10_forgetOldest, q_X10_forgetOldest_0, q_X10_forgetOldest_1]
      exact e1
    simp (disch := first | exact nl_i | exact nl_r | exact nl_0 | exact nl_n | exact nl_x | exact kd_r | exact kd_n | exact kd_x | exact kd_o | exact cats0 | exact cats1 | exact cats2 | exact cats3 | exact cats4 | exact nr_i | exact nr_l | exact nr_z0 | exact nr_z1 | exact ft_i | exact ft_l | omega | rfl | assumption | (refine i_ne0 ?_ ?_ ?_ <;> omega) | (refine j_ne0 ?_ ?_ ?_ <;> omega) | (refine i_new ?_ ?_ <;> omega)) only [n_X10_become, q_X10_become_0, q_X10_become_1, q_X10_become_4, q_X10_become_5, q_X10_become_7, q_X10_become_10, q_X10_become_11, q_X10_become_16, q_X10_become_17, q_X10_become_20, q_X10_become_22, q_X10_become_25, q_X10_become_26, i_add, i_sub, i_mul, i_neg, i_lt, i_le, i_eq, i_tm, i_div, i_j, j_i, j_add, j_sub, j_mul, j_neg, j_lt, j_le, j_eq, j_div, c_lt, c_le, c_gt, c_ge, c_eq, i_nat, rz_k, Nat.add_zero, Nat.zero_add, Nat.add_assoc, Nat.reduceAdd, if_true, if_false, gf_eq hy, vk_eq hy, List.getElem?_cons_zero, List.getElem?_cons_succ, e0]
    rw [if_neg (by omega), if_neg (by omega), if_neg (by omega)]
    exact e2
  · obtain ⟨w', e2, f2, r⟩ := l_become (X := X) (d := d) (nc := 0) (ns := 0) (s := s) hy (by omega) hs g1 g2 g3 hg hg4 hG
    have hkk : zf_kk kp = kp := if_neg h10
    have hks : ∀ {α : Type} (f : Nat → α), zf_ks f kp = f := fun f => if_neg h10
    rw [hkk, hks, hks]
    refine ⟨w', ?_, f2, r⟩
    simp (disch := first | exact nl_i | exact nl_r | exact nl_0 | exact nl_n | exact nl_x | exact kd_r | exact kd_n | exact kd_x | exact kd_o | exact cats0 | exact cats1 | exact cats2 | exact cats3 | exact cats4 | exact nr_i | exact nr_l | exact nr_z0 | exact nr_z1 | exact ft_i | exact ft_l | omega | rfl | assumption | (refine i_ne0 ?_ ?_ ?_ <;> omega) | (refine j_ne0 ?_ ?_ ?_ <;> omega) | (refine i_new ?_ ?_ <;> omega)) only [n_X10_become, q_X10_become_0, q_X10_become_1, q_X10_become_4, q_X10_become_5, q_X10_become_7, q_X10_become_10, q_X10_become_11, q_X10_become_16, q_X10_become_17, q_X10_become_20, q_X10_become_22, q_X10_become_25, q_X10_become_26, i_add, i_sub, i_mul, i_neg, i_lt, i_le, i_eq, i_tm, i_div, i_j, j_i, j_add, j_sub, j_mul, j_neg, j_lt, j_le, j_eq, j_div, c_lt, c_le, c_gt, c_ge, c_eq, i_nat, rz_k, Nat.add_zero, Nat.zero_add, Nat.add_assoc, Nat.reduceAdd, if_true, if_false, gf_eq hy, vk_eq hy, List.getElem?_cons_zero, List.getElem?_cons_succ]
    rw [if_neg (by omega), if_neg (by omega), if_pos (by omega)]
    exact e2
end RZBD
