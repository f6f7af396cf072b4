/-! part 25: level 2: terms of a fraction, in the class and in the reference -/
section RZTM
variable {X : rz_X} {d : Nat} {w : rz_W} {nc ns : Nat}
/-- the reference's note of what was thrown -/
theorem x_no {p : Nat} {fs : List Value} {b k : Int} (h : w[p]? = some (.inr (11, fs))) (hl : Nat.blt 18 fs.length = true) (h1 : 0 ≤ b) (h2 : b ≤ 1) : rz_ex X (d + 1) 175 [.ref p, .int (Int32.ofInt b), .int (Int32.ofInt k)] w = some (.inl (some (.int (Int32.ofInt (if b = 0 then 1 else 0)))), w.set p (.inr (11, fs.set 18 (.int (Int32.ofInt (if b = 0 then k else 0))))), 0, 0) := by
  simp (disch := first | exact nl_i | exact nl_r | exact nl_0 | exact nl_n | exact nl_x | exact kd_r | exact kd_n | exact kd_x | exact kd_o | exact cats0 | exact cats1 | exact cats2 | exact cats3 | exact cats4 | exact nr_i | exact nr_l | exact nr_z0 | exact nr_z1 | exact ft_i | exact ft_l | omega | rfl | assumption | (refine i_ne0 ?_ ?_ ?_ <;> omega) | (refine j_ne0 ?_ ?_ ?_ <;> omega) | (refine i_new ?_ ?_ <;> omega)) only [n_X11_no, q_X11_no_0, q_X11_no_1, q_X11_no_2, q_X11_no_5, q_X11_no_6, q_X11_no_9, q_X11_no_10, q_X11_no_13, q_X11_no_14, q_X11_no_17, q_X11_no_18, q_X11_no_21, q_X11_no_22, i_add, i_sub, i_mul, i_neg, i_lt, i_le, i_eq, i_tm, i_div, i_j, j_i, j_add, j_sub, j_mul, j_neg, j_lt, j_le, j_eq, j_div, c_lt, c_le, c_gt, c_ge, c_eq, i_nat, rz_k, Nat.add_zero, Nat.zero_add, Nat.add_assoc, Nat.reduceAdd, if_true, if_false, pf_eq h]
  by_cases hb : b = 0
  · simp only [if_pos hb, if_neg (show ¬ ¬ b = 0 by omega)]
  · simp only [if_neg hb, if_pos hb]
/-- Euclid's pairs -/
def zf_it : Nat → Nat → Nat → Nat × Nat
  | 0, p, q => (p, q)
  | k + 1, p, q => zf_it k q (p % q)
/-- in how many steps the second number is 0, of at most so many -/
def zf_cnt : Nat → Nat → Nat → Nat
  | 0, _, _ => 0
  | f + 1, p, q => if q = 0 then 0 else zf_cnt f q (p % q) + 1
theorem zf_cnt_le {f p q : Nat} : zf_cnt f p q ≤ f := by
  induction f generalizing p q with
  | zero => exact Nat.le_refl _
  | succ f ih =>
    unfold zf_cnt
    split
    · omega
    · have := ih (p := q) (q := p % q); omega
/-- enough steps are enough -/
theorem zf_cnt_fuel {n : Nat} : ∀ {f p q : Nat}, q ≤ p → p * q < 2 ^ n → n ≤ f → zf_cnt f p q = zf_cnt n p q := by
  induction n with
  | zero =>
    intro f p q hq h hf
    have hq0 : q = 0 := by
      rcases Nat.eq_zero_or_pos q with h' | h'
      · exact h'
      · have : 1 * 1 ≤ p * q := Nat.mul_le_mul (by omega) (by omega)
        omega
    subst hq0
    cases f with
    | zero => rfl
    | succ f => simp [zf_cnt]
  | succ n ih =>
    intro f p q hq h hf
    obtain ⟨g, rfl⟩ : ∃ g, f = g + 1 := ⟨f - 1, by omega⟩
    unfold zf_cnt
    by_cases h0 : q = 0
    · rw [if_pos h0, if_pos h0]
    · rw [if_neg h0, if_neg h0, ih (Nat.le_of_lt (Nat.mod_lt _ (by omega))) (z_halve h0 hq h) (by omega)]
theorem z_tdn (p q : Nat) : (p : Int).tdiv q = ((p / q : Nat) : Int) := (Int.ofNat_tdiv p q).symm
theorem l_cnt0 {p m i : Int} {l4 : Option Value} : 0 ≤ i → i ≤ 1000 → rz_G X d mz_X10_countTerms 4 [some (.int (Int32.ofInt p)), some (.int (Int32.ofInt 0)), some (.int (Int32.ofInt m)), some (.int (Int32.ofInt i)), l4] [] w nc ns = some (.inl (some (.int (Int32.ofInt m))), w, nc, ns) := by
  intro h1 h2
  rw [q_X10_countTerms_4]
  simp (disch := first | exact nl_i | exact nl_r | exact nl_0 | exact nl_n | exact nl_x | exact kd_r | exact kd_n | exact kd_x | exact kd_o | exact cats0 | exact cats1 | exact cats2 | exact cats3 | exact cats4 | exact nr_i | exact nr_l | exact nr_z0 | exact nr_z1 | exact ft_i | exact ft_l | omega | rfl | assumption | (refine i_ne0 ?_ ?_ ?_ <;> omega) | (refine j_ne0 ?_ ?_ ?_ <;> omega) | (refine i_new ?_ ?_ <;> omega)) only [n_X10_countTerms, q_X10_countTerms_0, q_X10_countTerms_1, q_X10_countTerms_2, q_X10_countTerms_3, q_X10_countTerms_5, q_X10_countTerms_8, q_X10_countTerms_11, q_X10_countTerms_12, q_X10_countTerms_15, q_X10_countTerms_16, q_X10_countTerms_17, q_X10_countTerms_18, q_X10_countTerms_20, q_X10_countTerms_21, q_X10_countTerms_22, q_X10_countTerms_24, q_X10_countTerms_25, q_X10_countTerms_28, q_X10_countTerms_31, q_X10_countTerms_34, q_X10_countTerms_35, i_add, i_sub, i_mul, i_neg, i_lt, i_le, i_eq, i_tm, i_div, i_j, j_i, j_add, j_sub, j_mul, j_neg, j_lt, j_le, j_eq, j_div, c_lt, c_le, c_gt, c_ge, c_eq, i_nat, rz_k, Nat.add_zero, Nat.zero_add, Nat.add_assoc, Nat.reduceAdd, if_true, if_false]
  split <;> rfl
theorem l_cnt1 {p q m i : Int} {l4 : Option Value} (h1 : 0 ≤ i) (h2 : i < 1000) (h3 : 0 ≤ p) (h4 : p ≤ 2147483647) (h5 : 0 < q) (h6 : q ≤ 2147483647) : rz_G X d mz_X10_countTerms 4 [some (.int (Int32.ofInt p)), some (.int (Int32.ofInt q)), some (.int (Int32.ofInt m)), some (.int (Int32.ofInt i)), l4] [] w nc ns = rz_G X d mz_X10_countTerms 4 [some (.int (Int32.ofInt q)), some (.int (Int32.ofInt (p.tmod q))), some (.int (Int32.ofInt (m + 1))), some (.int (Int32.ofInt (i + 1))), some (.int (Int32.ofInt (p.tmod q)))] [] w nc ns := by
  rw [q_X10_countTerms_4]
  simp (disch := first | exact nl_i | exact nl_r | exact nl_0 | exact nl_n | exact nl_x | exact kd_r | exact kd_n | exact kd_x | exact kd_o | exact cats0 | exact cats1 | exact cats2 | exact cats3 | exact cats4 | exact nr_i | exact nr_l | exact nr_z0 | exact nr_z1 | exact ft_i | exact ft_l | omega | rfl | assumption | (refine i_ne0 ?_ ?_ ?_ <;> omega) | (refine j_ne0 ?_ ?_ ?_ <;> omega) | (refine i_new ?_ ?_ <;> omega)) only [n_X10_countTerms, q_X10_countTerms_0, q_X10_countTerms_1, q_X10_countTerms_2, q_X10_countTerms_3, q_X10_countTerms_5, q_X10_countTerms_8, q_X10_countTerms_11, q_X10_countTerms_12, q_X10_countTerms_15, q_X10_countTerms_16, q_X10_countTerms_17, q_X10_countTerms_18, q_X10_countTerms_20, q_X10_countTerms_21, q_X10_countTerms_22, q_X10_countTerms_24, q_X10_countTerms_25, q_X10_countTerms_28, q_X10_countTerms_31, q_X10_countTerms_34, q_X10_countTerms_35, i_add, i_sub, i_mul, i_neg, i_lt, i_le, i_eq, i_tm, i_div, i_j, j_i, j_add, j_sub, j_mul, j_neg, j_lt, j_le, j_eq, j_div, c_lt, c_le, c_gt, c_ge, c_eq, i_nat, rz_k, Nat.add_zero, Nat.zero_add, Nat.add_assoc, Nat.reduceAdd, if_true, if_false]
  rw [if_neg (by omega), if_neg (by omega)]
theorem l_cnt (n : Nat) : ∀ (p q m i : Nat) (l4 : Option Value), q ≤ p → p ≤ 1000 → p * q < 2 ^ n → i + n ≤ 999 → rz_G X d mz_X10_countTerms 4 [some (.int (Int32.ofInt p)), some (.int (Int32.ofInt q)), some (.int (Int32.ofInt m)), some (.int (Int32.ofInt i)), l4] [] w nc ns = some (.inl (some (.int (Int32.ofInt ((m + zf_cnt n p q : Nat) : Int)))), w, nc, ns) := by
  induction n with
  | zero =>
    intro p q m i l4 hq hp hb hi
    have hq0 : q = 0 := by
      rcases Nat.eq_zero_or_pos q with h | h
      · exact h
      · have : 1 * 1 ≤ p * q := Nat.mul_le_mul (by omega) (by omega)
        omega
    subst hq0
    exact l_cnt0 (by omega) (by omega)
  | succ n ih =>
    intro p q m i l4 hq hp hb hi
    by_cases h0 : q = 0
    · subst h0
      simp only [zf_cnt, if_true]
      exact l_cnt0 (by omega) (by omega)
    · rw [l_cnt1 (by omega) (by omega) (by omega) (by omega) (by omega) (by omega), z_ctm]
      have hm : p % q < q := Nat.mod_lt _ (by omega)
      have := ih q (p % q) (m + 1) (i + 1) (some (.int (Int32.ofInt ((p % q : Nat) : Int)))) (by omega) (by omega) (z_halve h0 hq hb) (by omega)
      refine Eq.trans this ?_
      simp only [zf_cnt, if_neg h0]
      rw [Nat.add_right_comm, Nat.add_assoc m]
/-- how many terms p over q has -/
def zf_terms (p q : Nat) : Nat := zf_cnt 18 p q
theorem z_small {p q : Nat} (hp : p ≤ 200) (hq : q ≤ 200) : p * q < 2 ^ 17 := by
  have := Nat.mul_le_mul hp hq
  omega
theorem x_cnt {p q : Nat} (h1 : 1 ≤ p) (h2 : p ≤ 200) (h3 : 1 ≤ q) (h4 : q ≤ 200) : rz_ex X (d + 1) 164 [.int (Int32.ofInt p), .int (Int32.ofInt q)] w = some (.inl (some (.int (Int32.ofInt (zf_terms p q : Nat)))), w, 0, 0) := by
  simp (disch := first | exact nl_i | exact nl_r | exact nl_0 | exact nl_n | exact nl_x | exact kd_r | exact kd_n | exact kd_x | exact kd_o | exact cats0 | exact cats1 | exact cats2 | exact cats3 | exact cats4 | exact nr_i | exact nr_l | exact nr_z0 | exact nr_z1 | exact ft_i | exact ft_l | omega | rfl | assumption | (refine i_ne0 ?_ ?_ ?_ <;> omega) | (refine j_ne0 ?_ ?_ ?_ <;> omega) | (refine i_new ?_ ?_ <;> omega)) only [n_X10_countTerms, q_X10_countTerms_0, q_X10_countTerms_1, q_X10_countTerms_2, q_X10_countTerms_3, q_X10_countTerms_5, q_X10_countTerms_8, q_X10_countTerms_11, q_X10_countTerms_12, q_X10_countTerms_15, q_X10_countTerms_16, q_X10_countTerms_17, q_X10_countTerms_18, q_X10_countTerms_20, q_X10_countTerms_21, q_X10_countTerms_22, q_X10_countTerms_24, q_X10_countTerms_25, q_X10_countTerms_28, q_X10_countTerms_31, q_X10_countTerms_34, q_X10_countTerms_35, i_add, i_sub, i_mul, i_neg, i_lt, i_le, i_eq, i_tm, i_div, i_j, j_i, j_add, j_sub, j_mul, j_neg, j_lt, j_le, j_eq, j_div, c_lt, c_le, c_gt, c_ge, c_eq, i_nat, rz_k, Nat.add_zero, Nat.zero_add, Nat.add_assoc, Nat.reduceAdd, if_true, if_false]
  rw [l_cnt1 (by omega) (by omega) (by omega) (by omega) (by omega) (by omega), z_ctm]
  have hm : p % q < q := Nat.mod_lt _ (by omega)
  have hle := z_small h4 (show p % q ≤ 200 by omega)
  have := l_cnt (X := X) (d := d) (w := w) (nc := 0) (ns := 0) 17 q (p % q) 1 1 (some (.int (Int32.ofInt ((p % q : Nat) : Int)))) (by omega) (by omega) hle (by omega)
  refine Eq.trans this ?_
  unfold zf_terms
  rw [show zf_cnt 18 p q = zf_cnt 17 q (p % q) + 1 by simp only [zf_cnt, if_neg (show ¬ q = 0 by omega)], Nat.add_comm]
theorem z_or0 (q p : Nat) : (q : Int).tmod p = ((q % p : Nat) : Int) := z_ctm q p
/-- the class's answers -/
theorem x_terms {h : Nat} {p q : Int} (h1 : -2147483648 ≤ p) (h2 : p ≤ 2147483647) (h3 : -2147483648 ≤ q) (h4 : q ≤ 2147483647) : rz_ex X (d + 3) 145 [.ref h, .int (Int32.ofInt p), .int (Int32.ofInt q)] w = if (1 ≤ p ∧ p ≤ 200) ∧ (1 ≤ q ∧ q ≤ 200) then some (.inl (some (.int (Int32.ofInt (zf_terms p.toNat q.toNat : Nat)))), w, 0, 0) else some (.inr "java/lang/IllegalArgumentException", w, 1, 6) := by
  simp (disch := first | exact nl_i | exact nl_r | exact nl_0 | exact nl_n | exact nl_x | exact kd_r | exact kd_n | exact kd_x | exact kd_o | exact cats0 | exact cats1 | exact cats2 | exact cats3 | exact cats4 | exact nr_i | exact nr_l | exact nr_z0 | exact nr_z1 | exact ft_i | exact ft_l | omega | rfl | assumption | (refine i_ne0 ?_ ?_ ?_ <;> omega) | (refine j_ne0 ?_ ?_ ?_ <;> omega) | (refine i_new ?_ ?_ <;> omega)) only [n_X10_terms, q_X10_terms_0, q_X10_terms_1, q_X10_terms_2, q_X10_terms_5, q_X10_terms_6, q_X10_terms_7, q_X10_terms_10, i_add, i_sub, i_mul, i_neg, i_lt, i_le, i_eq, i_tm, i_div, i_j, j_i, j_add, j_sub, j_mul, j_neg, j_lt, j_le, j_eq, j_div, c_lt, c_le, c_gt, c_ge, c_eq, i_nat, rz_k, Nat.add_zero, Nat.zero_add, Nat.add_assoc, Nat.reduceAdd, if_true, if_false, x_frac]
  by_cases hc : (1 ≤ p ∧ p ≤ 200) ∧ (1 ≤ q ∧ q ≤ 200)
  · obtain ⟨a, rfl⟩ := Int.eq_ofNat_of_zero_le (show 0 ≤ p by omega)
    obtain ⟨b, rfl⟩ := Int.eq_ofNat_of_zero_le (show 0 ≤ q by omega)
    rw [if_pos hc, if_pos hc]
    simp (disch := first | exact nl_i | exact nl_r | exact nl_0 | exact nl_n | exact nl_x | exact kd_r | exact kd_n | exact kd_x | exact kd_o | exact cats0 | exact cats1 | exact cats2 | exact cats3 | exact cats4 | exact nr_i | exact nr_l | exact nr_z0 | exact nr_z1 | exact ft_i | exact ft_l | omega | rfl | assumption | (refine i_ne0 ?_ ?_ ?_ <;> omega) | (refine j_ne0 ?_ ?_ ?_ <;> omega) | (refine i_new ?_ ?_ <;> omega)) only [n_X10_terms, q_X10_terms_0, q_X10_terms_1, q_X10_terms_2, q_X10_terms_5, q_X10_terms_6, q_X10_terms_7, q_X10_terms_10, i_add, i_sub, i_mul, i_neg, i_lt, i_le, i_eq, i_tm, i_div, i_j, j_i, j_add, j_sub, j_mul, j_neg, j_lt, j_le, j_eq, j_div, c_lt, c_le, c_gt, c_ge, c_eq, i_nat, rz_k, Nat.add_zero, Nat.zero_add, Nat.add_assoc, Nat.reduceAdd, if_true, if_false, x_cnt, Int.toNat_natCast]
  · rw [if_neg hc, if_neg hc]
    rfl
/-- the pair behind k steps -/
def zf_term (k p q : Nat) : Nat := (zf_it k p q).1 / (zf_it k p q).2
theorem l_to1 {m p q : Int} {n : Nat} {f : Nat → Int32} {x1 x2 : Int32} {l6 : Option Value} (h1 : 0 ≤ m) (h2 : m < 30) (h3 : 0 ≤ p) (h4 : p ≤ 2147483647) (h5 : 0 < q) (h6 : q ≤ 2147483647) (hn : n < w.length) : rz_G X d mz_X11_termsOf 13 [some (.int x1), some (.int x2), some (.ref n), some (.int (Int32.ofInt m)), some (.int (Int32.ofInt p)), some (.int (Int32.ofInt q)), l6] [] (w.set n (.inl (.int, 30, .inl f))) nc ns = rz_G X d mz_X11_termsOf 13 [some (.int x1), some (.int x2), some (.ref n), some (.int (Int32.ofInt (m + 1))), some (.int (Int32.ofInt q)), some (.int (Int32.ofInt (p.tmod q))), some (.int (Int32.ofInt (p.tmod q)))] [] (w.set n (.inl (.int, 30, .inl (upd f m.toNat (Int32.ofInt (p.tdiv q)))))) nc ns := by
  rw [q_X11_termsOf_13]
  simp (disch := first | exact nl_i | exact nl_r | exact nl_0 | exact nl_n | exact nl_x | exact kd_r | exact kd_n | exact kd_x | exact kd_o | exact cats0 | exact cats1 | exact cats2 | exact cats3 | exact cats4 | exact nr_i | exact nr_l | exact nr_z0 | exact nr_z1 | exact ft_i | exact ft_l | omega | rfl | assumption | (refine i_ne0 ?_ ?_ ?_ <;> omega) | (refine j_ne0 ?_ ?_ ?_ <;> omega) | (refine i_new ?_ ?_ <;> omega)) only [n_X11_termsOf, q_X11_termsOf_0, q_X11_termsOf_2, q_X11_termsOf_4, q_X11_termsOf_5, q_X11_termsOf_6, q_X11_termsOf_7, q_X11_termsOf_8, q_X11_termsOf_10, q_X11_termsOf_11, q_X11_termsOf_15, q_X11_termsOf_18, q_X11_termsOf_19, q_X11_termsOf_20, q_X11_termsOf_22, q_X11_termsOf_24, q_X11_termsOf_25, q_X11_termsOf_26, q_X11_termsOf_29, q_X11_termsOf_31, q_X11_termsOf_33, q_X11_termsOf_34, q_X11_termsOf_36, q_X11_termsOf_38, q_X11_termsOf_40, q_X11_termsOf_42, q_X11_termsOf_44, q_X11_termsOf_47, q_X11_termsOf_48, q_X11_termsOf_49, q_X11_termsOf_50, q_X11_termsOf_51, q_X11_termsOf_52, q_X11_termsOf_52n, i_add, i_sub, i_mul, i_neg, i_lt, i_le, i_eq, i_tm, i_div, i_j, j_i, j_add, j_sub, j_mul, j_neg, j_lt, j_le, j_eq, j_div, c_lt, c_le, c_gt, c_ge, c_eq, i_nat, rz_k, Nat.add_zero, Nat.zero_add, Nat.add_assoc, Nat.reduceAdd, if_true, if_false, vk_ne, vk_self, vk_old, vk_new, gf_ne, gf_self, gf_old, gf_new, pf_self, pf_new, ai_ne, ai_self, ai_old, si_self, al_ne, al_self, al_old, sl_self, ln_ne, ln_self, ln_old, List.length_set, List.length_append, List.getElem?_cons_zero, List.getElem?_cons_succ, List.set_cons_zero, List.set_cons_succ]
  rw [if_neg (by omega)]
theorem l_to0 {m p : Int} {n : Nat} {f : Nat → Int32} {x1 x2 : Int32} {l6 : Option Value} (h1 : 0 ≤ m) (h2 : m < 30) (hn : n < w.length) : rz_G X d mz_X11_termsOf 13 [some (.int x1), some (.int x2), some (.ref n), some (.int (Int32.ofInt m)), some (.int (Int32.ofInt p)), some (.int (Int32.ofInt 0)), l6] [] (w.set n (.inl (.int, 30, .inl f))) nc ns = some (.inl (some (.ref n)), w.set n (.inl (.int, 30, .inl (upd f m.toNat (Int32.ofInt (-1))))), nc, ns) := by
  rw [q_X11_termsOf_13]
  simp (disch := first | exact nl_i | exact nl_r | exact nl_0 | exact nl_n | exact nl_x | exact kd_r | exact kd_n | exact kd_x | exact kd_o | exact cats0 | exact cats1 | exact cats2 | exact cats3 | exact cats4 | exact nr_i | exact nr_l | exact nr_z0 | exact nr_z1 | exact ft_i | exact ft_l | omega | rfl | assumption | (refine i_ne0 ?_ ?_ ?_ <;> omega) | (refine j_ne0 ?_ ?_ ?_ <;> omega) | (refine i_new ?_ ?_ <;> omega)) only [n_X11_termsOf, q_X11_termsOf_0, q_X11_termsOf_2, q_X11_termsOf_4, q_X11_termsOf_5, q_X11_termsOf_6, q_X11_termsOf_7, q_X11_termsOf_8, q_X11_termsOf_10, q_X11_termsOf_11, q_X11_termsOf_15, q_X11_termsOf_18, q_X11_termsOf_19, q_X11_termsOf_20, q_X11_termsOf_22, q_X11_termsOf_24, q_X11_termsOf_25, q_X11_termsOf_26, q_X11_termsOf_29, q_X11_termsOf_31, q_X11_termsOf_33, q_X11_termsOf_34, q_X11_termsOf_36, q_X11_termsOf_38, q_X11_termsOf_40, q_X11_termsOf_42, q_X11_termsOf_44, q_X11_termsOf_47, q_X11_termsOf_48, q_X11_termsOf_49, q_X11_termsOf_50, q_X11_termsOf_51, q_X11_termsOf_52, q_X11_termsOf_52n, i_add, i_sub, i_mul, i_neg, i_lt, i_le, i_eq, i_tm, i_div, i_j, j_i, j_add, j_sub, j_mul, j_neg, j_lt, j_le, j_eq, j_div, c_lt, c_le, c_gt, c_ge, c_eq, i_nat, rz_k, Nat.add_zero, Nat.zero_add, Nat.add_assoc, Nat.reduceAdd, if_true, if_false, vk_ne, vk_self, vk_old, vk_new, gf_ne, gf_self, gf_old, gf_new, pf_self, pf_new, ai_ne, ai_self, ai_old, si_self, al_ne, al_self, al_old, sl_self, ln_ne, ln_self, ln_old, List.length_set, List.length_append, List.getElem?_cons_zero, List.getElem?_cons_succ, List.set_cons_zero, List.set_cons_succ]
  rw [if_pos (by omega)]
theorem w_same {n : Nat} {e : rz_E} (h : w[n]? = some e) : w.set n e = w := by
  obtain ⟨h1, h2⟩ := List.getElem?_eq_some_iff.mp h
  rw [← h2]
  exact List.set_getElem_self h1
theorem w_snew {e e' : rz_E} : (w ++ [e]).set w.length e' = w ++ [e'] := by
  rw [List.set_append_right _ _ (Nat.le_refl _), Nat.sub_self]
  rfl
theorem l_to {n : Nat} {x1 x2 : Int32} (hn : n < w.length) (k : Nat) : ∀ (p q m : Nat) (f : Nat → Int32) (l6 : Option Value), q ≤ p → p ≤ 1000 → p * q < 2 ^ k → m + k ≤ 29 → ∃ f' : Nat → Int32, rz_G X d mz_X11_termsOf 13 [some (.int x1), some (.int x2), some (.ref n), some (.int (Int32.ofInt m)), some (.int (Int32.ofInt p)), some (.int (Int32.ofInt q)), l6] [] (w.set n (.inl (.int, 30, .inl f))) nc ns = some (.inl (some (.ref n)), w.set n (.inl (.int, 30, .inl f')), nc, ns) ∧ (∀ j, j < m → f' j = f j) ∧ (∀ j, j < zf_cnt k p q → f' (m + j) = Int32.ofInt (zf_term j p q : Nat)) ∧ f' (m + zf_cnt k p q) = Int32.ofInt (-1) := by
  induction k with
  | zero =>
    intro p q m f l6 hq hp hb hm
    have hq0 : q = 0 := by
      rcases Nat.eq_zero_or_pos q with h | h
      · exact h
      · have : 1 * 1 ≤ p * q := Nat.mul_le_mul (by omega) (by omega)
        omega
    subst hq0
    refine ⟨_, l_to0 (by omega) (by omega) hn, ?_, ?_, ?_⟩
    · intro j hj
      unfold upd
      rw [if_neg (by omega)]
    · intro j hj
      simp only [zf_cnt] at hj
      omega
    · simp only [zf_cnt, upd, Int.toNat_natCast, Nat.add_zero, if_true]
  | succ k ih =>
    intro p q m f l6 hq hp hb hm
    by_cases h0 : q = 0
    · subst h0
      refine ⟨_, l_to0 (by omega) (by omega) hn, ?_, ?_, ?_⟩
      · intro j hj
        unfold upd
        rw [if_neg (by omega)]
      · intro j hj
        simp only [zf_cnt, if_true] at hj
        omega
      · simp only [zf_cnt, upd, Int.toNat_natCast, Nat.add_zero, if_true]
    · rw [l_to1 (by omega) (by omega) (by omega) (by omega) (by omega) (by omega) hn, z_ctm, z_tdn]
      have hm' : p % q < q := Nat.mod_lt _ (by omega)
      obtain ⟨f', e1, e2, e3, e4⟩ := ih q (p % q) (m + 1) (upd f m (Int32.ofInt ((p / q : Nat) : Int))) (some (.int (Int32.ofInt ((p % q : Nat) : Int)))) (by omega) (by omega) (z_halve h0 hq hb) (by omega)
      refine ⟨f', e1, ?_, ?_, ?_⟩
      · intro j hj
        rw [e2 j (by omega)]
        unfold upd
        rw [if_neg (by omega)]
      · intro j hj
        simp only [zf_cnt, if_neg h0] at hj
        cases j with
        | zero =>
          rw [Nat.add_zero, e2 m (by omega)]
          unfold upd
          rw [if_pos rfl]
          rfl
        | succ j =>
          rw [show m + (j + 1) = m + 1 + j by omega, e3 j (by omega)]
          rfl
      · rw [show m + zf_cnt (k + 1) p q = m + 1 + zf_cnt k q (p % q) by simp only [zf_cnt, if_neg h0]; omega]
        exact e4
theorem x_to {p q : Nat} (h1 : 1 ≤ p) (h2 : p ≤ 200) (h3 : 1 ≤ q) (h4 : q ≤ 200) : ∃ f : Nat → Int32, rz_ex X (d + 1) 254 [.int (Int32.ofInt p), .int (Int32.ofInt q)] w = some (.inl (some (.ref w.length)), w ++ [.inl (.int, 30, .inl f)], 1, 30) ∧ (∀ j, j < zf_terms p q → f j = Int32.ofInt (zf_term j p q : Nat)) ∧ f (zf_terms p q) = Int32.ofInt (-1) := by
  have hlen : w.length < (w ++ [(.inl (.int, 30, .inl fun _ => 0) : rz_E)]).length := by simp
  have hm : p % q < q := Nat.mod_lt _ (by omega)
  have hle := z_small h4 (show p % q ≤ 200 by omega)
  obtain ⟨f', e1, e2, e3, e4⟩ := l_to (X := X) (d := d) (x1 := Int32.ofInt p) (x2 := Int32.ofInt q) (nc := 1) (ns := 30) hlen 17 q (p % q) 1 (upd (fun _ => 0) 0 (Int32.ofInt ((p / q : Nat) : Int))) (some (.int (Int32.ofInt ((p % q : Nat) : Int)))) (by omega) (by omega) hle (by omega)
  refine ⟨f', ?_, ?_, ?_⟩
  · simp (disch := first | exact nl_i | exact nl_r | exact nl_0 | exact nl_n | exact nl_x | exact kd_r | exact kd_n | exact kd_x | exact kd_o | exact cats0 | exact cats1 | exact cats2 | exact cats3 | exact cats4 | exact nr_i | exact nr_l | exact nr_z0 | exact nr_z1 | exact ft_i | exact ft_l | omega | rfl | assumption | (refine i_ne0 ?_ ?_ ?_ <;> omega) | (refine j_ne0 ?_ ?_ ?_ <;> omega) | (refine i_new ?_ ?_ <;> omega)) only [n_X11_termsOf, q_X11_termsOf_0, q_X11_termsOf_2, q_X11_termsOf_4, q_X11_termsOf_5, q_X11_termsOf_6, q_X11_termsOf_7, q_X11_termsOf_8, q_X11_termsOf_10, q_X11_termsOf_11, q_X11_termsOf_15, q_X11_termsOf_18, q_X11_termsOf_19, q_X11_termsOf_20, q_X11_termsOf_22, q_X11_termsOf_24, q_X11_termsOf_25, q_X11_termsOf_26, q_X11_termsOf_29, q_X11_termsOf_31, q_X11_termsOf_33, q_X11_termsOf_34, q_X11_termsOf_36, q_X11_termsOf_38, q_X11_termsOf_40, q_X11_termsOf_42, q_X11_termsOf_44, q_X11_termsOf_47, q_X11_termsOf_48, q_X11_termsOf_49, q_X11_termsOf_50, q_X11_termsOf_51, q_X11_termsOf_52, q_X11_termsOf_52n, i_add, i_sub, i_mul, i_neg, i_lt, i_le, i_eq, i_tm, i_div, i_j, j_i, j_add, j_sub, j_mul, j_neg, j_lt, j_le, j_eq, j_div, c_lt, c_le, c_gt, c_ge, c_eq, i_nat, rz_k, Nat.add_zero, Nat.zero_add, Nat.add_assoc, Nat.reduceAdd, if_true, if_false, vk_ne, vk_self, vk_old, vk_new, gf_ne, gf_self, gf_old, gf_new, pf_self, pf_new, ai_ne, ai_self, ai_old, si_self, al_ne, al_self, al_old, sl_self, ln_ne, ln_self, ln_old, List.length_set, List.length_append, List.getElem?_cons_zero, List.getElem?_cons_succ, List.set_cons_zero, List.set_cons_succ]
    have hs : (w ++ [(.inl (.int, 30, .inl fun _ => 0) : rz_E)]) = (w ++ [(.inl (.int, 30, .inl fun _ => 0) : rz_E)]).set w.length (.inl (.int, 30, .inl fun _ => 0)) := w_snew.symm
    show rz_G X d mz_X11_termsOf 13 _ [] (w ++ [(.inl (.int, 30, .inl fun _ => 0) : rz_E)]) 1 30 = _
    rw [hs]
    refine (l_to1 (m := 0) (by omega) (by omega) (by omega) (by omega) (by omega) (by omega) hlen).trans ?_
    rw [z_ctm, z_tdn]
    refine Eq.trans e1 ?_
    rw [w_snew]
  · intro j hj
    unfold zf_terms at hj
    simp only [zf_cnt, if_neg (show ¬ q = 0 by omega)] at hj
    cases j with
    | zero =>
      rw [e2 0 (by omega)]
      rfl
    | succ j =>
      have := e3 j (by simp only [zf_cnt]; omega)
      rw [Nat.add_comm] at this
      exact this
  · unfold zf_terms
    rw [show zf_cnt 18 p q = 1 + zf_cnt 17 q (p % q) by simp only [zf_cnt, if_neg (show ¬ q = 0 by omega)]; omega]
    exact e4
end RZTM
