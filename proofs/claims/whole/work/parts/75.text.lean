/-! part 75: level 2: the one text: signs, digits, numbers -/
/-- the class's text, the reference's -/
def v_ct (w : rz_W) (T : List Nat) : Prop := ∃ f, v_ob w 12 9 [.int (Int32.ofInt T.length), .ref 13] ∧ v_ca w 13 64 f ∧ ∀ (k c : Nat), T[k]? = some c → f k = Int32.ofInt c
def v_rt (w : rz_W) (T : List Nat) (kp kd ty cl th : Int) : Prop := v_model w kp T.length kd ty cl th ∧ ∃ g, v_ia w 42 60 g ∧ ∀ (k c : Nat), T[k]? = some c → g k = Int32.ofInt c
/-- so many digits -/
def zds : Nat → Nat → List Nat
  | 0, _ => []
  | k + 1, n => zds k (n / 10) ++ [48 + n % 10]
section RZTX
variable {X : rz_X} {d : Nat} {w : rz_W} {nc ns : Nat} {kp tl kd ty cl th : Int} {T : List Nat}
theorem zds_len : ∀ {k n : Nat}, (zds k n).length = k := by
  intro k
  induction k with
  | zero => intro n; rfl
  | succ k ih => intro n; rw [zds, List.length_append, ih]; rfl
theorem zds_cons : ∀ (k n : Nat), zds (k + 1) n = (48 + n / 10 ^ k % 10) :: zds k n := by
  intro k
  induction k with
  | zero => intro n; simp [zds]
  | succ k ih =>
    intro n
    rw [zds, ih (n / 10), Nat.div_div_eq_div_mul, show 10 * 10 ^ k = 10 ^ (k + 1) by rw [Nat.pow_succ, Nat.mul_comm]]
    rfl
theorem zds_c : ∀ {k n c : Nat}, c ∈ zds k n → c ≤ 57 := by
  intro k
  induction k with
  | zero => intro n c h; cases h
  | succ k ih =>
    intro n c h
    rw [zds, List.mem_append] at h
    rcases h with h | h
    · exact ih h
    · rw [List.mem_singleton] at h
      omega
theorem tx_get {f : Nat → Int32} {c : Nat} (h : ∀ (k a : Nat), T[k]? = some a → f k = Int32.ofInt a) : ∀ (k a : Nat), (T ++ [c])[k]? = some a → upd f T.length (Int32.ofInt c) k = Int32.ofInt a := by
  intro k a hk
  by_cases hkT : k = T.length
  · subst hkT
    rw [List.getElem?_append_right (Nat.le_refl _), Nat.sub_self] at hk
    have : c = a := Option.some.inj hk
    rw [upd_eq, this]
  · rw [upd_ne hkT]
    have hl : k < (T ++ [c]).length := (List.getElem?_eq_some_iff.mp hk).1
    rw [List.length_append, List.length_singleton] at hl
    rw [List.getElem?_append_left (by omega)] at hk
    exact h k a hk
theorem x_putSign {c : Nat} (hc : c ≤ 65535) (hT : T.length < 60) (h : v_ct w T) : ∃ w', rz_ex X (d + 1) 103 [.ref 12, .int (Int32.ofInt c)] w = some (.inl none, w', 0, 0) ∧ rz_fr [12, 13] w w' ∧ v_ct w' (T ++ [c]) := by
  obtain ⟨f, h12, h13, hf⟩ := h
  generalize hw1 : w.set 13 (.inl (.char, 64, .inl (upd f T.length (Int32.ofInt c)))) = w1
  have f1 : rz_fr [13] w w1 := by rw [← hw1]; exact fr_set (by decide)
  have k13 : v_ca w1 13 64 (upd f T.length (Int32.ofInt c)) := by rw [← hw1]; exact w_eq (w_lt h13)
  have k12 : v_ob w1 12 9 [.int (Int32.ofInt T.length), .ref 13] := fr_get f1 (by decide) h12
  generalize hw2 : w1.set 12 (.inr (9, [.int (Int32.ofInt ((T.length : Nat) + 1)), .ref 13])) = w2
  have f2 : rz_fr [12] w1 w2 := by rw [← hw2]; exact fr_set (by decide)
  refine ⟨w2, ?_, fr_trans (fr_sub f1 (by decide)) (fr_sub f2 (by decide)), _, ?_, fr_get f2 (by decide) k13, tx_get hf⟩
  · have hn := nc_of (c := c) (by omega) (by omega)
    simp (disch := first | exact nl_i | exact nl_r | exact nl_0 | exact nl_n | exact nl_x | exact kd_r | exact kd_n | exact kd_x | exact kd_o | exact cats0 | exact cats1 | exact cats2 | exact cats3 | exact cats4 | exact nr_i | exact nr_l | exact nr_z0 | exact nr_z1 | exact ft_i | exact ft_l | omega | rfl | assumption | (refine i_ne0 ?_ ?_ ?_ <;> omega) | (refine j_ne0 ?_ ?_ ?_ <;> omega) | (refine i_new ?_ ?_ <;> omega) | (refine bl_t ?_; with_unfolding_all rfl) | exact ft_z0 | exact ft_z1) only [n_X9_putSign, q_X9_putSign_0, q_X9_putSign_1, q_X9_putSign_4, q_X9_putSign_7, q_X9_putSign_8, q_X9_putSign_11, q_X9_putSign_13, q_X9_putSign_16, q_X9_putSign_17, q_X9_putSign_20, q_X9_putSign_21, q_X9_putSign_24, q_X9_putSign_25, q_X9_putSign_26, q_X9_putSign_27, q_X9_putSign_27r, q_X9_putSign_28, q_X9_putSign_31, q_X9_putSign_32, q_X9_putSign_33, q_X9_putSign_36, i_add, i_sub, i_mul, i_neg, i_lt, i_le, i_eq, i_tm, i_div, i_j, j_i, j_add, j_sub, j_mul, j_neg, j_lt, j_le, j_eq, j_div, c_lt, c_le, c_gt, c_ge, c_eq, i_nat, rz_k, Nat.add_zero, Nat.zero_add, Nat.add_assoc, Nat.reduceAdd, if_true, if_false, gf_eq h12, List.getElem?_cons_zero, List.getElem?_cons_succ, sc_at h13, Int.toNat_natCast, hn, hw1, gf_eq k12, pf_eq k12, List.set_cons_zero, List.set_cons_succ, hw2]
    rw [if_neg (by omega), if_neg (by omega)]
  · rw [← hw2, List.length_append]
    exact w_eq (w_lt k12)
theorem l_pd {n : Nat} {b : Int64} (hn : n < 10 ^ 18) : ∀ (k i : Nat) (w : rz_W) (T : List Nat), i + k ≤ 19 → T.length + k ≤ 60 → v_ct w T → ∃ w', rz_G X (d + 1) mz_X9_putDigits 6 [some (.ref 12), some (.long (Int64.ofInt n)), none, some (.long b), none, some (.long (Int64.ofInt (if k = 0 then 0 else 10 ^ (k - 1) : Nat))), none, some (.int (Int32.ofInt i))] [] w nc ns = some (.inl none, w', nc, ns) ∧ rz_fr [12, 13] w w' ∧ v_ct w' (T ++ zds k n) := by
  intro k
  induction k with
  | zero =>
    intro i w T hi hT h
    refine ⟨w, ?_, fr_refl, by rw [zds, List.append_nil]; exact h⟩
    rw [q_X9_putDigits_6, if_pos rfl]
    simp (disch := first | exact nl_i | exact nl_r | exact nl_0 | exact nl_n | exact nl_x | exact kd_r | exact kd_n | exact kd_x | exact kd_o | exact cats0 | exact cats1 | exact cats2 | exact cats3 | exact cats4 | exact nr_i | exact nr_l | exact nr_z0 | exact nr_z1 | exact ft_i | exact ft_l | omega | rfl | assumption | (refine i_ne0 ?_ ?_ ?_ <;> omega) | (refine j_ne0 ?_ ?_ ?_ <;> omega) | (refine i_new ?_ ?_ <;> omega) | (refine bl_t ?_; with_unfolding_all rfl) | exact ft_z0 | exact ft_z1) only [q_X9_putDigits_8, q_X9_putDigits_10, q_X9_putDigits_13, q_X9_putDigits_15, q_X9_putDigits_16, q_X9_putDigits_17, q_X9_putDigits_52, i_add, i_sub, i_mul, i_neg, i_lt, i_le, i_eq, i_tm, i_div, i_j, j_i, j_add, j_sub, j_mul, j_neg, j_lt, j_le, j_eq, j_div, c_lt, c_le, c_gt, c_ge, c_eq, i_nat, rz_k, Nat.add_zero, Nat.zero_add, Nat.add_assoc, Nat.reduceAdd, if_true, if_false]
    split
    · rfl
    · rw [if_pos (by omega)]
  | succ k ih =>
    intro i w T hi hT h
    rw [if_neg (by omega), Nat.add_sub_cancel]
    have hp : 10 ^ k ≤ 10 ^ 18 := Nat.pow_le_pow_right (by omega) (by omega)
    have hp1 : 1 ≤ 10 ^ k := Nat.one_le_pow _ _ (by omega)
    have t1 : (n : Int).tdiv ((10 ^ k : Nat) : Int) = ((n / 10 ^ k : Nat) : Int) := z_tdn n (10 ^ k)
    have hq : n / 10 ^ k ≤ n := Nat.div_le_self _ _
    have hk10 : (10 ^ k) / 10 = if k = 0 then 0 else 10 ^ (k - 1) := by
      cases k with
      | zero => rfl
      | succ k => rw [if_neg (by omega), Nat.add_sub_cancel, Nat.pow_succ, Nat.mul_div_cancel _ (by omega)]
    have t3 : ((10 ^ k : Nat) : Int).tdiv 10 = ((if k = 0 then 0 else 10 ^ (k - 1) : Nat) : Int) := by
      rw [← hk10]
      exact z_tdn (10 ^ k) 10
    rw [zds_cons]
    generalize hu : 10 ^ k = u at *
    generalize hqq : n / u = q at *
    have t2 : (q : Int).tmod 10 = ((q % 10 : Nat) : Int) := z_ctm q 10
    have hd : q % 10 < 10 := Nat.mod_lt _ (by omega)
    generalize hdd : q % 10 = dg at *
    have hch : (48 : Int) + (dg : Int) = ((48 + dg : Nat) : Int) := by omega
    have hic := i_c (c := ((48 + dg : Nat) : Int)) (by omega) (by omega)
    obtain ⟨w1, e1, f1, h1⟩ := x_putSign (X := X) (d := d) (c := 48 + dg) (by omega) (by omega) h
    obtain ⟨w', e2, f2, h2⟩ := ih (i + 1) w1 (T ++ [48 + dg]) (by omega) (by rw [List.length_append, List.length_singleton]; omega) h1
    refine ⟨w', ?_, fr_trans f1 f2, by rw [List.append_assoc] at h2; exact h2⟩
    obtain ⟨f0, h12, -, -⟩ := h
    rw [← e2, q_X9_putDigits_6]
    simp (disch := first | exact nl_i | exact nl_r | exact nl_0 | exact nl_n | exact nl_x | exact kd_r | exact kd_n | exact kd_x | exact kd_o | exact cats0 | exact cats1 | exact cats2 | exact cats3 | exact cats4 | exact nr_i | exact nr_l | exact nr_z0 | exact nr_z1 | exact ft_i | exact ft_l | omega | rfl | assumption | (refine i_ne0 ?_ ?_ ?_ <;> omega) | (refine j_ne0 ?_ ?_ ?_ <;> omega) | (refine i_new ?_ ?_ <;> omega) | (refine bl_t ?_; with_unfolding_all rfl) | exact ft_z0 | exact ft_z1) only [n_X9_putDigits, q_X9_putDigits_8, q_X9_putDigits_10, q_X9_putDigits_13, q_X9_putDigits_15, q_X9_putDigits_16, q_X9_putDigits_17, q_X9_putDigits_20, q_X9_putDigits_21, q_X9_putDigits_24, q_X9_putDigits_25, q_X9_putDigits_27, q_X9_putDigits_28, q_X9_putDigits_31, q_X9_putDigits_32, q_X9_putDigits_33, q_X9_putDigits_34, q_X9_putDigits_35, q_X9_putDigits_38, q_X9_putDigits_40, q_X9_putDigits_43, q_X9_putDigits_44, q_X9_putDigits_46, q_X9_putDigits_49, i_add, i_sub, i_mul, i_neg, i_lt, i_le, i_eq, i_tm, i_div, i_j, j_i, j_add, j_sub, j_mul, j_neg, j_lt, j_le, j_eq, j_div, c_lt, c_le, c_gt, c_ge, c_eq, i_nat, rz_k, Nat.add_zero, Nat.zero_add, Nat.add_assoc, Nat.reduceAdd, if_true, if_false, vk_eq h12, t1, t2, hch, j_i, hic, e1, t3]
    rw [if_neg (by omega), if_neg (by omega)]
    rfl
theorem x_putDigits {n k : Nat} (hn : n < 10 ^ 18) (hk : 1 ≤ k ∧ k ≤ 19) (hT : T.length + k ≤ 60) (h : v_ct w T) : ∃ w', rz_ex X (d + 2) 102 [.ref 12, .long (Int64.ofInt n), .long (Int64.ofInt (10 ^ (k - 1) : Nat))] w = some (.inl none, w', 0, 0) ∧ rz_fr [12, 13] w w' ∧ v_ct w' (T ++ zds k n) := by
  obtain ⟨w', e, r⟩ := l_pd (X := X) (d := d) (nc := 0) (ns := 0) (b := Int64.ofInt (10 ^ (k - 1) : Nat)) hn k 0 w T (by omega) hT h
  rw [if_neg (by omega)] at e
  refine ⟨w', ?_, r⟩
  simp (disch := first | exact nl_i | exact nl_r | exact nl_0 | exact nl_n | exact nl_x | exact kd_r | exact kd_n | exact kd_x | exact kd_o | exact cats0 | exact cats1 | exact cats2 | exact cats3 | exact cats4 | exact nr_i | exact nr_l | exact nr_z0 | exact nr_z1 | exact ft_i | exact ft_l | omega | rfl | assumption | (refine i_ne0 ?_ ?_ ?_ <;> omega) | (refine j_ne0 ?_ ?_ ?_ <;> omega) | (refine i_new ?_ ?_ <;> omega) | (refine bl_t ?_; with_unfolding_all rfl) | exact ft_z0 | exact ft_z1) only [n_X9_putDigits, q_X9_putDigits_0, q_X9_putDigits_1, q_X9_putDigits_3, q_X9_putDigits_4]
  exact e
/-- the number of digits, least one -/
def zf_len (n k : Nat) : Prop := 1 ≤ k ∧ n < 10 ^ k ∧ (k = 1 ∨ 10 ^ (k - 1) ≤ n)
theorem l_pn {n L : Nat} {a : Int64} (hn : n < 10 ^ 18) (hL : zf_len n L) (m : Nat) : ∀ (k : Nat), k + m = L - 1 → rz_G X d mz_X9_putNumber 23 [some (.ref 12), some (.long a), none, some (.long (Int64.ofInt n)), none, some (.long (Int64.ofInt (10 ^ k : Nat))), none, some (.int (Int32.ofInt (k + 1 : Nat)))] [] w nc ns = rz_G X d mz_X9_putNumber 55 [some (.ref 12), some (.long a), none, some (.long (Int64.ofInt n)), none, some (.long (Int64.ofInt (10 ^ (L - 1) : Nat))), none, some (.int (Int32.ofInt L))] [] w nc ns := by
  obtain ⟨l1, l2, l3⟩ := hL
  have hL18 : L ≤ 18 := by
    rcases l3 with h | h
    · omega
    · rcases Nat.lt_or_ge 18 L with h9 | h9
      · have : 10 ^ 18 ≤ 10 ^ (L - 1) := Nat.pow_le_pow_right (by omega) (by omega)
        omega
      · exact h9
  have t0 : (n : Int).tdiv 10 = ((n / 10 : Nat) : Int) := z_tdn n 10
  induction m with
  | zero =>
    intro k hk
    obtain rfl : k = L - 1 := hk
    have hp : 10 ^ (L - 1) ≤ 10 ^ 18 := Nat.pow_le_pow_right (by omega) (by omega)
    have hlt : n / 10 < 10 ^ (L - 1) := by
      rw [Nat.div_lt_iff_lt_mul (by omega), ← Nat.pow_succ, show (L - 1).succ = L by omega]
      exact l2
    rw [q_X9_putNumber_23]
    generalize 10 ^ (L - 1) = u at *
    generalize n / 10 = q at *
    simp (disch := first | exact nl_i | exact nl_r | exact nl_0 | exact nl_n | exact nl_x | exact kd_r | exact kd_n | exact kd_x | exact kd_o | exact cats0 | exact cats1 | exact cats2 | exact cats3 | exact cats4 | exact nr_i | exact nr_l | exact nr_z0 | exact nr_z1 | exact ft_i | exact ft_l | omega | rfl | assumption | (refine i_ne0 ?_ ?_ ?_ <;> omega) | (refine j_ne0 ?_ ?_ ?_ <;> omega) | (refine i_new ?_ ?_ <;> omega) | (refine bl_t ?_; with_unfolding_all rfl) | exact ft_z0 | exact ft_z1) only [q_X9_putNumber_25, q_X9_putNumber_27, q_X9_putNumber_30, q_X9_putNumber_31, q_X9_putNumber_34, q_X9_putNumber_35, q_X9_putNumber_37, q_X9_putNumber_38, i_add, i_sub, i_mul, i_neg, i_lt, i_le, i_eq, i_tm, i_div, i_j, j_i, j_add, j_sub, j_mul, j_neg, j_lt, j_le, j_eq, j_div, c_lt, c_le, c_gt, c_ge, c_eq, i_nat, rz_k, Nat.add_zero, Nat.zero_add, Nat.add_assoc, Nat.reduceAdd, if_true, if_false, t0]
    rw [if_neg (by omega), if_pos (by omega), show L - 1 + 1 = L by omega]
  | succ m ih =>
    intro k hk
    have hp : 10 ^ k ≤ 10 ^ 18 := Nat.pow_le_pow_right (by omega) (by omega)
    have hge : 10 ^ k ≤ n / 10 := by
      rw [Nat.le_div_iff_mul_le (by omega), ← Nat.pow_succ]
      rcases l3 with h | h
      · omega
      · exact Nat.le_trans (Nat.pow_le_pow_right (by omega) (show k.succ ≤ L - 1 by omega)) h
    have hqn : n / 10 ≤ n := Nat.div_le_self _ _
    have ht : ((10 ^ k : Nat) : Int) * 10 = ((10 ^ (k + 1) : Nat) : Int) := by rw [Nat.pow_succ]; omega
    rw [← ih (k + 1) (by omega), q_X9_putNumber_23]
    generalize h1 : 10 ^ (k + 1) = u1 at *
    generalize h2 : 10 ^ k = u at *
    generalize n / 10 = q at *
    simp (disch := first | exact nl_i | exact nl_r | exact nl_0 | exact nl_n | exact nl_x | exact kd_r | exact kd_n | exact kd_x | exact kd_o | exact cats0 | exact cats1 | exact cats2 | exact cats3 | exact cats4 | exact nr_i | exact nr_l | exact nr_z0 | exact nr_z1 | exact ft_i | exact ft_l | omega | rfl | assumption | (refine i_ne0 ?_ ?_ ?_ <;> omega) | (refine j_ne0 ?_ ?_ ?_ <;> omega) | (refine i_new ?_ ?_ <;> omega) | (refine bl_t ?_; with_unfolding_all rfl) | exact ft_z0 | exact ft_z1) only [q_X9_putNumber_25, q_X9_putNumber_27, q_X9_putNumber_30, q_X9_putNumber_31, q_X9_putNumber_34, q_X9_putNumber_35, q_X9_putNumber_37, q_X9_putNumber_38, q_X9_putNumber_41, q_X9_putNumber_43, q_X9_putNumber_46, q_X9_putNumber_47, q_X9_putNumber_49, q_X9_putNumber_52, i_add, i_sub, i_mul, i_neg, i_lt, i_le, i_eq, i_tm, i_div, i_j, j_i, j_add, j_sub, j_mul, j_neg, j_lt, j_le, j_eq, j_div, c_lt, c_le, c_gt, c_ge, c_eq, i_nat, rz_k, Nat.add_zero, Nat.zero_add, Nat.add_assoc, Nat.reduceAdd, if_true, if_false, t0, ht]
    rw [if_neg (by omega), if_neg (by omega)]
    rfl
/-- a number: its sign and its digits -/
theorem x_putNumber {n L : Nat} {z : Int} (hz : z.natAbs = n) (hn : n < 10 ^ 18) (hL : zf_len n L) (hT : T.length + L + 1 ≤ 60) (h : v_ct w T) : ∃ w', rz_ex X (d + 3) 101 [.ref 12, .long (Int64.ofInt z)] w = some (.inl none, w', 0, 0) ∧ rz_fr [12, 13] w w' ∧ v_ct w' (T ++ (if z < 0 then [45] else []) ++ zds L n) := by
  have hL19 : L ≤ 19 := by
    rcases hL.2.2 with h | h
    · omega
    · rcases Nat.lt_or_ge 19 L with h9 | h9
      · have : 10 ^ 18 ≤ 10 ^ (L - 1) := Nat.pow_le_pow_right (by omega) (by omega)
        omega
      · exact h9
  have hab : ∀ w, rz_ex X (d + 2) 271 [.long (Int64.ofInt z)] w = some (.inl (some (.long (Int64.ofInt n))), w, 0, 0) := by
    intro w
    rw [← hz]
    exact x_absJ (by omega) (by omega)
  have hpn := fun w => l_pn (X := X) (d := d + 2) (w := w) (nc := 0) (ns := 0) (a := Int64.ofInt z) hn hL (L - 1) 0 (by omega)
  by_cases hneg : z < 0
  · obtain ⟨w1, e1, f1, h1⟩ := x_putSign (X := X) (d := d + 1) (c := 45) (by omega) (by omega) h
    obtain ⟨w', e2, f2, h2⟩ := x_putDigits (X := X) (d := d) hn ⟨hL.1, hL19⟩ (by rw [List.length_append, List.length_singleton]; omega) h1
    refine ⟨w', ?_, fr_trans f1 f2, by rw [if_pos hneg]; exact h2⟩
    obtain ⟨f0, h12, -, -⟩ := h
    obtain ⟨f3, h12', -, -⟩ := h1
    have e1' : rz_ex X (d + 2) 103 [.ref 12, .int (Int32.ofInt 45)] w = some (.inl none, w1, 0, 0) := e1
    simp (disch := first | exact nl_i | exact nl_r | exact nl_0 | exact nl_n | exact nl_x | exact kd_r | exact kd_n | exact kd_x | exact kd_o | exact cats0 | exact cats1 | exact cats2 | exact cats3 | exact cats4 | exact nr_i | exact nr_l | exact nr_z0 | exact nr_z1 | exact ft_i | exact ft_l | omega | rfl | assumption | (refine i_ne0 ?_ ?_ ?_ <;> omega) | (refine j_ne0 ?_ ?_ ?_ <;> omega) | (refine i_new ?_ ?_ <;> omega) | (refine bl_t ?_; with_unfolding_all rfl) | exact ft_z0 | exact ft_z1) only [n_X9_putNumber, q_X9_putNumber_0, q_X9_putNumber_1, q_X9_putNumber_2, q_X9_putNumber_3, q_X9_putNumber_6, q_X9_putNumber_7, q_X9_putNumber_9, q_X9_putNumber_12, q_X9_putNumber_13, q_X9_putNumber_16, q_X9_putNumber_17, q_X9_putNumber_18, q_X9_putNumber_20, q_X9_putNumber_21, i_add, i_sub, i_mul, i_neg, i_lt, i_le, i_eq, i_tm, i_div, i_j, j_i, j_add, j_sub, j_mul, j_neg, j_lt, j_le, j_eq, j_div, c_lt, c_le, c_gt, c_ge, c_eq, i_nat, rz_k, Nat.add_zero, Nat.zero_add, Nat.add_assoc, Nat.reduceAdd, if_true, if_false, vk_eq h12, e1', hab]
    rw [if_neg (by omega)]
    refine Eq.trans (hpn w1) ?_
    rw [q_X9_putNumber_55 rfl]
    simp (disch := first | exact nl_i | exact nl_r | exact nl_0 | exact nl_n | exact nl_x | exact kd_r | exact kd_n | exact kd_x | exact kd_o | exact cats0 | exact cats1 | exact cats2 | exact cats3 | exact cats4 | exact nr_i | exact nr_l | exact nr_z0 | exact nr_z1 | exact ft_i | exact ft_l | omega | rfl | assumption | (refine i_ne0 ?_ ?_ ?_ <;> omega) | (refine j_ne0 ?_ ?_ ?_ <;> omega) | (refine i_new ?_ ?_ <;> omega) | (refine bl_t ?_; with_unfolding_all rfl) | exact ft_z0 | exact ft_z1) only [q_X9_putNumber_56, q_X9_putNumber_57, q_X9_putNumber_59, q_X9_putNumber_62, i_add, i_sub, i_mul, i_neg, i_lt, i_le, i_eq, i_tm, i_div, i_j, j_i, j_add, j_sub, j_mul, j_neg, j_lt, j_le, j_eq, j_div, c_lt, c_le, c_gt, c_ge, c_eq, i_nat, rz_k, Nat.add_zero, Nat.zero_add, Nat.add_assoc, Nat.reduceAdd, if_true, if_false, vk_eq h12', e2]
  · obtain ⟨w', e2, f2, h2⟩ := x_putDigits (X := X) (d := d) hn ⟨hL.1, hL19⟩ (by omega) h
    refine ⟨w', ?_, f2, by rw [if_neg hneg, List.append_nil]; exact h2⟩
    obtain ⟨f0, h12, -, -⟩ := h
    simp (disch := first | exact nl_i | exact nl_r | exact nl_0 | exact nl_n | exact nl_x | exact kd_r | exact kd_n | exact kd_x | exact kd_o | exact cats0 | exact cats1 | exact cats2 | exact cats3 | exact cats4 | exact nr_i | exact nr_l | exact nr_z0 | exact nr_z1 | exact ft_i | exact ft_l | omega | rfl | assumption | (refine i_ne0 ?_ ?_ ?_ <;> omega) | (refine j_ne0 ?_ ?_ ?_ <;> omega) | (refine i_new ?_ ?_ <;> omega) | (refine bl_t ?_; with_unfolding_all rfl) | exact ft_z0 | exact ft_z1) only [n_X9_putNumber, q_X9_putNumber_0, q_X9_putNumber_1, q_X9_putNumber_2, q_X9_putNumber_3, q_X9_putNumber_6, q_X9_putNumber_7, q_X9_putNumber_9, q_X9_putNumber_12, q_X9_putNumber_13, q_X9_putNumber_16, q_X9_putNumber_17, q_X9_putNumber_18, q_X9_putNumber_20, q_X9_putNumber_21, i_add, i_sub, i_mul, i_neg, i_lt, i_le, i_eq, i_tm, i_div, i_j, j_i, j_add, j_sub, j_mul, j_neg, j_lt, j_le, j_eq, j_div, c_lt, c_le, c_gt, c_ge, c_eq, i_nat, rz_k, Nat.add_zero, Nat.zero_add, Nat.add_assoc, Nat.reduceAdd, if_true, if_false, vk_eq h12, hab]
    rw [if_pos (by omega)]
    refine Eq.trans (hpn w) ?_
    rw [q_X9_putNumber_55 rfl]
    simp (disch := first | exact nl_i | exact nl_r | exact nl_0 | exact nl_n | exact nl_x | exact kd_r | exact kd_n | exact kd_x | exact kd_o | exact cats0 | exact cats1 | exact cats2 | exact cats3 | exact cats4 | exact nr_i | exact nr_l | exact nr_z0 | exact nr_z1 | exact ft_i | exact ft_l | omega | rfl | assumption | (refine i_ne0 ?_ ?_ ?_ <;> omega) | (refine j_ne0 ?_ ?_ ?_ <;> omega) | (refine i_new ?_ ?_ <;> omega) | (refine bl_t ?_; with_unfolding_all rfl) | exact ft_z0 | exact ft_z1) only [q_X9_putNumber_56, q_X9_putNumber_57, q_X9_putNumber_59, q_X9_putNumber_62, i_add, i_sub, i_mul, i_neg, i_lt, i_le, i_eq, i_tm, i_div, i_j, j_i, j_add, j_sub, j_mul, j_neg, j_lt, j_le, j_eq, j_div, c_lt, c_le, c_gt, c_ge, c_eq, i_nat, rz_k, Nat.add_zero, Nat.zero_add, Nat.add_assoc, Nat.reduceAdd, if_true, if_false, vk_eq h12, e2]
-- the reference's
theorem y_adds {c : Nat} (hT : T.length < 60) (h : v_rt w T kp kd ty cl th) : ∃ w', rz_ex X (d + 1) 216 [.ref 32, .int (Int32.ofInt c)] w = some (.inl none, w', 0, 0) ∧ rz_fr [32, 42] w w' ∧ v_rt w' (T ++ [c]) kp kd ty cl th := by
  obtain ⟨hm, g, h42, hg⟩ := h
  generalize hw1 : w.set 42 (.inl (.int, 60, .inl (upd g T.length (Int32.ofInt c)))) = w1
  have f1 : rz_fr [42] w w1 := by rw [← hw1]; exact fr_set (by decide)
  have k42 : v_ia w1 42 60 (upd g T.length (Int32.ofInt c)) := by rw [← hw1]; exact w_eq (w_lt h42)
  have k32 : v_model w1 kp T.length kd ty cl th := fr_get f1 (by decide) hm
  generalize hw2 : w1.set 32 (rz_mo kp ((T.length : Nat) + 1) kd ty cl th) = w2
  have e9 : rz_pf w1 32 11 11 .int (.int (Int32.ofInt ((T.length : Nat) + 1))) = fun K => K w2 := by
    funext K
    rw [← hw2]
    exact pf_eq k32 rfl rfl rfl
  have f2 : rz_fr [32] w1 w2 := by rw [← hw2]; exact fr_set (by decide)
  refine ⟨w2, ?_, fr_trans (fr_sub f1 (by decide)) (fr_sub f2 (by decide)), ?_, _, fr_get f2 (by decide) k42, tx_get hg⟩
  · simp (disch := first | exact nl_i | exact nl_r | exact nl_0 | exact nl_n | exact nl_x | exact kd_r | exact kd_n | exact kd_x | exact kd_o | exact cats0 | exact cats1 | exact cats2 | exact cats3 | exact cats4 | exact nr_i | exact nr_l | exact nr_z0 | exact nr_z1 | exact ft_i | exact ft_l | omega | rfl | assumption | (refine i_ne0 ?_ ?_ ?_ <;> omega) | (refine j_ne0 ?_ ?_ ?_ <;> omega) | (refine i_new ?_ ?_ <;> omega) | (refine bl_t ?_; with_unfolding_all rfl) | exact ft_z0 | exact ft_z1) only [n_X11_adds, q_X11_adds_0, q_X11_adds_1, q_X11_adds_4, q_X11_adds_5, q_X11_adds_8, q_X11_adds_9, q_X11_adds_10, q_X11_adds_11, q_X11_adds_11r, q_X11_adds_12, q_X11_adds_15, q_X11_adds_16, q_X11_adds_17, q_X11_adds_20, i_add, i_sub, i_mul, i_neg, i_lt, i_le, i_eq, i_tm, i_div, i_j, j_i, j_add, j_sub, j_mul, j_neg, j_lt, j_le, j_eq, j_div, c_lt, c_le, c_gt, c_ge, c_eq, i_nat, rz_k, Nat.add_zero, Nat.zero_add, Nat.add_assoc, Nat.reduceAdd, if_true, if_false, gf_eq hm, List.getElem?_cons_zero, List.getElem?_cons_succ, si_eq h42, Int.toNat_natCast, hw1, gf_eq k32, e9]
  · rw [← hw2, List.length_append]
    exact w_eq (w_lt k32)
theorem y_addsNumber : ∀ (k : Nat) (n : Nat) (least : Int) (D : Nat) (w : rz_W) (T : List Nat), k + 1 ≤ D → 1 ≤ k → n < 10 ^ k → n ≤ 9223372036854775807 → (k : Int) - 100 ≤ least → least ≤ k → (k = 1 ∨ least = k ∨ 10 ^ (k - 1) ≤ n) → k ≤ 50 → T.length + k ≤ 60 → v_rt w T kp kd ty cl th → ∃ w', rz_ex X D 217 [.ref 32, .long (Int64.ofInt n), .int (Int32.ofInt least)] w = some (.inl none, w', 0, 0) ∧ rz_fr [32, 42] w w' ∧ v_rt w' (T ++ zds k n) kp kd ty cl th := by
  intro k
  induction k with
  | zero => intro n least D w T _ h1; omega
  | succ k ih =>
    intro n least D w T hD h1 hn hn9 hl0 hl1 hc hk50 hT h
    obtain ⟨D', rfl⟩ : ∃ D', D = D' + 1 + 1 := ⟨D - 2, by omega⟩
    have t1 : (n : Int).tmod 10 = ((n % 10 : Nat) : Int) := z_ctm n 10
    have t2 : (n : Int).tdiv 10 = ((n / 10 : Nat) : Int) := z_tdn n 10
    have t3 : (n : Int) - ((n / 10 : Nat) : Int) * 10 = ((n % 10 : Nat) : Int) := z_dm2 (n := n) (a := 10)
    have hd : n % 10 < 10 := Nat.mod_lt _ (by omega)
    have hch : (48 : Int) + ((n % 10 : Nat) : Int) = ((48 + n % 10 : Nat) : Int) := by omega
    by_cases hk : k = 0
    · subst hk
      have hn10 : n < 10 := by simpa using hn
      obtain ⟨w', e, f, r⟩ := y_adds (X := X) (d := D') (c := 48 + n % 10) (by omega) h
      refine ⟨w', ?_, f, r⟩
      obtain ⟨hm, -⟩ := h
      generalize n % 10 = dg at *
      simp (disch := first | exact nl_i | exact nl_r | exact nl_0 | exact nl_n | exact nl_x | exact kd_r | exact kd_n | exact kd_x | exact kd_o | exact cats0 | exact cats1 | exact cats2 | exact cats3 | exact cats4 | exact nr_i | exact nr_l | exact nr_z0 | exact nr_z1 | exact ft_i | exact ft_l | omega | rfl | assumption | (refine i_ne0 ?_ ?_ ?_ <;> omega) | (refine j_ne0 ?_ ?_ ?_ <;> omega) | (refine i_new ?_ ?_ <;> omega) | (refine bl_t ?_; with_unfolding_all rfl) | exact ft_z0 | exact ft_z1) only [n_X11_addsNumber, q_X11_addsNumber_0, q_X11_addsNumber_1, q_X11_addsNumber_4, q_X11_addsNumber_5, q_X11_addsNumber_8, q_X11_addsNumber_9, q_X11_addsNumber_10, q_X11_addsNumber_25, q_X11_addsNumber_26, q_X11_addsNumber_29, q_X11_addsNumber_30, q_X11_addsNumber_33, q_X11_addsNumber_34, q_X11_addsNumber_35, q_X11_addsNumber_36, q_X11_addsNumber_39, i_add, i_sub, i_mul, i_neg, i_lt, i_le, i_eq, i_tm, i_div, i_j, j_i, j_add, j_sub, j_mul, j_neg, j_lt, j_le, j_eq, j_div, c_lt, c_le, c_gt, c_ge, c_eq, i_nat, rz_k, Nat.add_zero, Nat.zero_add, Nat.add_assoc, Nat.reduceAdd, if_true, if_false, vk_eq hm, t1, hch, j_i, e]
      rw [if_neg (by omega), if_pos (by omega)]
    · have hdiv : n / 10 < 10 ^ k := by
        rw [Nat.div_lt_iff_lt_mul (by omega), ← Nat.pow_succ]
        exact hn
      have hrec : (n : Int) > 9 ∨ least > 1 := by
        rcases hc with h | h | h
        · omega
        · omega
        · have : 10 ^ 1 ≤ 10 ^ (k + 1 - 1) := Nat.pow_le_pow_right (by omega) (by omega)
          omega
      obtain ⟨w1, e1, f1, r1⟩ := ih (n / 10) (least - 1) (D' + 1) w T (by omega) (by omega) hdiv (by omega) (by omega) (by omega) (by
        rcases hc with h | h | h
        · omega
        · exact .inr (.inl (by omega))
        · refine .inr (.inr ?_)
          rw [Nat.le_div_iff_mul_le (by omega), ← Nat.pow_succ]
          rw [show (k - 1).succ = k + 1 - 1 by omega]
          exact h) (by omega) (by omega) h
      obtain ⟨w', e, f, r⟩ := y_adds (X := X) (d := D') (c := 48 + n % 10) (by rw [List.length_append, zds_len]; omega) r1
      refine ⟨w', ?_, fr_trans f1 f, by rw [List.append_assoc] at r; exact r⟩
      obtain ⟨hm, -⟩ := h
      obtain ⟨hm1, -⟩ := r1
      generalize n % 10 = dg at *
      generalize n / 10 = q at *
      by_cases h9 : (n : Int) > 9
      · simp (disch := first | exact nl_i | exact nl_r | exact nl_0 | exact nl_n | exact nl_x | exact kd_r | exact kd_n | exact kd_x | exact kd_o | exact cats0 | exact cats1 | exact cats2 | exact cats3 | exact cats4 | exact nr_i | exact nr_l | exact nr_z0 | exact nr_z1 | exact ft_i | exact ft_l | omega | rfl | assumption | (refine i_ne0 ?_ ?_ ?_ <;> omega) | (refine j_ne0 ?_ ?_ ?_ <;> omega) | (refine i_new ?_ ?_ <;> omega) | (refine bl_t ?_; with_unfolding_all rfl) | exact ft_z0 | exact ft_z1) only [n_X11_addsNumber, q_X11_addsNumber_0, q_X11_addsNumber_1, q_X11_addsNumber_4, q_X11_addsNumber_5, q_X11_addsNumber_8, q_X11_addsNumber_9, q_X11_addsNumber_10, q_X11_addsNumber_13, q_X11_addsNumber_14, q_X11_addsNumber_15, q_X11_addsNumber_18, q_X11_addsNumber_19, q_X11_addsNumber_20, q_X11_addsNumber_21, q_X11_addsNumber_22, q_X11_addsNumber_25, q_X11_addsNumber_26, q_X11_addsNumber_29, q_X11_addsNumber_30, q_X11_addsNumber_33, q_X11_addsNumber_34, q_X11_addsNumber_35, q_X11_addsNumber_36, q_X11_addsNumber_39, i_add, i_sub, i_mul, i_neg, i_lt, i_le, i_eq, i_tm, i_div, i_j, j_i, j_add, j_sub, j_mul, j_neg, j_lt, j_le, j_eq, j_div, c_lt, c_le, c_gt, c_ge, c_eq, i_nat, rz_k, Nat.add_zero, Nat.zero_add, Nat.add_assoc, Nat.reduceAdd, if_true, if_false, vk_eq hm, t2, t3, e1, vk_eq hm1, hch, j_i, e]
        rw [if_pos (by omega)]
      · simp (disch := first | exact nl_i | exact nl_r | exact nl_0 | exact nl_n | exact nl_x | exact kd_r | exact kd_n | exact kd_x | exact kd_o | exact cats0 | exact cats1 | exact cats2 | exact cats3 | exact cats4 | exact nr_i | exact nr_l | exact nr_z0 | exact nr_z1 | exact ft_i | exact ft_l | omega | rfl | assumption | (refine i_ne0 ?_ ?_ ?_ <;> omega) | (refine j_ne0 ?_ ?_ ?_ <;> omega) | (refine i_new ?_ ?_ <;> omega) | (refine bl_t ?_; with_unfolding_all rfl) | exact ft_z0 | exact ft_z1) only [n_X11_addsNumber, q_X11_addsNumber_0, q_X11_addsNumber_1, q_X11_addsNumber_4, q_X11_addsNumber_5, q_X11_addsNumber_8, q_X11_addsNumber_9, q_X11_addsNumber_10, q_X11_addsNumber_13, q_X11_addsNumber_14, q_X11_addsNumber_15, q_X11_addsNumber_18, q_X11_addsNumber_19, q_X11_addsNumber_20, q_X11_addsNumber_21, q_X11_addsNumber_22, q_X11_addsNumber_25, q_X11_addsNumber_26, q_X11_addsNumber_29, q_X11_addsNumber_30, q_X11_addsNumber_33, q_X11_addsNumber_34, q_X11_addsNumber_35, q_X11_addsNumber_36, q_X11_addsNumber_39, i_add, i_sub, i_mul, i_neg, i_lt, i_le, i_eq, i_tm, i_div, i_j, j_i, j_add, j_sub, j_mul, j_neg, j_lt, j_le, j_eq, j_div, c_lt, c_le, c_gt, c_ge, c_eq, i_nat, rz_k, Nat.add_zero, Nat.zero_add, Nat.add_assoc, Nat.reduceAdd, if_true, if_false, vk_eq hm, t2, t3, e1, vk_eq hm1, hch, j_i, e]
        rw [if_neg (by omega), if_neg (by omega)]
theorem zf_len_ex : ∀ (n : Nat), ∃ L, zf_len n L := by
  intro n
  induction n using Nat.strongRecOn with
  | ind n ih =>
    by_cases h : n < 10
    · exact ⟨1, by omega, by simpa using h, .inl rfl⟩
    · obtain ⟨L, h1, h2, h3⟩ := ih (n / 10) (by omega)
      refine ⟨L + 1, by omega, ?_, .inr ?_⟩
      · rw [Nat.pow_succ]
        exact (Nat.div_lt_iff_lt_mul (by omega)).mp h2
      · rw [Nat.add_sub_cancel]
        rcases h3 with h3 | h3
        · subst h3
          show 10 ^ 1 ≤ n
          omega
        · have := (Nat.le_div_iff_mul_le (show 0 < 10 by omega)).mp h3
          rw [← Nat.pow_succ, show (L - 1).succ = L by omega] at this
          exact this
end RZTX
