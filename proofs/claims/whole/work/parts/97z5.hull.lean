/-! part 97z5: level 2: isSound: the hull is lowest, at (5, 7) and (7, 5) -/
section RZXE
variable {X : rz_X} {d : Nat} {w w1 : rz_W} {nc ns : Nat} {kp : Int}
def zk_bend (L : Nat → Int) : List Nat → Bool
  | a :: b :: c :: r => decide (0 < zh_T L a b c) && zk_bend L (b :: c :: r)
  | _ => true
def zk_below (L : Nat → Int) : List Nat → Bool
  | a :: b :: r => (decide (a ≤ b) && (List.range (b + 1 - a)).all fun k => decide (0 ≤ zh_T L a b (a + k))) && zk_below L (b :: r)
  | _ => true
theorem zk_bend_at {L : Nat → Int} : ∀ {r : List Nat}, zk_bend L r = true → ∀ {i a b c : Nat}, r[i]? = some a → r[i + 1]? = some b → r[i + 2]? = some c → 0 < zh_T L a b c := by
  intro r
  induction r with
  | nil => intro _ i a b c h; cases h
  | cons e r ih =>
    intro h i a b c h1 h2 h3
    match r, h, ih, h2, h3 with
    | [], _, _, h2, _ => cases h2
    | [f], _, _, _, h3 => cases i <;> cases h3
    | f :: g :: r, h, ih, h2, h3 =>
      unfold zk_bend at h
      rw [Bool.and_eq_true] at h
      cases i with
      | zero =>
        have e1 : e = a := by simpa using h1
        have e2 : f = b := by simpa using h2
        have e3 : g = c := by simpa using h3
        rw [← e1, ← e2, ← e3]
        exact of_decide_eq_true h.1
      | succ i => exact ih h.2 (i := i) h1 h2 h3
theorem zk_below_at {L : Nat → Int} : ∀ {r : List Nat}, zk_below L r = true → ∀ {i a b : Nat}, r[i]? = some a → r[i + 1]? = some b → a ≤ b ∧ ∀ x, a ≤ x → x ≤ b → 0 ≤ zh_T L a b x := by
  intro r
  induction r with
  | nil => intro _ i a b h; cases h
  | cons e r ih =>
    intro h i a b h1 h2
    match r, h, ih, h2 with
    | [], _, _, h2 => cases h2
    | f :: r, h, ih, h2 =>
      unfold zk_below at h
      rw [Bool.and_eq_true, Bool.and_eq_true] at h
      cases i with
      | zero =>
        have e1 : e = a := by simpa using h1
        have e2 : f = b := by simpa using h2
        rw [← e1, ← e2]
        refine ⟨of_decide_eq_true h.1.1, fun x hx1 hx2 => ?_⟩
        have := List.all_eq_true.mp h.1.2 (x - e) (List.mem_range.mpr (by omega))
        have := of_decide_eq_true this
        rw [show e + (x - e) = x by omega] at this
        exact this
      | succ i => exact ih h.2 (i := i) h1 h2
theorem l_bends {L : Nat → Int} {l : List Nat} (hu : v_hu w L l) (hl : l.length ≤ 200) (hb : ∀ e, e ∈ l → e ≤ 200 ∧ 0 ≤ L e ∧ L e ≤ 300) (hc : zk_bend L l.reverse = true) (m : Nat) : ∀ i : Nat, 1 ≤ i → i + m = 200 → rz_G X (d + 2) mz_X4_bendsUp 2 [some (.ref 29), some (.int (Int32.ofInt (i : Int)))] [] w nc ns = some (.inl (some (.int (Int32.ofInt 1))), w, nc, ns) := by
  obtain ⟨F, G, h29, h30, h31, hr⟩ := hu
  have hat := zh_rep_at l hr
  have hend : ∀ i : Nat, i ≤ 200 → l.length ≤ i + 1 → rz_G X (d + 2) mz_X4_bendsUp 2 [some (.ref 29), some (.int (Int32.ofInt (i : Int)))] [] w nc ns = some (.inl (some (.int (Int32.ofInt 1))), w, nc, ns) := by
    intro i h1 h2
    rw [q_X4_bendsUp_2]
    simp (disch := first | exact nl_i | exact nl_r | exact nl_0 | exact nl_n | exact nl_x | exact kd_r | exact kd_n | exact kd_x | exact kd_o | exact cats0 | exact cats1 | exact cats2 | exact cats3 | exact cats4 | exact nr_i | exact nr_l | exact nr_z0 | exact nr_z1 | exact ft_i | exact ft_l | omega | rfl | assumption | (refine i_ne0 ?_ ?_ ?_ <;> omega) | (refine j_ne0 ?_ ?_ ?_ <;> omega) | (refine i_new ?_ ?_ <;> omega) | (refine bl_t ?_; with_unfolding_all rfl) | exact ft_z0 | exact ft_z1) only [↓reduceIte, q_X4_bendsUp_3, q_X4_bendsUp_4, q_X4_bendsUp_5, q_X4_bendsUp_6, q_X4_bendsUp_9, q_X4_bendsUp_45, q_X4_bendsUp_46, i_add, i_sub, i_mul, i_neg, i_lt, i_le, i_eq, i_tm, i_div, i_j, j_i, j_add, j_sub, j_mul, j_neg, j_lt, j_le, j_eq, j_div, c_lt, c_le, c_gt, c_ge, c_eq, i_nat, rz_k, Nat.add_zero, Nat.zero_add, Nat.add_assoc, Nat.reduceAdd, if_true, if_false, gf_eq h29, List.getElem?_cons_zero, List.getElem?_cons_succ, eq_true (show (l.length : Int) ≤ (i : Int) + 1 by omega)]
  induction m with
  | zero =>
    intro i h1 hi
    exact hend i (by omega) (by omega)
  | succ m ih =>
    intro i h1 hi
    by_cases hle : l.length ≤ i + 1
    · exact hend i (by omega) hle
    have hlen : l.reverse.length = l.length := List.length_reverse
    have g0 := ze_get (L := l.reverse) (k := i - 1) (by omega)
    have g1 := ze_get (L := l.reverse) (k := i) (by omega)
    have g2 := ze_get (L := l.reverse) (k := i + 1) (by omega)
    generalize l.reverse.getD (i - 1) 0 = a at g0
    generalize l.reverse.getD i 0 = b at g1
    generalize l.reverse.getD (i + 1) 0 = c at g2
    have ha := hb a (List.mem_reverse.mp (List.mem_of_getElem? g0))
    have hb1 := hb b (List.mem_reverse.mp (List.mem_of_getElem? g1))
    have hc1 := hb c (List.mem_reverse.mp (List.mem_of_getElem? g2))
    have hT := zk_bend_at hc (i := i - 1) g0 (by rw [show i - 1 + 1 = i by omega]; exact g1) (by rw [show i - 1 + 2 = i + 1 by omega]; exact g2)
    have k1 := x_hx (X := X) (d := d + 1) h29 h30 (show i + 1 < 201 by omega)
    have k2 := x_hy (X := X) (d := d + 1) h29 h31 (show i + 1 < 201 by omega)
    have z0 := hat _ _ g0
    have z1 := hat _ _ g1
    have z2 := hat _ _ g2
    rw [z2.1] at k1
    rw [z2.2] at k2
    have kt := x_hturn (X := X) (d := d) (x := c) (y := L c) h29 h30 h31 (show i - 1 < 201 by omega) (show i < 201 by omega) z0.1 z0.2 z1.1 z1.2 rfl
    have bT := z_T_bd (L := L) (a := a) (b := b) (x := c) ha.1 hb1.1 hc1.1 ha.2 hb1.2 hc1.2
    rw [show ((i + 1 : Nat) : Int) = (i : Int) + 1 by omega] at k1 k2
    rw [show ((i - 1 : Nat) : Int) = (i : Int) - 1 by omega] at kt
    rw [← ih (i + 1) (by omega) (by omega), q_X4_bendsUp_2]
    generalize zh_T L a b c = T at *
    simp (disch := first | exact nl_i | exact nl_r | exact nl_0 | exact nl_n | exact nl_x | exact kd_r | exact kd_n | exact kd_x | exact kd_o | exact cats0 | exact cats1 | exact cats2 | exact cats3 | exact cats4 | exact nr_i | exact nr_l | exact nr_z0 | exact nr_z1 | exact ft_i | exact ft_l | omega | rfl | assumption | (refine i_ne0 ?_ ?_ ?_ <;> omega) | (refine j_ne0 ?_ ?_ ?_ <;> omega) | (refine i_new ?_ ?_ <;> omega) | (refine bl_t ?_; with_unfolding_all rfl) | exact ft_z0 | exact ft_z1) only [↓reduceIte, q_X4_bendsUp_3, q_X4_bendsUp_4, q_X4_bendsUp_5, q_X4_bendsUp_6, q_X4_bendsUp_9, q_X4_bendsUp_12, q_X4_bendsUp_13, q_X4_bendsUp_14, q_X4_bendsUp_15, q_X4_bendsUp_16, q_X4_bendsUp_17, q_X4_bendsUp_18, q_X4_bendsUp_19, q_X4_bendsUp_20, q_X4_bendsUp_21, q_X4_bendsUp_24, q_X4_bendsUp_25, q_X4_bendsUp_26, q_X4_bendsUp_27, q_X4_bendsUp_28, q_X4_bendsUp_31, q_X4_bendsUp_34, q_X4_bendsUp_37, q_X4_bendsUp_38, q_X4_bendsUp_39, q_X4_bendsUp_42, i_add, i_sub, i_mul, i_neg, i_lt, i_le, i_eq, i_tm, i_div, i_j, j_i, j_add, j_sub, j_mul, j_neg, j_lt, j_le, j_eq, j_div, c_lt, c_le, c_gt, c_ge, c_eq, i_nat, rz_k, Nat.add_zero, Nat.zero_add, Nat.add_assoc, Nat.reduceAdd, if_true, if_false, gf_eq h29, vk_eq h29, List.getElem?_cons_zero, List.getElem?_cons_succ, eq_false (show ¬ (l.length : Int) ≤ (i : Int) + 1 by omega), k1, k2, kt, eq_true (show 0 < T by omega), eq_false (show ¬ T ≤ 0 by omega)]
    rfl
theorem l_belin {L : Nat → Int} {F G : Nat → Int32} {N : Int32} {p q i a b : Nat} (hp : 1 ≤ p ∧ p ≤ 200) (hq : 1 ≤ q ∧ q ≤ 200) (hL : ∀ x, L x = ((p * x / q : Nat) : Int) + 1) (h29 : v_ob w 29 4 [.int N, .ref 30, .ref 31]) (h30 : v_ia w 30 201 F) (h31 : v_ia w 31 201 G) (hi : i + 1 < 201) (fa : F i = Int32.ofInt (a : Int)) (ga : G i = Int32.ofInt (L a)) (fb : F (i + 1) = Int32.ofInt (b : Int)) (gb : G (i + 1) = Int32.ofInt (L b)) (hab : a ≤ 200 ∧ b ≤ 200) (hLb : ∀ x, x ≤ 200 → 0 ≤ L x ∧ L x ≤ 300) (hT : ∀ x, a ≤ x → x ≤ b → 0 ≤ zh_T L a b x) (m : Nat) : ∀ x : Nat, a ≤ x → x + m = b + 1 → rz_G X (d + 3) mz_X4_liesBelowAll 19 [some (.ref 29), some (.int (Int32.ofInt (p : Int))), some (.int (Int32.ofInt (q : Int))), some (.int (Int32.ofInt (i : Int))), some (.int (Int32.ofInt (x : Int)))] [] w nc ns = rz_G X (d + 3) mz_X4_liesBelowAll 59 [some (.ref 29), some (.int (Int32.ofInt (p : Int))), some (.int (Int32.ofInt (q : Int))), some (.int (Int32.ofInt (i : Int))), some (.int (Int32.ofInt ((b + 1 : Nat) : Int)))] [] w nc ns := by
  have k1 := x_hx (X := X) (d := d + 2) h29 h30 hi
  rw [fb, show ((i + 1 : Nat) : Int) = (i : Int) + 1 by omega] at k1
  induction m with
  | zero =>
    intro x hx hm
    obtain rfl : x = b + 1 := by omega
    rw [q_X4_liesBelowAll_19]
    simp (disch := first | exact nl_i | exact nl_r | exact nl_0 | exact nl_n | exact nl_x | exact kd_r | exact kd_n | exact kd_x | exact kd_o | exact cats0 | exact cats1 | exact cats2 | exact cats3 | exact cats4 | exact nr_i | exact nr_l | exact nr_z0 | exact nr_z1 | exact ft_i | exact ft_l | omega | rfl | assumption | (refine i_ne0 ?_ ?_ ?_ <;> omega) | (refine j_ne0 ?_ ?_ ?_ <;> omega) | (refine i_new ?_ ?_ <;> omega) | (refine bl_t ?_; with_unfolding_all rfl) | exact ft_z0 | exact ft_z1) only [↓reduceIte, q_X4_liesBelowAll_21, q_X4_liesBelowAll_22, q_X4_liesBelowAll_23, q_X4_liesBelowAll_24, q_X4_liesBelowAll_25, q_X4_liesBelowAll_28, i_add, i_sub, i_mul, i_neg, i_lt, i_le, i_eq, i_tm, i_div, i_j, j_i, j_add, j_sub, j_mul, j_neg, j_lt, j_le, j_eq, j_div, c_lt, c_le, c_gt, c_ge, c_eq, i_nat, rz_k, Nat.add_zero, Nat.zero_add, Nat.add_assoc, Nat.reduceAdd, if_true, if_false, vk_eq h29, k1, eq_true (show (b : Int) < ((b + 1 : Nat) : Int) by omega)]
  | succ m ih =>
    intro x hx hm
    have kl := x_hlow (X := X) (d := d + 2) (w := w) (x := x) hp hq (by omega)
    rw [← hL x] at kl
    have kt := x_hturn (X := X) (d := d + 1) (x := x) (y := L x) h29 h30 h31 (show i < 201 by omega) hi fa ga fb gb rfl
    rw [show ((i + 1 : Nat) : Int) = (i : Int) + 1 by omega] at kt
    have bT := z_T_bd (L := L) (a := a) (b := b) (x := x) hab.1 hab.2 (by omega) (hLb a hab.1) (hLb b hab.2) (hLb x (by omega))
    have hT1 := hT x hx (by omega)
    rw [← ih (x + 1) (by omega) (by omega), q_X4_liesBelowAll_19]
    generalize zh_T L a b x = T at *
    simp (disch := first | exact nl_i | exact nl_r | exact nl_0 | exact nl_n | exact nl_x | exact kd_r | exact kd_n | exact kd_x | exact kd_o | exact cats0 | exact cats1 | exact cats2 | exact cats3 | exact cats4 | exact nr_i | exact nr_l | exact nr_z0 | exact nr_z1 | exact ft_i | exact ft_l | omega | rfl | assumption | (refine i_ne0 ?_ ?_ ?_ <;> omega) | (refine j_ne0 ?_ ?_ ?_ <;> omega) | (refine i_new ?_ ?_ <;> omega) | (refine bl_t ?_; with_unfolding_all rfl) | exact ft_z0 | exact ft_z1) only [↓reduceIte, q_X4_liesBelowAll_21, q_X4_liesBelowAll_22, q_X4_liesBelowAll_23, q_X4_liesBelowAll_24, q_X4_liesBelowAll_25, q_X4_liesBelowAll_28, q_X4_liesBelowAll_31, q_X4_liesBelowAll_32, q_X4_liesBelowAll_33, q_X4_liesBelowAll_34, q_X4_liesBelowAll_35, q_X4_liesBelowAll_36, q_X4_liesBelowAll_38, q_X4_liesBelowAll_39, q_X4_liesBelowAll_40, q_X4_liesBelowAll_42, q_X4_liesBelowAll_45, q_X4_liesBelowAll_48, q_X4_liesBelowAll_51, q_X4_liesBelowAll_52, q_X4_liesBelowAll_53, q_X4_liesBelowAll_56, i_add, i_sub, i_mul, i_neg, i_lt, i_le, i_eq, i_tm, i_div, i_j, j_i, j_add, j_sub, j_mul, j_neg, j_lt, j_le, j_eq, j_div, c_lt, c_le, c_gt, c_ge, c_eq, i_nat, rz_k, Nat.add_zero, Nat.zero_add, Nat.add_assoc, Nat.reduceAdd, if_true, if_false, vk_eq h29, k1, kl, kt, eq_false (show ¬ (b : Int) < (x : Int) by omega), eq_true hT1]
    rfl
theorem l_below {L : Nat → Int} {l : List Nat} {p q : Nat} (hp : 1 ≤ p ∧ p ≤ 200) (hq : 1 ≤ q ∧ q ≤ 200) (hL : ∀ x, L x = ((p * x / q : Nat) : Int) + 1) (hLb : ∀ x, x ≤ 200 → 0 ≤ L x ∧ L x ≤ 300) (hu : v_hu w L l) (hl : 2 ≤ l.length ∧ l.length ≤ 200) (hb : ∀ e, e ∈ l → e ≤ 200) (hc : zk_below L l.reverse = true) (h0 : l.reverse[0]? = some 0) (hz : l.reverse[l.length - 1]? = some q) (m : Nat) : ∀ (i : Nat) (l4 : Option Value), rz_nl l4 = true → i + 1 + m = l.length → rz_G X (d + 3) mz_X4_liesBelowAll 2 [some (.ref 29), some (.int (Int32.ofInt (p : Int))), some (.int (Int32.ofInt (q : Int))), some (.int (Int32.ofInt (i : Int))), l4] [] w nc ns = some (.inl (some (.int (Int32.ofInt 1))), w, nc, ns) := by
  obtain ⟨F, G, h29, h30, h31, hr⟩ := hu
  have hat := zh_rep_at l hr
  have hlen : l.reverse.length = l.length := List.length_reverse
  induction m with
  | zero =>
    intro i l4 hl4 hi
    have k0 := x_hx (X := X) (d := d + 2) h29 h30 (show 0 < 201 by omega)
    have kz := x_hx (X := X) (d := d + 2) h29 h30 (show l.length - 1 < 201 by omega)
    rw [(hat _ _ h0).1] at k0
    rw [(hat _ _ hz).1, show ((l.length - 1 : Nat) : Int) = (l.length : Int) - 1 by omega] at kz
    have k0' : rz_ex X (d + 3) 40 [.ref 29, .int (Int32.ofInt 0)] w = some (.inl (some (.int (Int32.ofInt 0))), w, 0, 0) := k0
    clear k0
    rw [q_X4_liesBelowAll_2]
    simp (disch := first | exact nl_i | exact nl_r | exact nl_0 | exact nl_n | exact nl_x | exact kd_r | exact kd_n | exact kd_x | exact kd_o | exact cats0 | exact cats1 | exact cats2 | exact cats3 | exact cats4 | exact nr_i | exact nr_l | exact nr_z0 | exact nr_z1 | exact ft_i | exact ft_l | omega | rfl | assumption | (refine i_ne0 ?_ ?_ ?_ <;> omega) | (refine j_ne0 ?_ ?_ ?_ <;> omega) | (refine i_new ?_ ?_ <;> omega) | (refine bl_t ?_; with_unfolding_all rfl) | exact ft_z0 | exact ft_z1) only [↓reduceIte, q_X4_liesBelowAll_3, q_X4_liesBelowAll_4, q_X4_liesBelowAll_5, q_X4_liesBelowAll_6, q_X4_liesBelowAll_9, q_X4_liesBelowAll_65, q_X4_liesBelowAll_66, q_X4_liesBelowAll_69, q_X4_liesBelowAll_70, q_X4_liesBelowAll_73, q_X4_liesBelowAll_74, q_X4_liesBelowAll_75, q_X4_liesBelowAll_78, q_X4_liesBelowAll_81, q_X4_liesBelowAll_82, q_X4_liesBelowAll_83, q_X4_liesBelowAll_86, q_X4_liesBelowAll_87, q_X4_liesBelowAll_88, q_X4_liesBelowAll_91, q_X4_liesBelowAll_92, q_X4_liesBelowAll_95, q_X4_liesBelowAll_96, q_X4_liesBelowAll_99, q_X4_liesBelowAll_100, i_add, i_sub, i_mul, i_neg, i_lt, i_le, i_eq, i_tm, i_div, i_j, j_i, j_add, j_sub, j_mul, j_neg, j_lt, j_le, j_eq, j_div, c_lt, c_le, c_gt, c_ge, c_eq, i_nat, rz_k, Nat.add_zero, Nat.zero_add, Nat.add_assoc, Nat.reduceAdd, if_true, if_false, vk_eq h29, gf_eq h29, List.getElem?_cons_zero, List.getElem?_cons_succ, eq_true (show (l.length : Int) ≤ (i : Int) + 1 by omega), eq_false (show ¬ (l.length : Int) ≤ 1 by omega), k0', kz, not_true_eq_false]
  | succ m ih =>
    intro i l4 hl4 hi
    have g1 := ze_get (L := l.reverse) (k := i) (by omega)
    have g2 := ze_get (L := l.reverse) (k := i + 1) (by omega)
    generalize l.reverse.getD i 0 = a at g1
    generalize l.reverse.getD (i + 1) 0 = b at g2
    have ha := hb a (List.mem_reverse.mp (List.mem_of_getElem? g1))
    have hb1 := hb b (List.mem_reverse.mp (List.mem_of_getElem? g2))
    obtain ⟨hab, hT⟩ := zk_below_at hc g1 g2
    have z1 := hat _ _ g1
    have z2 := hat _ _ g2
    have ka := x_hx (X := X) (d := d + 2) h29 h30 (show i < 201 by omega)
    rw [z1.1] at ka
    have e := l_belin (X := X) (d := d) (nc := nc) (ns := ns) hp hq hL h29 h30 h31 (show i + 1 < 201 by omega) z1.1 z1.2 z2.1 z2.2 ⟨ha, hb1⟩ hLb hT (b + 1 - a) a (Nat.le_refl _) (by omega)
    have e0 : rz_G X (d + 3) mz_X4_liesBelowAll 2 [some (.ref 29), some (.int (Int32.ofInt (p : Int))), some (.int (Int32.ofInt (q : Int))), some (.int (Int32.ofInt (i : Int))), l4] [] w nc ns = rz_G X (d + 3) mz_X4_liesBelowAll 19 [some (.ref 29), some (.int (Int32.ofInt (p : Int))), some (.int (Int32.ofInt (q : Int))), some (.int (Int32.ofInt (i : Int))), some (.int (Int32.ofInt (a : Int)))] [] w nc ns := by
      rw [q_X4_liesBelowAll_2]
      simp (disch := first | exact nl_i | exact nl_r | exact nl_0 | exact nl_n | exact nl_x | exact kd_r | exact kd_n | exact kd_x | exact kd_o | exact cats0 | exact cats1 | exact cats2 | exact cats3 | exact cats4 | exact nr_i | exact nr_l | exact nr_z0 | exact nr_z1 | exact ft_i | exact ft_l | omega | rfl | assumption | (refine i_ne0 ?_ ?_ ?_ <;> omega) | (refine j_ne0 ?_ ?_ ?_ <;> omega) | (refine i_new ?_ ?_ <;> omega) | (refine bl_t ?_; with_unfolding_all rfl) | exact ft_z0 | exact ft_z1) only [↓reduceIte, q_X4_liesBelowAll_3, q_X4_liesBelowAll_4, q_X4_liesBelowAll_5, q_X4_liesBelowAll_6, q_X4_liesBelowAll_9, q_X4_liesBelowAll_12, q_X4_liesBelowAll_13, q_X4_liesBelowAll_14, q_X4_liesBelowAll_17, i_add, i_sub, i_mul, i_neg, i_lt, i_le, i_eq, i_tm, i_div, i_j, j_i, j_add, j_sub, j_mul, j_neg, j_lt, j_le, j_eq, j_div, c_lt, c_le, c_gt, c_ge, c_eq, i_nat, rz_k, Nat.add_zero, Nat.zero_add, Nat.add_assoc, Nat.reduceAdd, if_true, if_false, vk_eq h29, gf_eq h29, List.getElem?_cons_zero, List.getElem?_cons_succ, eq_false (show ¬ (l.length : Int) ≤ (i : Int) + 1 by omega), ka]
    rw [e0, e, ← ih (i + 1) (some (.int (Int32.ofInt ((b + 1 : Nat) : Int)))) nl_i (by omega), q_X4_liesBelowAll_59 nl_i]
    simp (disch := first | exact nl_i | exact nl_r | exact nl_0 | exact nl_n | exact nl_x | exact kd_r | exact kd_n | exact kd_x | exact kd_o | exact cats0 | exact cats1 | exact cats2 | exact cats3 | exact cats4 | exact nr_i | exact nr_l | exact nr_z0 | exact nr_z1 | exact ft_i | exact ft_l | omega | rfl | assumption | (refine i_ne0 ?_ ?_ ?_ <;> omega) | (refine j_ne0 ?_ ?_ ?_ <;> omega) | (refine i_new ?_ ?_ <;> omega) | (refine bl_t ?_; with_unfolding_all rfl) | exact ft_z0 | exact ft_z1) only [q_X4_liesBelowAll_62, i_add, i_sub, i_mul, i_neg, i_lt, i_le, i_eq, i_tm, i_div, i_j, j_i, j_add, j_sub, j_mul, j_neg, j_lt, j_le, j_eq, j_div, c_lt, c_le, c_gt, c_ge, c_eq, i_nat, rz_k, Nat.add_zero, Nat.zero_add, Nat.add_assoc, Nat.reduceAdd, if_true, if_false]
    rfl
theorem x_hlst {p q : Nat} (hp : 1 ≤ p ∧ p ≤ 200) (hq : 1 ≤ q ∧ q ≤ 200) (hq1 : q ≤ 100) (hy : v_yard w kp) (hv : v_misc w) (hLb : ∀ x, x ≤ 200 → 0 ≤ ((p * x / q : Nat) : Int) + 1 ∧ ((p * x / q : Nat) : Int) + 1 ≤ 300) (hk : zk_bend (fun x => ((p * x / q : Nat) : Int) + 1) (zh_b (fun x => ((p * x / q : Nat) : Int) + 1) q).reverse = true ∧ zk_below (fun x => ((p * x / q : Nat) : Int) + 1) (zh_b (fun x => ((p * x / q : Nat) : Int) + 1) q).reverse = true ∧ 2 ≤ (zh_b (fun x => ((p * x / q : Nat) : Int) + 1) q).length ∧ (zh_b (fun x => ((p * x / q : Nat) : Int) + 1) q).reverse[0]? = some 0 ∧ (zh_b (fun x => ((p * x / q : Nat) : Int) + 1) q).reverse[(zh_b (fun x => ((p * x / q : Nat) : Int) + 1) q).length - 1]? = some q) : ∃ w', rz_ex X (d + 5) 172 [.ref 0, .int (Int32.ofInt (p : Int)), .int (Int32.ofInt (q : Int))] w = some (.inl (some (.int (Int32.ofInt 1))), w', 0, 0) ∧ rz_fr [29, 30, 31] w w' ∧ v_misc w' := by
  obtain ⟨w', e, f, hm', hu⟩ := x_hbuild (X := X) (d := d) hp hq hv
  obtain ⟨k1, k2, k3, k4, k5⟩ := hk
  have hlen := zh_b_len (L := fun x => ((p * x / q : Nat) : Int) + 1) q
  have hy1 : v_yard w' kp := fr_get f (by decide) hy
  refine ⟨w', ?_, f, hm'⟩
  have hL : ∀ x, (fun x => ((p * x / q : Nat) : Int) + 1) x = ((p * x / q : Nat) : Int) + 1 := fun x => rfl
  generalize (fun x => ((p * x / q : Nat) : Int) + 1) = L at *
  have hLb' : ∀ x, x ≤ 200 → 0 ≤ L x ∧ L x ≤ 300 := fun x hx => by rw [hL]; exact hLb x hx
  have b1 := l_bends (X := X) (d := d + 1) (nc := 0) (ns := 0) hu (by omega) (fun e he => ⟨by have := hlen.2 e he; omega, hLb' e (by have := hlen.2 e he; omega)⟩) k1 199 1 (Nat.le_refl _) (by omega)
  have b2 := l_below (X := X) (d := d) (nc := 0) (ns := 0) hp hq hL hLb' hu ⟨k3, by omega⟩ (fun e he => by have := hlen.2 e he; omega) k2 k4 k5 ((zh_b L q).length - 1) 0 none nl_0 (by omega)
  have x1 : rz_ex X (d + 4) 43 [.ref 29] w' = some (.inl (some (.int (Int32.ofInt 1))), w', 0, 0) := by
    rw [← b1]
    simp (disch := first | exact nl_i | exact nl_r | exact nl_0 | exact nl_n | exact nl_x | exact kd_r | exact kd_n | exact kd_x | exact kd_o | exact cats0 | exact cats1 | exact cats2 | exact cats3 | exact cats4 | exact nr_i | exact nr_l | exact nr_z0 | exact nr_z1 | exact ft_i | exact ft_l | omega | rfl | assumption | (refine i_ne0 ?_ ?_ ?_ <;> omega) | (refine j_ne0 ?_ ?_ ?_ <;> omega) | (refine i_new ?_ ?_ <;> omega) | (refine bl_t ?_; with_unfolding_all rfl) | exact ft_z0 | exact ft_z1) only [n_X4_bendsUp, q_X4_bendsUp_0, q_X4_bendsUp_1, i_add, i_sub, i_mul, i_neg, i_lt, i_le, i_eq, i_tm, i_div, i_j, j_i, j_add, j_sub, j_mul, j_neg, j_lt, j_le, j_eq, j_div, c_lt, c_le, c_gt, c_ge, c_eq, i_nat, rz_k, Nat.add_zero, Nat.zero_add, Nat.add_assoc, Nat.reduceAdd, if_true, if_false]
    rfl
  have x2 : rz_ex X (d + 4) 44 [.ref 29, .int (Int32.ofInt (p : Int)), .int (Int32.ofInt (q : Int))] w' = some (.inl (some (.int (Int32.ofInt 1))), w', 0, 0) := by
    rw [← b2]
    simp (disch := first | exact nl_i | exact nl_r | exact nl_0 | exact nl_n | exact nl_x | exact kd_r | exact kd_n | exact kd_x | exact kd_o | exact cats0 | exact cats1 | exact cats2 | exact cats3 | exact cats4 | exact nr_i | exact nr_l | exact nr_z0 | exact nr_z1 | exact ft_i | exact ft_l | omega | rfl | assumption | (refine i_ne0 ?_ ?_ ?_ <;> omega) | (refine j_ne0 ?_ ?_ ?_ <;> omega) | (refine i_new ?_ ?_ <;> omega) | (refine bl_t ?_; with_unfolding_all rfl) | exact ft_z0 | exact ft_z1) only [n_X4_liesBelowAll, q_X4_liesBelowAll_0, q_X4_liesBelowAll_1, i_add, i_sub, i_mul, i_neg, i_lt, i_le, i_eq, i_tm, i_div, i_j, j_i, j_add, j_sub, j_mul, j_neg, j_lt, j_le, j_eq, j_div, c_lt, c_le, c_gt, c_ge, c_eq, i_nat, rz_k, Nat.add_zero, Nat.zero_add, Nat.add_assoc, Nat.reduceAdd, if_true, if_false]
    rfl
  obtain ⟨F, G, h29, -⟩ := id hu
  have h29w : ∃ fs, v_ob w 29 4 fs := by
    obtain ⟨-, -, -, -, ⟨n5, f5, g5, e5, -⟩, -⟩ := hv
    exact ⟨_, e5⟩
  obtain ⟨fs, h29w⟩ := h29w
  simp (disch := first | exact nl_i | exact nl_r | exact nl_0 | exact nl_n | exact nl_x | exact kd_r | exact kd_n | exact kd_x | exact kd_o | exact cats0 | exact cats1 | exact cats2 | exact cats3 | exact cats4 | exact nr_i | exact nr_l | exact nr_z0 | exact nr_z1 | exact ft_i | exact ft_l | omega | rfl | assumption | (refine i_ne0 ?_ ?_ ?_ <;> omega) | (refine j_ne0 ?_ ?_ ?_ <;> omega) | (refine i_new ?_ ?_ <;> omega) | (refine bl_t ?_; with_unfolding_all rfl) | exact ft_z0 | exact ft_z1) only [↓reduceIte, n_X10_hullIsLowest, q_X10_hullIsLowest_0, q_X10_hullIsLowest_1, q_X10_hullIsLowest_4, q_X10_hullIsLowest_5, q_X10_hullIsLowest_6, q_X10_hullIsLowest_9, q_X10_hullIsLowest_10, q_X10_hullIsLowest_13, q_X10_hullIsLowest_16, q_X10_hullIsLowest_19, q_X10_hullIsLowest_20, q_X10_hullIsLowest_23, q_X10_hullIsLowest_24, q_X10_hullIsLowest_25, q_X10_hullIsLowest_28, q_X10_hullIsLowest_31, q_X10_hullIsLowest_32, q_X10_hullIsLowest_35, q_X10_hullIsLowest_36, i_add, i_sub, i_mul, i_neg, i_lt, i_le, i_eq, i_tm, i_div, i_j, j_i, j_add, j_sub, j_mul, j_neg, j_lt, j_le, j_eq, j_div, c_lt, c_le, c_gt, c_ge, c_eq, i_nat, rz_k, Nat.add_zero, Nat.zero_add, Nat.add_assoc, Nat.reduceAdd, if_true, if_false, gf_eq hy, vk_eq h29w, e, gf_eq hy1, vk_eq h29, List.getElem?_cons_zero, List.getElem?_cons_succ, x1, x2, Int.reduceEq]
theorem x_hl57 (hy : v_yard w kp) (hv : v_misc w) : ∃ w', rz_ex X (d + 5) 172 [.ref 0, .int (Int32.ofInt 5), .int (Int32.ofInt 7)] w = some (.inl (some (.int (Int32.ofInt 1))), w', 0, 0) ∧ rz_fr [29, 30, 31] w w' ∧ v_misc w' := x_hlst (X := X) (d := d) (p := 5) (q := 7) (by omega) (by omega) (by omega) hy hv (fun x hx => by omega) (by decide +kernel)
theorem x_hl75 (hy : v_yard w kp) (hv : v_misc w) : ∃ w', rz_ex X (d + 5) 172 [.ref 0, .int (Int32.ofInt 7), .int (Int32.ofInt 5)] w = some (.inl (some (.int (Int32.ofInt 1))), w', 0, 0) ∧ rz_fr [29, 30, 31] w w' ∧ v_misc w' := x_hlst (X := X) (d := d) (p := 7) (q := 5) (by omega) (by omega) (by omega) hy hv (fun x hx => by omega) (by decide +kernel)
end RZXE
