/-! part 74: level 2: coins -/
section RZC4
variable {X : rz_X} {d : Nat} {w : rz_W} {nc ns : Nat} {kp tl kd ty cl th : Int}
theorem si_new {n : Nat} {f : Nat → Int32} {i : Int} {x : Int32} {K : rz_W → Option rz_R} (h1 : 0 ≤ i) (h2 : i < n) (h3 : i ≤ 2147483647) : rz_si (w ++ [.inl (.int, n, .inl f)]) w.length (Int32.ofInt i) x K = K (w ++ [.inl (.int, n, .inl (upd f i.toNat x))]) := by
  rw [si_eq w_new h1 h2 h3, w_snew]
theorem ai_new {n : Nat} {f : Nat → Int32} {i : Int} {K : Int32 → Option rz_R} (h1 : 0 ≤ i) (h2 : i < n) (h3 : i ≤ 2147483647) : rz_ai (w ++ [.inl (.int, n, .inl f)]) w.length (Int32.ofInt i) K = K (f i.toNat) := ai_eq w_new h1 h2 h3
/-- four numbers -/
def zq_u (a b c e : Int) (k : Nat) : Int := if k = 0 then a else if k = 1 then b else if k = 2 then c else e
def zq_n (c e : Int) : Nat := if e ≠ 0 then 4 else if c ≠ 0 then 3 else 2
theorem zq_iff {a b c e : Int} : zq_ok (zq_u a b c e) (zq_n c e) = true ↔ zq_all a b c e := by
  unfold zq_n zq_all
  by_cases he : e ≠ 0
  · rw [if_pos he]
    simp [zq_ok, zq_ne, zq_u]
    omega
  · rw [if_neg he]
    by_cases hc : c ≠ 0
    · rw [if_pos hc]
      simp [zq_ok, zq_ne, zq_u]
      omega
    · rw [if_neg hc]
      simp [zq_ok, zq_ne, zq_u]
      omega
theorem zq_gcd {a b c e : Int} (h : zq_all a b c e) : zq_g (zq_u a b c e) (zq_n c e) = Int.gcd (Int.gcd a b) (Int.gcd c e) := by
  unfold zq_all at h
  unfold zq_n
  by_cases he : e ≠ 0
  · rw [if_pos he]
    simp [zq_g, zq_u, Int.gcd, Nat.gcd_assoc]
  · rw [if_neg he]
    have he0 : e = 0 := by omega
    by_cases hc : c ≠ 0
    · rw [if_pos hc]
      simp [zq_g, zq_u, Int.gcd, Nat.gcd_assoc, he0]
    · rw [if_neg hc]
      have hc0 : c = 0 := by omega
      simp [zq_g, zq_u, Int.gcd, Nat.gcd_assoc, he0, hc0]
/-- the reference's loop that keeps the values -/
theorem l_cval {u : Nat → Int} {f : Nat → Int32} {a n : Nat} {l1 l2 l3 l4 l7 l8 : Option Value} {g : Int64} (hf : ∀ i, i < 4 → f i = Int32.ofInt (u i)) (hn : n ≤ 4) (ha43 : a ≠ 43) (m : Nat) : ∀ (k : Nat) (w : rz_W) (V : Nat → Int32) (l11 : Option Value), k + m = n → v_model w kp tl kd ty cl th → v_ia w a 4 f → v_ia w 43 4 V → (∀ j, j < k → V j = Int32.ofInt (u j)) → ∃ (w' : rz_W) (V' : Nat → Int32), rz_G X d mz_X11_coins 185 [some (.ref 32), l1, l2, l3, l4, some (.ref a), some (.int (Int32.ofInt n)), l7, some (.long g), none, some (.int (Int32.ofInt k)), l11] [] w nc ns = rz_G X d mz_X11_coins 210 [some (.ref 32), l1, l2, l3, l4, some (.ref a), some (.int (Int32.ofInt n)), l7, some (.long g), none, some (.int (Int32.ofInt n)), l11] [] w' nc ns ∧ rz_fr [43] w w' ∧ v_ia w' 43 4 V' ∧ w'.length = w.length ∧ ∀ j, j < n → V' j = Int32.ofInt (u j) := by
  induction m with
  | zero =>
    intro k w V l11 hk hm ha h43 hV
    obtain rfl : k = n := hk
    refine ⟨w, V, ?_, fr_refl, h43, rfl, hV⟩
    rw [q_X11_coins_185]
    simp (disch := first | exact nl_i | exact nl_r | exact nl_0 | exact nl_n | exact nl_x | exact kd_r | exact kd_n | exact kd_x | exact kd_o | exact cats0 | exact cats1 | exact cats2 | exact cats3 | exact cats4 | exact nr_i | exact nr_l | exact nr_z0 | exact nr_z1 | exact ft_i | exact ft_l | omega | rfl | assumption | (refine i_ne0 ?_ ?_ ?_ <;> omega) | (refine j_ne0 ?_ ?_ ?_ <;> omega) | (refine i_new ?_ ?_ <;> omega) | (refine bl_t ?_; with_unfolding_all rfl) | exact ft_z0 | exact ft_z1) only [q_X11_coins_187, q_X11_coins_189, i_add, i_sub, i_mul, i_neg, i_lt, i_le, i_eq, i_tm, i_div, i_j, j_i, j_add, j_sub, j_mul, j_neg, j_lt, j_le, j_eq, j_div, c_lt, c_le, c_gt, c_ge, c_eq, i_nat, rz_k, Nat.add_zero, Nat.zero_add, Nat.add_assoc, Nat.reduceAdd, if_true, if_false]
    rw [if_pos (by omega)]
  | succ m ih =>
    intro k w V l11 hk hm ha h43 hV
    generalize hw1 : w.set 43 (.inl (.int, 4, .inl (upd V k (Int32.ofInt (u k))))) = w1
    have f1 : rz_fr [43] w w1 := by rw [← hw1]; exact fr_set (by decide)
    have hlen : w1.length = w.length := by rw [← hw1, List.length_set]
    obtain ⟨w', V', e, f, h', hl, hV'⟩ := ih (k + 1) w1 (upd V k (Int32.ofInt (u k))) l11 (by omega) (fr_get f1 (by decide) hm) (fr_get f1 (by simp [ha43]) ha) (by rw [← hw1]; exact w_eq (w_lt h43)) (fun j hj => by
      by_cases hjk : j = k
      · rw [hjk, upd_eq]
      · rw [upd_ne hjk]; exact hV j (by omega))
    refine ⟨w', V', ?_, fr_trans f1 f, h', hl.trans hlen, hV'⟩
    rw [← e, q_X11_coins_185]
    simp (disch := first | exact nl_i | exact nl_r | exact nl_0 | exact nl_n | exact nl_x | exact kd_r | exact kd_n | exact kd_x | exact kd_o | exact cats0 | exact cats1 | exact cats2 | exact cats3 | exact cats4 | exact nr_i | exact nr_l | exact nr_z0 | exact nr_z1 | exact ft_i | exact ft_l | omega | rfl | assumption | (refine i_ne0 ?_ ?_ ?_ <;> omega) | (refine j_ne0 ?_ ?_ ?_ <;> omega) | (refine i_new ?_ ?_ <;> omega) | (refine bl_t ?_; with_unfolding_all rfl) | exact ft_z0 | exact ft_z1) only [q_X11_coins_187, q_X11_coins_189, q_X11_coins_192, q_X11_coins_193, q_X11_coins_196, q_X11_coins_198, q_X11_coins_200, q_X11_coins_202, q_X11_coins_203, q_X11_coins_204, q_X11_coins_207, i_add, i_sub, i_mul, i_neg, i_lt, i_le, i_eq, i_tm, i_div, i_j, j_i, j_add, j_sub, j_mul, j_neg, j_lt, j_le, j_eq, j_div, c_lt, c_le, c_gt, c_ge, c_eq, i_nat, rz_k, Nat.add_zero, Nat.zero_add, Nat.add_assoc, Nat.reduceAdd, if_true, if_false, gf_eq hm, List.getElem?_cons_zero, List.getElem?_cons_succ, ai_eq ha, Int.toNat_natCast, hf k (by omega), si_eq h43, hw1]
    rw [if_neg (by omega)]
    rfl
/-- the greatest lack -/
theorem l_cgr {g : Nat → Int} {F : Nat → Int32} {a : Nat} {l1 l2 l3 l4 l5 l6 l7 l8 l9 : Option Value} (hF : v_ia w a 2501 F) (hg : ∀ s, s ≤ 2500 → F s = Int32.ofInt (g s) ∧ -1 ≤ g s ∧ g s ≤ 2500) (h1 : g 1 < 0) : ∀ (t : Nat), t + 1 ≤ 2500 → rz_G X d mz_X11_coins 221 [some (.ref 32), l1, l2, l3, l4, l5, l6, l7, l8, l9, some (.ref a), some (.int (Int32.ofInt (t + 1 : Nat)))] [] w nc ns = some (.inl (some (.int (Int32.ofInt (zf_ll g (t + 2) : Nat)))), w, nc, ns) := by
  intro t
  induction t with
  | zero =>
    intro ht
    obtain ⟨e1, e2, e3⟩ := hg 1 (by omega)
    rw [q_X11_coins_221 rfl]
    simp (disch := first | exact nl_i | exact nl_r | exact nl_0 | exact nl_n | exact nl_x | exact kd_r | exact kd_n | exact kd_x | exact kd_o | exact cats0 | exact cats1 | exact cats2 | exact cats3 | exact cats4 | exact nr_i | exact nr_l | exact nr_z0 | exact nr_z1 | exact ft_i | exact ft_l | omega | rfl | assumption | (refine i_ne0 ?_ ?_ ?_ <;> omega) | (refine j_ne0 ?_ ?_ ?_ <;> omega) | (refine i_new ?_ ?_ <;> omega) | (refine bl_t ?_; with_unfolding_all rfl) | exact ft_z0 | exact ft_z1) only [q_X11_coins_223, q_X11_coins_225, q_X11_coins_226, q_X11_coins_235, q_X11_coins_237, i_add, i_sub, i_mul, i_neg, i_lt, i_le, i_eq, i_tm, i_div, i_j, j_i, j_add, j_sub, j_mul, j_neg, j_lt, j_le, j_eq, j_div, c_lt, c_le, c_gt, c_ge, c_eq, i_nat, rz_k, Nat.add_zero, Nat.zero_add, Nat.add_assoc, Nat.reduceAdd, if_true, if_false, ai_eq hF, Int.toNat_natCast, e1]
    rw [if_pos h1]
    have : zf_ll g (0 + 2) = 1 := by
      show (if g 1 < 0 then 1 else _) = 1
      rw [if_pos h1]
    rw [this]
  | succ t ih =>
    intro ht
    obtain ⟨e1, e2, e3⟩ := hg (t + 2) (by omega)
    have hll : zf_ll g (t + 1 + 2) = if g (t + 2) < 0 then t + 2 else zf_ll g (t + 2) := rfl
    rw [show t + 1 + 1 = t + 2 from rfl, q_X11_coins_221 rfl]
    simp (disch := first | exact nl_i | exact nl_r | exact nl_0 | exact nl_n | exact nl_x | exact kd_r | exact kd_n | exact kd_x | exact kd_o | exact cats0 | exact cats1 | exact cats2 | exact cats3 | exact cats4 | exact nr_i | exact nr_l | exact nr_z0 | exact nr_z1 | exact ft_i | exact ft_l | omega | rfl | assumption | (refine i_ne0 ?_ ?_ ?_ <;> omega) | (refine j_ne0 ?_ ?_ ?_ <;> omega) | (refine i_new ?_ ?_ <;> omega) | (refine bl_t ?_; with_unfolding_all rfl) | exact ft_z0 | exact ft_z1) only [q_X11_coins_223, q_X11_coins_225, q_X11_coins_226, q_X11_coins_229, q_X11_coins_232, q_X11_coins_235, q_X11_coins_237, i_add, i_sub, i_mul, i_neg, i_lt, i_le, i_eq, i_tm, i_div, i_j, j_i, j_add, j_sub, j_mul, j_neg, j_lt, j_le, j_eq, j_div, c_lt, c_le, c_gt, c_ge, c_eq, i_nat, rz_k, Nat.add_zero, Nat.zero_add, Nat.add_assoc, Nat.reduceAdd, if_true, if_false, ai_eq hF, Int.toNat_natCast, e1]
    rw [hll]
    by_cases h : g (t + 2) < 0
    · rw [if_pos h, if_pos h]
    · rw [if_neg h, if_neg h, ← ih (by omega)]
      have : (((t + 2 : Nat) : Int) + -1) = ((t + 1 : Nat) : Int) := by omega
      rw [this]
theorem G_1 {v : Nat → Nat} {n : Nat} (hv : ∀ k, k < n → 2 ≤ v k) : zf_G v n 1 < 0 := by
  rcases zf_G_isM (v := v) n (fun k hk => by have := hv k hk; omega) 1 with ⟨h, _⟩ | ⟨m, _, h, _⟩
  · omega
  · cases m with
    | zero =>
      have : (1 : Nat) = 0 := h
      omega
    | succ m =>
      obtain ⟨k, h1, h2, _⟩ := h
      have := hv k h1
      omega
theorem ag_coins {a b c e : Int} (ha : -2147483648 ≤ a ∧ a ≤ 2147483647) (hb : -2147483648 ≤ b ∧ b ≤ 2147483647) (hc : -2147483648 ≤ c ∧ c ≤ 2147483647) (he : -2147483648 ≤ e ∧ e ≤ 2147483647) (hv : v_inv w) : rz_ag X d 126 221 false [.int (Int32.ofInt a), .int (Int32.ofInt b), .int (Int32.ofInt c), .int (Int32.ofInt e)] ["java/lang/IllegalArgumentException", "java/lang/UnsupportedOperationException"] w := by
  obtain ⟨kp, tl, kd, ty, cl, th, hy, hm, hs, ht, hp, hq, hmi⟩ := id hv
  obtain ⟨on, ov, V, V2, CC, YY, gr, lk, hkd, hon, g14, g15, g16, g17, g43, -⟩ := v_purse_get hp
  have hu : ∀ k, -2147483648 ≤ zq_u a b c e k ∧ zq_u a b c e k ≤ 2147483647 := by
    intro k
    unfold zq_u
    repeat' split
    all_goals omega
  have hnb : zq_n c e ≤ 4 := by
    unfold zq_n
    repeat' split
    all_goals omega
  generalize hf : upd (upd (upd (upd (fun _ => (0 : Int32)) 0 (Int32.ofInt a)) 1 (Int32.ofInt b)) 2 (Int32.ofInt c)) 3 (Int32.ofInt e) = f
  have hfu : ∀ i, i < 4 → f i = Int32.ofInt (zq_u a b c e i) := by
    intro i hi
    rw [← hf]
    have : i = 0 ∨ i = 1 ∨ i = 2 ∨ i = 3 := by omega
    rcases this with rfl | rfl | rfl | rfl <;> rfl
  -- the reference up to its checks
  have hpre : ∀ wr, ∃ m11, rz_ex X (d + 30) 221 [.ref 32, .int (Int32.ofInt a), .int (Int32.ofInt b), .int (Int32.ofInt c), .int (Int32.ofInt e)] wr = rz_G X (d + 29) mz_X11_coins 144 [some (.ref 32), some (.int (Int32.ofInt a)), some (.int (Int32.ofInt b)), some (.int (Int32.ofInt c)), some (.int (Int32.ofInt e)), some (.ref wr.length), some (.int (Int32.ofInt (zq_n c e : Nat))), some (.int (Int32.ofInt (zb (zq_ok (zq_u a b c e) (zq_n c e))))), some (.long (Int64.ofInt (zq_g (zq_u a b c e) (zq_n c e)))), none, some (.int (Int32.ofInt (zq_n c e : Nat))), m11] [] (wr ++ [.inl (.int, 4, .inl f)]) 1 4 := by
    intro wr
    have hA0 : v_ia (wr ++ [.inl (.int, 4, .inl f)]) wr.length 4 f := w_new
    obtain ⟨m11, h⟩ := l_cok (X := X) (d := d + 28) (nc := 1) (ns := 4) (a := wr.length) (w := wr ++ [.inl (.int, 4, .inl f)]) (l1 := some (.int (Int32.ofInt a))) (l2 := some (.int (Int32.ofInt b))) (l3 := some (.int (Int32.ofInt c))) (l4 := some (.int (Int32.ofInt e))) hA0 hfu hu hnb (zq_n c e) 0 none (by omega)
    refine ⟨m11, Eq.trans ?_ h⟩
    have hz : zb (zq_ok (zq_u a b c e) 0) = 1 := rfl
    have hz2 : ((zq_g (zq_u a b c e) 0 : Nat) : Int) = 0 := rfl
    rw [hz, hz2]
    unfold zq_n
    by_cases he0 : e = 0
    · by_cases hc0 : c = 0
      · simp (disch := first | exact nl_i | exact nl_r | exact nl_0 | exact nl_n | exact nl_x | exact kd_r | exact kd_n | exact kd_x | exact kd_o | exact cats0 | exact cats1 | exact cats2 | exact cats3 | exact cats4 | exact nr_i | exact nr_l | exact nr_z0 | exact nr_z1 | exact ft_i | exact ft_l | omega | rfl | assumption | (refine i_ne0 ?_ ?_ ?_ <;> omega) | (refine j_ne0 ?_ ?_ ?_ <;> omega) | (refine i_new ?_ ?_ <;> omega) | (refine bl_t ?_; with_unfolding_all rfl) | exact ft_z0 | exact ft_z1) only [n_X11_coins, q_X11_coins_0, q_X11_coins_1, q_X11_coins_3, q_X11_coins_3r, q_X11_coins_4, q_X11_coins_5, q_X11_coins_6, q_X11_coins_7, q_X11_coins_7r, q_X11_coins_8, q_X11_coins_9, q_X11_coins_10, q_X11_coins_11, q_X11_coins_11r, q_X11_coins_12, q_X11_coins_13, q_X11_coins_14, q_X11_coins_15, q_X11_coins_15r, q_X11_coins_16, q_X11_coins_17, q_X11_coins_19, q_X11_coins_20, q_X11_coins_22, q_X11_coins_24, q_X11_coins_27, q_X11_coins_28, q_X11_coins_31, q_X11_coins_32, q_X11_coins_35, q_X11_coins_36, q_X11_coins_39, q_X11_coins_40, q_X11_coins_42, q_X11_coins_43, q_X11_coins_45, q_X11_coins_46, q_X11_coins_48, q_X11_coins_49, i_add, i_sub, i_mul, i_neg, i_lt, i_le, i_eq, i_tm, i_div, i_j, j_i, j_add, j_sub, j_mul, j_neg, j_lt, j_le, j_eq, j_div, c_lt, c_le, c_gt, c_ge, c_eq, i_nat, rz_k, Nat.add_zero, Nat.zero_add, Nat.add_assoc, Nat.reduceAdd, if_true, if_false, si_new, Int.toNat_zero, Int.reduceToNat, hf, eq_true he0, eq_true hc0, not_true_eq_false, ne_eq]
        rfl
      · simp (disch := first | exact nl_i | exact nl_r | exact nl_0 | exact nl_n | exact nl_x | exact kd_r | exact kd_n | exact kd_x | exact kd_o | exact cats0 | exact cats1 | exact cats2 | exact cats3 | exact cats4 | exact nr_i | exact nr_l | exact nr_z0 | exact nr_z1 | exact ft_i | exact ft_l | omega | rfl | assumption | (refine i_ne0 ?_ ?_ ?_ <;> omega) | (refine j_ne0 ?_ ?_ ?_ <;> omega) | (refine i_new ?_ ?_ <;> omega) | (refine bl_t ?_; with_unfolding_all rfl) | exact ft_z0 | exact ft_z1) only [n_X11_coins, q_X11_coins_0, q_X11_coins_1, q_X11_coins_3, q_X11_coins_3r, q_X11_coins_4, q_X11_coins_5, q_X11_coins_6, q_X11_coins_7, q_X11_coins_7r, q_X11_coins_8, q_X11_coins_9, q_X11_coins_10, q_X11_coins_11, q_X11_coins_11r, q_X11_coins_12, q_X11_coins_13, q_X11_coins_14, q_X11_coins_15, q_X11_coins_15r, q_X11_coins_16, q_X11_coins_17, q_X11_coins_19, q_X11_coins_20, q_X11_coins_22, q_X11_coins_24, q_X11_coins_27, q_X11_coins_28, q_X11_coins_31, q_X11_coins_32, q_X11_coins_35, q_X11_coins_36, q_X11_coins_39, q_X11_coins_40, q_X11_coins_42, q_X11_coins_43, q_X11_coins_45, q_X11_coins_46, q_X11_coins_48, q_X11_coins_49, i_add, i_sub, i_mul, i_neg, i_lt, i_le, i_eq, i_tm, i_div, i_j, j_i, j_add, j_sub, j_mul, j_neg, j_lt, j_le, j_eq, j_div, c_lt, c_le, c_gt, c_ge, c_eq, i_nat, rz_k, Nat.add_zero, Nat.zero_add, Nat.add_assoc, Nat.reduceAdd, if_true, if_false, si_new, Int.toNat_zero, Int.reduceToNat, hf, eq_true he0, eq_false hc0, not_true_eq_false, not_false_eq_true, ne_eq]
        rfl
    · simp (disch := first | exact nl_i | exact nl_r | exact nl_0 | exact nl_n | exact nl_x | exact kd_r | exact kd_n | exact kd_x | exact kd_o | exact cats0 | exact cats1 | exact cats2 | exact cats3 | exact cats4 | exact nr_i | exact nr_l | exact nr_z0 | exact nr_z1 | exact ft_i | exact ft_l | omega | rfl | assumption | (refine i_ne0 ?_ ?_ ?_ <;> omega) | (refine j_ne0 ?_ ?_ ?_ <;> omega) | (refine i_new ?_ ?_ <;> omega) | (refine bl_t ?_; with_unfolding_all rfl) | exact ft_z0 | exact ft_z1) only [n_X11_coins, q_X11_coins_0, q_X11_coins_1, q_X11_coins_3, q_X11_coins_3r, q_X11_coins_4, q_X11_coins_5, q_X11_coins_6, q_X11_coins_7, q_X11_coins_7r, q_X11_coins_8, q_X11_coins_9, q_X11_coins_10, q_X11_coins_11, q_X11_coins_11r, q_X11_coins_12, q_X11_coins_13, q_X11_coins_14, q_X11_coins_15, q_X11_coins_15r, q_X11_coins_16, q_X11_coins_17, q_X11_coins_19, q_X11_coins_20, q_X11_coins_22, q_X11_coins_24, q_X11_coins_27, q_X11_coins_28, q_X11_coins_31, q_X11_coins_32, q_X11_coins_35, q_X11_coins_36, q_X11_coins_39, q_X11_coins_40, q_X11_coins_42, q_X11_coins_43, q_X11_coins_45, q_X11_coins_46, q_X11_coins_48, q_X11_coins_49, i_add, i_sub, i_mul, i_neg, i_lt, i_le, i_eq, i_tm, i_div, i_j, j_i, j_add, j_sub, j_mul, j_neg, j_lt, j_le, j_eq, j_div, c_lt, c_le, c_gt, c_ge, c_eq, i_nat, rz_k, Nat.add_zero, Nat.zero_add, Nat.add_assoc, Nat.reduceAdd, if_true, if_false, si_new, Int.toNat_zero, Int.reduceToNat, hf, eq_false he0, not_false_eq_true, ne_eq]
      rfl
  have hxa := x_areV (X := X) (d := d + 26) (w := w) ha hb hc he
  by_cases hall : zq_all a b c e
  case neg =>
    refine ag_thr0 (c1 := 1) (s1 := 6) 0 rfl hv hm ?_ ?_
    · simp (disch := first | exact nl_i | exact nl_r | exact nl_0 | exact nl_n | exact nl_x | exact kd_r | exact kd_n | exact kd_x | exact kd_o | exact cats0 | exact cats1 | exact cats2 | exact cats3 | exact cats4 | exact nr_i | exact nr_l | exact nr_z0 | exact nr_z1 | exact ft_i | exact ft_l | omega | rfl | assumption | (refine i_ne0 ?_ ?_ ?_ <;> omega) | (refine j_ne0 ?_ ?_ ?_ <;> omega) | (refine i_new ?_ ?_ <;> omega) | (refine bl_t ?_; with_unfolding_all rfl) | exact ft_z0 | exact ft_z1) only [n_X10_coins, q_X10_coins_0, q_X10_coins_1, q_X10_coins_2, q_X10_coins_3, q_X10_coins_5, q_X10_coins_8, q_X10_coins_11, q_X10_coins_21, q_X10_coins_22, q_X10_coins_23, q_X10_coins_24, q_X10_coins_25, q_X10_coins_28, q_X10_coins_29, q_X10_coins_30, q_X10_coins_32, q_X10_coins_33, q_X10_coins_36, q_X10_coins_39, q_X10_coins_40, q_X10_coins_41, q_X10_coins_44, q_X10_coins_54, q_X10_coins_55, q_X10_coins_58, q_X10_coins_59, q_X10_coins_60, q_X10_coins_61, q_X10_coins_63, q_X10_coins_66, q_X10_coins_67, q_X10_coins_70, q_X10_coins_73, i_add, i_sub, i_mul, i_neg, i_lt, i_le, i_eq, i_tm, i_div, i_j, j_i, j_add, j_sub, j_mul, j_neg, j_lt, j_le, j_eq, j_div, c_lt, c_le, c_gt, c_ge, c_eq, i_nat, rz_k, Nat.add_zero, Nat.zero_add, Nat.add_assoc, Nat.reduceAdd, if_true, if_false, hxa.2 hall, Int.reduceEq, not_true_eq_false]
    · rintro wr hmr rfl
      obtain ⟨m11, h⟩ := hpre wr
      have hz : zq_ok (zq_u a b c e) (zq_n c e) = false := by
        cases h9 : zq_ok (zq_u a b c e) (zq_n c e) with
        | false => rfl
        | true => exact absurd (zq_iff.mp h9) hall
      rw [hz] at h
      have hm1 : v_model (wr ++ [.inl (.int, 4, .inl f)]) kp tl kd ty cl th := fr_get (fr_al (w := wr)) (by simp) hmr
      have y1 := x_no0 (X := X) (d := d + 28) (k := 1) hm1
      rw [List.set_append_left _ _ (w_lt hmr)] at y1
      refine ⟨Int32.ofInt 0, [.inl (.int, 4, .inl f)], 1, 4, ?_, by omega, by omega⟩
      rw [h, q_X11_coins_144 rfl]
      simp (disch := first | exact nl_i | exact nl_r | exact nl_0 | exact nl_n | exact nl_x | exact kd_r | exact kd_n | exact kd_x | exact kd_o | exact cats0 | exact cats1 | exact cats2 | exact cats3 | exact cats4 | exact nr_i | exact nr_l | exact nr_z0 | exact nr_z1 | exact ft_i | exact ft_l | omega | rfl | assumption | (refine i_ne0 ?_ ?_ ?_ <;> omega) | (refine j_ne0 ?_ ?_ ?_ <;> omega) | (refine i_new ?_ ?_ <;> omega) | (refine bl_t ?_; with_unfolding_all rfl) | exact ft_z0 | exact ft_z1) only [q_X11_coins_145, q_X11_coins_147, q_X11_coins_148, q_X11_coins_151, q_X11_coins_174, q_X11_coins_175, i_add, i_sub, i_mul, i_neg, i_lt, i_le, i_eq, i_tm, i_div, i_j, j_i, j_add, j_sub, j_mul, j_neg, j_lt, j_le, j_eq, j_div, c_lt, c_le, c_gt, c_ge, c_eq, i_nat, rz_k, Nat.add_zero, Nat.zero_add, Nat.add_assoc, Nat.reduceAdd, if_true, if_false, zb_f, y1, vk_eq hm1, Int.reduceEq, not_false_eq_true]
      all_goals rfl
  have hzt := zq_iff.mpr hall
  have hgc := zq_gcd hall
  have hall' := hall
  unfold zq_all at hall'
  have k1 := x_gcd (X := X) (d := d + 26) (w := w) (a := a) (b := b) (by omega) (by omega) (by omega) (by omega)
  have k2 := x_gcd (X := X) (d := d + 26) (w := w) (a := c) (b := e) (by omega) (by omega) (by omega) (by omega)
  have kb1 : 1 ≤ Int.gcd a b ∧ (Int.gcd a b : Int) ≤ a := z_gcd_le (by omega)
  have kb2 : Int.gcd c e ≤ 50 := by
    unfold Int.gcd
    rcases Nat.eq_zero_or_pos c.natAbs with h | h
    · rw [h, Nat.gcd_zero_left]; omega
    · have := Nat.gcd_le_left e.natAbs h; omega
  have k3 := x_gcd (X := X) (d := d + 26) (w := w) (a := (Int.gcd a b : Int)) (b := (Int.gcd c e : Int)) (by omega) (by omega) (by omega) (by omega)
  have kb3 := z_gcd_le (a := (Int.gcd a b : Int)) (b := (Int.gcd c e : Int)) (by omega)
  rw [← hgc] at k3 kb3
  by_cases hg1 : zq_g (zq_u a b c e) (zq_n c e) = 1
  case neg =>
    refine ag_thr0 (c1 := 1) (s1 := 6) 1 rfl hv hm ?_ ?_
    · simp (disch := first | exact nl_i | exact nl_r | exact nl_0 | exact nl_n | exact nl_x | exact kd_r | exact kd_n | exact kd_x | exact kd_o | exact cats0 | exact cats1 | exact cats2 | exact cats3 | exact cats4 | exact nr_i | exact nr_l | exact nr_z0 | exact nr_z1 | exact ft_i | exact ft_l | omega | rfl | assumption | (refine i_ne0 ?_ ?_ ?_ <;> omega) | (refine j_ne0 ?_ ?_ ?_ <;> omega) | (refine i_new ?_ ?_ <;> omega) | (refine bl_t ?_; with_unfolding_all rfl) | exact ft_z0 | exact ft_z1) only [n_X10_coins, q_X10_coins_0, q_X10_coins_1, q_X10_coins_2, q_X10_coins_3, q_X10_coins_5, q_X10_coins_8, q_X10_coins_11, q_X10_coins_21, q_X10_coins_22, q_X10_coins_23, q_X10_coins_24, q_X10_coins_25, q_X10_coins_28, q_X10_coins_29, q_X10_coins_30, q_X10_coins_32, q_X10_coins_33, q_X10_coins_36, q_X10_coins_39, q_X10_coins_40, q_X10_coins_41, q_X10_coins_44, q_X10_coins_54, q_X10_coins_55, q_X10_coins_58, q_X10_coins_59, q_X10_coins_60, q_X10_coins_61, q_X10_coins_63, q_X10_coins_66, q_X10_coins_67, q_X10_coins_70, q_X10_coins_73, i_add, i_sub, i_mul, i_neg, i_lt, i_le, i_eq, i_tm, i_div, i_j, j_i, j_add, j_sub, j_mul, j_neg, j_lt, j_le, j_eq, j_div, c_lt, c_le, c_gt, c_ge, c_eq, i_nat, rz_k, Nat.add_zero, Nat.zero_add, Nat.add_assoc, Nat.reduceAdd, if_true, if_false, hxa.1 hall, k1, k2, k3, Int.reduceEq, not_false_eq_true]
      rw [if_neg (by omega)]
    · rintro wr hmr rfl
      obtain ⟨m11, h⟩ := hpre wr
      rw [hzt] at h
      have hm1 : v_model (wr ++ [.inl (.int, 4, .inl f)]) kp tl kd ty cl th := fr_get (fr_al (w := wr)) (by simp) hmr
      have y1 := x_no1 (X := X) (d := d + 28) (k := 1) hm1
      have hm2 := v_mo (t := 0) hm1
      have y2 := x_no0 (X := X) (d := d + 28) (k := 2) hm2
      rw [mo_mo] at y2
      have hset : ∀ u : rz_E, (wr ++ ([.inl (.int, 4, .inl f)] : rz_W)).set 32 u = wr.set 32 u ++ ([.inl (.int, 4, .inl f)] : rz_W) := fun u => List.set_append_left _ _ (w_lt hmr)
      refine ⟨Int32.ofInt 0, [.inl (.int, 4, .inl f)], 1, 4, ?_, by omega, by omega⟩
      generalize hzg : zq_g (zq_u a b c e) (zq_n c e) = zg at *
      rw [hset] at y1 hm2
      rw [hset, hset] at y2
      rw [h, q_X11_coins_144 rfl]
      have hne1 : ¬ (zg : Int) = 1 := by omega
      simp (disch := first | exact nl_i | exact nl_r | exact nl_0 | exact nl_n | exact nl_x | exact kd_r | exact kd_n | exact kd_x | exact kd_o | exact cats0 | exact cats1 | exact cats2 | exact cats3 | exact cats4 | exact nr_i | exact nr_l | exact nr_z0 | exact nr_z1 | exact ft_i | exact ft_l | omega | rfl | assumption | (refine i_ne0 ?_ ?_ ?_ <;> omega) | (refine j_ne0 ?_ ?_ ?_ <;> omega) | (refine i_new ?_ ?_ <;> omega) | (refine bl_t ?_; with_unfolding_all rfl) | exact ft_z0 | exact ft_z1) only [q_X11_coins_145, q_X11_coins_147, q_X11_coins_148, q_X11_coins_151, q_X11_coins_154, q_X11_coins_155, q_X11_coins_157, q_X11_coins_158, q_X11_coins_159, q_X11_coins_162, q_X11_coins_163, q_X11_coins_166, q_X11_coins_167, q_X11_coins_168, q_X11_coins_171, q_X11_coins_174, q_X11_coins_175, i_add, i_sub, i_mul, i_neg, i_lt, i_le, i_eq, i_tm, i_div, i_j, j_i, j_add, j_sub, j_mul, j_neg, j_lt, j_le, j_eq, j_div, c_lt, c_le, c_gt, c_ge, c_eq, i_nat, rz_k, Nat.add_zero, Nat.zero_add, Nat.add_assoc, Nat.reduceAdd, if_true, if_false, zb_t, y1, y2, vk_eq hm1, vk_eq hm2, Int.reduceEq, not_false_eq_true, not_true_eq_false, if_pos hne1]
      all_goals rfl
  -- right: the class
  obtain ⟨an, rfl⟩ := Int.eq_ofNat_of_zero_le (show 0 ≤ a by omega)
  obtain ⟨bn, rfl⟩ := Int.eq_ofNat_of_zero_le (show 0 ≤ b by omega)
  obtain ⟨cn, rfl⟩ := Int.eq_ofNat_of_zero_le (show 0 ≤ c by omega)
  obtain ⟨en, rfl⟩ := Int.eq_ofNat_of_zero_le (show 0 ≤ e by omega)
  have hn : zq_n cn en = if cn = 0 then 2 else if en = 0 then 3 else 4 := by
    unfold zq_n
    by_cases h1 : cn = 0
    · rw [if_pos h1, if_neg (by omega), if_neg (by omega)]
    · rw [if_neg h1]
      by_cases h2 : en = 0
      · rw [if_pos h2, if_neg (by omega), if_pos (by omega)]
      · rw [if_neg h2, if_pos (by omega)]
  generalize hvv : (fun k => if k = 0 then an else if k = 1 then bn else if k = 2 then cn else en) = v
  have huv : ∀ k, zq_u an bn cn en k = (v k : Nat) := by
    intro k
    rw [← hvv]
    unfold zq_u
    dsimp only
    repeat' split
    all_goals rfl
  have hv2 : ∀ k, k < zq_n cn en → 2 ≤ v k ∧ v k ≤ 50 := by
    intro k hk
    rw [hn] at hk
    rw [← hvv]
    dsimp only
    repeat' split
    all_goals (repeat' split at hk)
    all_goals omega
  have hv1 : ∀ k, k < zq_n cn en → 1 ≤ v k := fun k hk => by have := hv2 k hk; omega
  have hvp : v 0 = an ∧ v 1 = bn ∧ v 2 = cn ∧ v 3 = en := by
    rw [← hvv]
    exact ⟨rfl, rfl, rfl, rfl⟩
  obtain ⟨w1, V', F', Y', e1, f1, k14, k15, k16, k17, hV', hT⟩ := x_take (X := X) (d := d + 26) (p0 := an) (p1 := bn) (p2 := cn) (p3 := en) (by omega) hn hv2 hvp g14 g15 g16 g17
  generalize hnn : zq_n (cn : Int) (en : Int) = n at *
  have hmx : n = 2 ∨ n = 3 ∨ n = 4 := by rw [hn]; split; · exact .inl rfl
                                         split
                                         · exact .inr (.inl rfl)
                                         · exact .inr (.inr rfl)
  have E1 : rz_ex X (d + 29) 126 [.ref 0, .int (Int32.ofInt an), .int (Int32.ofInt bn), .int (Int32.ofInt cn), .int (Int32.ofInt en)] w = some (.inl (some (.int (Int32.ofInt (zf_ll (zf_G v n) 2501 : Nat)))), w1, 0, 0) := by
    have hy1 : v_yard w1 kp := fr_get f1 (by decide) hy
    simp (disch := first | exact nl_i | exact nl_r | exact nl_0 | exact nl_n | exact nl_x | exact kd_r | exact kd_n | exact kd_x | exact kd_o | exact cats0 | exact cats1 | exact cats2 | exact cats3 | exact cats4 | exact nr_i | exact nr_l | exact nr_z0 | exact nr_z1 | exact ft_i | exact ft_l | omega | rfl | assumption | (refine i_ne0 ?_ ?_ ?_ <;> omega) | (refine j_ne0 ?_ ?_ ?_ <;> omega) | (refine i_new ?_ ?_ <;> omega) | (refine bl_t ?_; with_unfolding_all rfl) | exact ft_z0 | exact ft_z1) only [n_X10_coins, q_X10_coins_0, q_X10_coins_1, q_X10_coins_2, q_X10_coins_3, q_X10_coins_5, q_X10_coins_8, q_X10_coins_11, q_X10_coins_21, q_X10_coins_22, q_X10_coins_23, q_X10_coins_24, q_X10_coins_25, q_X10_coins_28, q_X10_coins_29, q_X10_coins_30, q_X10_coins_32, q_X10_coins_33, q_X10_coins_36, q_X10_coins_39, q_X10_coins_40, q_X10_coins_41, q_X10_coins_44, q_X10_coins_54, q_X10_coins_55, q_X10_coins_58, q_X10_coins_59, q_X10_coins_60, q_X10_coins_61, q_X10_coins_63, q_X10_coins_66, q_X10_coins_67, q_X10_coins_70, q_X10_coins_73, i_add, i_sub, i_mul, i_neg, i_lt, i_le, i_eq, i_tm, i_div, i_j, j_i, j_add, j_sub, j_mul, j_neg, j_lt, j_le, j_eq, j_div, c_lt, c_le, c_gt, c_ge, c_eq, i_nat, rz_k, Nat.add_zero, Nat.zero_add, Nat.add_assoc, Nat.reduceAdd, if_true, if_false, hxa.1 hall, k1, k2, k3, hg1, gf_eq hy, vk_eq g14, List.getElem?_cons_zero, List.getElem?_cons_succ, e1, gf_eq hy1, gf_eq k14, Int.reduceEq, not_false_eq_true]
    rw [if_pos (by omega)]
  obtain ⟨-, -, -, -, -, -, fo, h48⟩ := id hmi
  have ho1 : v_la w1 48 1 fo := fr_get f1 (by decide) h48
  have hm1 : v_model w1 kp tl kd ty cl th := fr_get f1 (by decide) hm
  generalize hres : Int32.ofInt (zf_ll (zf_G v n) 2501 : Nat) = r at E1
  generalize hwr : w1.set 48 (.inl (.long, 1, .inr (.inl (vp_updL fo 0 r.toInt64)))) = wr
  have f1r : rz_fr [48] w1 wr := by rw [← hwr]; exact fr_set (by decide)
  have hor : v_la wr 48 1 (vp_updL fo 0 r.toInt64) := by rw [← hwr]; exact w_eq (w_lt ho1)
  have hmr : v_model wr kp tl kd ty cl th := fr_get f1r (by decide) hm1
  have l43r : v_ia wr 43 4 V2 := fr_get f1r (by decide) (fr_get f1 (by decide) g43)
  -- the reference
  obtain ⟨m11, h⟩ := hpre wr
  rw [hzt, hg1] at h
  generalize hwa : wr ++ [.inl (.int, 4, .inl f)] = wa at h
  have fra : rz_fr [] wr wa := by rw [← hwa]; exact fr_al
  have hma : v_model wa kp tl kd ty cl th := fr_get fra (by decide) hmr
  have haa : v_ia wa wr.length 4 f := by rw [← hwa]; exact w_new
  have y1 := x_no1 (X := X) (d := d + 28) (k := 1) hma
  have hm2 := v_mo (t := 0) hma
  have y2 := x_no1 (X := X) (d := d + 28) (k := 2) hm2
  rw [mo_mo] at y2
  generalize hwb : wa.set 32 (rz_mo kp tl kd ty cl 0) = wb at *
  have fab : rz_fr [32] wa wb := by rw [← hwb]; exact fr_set (by decide)
  have lr : 49 ≤ wr.length := by have := w_lt hor; omega
  generalize hwc : wb.set 32 (rz_mo kp tl n ty cl 0) = wc
  have e5 : rz_pf wb 32 11 13 .int (.int (Int32.ofInt (n : Int))) = fun K => K wc := by
    funext K
    rw [← hwc]
    exact pf_eq hm2 rfl rfl rfl
  have fbc : rz_fr [32] wb wc := by rw [← hwc]; exact fr_set (by decide)
  have hmc : v_model wc kp tl n ty cl 0 := by rw [← hwc]; exact w_eq (w_lt hm2)
  have frc : rz_fr [32] wr wc := fr_trans (fr_sub fra (by simp)) (fr_trans fab fbc)
  obtain ⟨wd, V3, e6, fcd, d43, -, hV3⟩ := l_cval (X := X) (d := d + 29) (nc := 1) (ns := 4) (l1 := some (.int (Int32.ofInt an))) (l2 := some (.int (Int32.ofInt bn))) (l3 := some (.int (Int32.ofInt cn))) (l4 := some (.int (Int32.ofInt en))) (l7 := some (.int (Int32.ofInt (zb true)))) (l8 := none) (g := Int64.ofInt ((1 : Nat) : Int)) hfu hnb (show wr.length ≠ 43 by omega) n 0 wc V2 m11 (by omega) hmc (fr_get fbc (by simp; omega) (fr_get fab (by simp; omega) haa)) (fr_get frc (by decide) l43r) (fun j hj => by omega)
  have hmd : v_model wd kp tl n ty cl 0 := fr_get fcd (by decide) hmc
  obtain ⟨F2, e7, hF2⟩ := y_fewestOf (X := X) (d := d + 28) hmd d43 hnb (fun k hk => ⟨hv2 k hk, by rw [hV3 k hk, huv]⟩)
  have hF20 : v_ia (wd ++ [.inl (.int, 2501, .inl F2)]) wd.length 2501 F2 := w_new
  have e8 := l_cgr (X := X) (d := d + 29) (nc := 1 + 1) (ns := 4 + 2501) (w := wd ++ [.inl (.int, 2501, .inl F2)]) (a := wd.length) (g := zf_G v n) (l1 := some (.int (Int32.ofInt an))) (l2 := some (.int (Int32.ofInt bn))) (l3 := some (.int (Int32.ofInt cn))) (l4 := some (.int (Int32.ofInt en))) (l5 := some (.ref wr.length)) (l6 := some (.int (Int32.ofInt n))) (l7 := some (.int (Int32.ofInt (zb true)))) (l8 := some (.long (Int64.ofInt ((1 : Nat) : Int)))) (l9 := none) hF20 (fun s hs => ⟨hF2 s hs, by have := zf_G_b (s := s) hv1; omega⟩) (G_1 (fun k hk => (hv2 k hk).1)) 2499 (by omega)
  rw [hres] at e8
  have fwd : rz_fr [32, 43] wr wd := fr_trans (fr_sub frc (by decide)) (fr_sub fcd (by decide))
  have fwe : rz_fr [32, 43] wr (wd ++ [.inl (.int, 2501, .inl F2)]) := fr_trans fwd fr_app
  have fde : rz_fr [] wd (wd ++ [.inl (.int, 2501, .inl F2)]) := fr_al
  have E2 : rz_ex X (d + 30) 221 [.ref 32, .int (Int32.ofInt an), .int (Int32.ofInt bn), .int (Int32.ofInt cn), .int (Int32.ofInt en)] wr = some (.inl (some (.int r)), wd ++ [.inl (.int, 2501, .inl F2)], 1 + 1, 4 + 2501) := by
    rw [h, q_X11_coins_144 rfl]
    simp (disch := first | exact nl_i | exact nl_r | exact nl_0 | exact nl_n | exact nl_x | exact kd_r | exact kd_n | exact kd_x | exact kd_o | exact cats0 | exact cats1 | exact cats2 | exact cats3 | exact cats4 | exact nr_i | exact nr_l | exact nr_z0 | exact nr_z1 | exact ft_i | exact ft_l | omega | rfl | assumption | (refine i_ne0 ?_ ?_ ?_ <;> omega) | (refine j_ne0 ?_ ?_ ?_ <;> omega) | (refine i_new ?_ ?_ <;> omega) | (refine bl_t ?_; with_unfolding_all rfl) | exact ft_z0 | exact ft_z1) only [q_X11_coins_145, q_X11_coins_147, q_X11_coins_148, q_X11_coins_151, q_X11_coins_154, q_X11_coins_155, q_X11_coins_157, q_X11_coins_158, q_X11_coins_159, q_X11_coins_162, q_X11_coins_163, q_X11_coins_166, q_X11_coins_167, q_X11_coins_168, q_X11_coins_171, q_X11_coins_174, q_X11_coins_175, q_X11_coins_176, q_X11_coins_177, q_X11_coins_179, q_X11_coins_182, q_X11_coins_183, i_add, i_sub, i_mul, i_neg, i_lt, i_le, i_eq, i_tm, i_div, i_j, j_i, j_add, j_sub, j_mul, j_neg, j_lt, j_le, j_eq, j_div, c_lt, c_le, c_gt, c_ge, c_eq, i_nat, rz_k, Nat.add_zero, Nat.zero_add, Nat.add_assoc, Nat.reduceAdd, if_true, if_false, zb_t, y1, y2, vk_eq hma, vk_eq hm2, e5, Int.reduceEq, not_false_eq_true, not_true_eq_false, Int.natCast_one]
    refine Eq.trans e6 ?_
    rw [q_X11_coins_210 rfl]
    simp (disch := first | exact nl_i | exact nl_r | exact nl_0 | exact nl_n | exact nl_x | exact kd_r | exact kd_n | exact kd_x | exact kd_o | exact cats0 | exact cats1 | exact cats2 | exact cats3 | exact cats4 | exact nr_i | exact nr_l | exact nr_z0 | exact nr_z1 | exact ft_i | exact ft_l | omega | rfl | assumption | (refine i_ne0 ?_ ?_ ?_ <;> omega) | (refine j_ne0 ?_ ?_ ?_ <;> omega) | (refine i_new ?_ ?_ <;> omega) | (refine bl_t ?_; with_unfolding_all rfl) | exact ft_z0 | exact ft_z1) only [q_X11_coins_211, q_X11_coins_214, q_X11_coins_216, q_X11_coins_219, vk_eq hmd, e7, rz_k]
    exact e8
  have f1e : rz_fr [48, 32, 43] w1 (wd ++ [.inl (.int, 2501, .inl F2)]) := fr_trans (fr_sub f1r (by decide)) (fr_sub fwe (by decide))
  have fwhole : rz_fr [14, 15, 16, 17, 48, 32, 43] w (wd ++ [.inl (.int, 2501, .inl F2)]) := fr_trans (fr_sub f1 (by decide)) (fr_sub f1e (by decide))
  have me : v_model (wd ++ [.inl (.int, 2501, .inl F2)]) kp tl n ty cl 0 := fr_get fde (by decide) hmd
  have oe : v_la (wd ++ [.inl (.int, 2501, .inl F2)]) 48 1 (vp_updL fo 0 r.toInt64) := fr_get fwe (by decide) hor
  generalize hwe : wd ++ [.inl (.int, 2501, .inl F2)] = we at *
  refine .inl ⟨r, w1, 0, 0, fo, _, we, 1 + 1, 4 + 2501, E1, ho1, hm1, by rw [hwr]; exact E2, ⟨_, me, rfl⟩, ⟨_, oe, vp_updL_self⟩, ?_, by omega, by omega, fun h => by cases h⟩
  refine ⟨kp, tl, n, ty, cl, 0, fr_get fwhole (by decide) hy, me, v_slots_fr fwhole (by decide) hs, v_text_fr fwhole (by decide) (by decide) (by decide) ht, ?_, v_poly_fr fwhole (by decide) hq, v_misc_fr48 hmi fwhole (by decide) oe⟩
  refine ⟨V', V3, F', Y', (zf_ll (zf_G v n) 2501 : Nat), (zf_lk (zf_G v n) 2501 : Nat), v, fr_get f1e (by decide) k14, fr_get f1e (by decide) k15, fr_get f1e (by decide) k16, fr_get f1e (by decide) k17, fr_get fde (by decide) d43, .inr ⟨by omega, ?_, ?_, ?_, ?_, ?_⟩⟩
  · intro k hk
    exact ⟨hv2 k (by omega), hV' k (by omega), by rw [hV3 k (by omega), huv]⟩
  · rw [Int.toNat_natCast]
    exact hT
  · rw [Int.toNat_natCast]
  · rw [Int.toNat_natCast]
  · intro h2
    have hn2 : n = 2 := by omega
    rw [hn2] at hg1
    have : zq_g (zq_u an bn cn en) 2 = Nat.gcd (v 0) (v 1) := by
      show Int.gcd (Int.gcd (0 : Nat) (zq_u an bn cn en 0) : Nat) (zq_u an bn cn en 1) = _
      rw [huv, huv]
      simp [Int.gcd]
    rw [← this]
    exact hg1
end RZC4
