/-! part 97z3: level 2: isSound: half of the sums of two coins lack: the class -/
section RZXC
variable {X : rz_X} {d : Nat} {w w1 : rz_W} {nc ns : Nat} {v : Nat → Nat} {kd : Int}
theorem zy_ll {G : Nat → Int} {g : Nat} (hg : G g < 0) (n : Nat) : g < n → (∀ s, g < s → s < n → ¬ G s < 0) → zf_ll G n = g := by
  induction n with
  | zero => intro h; omega
  | succ n ih =>
    intro h1 h2
    unfold zf_ll
    by_cases hn : n = g
    · rw [hn, if_pos hg]
    · rw [if_neg (h2 n (by omega) (by omega)), ih (by omega) (fun s k1 k2 => h2 s k1 (by omega))]
def zy_S (f : Nat → Nat) : Nat → Nat
  | 0 => 0
  | n + 1 => zy_S f n + f n
theorem zy_cg {f g : Nat → Nat} (n : Nat) : (∀ s, s < n → f s = g s) → zy_S f n = zy_S g n := by
  induction n with
  | zero => intro _; rfl
  | succ n ih =>
    intro h
    unfold zy_S
    rw [ih (fun s hs => h s (by omega)), h n (by omega)]
theorem zy_fr {f : Nat → Nat} (n : Nat) : zy_S f (n + 1) = f 0 + zy_S (fun s => f (s + 1)) n := by
  induction n with
  | zero => unfold zy_S; unfold zy_S; omega
  | succ n ih =>
    have e : zy_S f (n + 1 + 1) = zy_S f (n + 1) + f (n + 1) := rfl
    have e2 : zy_S (fun s => f (s + 1)) (n + 1) = zy_S (fun s => f (s + 1)) n + f (n + 1) := rfl
    rw [e, ih, e2]
    omega
theorem zy_rv (n : Nat) : ∀ f : Nat → Nat, zy_S (fun s => f (n - 1 - s)) n = zy_S f n := by
  induction n with
  | zero => intro f; rfl
  | succ n ih =>
    intro f
    rw [zy_fr]
    have e : zy_S f (n + 1) = zy_S f n + f n := rfl
    have h1 : zy_S (fun s => (fun s => f (n + 1 - 1 - s)) (s + 1)) n = zy_S (fun s => f (n - 1 - s)) n := zy_cg n (fun s hs => by
      show f (n + 1 - 1 - (s + 1)) = f (n - 1 - s)
      congr 1
      omega)
    rw [h1, ih f, e]
    show f (n + 1 - 1 - 0) + zy_S f n = zy_S f n + f n
    rw [show n + 1 - 1 - 0 = n by omega]
    omega
theorem zy_two {f : Nat → Nat} (n : Nat) (h : ∀ s, s < n → f s + f (n - 1 - s) = 1) : 2 * zy_S f n = n := by
  have h1 := zy_rv n f
  have h2 : ∀ m, m ≤ n → zy_S f m + zy_S (fun s => f (n - 1 - s)) m = m := by
    intro m
    induction m with
    | zero => intro _; rfl
    | succ m ih =>
      intro hm
      have := ih (by omega)
      have h3 := h m (by omega)
      show (zy_S f m + f m) + (zy_S (fun s => f (n - 1 - s)) m + f (n - 1 - m)) = m + 1
      omega
  have := h2 n (Nat.le_refl _)
  omega
theorem zy_lkS {G : Nat → Int} (n : Nat) : zf_lk G n = zy_S (fun s => if G s < 0 then 1 else 0) n := by
  induction n with
  | zero => rfl
  | succ n ih =>
    unfold zf_lk zy_S
    rw [ih]
theorem zy_lk {G : Nat → Int} {g : Nat} (h : ∀ s, s ≤ g → (G s < 0 ↔ ¬ G (g - s) < 0)) (h2 : ∀ s, g < s → ¬ G s < 0) {n : Nat} (hn : g < n) : 2 * zf_lk G n = g + 1 := by
  have h0 : zf_lk G n = zf_lk G (g + 1) := by
    obtain ⟨m, rfl⟩ := Nat.exists_eq_add_of_le (show g + 1 ≤ n by omega)
    clear hn
    induction m with
    | zero => rfl
    | succ m ih =>
      rw [show g + 1 + (m + 1) = (g + 1 + m) + 1 by omega]
      unfold zf_lk
      rw [if_neg (h2 (g + 1 + m) (by omega)), Nat.add_zero, ih]
      rfl
  rw [h0, zy_lkS]
  refine zy_two (g + 1) (fun s hs => ?_)
  have := h s (by omega)
  show (if G s < 0 then 1 else 0) + (if G (g + 1 - 1 - s) < 0 then 1 else 0) = 1
  rw [show g + 1 - 1 - s = g - s by omega]
  by_cases c : G s < 0
  · rw [if_pos c, if_neg (this.mp c)]
  · rw [if_neg c, if_pos (by
      by_cases c2 : G (g - s) < 0
      · exact c2
      · exact absurd (this.mpr c2) c)]
theorem l_half {G : Nat → Int} {CC : Nat → Int32} {g : Nat} {lk kk : Int} (h14 : v_ob w 14 7 [.int (Int32.ofInt kk), .int (Int32.ofInt (g : Int)), .int (Int32.ofInt lk), .ref 15, .ref 16, .ref 17]) (g16 : v_ia w 16 2501 CC) (hC : ∀ s, s ≤ 2500 → CC s = Int32.ofInt (G s)) (hGb : ∀ s, s ≤ 2500 → -1 ≤ G s ∧ G s ≤ 2500) (hg : g ≤ 2500) (h : ∀ s, s ≤ g → (G s < 0 ↔ ¬ G (g - s) < 0)) (hlk : 2 * lk = g + 1) (m : Nat) : ∀ s : Nat, s + m = g + 1 → rz_G X (d + 1) mz_X7_lacksAreHalf 12 [some (.ref 14), some (.int (Int32.ofInt (s : Int)))] [] w nc ns = some (.inl (some (.int (Int32.ofInt 1))), w, nc, ns) := by
  induction m with
  | zero =>
    intro s hs
    rw [q_X7_lacksAreHalf_12]
    simp (disch := first | exact nl_i | exact nl_r | exact nl_0 | exact nl_n | exact nl_x | exact kd_r | exact kd_n | exact kd_x | exact kd_o | exact cats0 | exact cats1 | exact cats2 | exact cats3 | exact cats4 | exact nr_i | exact nr_l | exact nr_z0 | exact nr_z1 | exact ft_i | exact ft_l | omega | rfl | assumption | (refine i_ne0 ?_ ?_ ?_ <;> omega) | (refine j_ne0 ?_ ?_ ?_ <;> omega) | (refine i_new ?_ ?_ <;> omega) | (refine bl_t ?_; with_unfolding_all rfl) | exact ft_z0 | exact ft_z1) only [↓reduceIte, q_X7_lacksAreHalf_13, q_X7_lacksAreHalf_14, q_X7_lacksAreHalf_17, q_X7_lacksAreHalf_62, q_X7_lacksAreHalf_63, q_X7_lacksAreHalf_64, q_X7_lacksAreHalf_67, q_X7_lacksAreHalf_68, q_X7_lacksAreHalf_69, q_X7_lacksAreHalf_72, q_X7_lacksAreHalf_73, q_X7_lacksAreHalf_74, q_X7_lacksAreHalf_77, q_X7_lacksAreHalf_78, q_X7_lacksAreHalf_81, q_X7_lacksAreHalf_82, i_add, i_sub, i_mul, i_neg, i_lt, i_le, i_eq, i_tm, i_div, i_j, j_i, j_add, j_sub, j_mul, j_neg, j_lt, j_le, j_eq, j_div, c_lt, c_le, c_gt, c_ge, c_eq, i_nat, rz_k, Nat.add_zero, Nat.zero_add, Nat.add_assoc, Nat.reduceAdd, if_true, if_false, gf_eq h14, List.getElem?_cons_zero, List.getElem?_cons_succ, eq_true (show (g : Int) < (s : Int) by omega), eq_true (show 2 * lk = (g : Int) + 1 by omega), not_true_eq_false]
  | succ m ih =>
    intro s hs
    have k1 := x_least (X := X) (d := d) h14 rfl g16 (show s ≤ 2500 by omega)
    have k2 := x_least (X := X) (d := d) h14 rfl g16 (show g - s ≤ 2500 by omega)
    rw [hC s (by omega)] at k1
    rw [hC (g - s) (by omega), show ((g - s : Nat) : Int) = (g : Int) - (s : Int) by omega] at k2
    have b1 := hGb s (by omega)
    have b2 := hGb (g - s) (by omega)
    have hh := h s (by omega)
    rw [← ih (s + 1) (by omega), q_X7_lacksAreHalf_12]
    generalize G s = p at *
    generalize G (g - s) = q at *
    by_cases c : p < 0
    · have c2 := hh.mp c
      simp (disch := first | exact nl_i | exact nl_r | exact nl_0 | exact nl_n | exact nl_x | exact kd_r | exact kd_n | exact kd_x | exact kd_o | exact cats0 | exact cats1 | exact cats2 | exact cats3 | exact cats4 | exact nr_i | exact nr_l | exact nr_z0 | exact nr_z1 | exact ft_i | exact ft_l | omega | rfl | assumption | (refine i_ne0 ?_ ?_ ?_ <;> omega) | (refine j_ne0 ?_ ?_ ?_ <;> omega) | (refine i_new ?_ ?_ <;> omega) | (refine bl_t ?_; with_unfolding_all rfl) | exact ft_z0 | exact ft_z1) only [↓reduceIte, q_X7_lacksAreHalf_13, q_X7_lacksAreHalf_14, q_X7_lacksAreHalf_17, q_X7_lacksAreHalf_20, q_X7_lacksAreHalf_21, q_X7_lacksAreHalf_22, q_X7_lacksAreHalf_25, q_X7_lacksAreHalf_28, q_X7_lacksAreHalf_29, q_X7_lacksAreHalf_32, q_X7_lacksAreHalf_33, q_X7_lacksAreHalf_34, q_X7_lacksAreHalf_35, q_X7_lacksAreHalf_38, q_X7_lacksAreHalf_39, q_X7_lacksAreHalf_40, q_X7_lacksAreHalf_43, q_X7_lacksAreHalf_46, q_X7_lacksAreHalf_47, q_X7_lacksAreHalf_50, q_X7_lacksAreHalf_51, q_X7_lacksAreHalf_54, q_X7_lacksAreHalf_55, q_X7_lacksAreHalf_56, q_X7_lacksAreHalf_59, i_add, i_sub, i_mul, i_neg, i_lt, i_le, i_eq, i_tm, i_div, i_j, j_i, j_add, j_sub, j_mul, j_neg, j_lt, j_le, j_eq, j_div, c_lt, c_le, c_gt, c_ge, c_eq, i_nat, rz_k, Nat.add_zero, Nat.zero_add, Nat.add_assoc, Nat.reduceAdd, if_true, if_false, gf_eq h14, vk_eq h14, List.getElem?_cons_zero, List.getElem?_cons_succ, eq_false (show ¬ (g : Int) < (s : Int) by omega), k1, k2, eq_false (show ¬ 0 ≤ p by omega), eq_true (show 0 ≤ q by omega), Int.reduceEq, not_false_eq_true]
      rfl
    · have c2 : q < 0 := by omega
      simp (disch := first | exact nl_i | exact nl_r | exact nl_0 | exact nl_n | exact nl_x | exact kd_r | exact kd_n | exact kd_x | exact kd_o | exact cats0 | exact cats1 | exact cats2 | exact cats3 | exact cats4 | exact nr_i | exact nr_l | exact nr_z0 | exact nr_z1 | exact ft_i | exact ft_l | omega | rfl | assumption | (refine i_ne0 ?_ ?_ ?_ <;> omega) | (refine j_ne0 ?_ ?_ ?_ <;> omega) | (refine i_new ?_ ?_ <;> omega) | (refine bl_t ?_; with_unfolding_all rfl) | exact ft_z0 | exact ft_z1) only [↓reduceIte, q_X7_lacksAreHalf_13, q_X7_lacksAreHalf_14, q_X7_lacksAreHalf_17, q_X7_lacksAreHalf_20, q_X7_lacksAreHalf_21, q_X7_lacksAreHalf_22, q_X7_lacksAreHalf_25, q_X7_lacksAreHalf_28, q_X7_lacksAreHalf_29, q_X7_lacksAreHalf_32, q_X7_lacksAreHalf_33, q_X7_lacksAreHalf_34, q_X7_lacksAreHalf_35, q_X7_lacksAreHalf_38, q_X7_lacksAreHalf_39, q_X7_lacksAreHalf_40, q_X7_lacksAreHalf_43, q_X7_lacksAreHalf_46, q_X7_lacksAreHalf_47, q_X7_lacksAreHalf_50, q_X7_lacksAreHalf_51, q_X7_lacksAreHalf_54, q_X7_lacksAreHalf_55, q_X7_lacksAreHalf_56, q_X7_lacksAreHalf_59, i_add, i_sub, i_mul, i_neg, i_lt, i_le, i_eq, i_tm, i_div, i_j, j_i, j_add, j_sub, j_mul, j_neg, j_lt, j_le, j_eq, j_div, c_lt, c_le, c_gt, c_ge, c_eq, i_nat, rz_k, Nat.add_zero, Nat.zero_add, Nat.add_assoc, Nat.reduceAdd, if_true, if_false, gf_eq h14, vk_eq h14, List.getElem?_cons_zero, List.getElem?_cons_succ, eq_false (show ¬ (g : Int) < (s : Int) by omega), k1, k2, eq_true (show 0 ≤ p by omega), eq_false (show ¬ 0 ≤ q by omega), Int.reduceEq, not_false_eq_true]
      rfl
theorem x_half (hp : v_purse w kd) : rz_ex X (d + 2) 88 [.ref 14] w = some (.inl (some (.int (Int32.ofInt 1))), w, 0, 0) := by
  obtain ⟨n, v, V, V2, CC, YY, gr, lk, rfl, hn4, h14, g15, g16, g17, g43, hr⟩ := v_purse_get hp
  by_cases h2 : n = 2
  · subst h2
    rcases hr with h | ⟨-, hv, -, hC, hlk, hgr, hgcd⟩
    · omega
    obtain ⟨g, e, g1, hm, hb⟩ := zy_mirror (v := v) (hv 0 (by omega)).1.1 (hv 1 (by omega)).1.1 (hgcd rfl)
    have hv0 := (hv 0 (by omega)).1
    have hv1 := (hv 1 (by omega)).1
    have hmul : (v 0 : Int) * (v 1 : Int) ≤ 50 * 50 := Int.mul_le_mul (by omega) (by omega) (by omega) (by omega)
    have hg25 : g ≤ 2496 := by omega
    have hv' : ∀ k, k < 2 → 1 ≤ v k := fun k hk => by have := (hv k hk).1.1; omega
    have hgl : zf_G v 2 g < 0 := by
      have h0 := hm g (Nat.le_refl _)
      rw [Nat.sub_self, zf_G_0 2 hv'] at h0
      omega
    have hll := zy_ll hgl 2501 (by omega) (fun s k1 _ => hb s k1)
    have hlk2 := zy_lk hm hb (show g < 2501 by omega)
    rw [hll] at hgr
    have := l_half (X := X) (d := d) (nc := 0) (ns := 0) (G := zf_G v 2) (g := g) (lk := lk) (by rw [hgr] at h14; exact h14) g16 (fun s hs => (hC s hs).1) (fun s hs => by have := zf_G_b (v := v) (n := 2) (s := s) hv'; omega) (by omega) hm (by omega) (g + 1) 0 (by omega)
    rw [← this]
    simp (disch := first | exact nl_i | exact nl_r | exact nl_0 | exact nl_n | exact nl_x | exact kd_r | exact kd_n | exact kd_x | exact kd_o | exact cats0 | exact cats1 | exact cats2 | exact cats3 | exact cats4 | exact nr_i | exact nr_l | exact nr_z0 | exact nr_z1 | exact ft_i | exact ft_l | omega | rfl | assumption | (refine i_ne0 ?_ ?_ ?_ <;> omega) | (refine j_ne0 ?_ ?_ ?_ <;> omega) | (refine i_new ?_ ?_ <;> omega) | (refine bl_t ?_; with_unfolding_all rfl) | exact ft_z0 | exact ft_z1) only [↓reduceIte, n_X7_lacksAreHalf, q_X7_lacksAreHalf_0, q_X7_lacksAreHalf_1, q_X7_lacksAreHalf_4, q_X7_lacksAreHalf_5, q_X7_lacksAreHalf_8, q_X7_lacksAreHalf_9, q_X7_lacksAreHalf_10, q_X7_lacksAreHalf_11, i_add, i_sub, i_mul, i_neg, i_lt, i_le, i_eq, i_tm, i_div, i_j, j_i, j_add, j_sub, j_mul, j_neg, j_lt, j_le, j_eq, j_div, c_lt, c_le, c_gt, c_ge, c_eq, i_nat, rz_k, Nat.add_zero, Nat.zero_add, Nat.add_assoc, Nat.reduceAdd, if_true, if_false, gf_eq h14, List.getElem?_cons_zero, List.getElem?_cons_succ, eq_true (show ((2 : Nat) : Int) = 2 from rfl)]
    rfl
  · simp (disch := first | exact nl_i | exact nl_r | exact nl_0 | exact nl_n | exact nl_x | exact kd_r | exact kd_n | exact kd_x | exact kd_o | exact cats0 | exact cats1 | exact cats2 | exact cats3 | exact cats4 | exact nr_i | exact nr_l | exact nr_z0 | exact nr_z1 | exact ft_i | exact ft_l | omega | rfl | assumption | (refine i_ne0 ?_ ?_ ?_ <;> omega) | (refine j_ne0 ?_ ?_ ?_ <;> omega) | (refine i_new ?_ ?_ <;> omega) | (refine bl_t ?_; with_unfolding_all rfl) | exact ft_z0 | exact ft_z1) only [↓reduceIte, n_X7_lacksAreHalf, q_X7_lacksAreHalf_0, q_X7_lacksAreHalf_1, q_X7_lacksAreHalf_4, q_X7_lacksAreHalf_5, q_X7_lacksAreHalf_8, q_X7_lacksAreHalf_9, q_X7_lacksAreHalf_10, q_X7_lacksAreHalf_11, i_add, i_sub, i_mul, i_neg, i_lt, i_le, i_eq, i_tm, i_div, i_j, j_i, j_add, j_sub, j_mul, j_neg, j_lt, j_le, j_eq, j_div, c_lt, c_le, c_gt, c_ge, c_eq, i_nat, rz_k, Nat.add_zero, Nat.zero_add, Nat.add_assoc, Nat.reduceAdd, if_true, if_false, gf_eq h14, List.getElem?_cons_zero, List.getElem?_cons_succ, eq_false (show ¬ (n : Int) = 2 by omega)]
end RZXC
