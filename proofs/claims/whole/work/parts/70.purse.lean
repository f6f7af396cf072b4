/-! part 70: level 2: the class's purse: its two tables kind by kind -/
section RZPK
variable {X : rz_X} {d : Nat} {w : rz_W} {nc ns : Nat} {kp tl kd ty cl th : Int}
/-- Arrays.fill -/
theorem l_fill {a n : Nat} {x : Int32} (hn : n ≤ 5000) (c : Nat) : ∀ (i : Nat) (w : rz_W) (f : Nat → Int32), i + c = n → v_ia w a n f → (∀ j, j < i → f j = x) → ∃ f', rz_G X d mz_J7_fill_53178 5 [some (.ref a), some (.int x), some (.int (Int32.ofInt i)), some (.int (Int32.ofInt n))] [] w nc ns = some (.inl none, w.set a (.inl (.int, n, .inl f')), nc, ns) ∧ ∀ j, j < n → f' j = x := by
  induction c with
  | zero =>
    intro i w f hi hf hj
    obtain rfl : i = n := hi
    refine ⟨f, ?_, hj⟩
    rw [q_J7_fill_53178_5]
    simp (disch := first | exact nl_i | exact nl_r | exact nl_0 | exact nl_n | exact nl_x | exact kd_r | exact kd_n | exact kd_x | exact kd_o | exact cats0 | exact cats1 | exact cats2 | exact cats3 | exact cats4 | exact nr_i | exact nr_l | exact nr_z0 | exact nr_z1 | exact ft_i | exact ft_l | omega | rfl | assumption | (refine i_ne0 ?_ ?_ ?_ <;> omega) | (refine j_ne0 ?_ ?_ ?_ <;> omega) | (refine i_new ?_ ?_ <;> omega) | (refine bl_t ?_; with_unfolding_all rfl) | exact ft_z0 | exact ft_z1) only [q_J7_fill_53178_6, q_J7_fill_53178_7, q_J7_fill_53178_20, i_add, i_sub, i_mul, i_neg, i_lt, i_le, i_eq, i_tm, i_div, i_j, j_i, j_add, j_sub, j_mul, j_neg, j_lt, j_le, j_eq, j_div, c_lt, c_le, c_gt, c_ge, c_eq, i_nat, rz_k, Nat.add_zero, Nat.zero_add, Nat.add_assoc, Nat.reduceAdd, if_true, if_false]
    rw [if_pos (by omega), w_same hf]
  | succ c ih =>
    intro i w f hi hf hj
    have hl := w_lt hf
    obtain ⟨f', e, h⟩ := ih (i + 1) (w.set a (.inl (.int, n, .inl (upd f i x)))) (upd f i x) (by omega) (w_eq hl) (fun j hj2 => by
      by_cases hji : j = i
      · rw [hji, upd_eq]
      · rw [upd_ne hji]; exact hj j (by omega))
    refine ⟨f', ?_, h⟩
    rw [List.set_set] at e
    rw [← e, q_J7_fill_53178_5]
    simp (disch := first | exact nl_i | exact nl_r | exact nl_0 | exact nl_n | exact nl_x | exact kd_r | exact kd_n | exact kd_x | exact kd_o | exact cats0 | exact cats1 | exact cats2 | exact cats3 | exact cats4 | exact nr_i | exact nr_l | exact nr_z0 | exact nr_z1 | exact ft_i | exact ft_l | omega | rfl | assumption | (refine i_ne0 ?_ ?_ ?_ <;> omega) | (refine j_ne0 ?_ ?_ ?_ <;> omega) | (refine i_new ?_ ?_ <;> omega) | (refine bl_t ?_; with_unfolding_all rfl) | exact ft_z0 | exact ft_z1) only [q_J7_fill_53178_6, q_J7_fill_53178_7, q_J7_fill_53178_10, q_J7_fill_53178_11, q_J7_fill_53178_12, q_J7_fill_53178_13, q_J7_fill_53178_14, q_J7_fill_53178_17, i_add, i_sub, i_mul, i_neg, i_lt, i_le, i_eq, i_tm, i_div, i_j, j_i, j_add, j_sub, j_mul, j_neg, j_lt, j_le, j_eq, j_div, c_lt, c_le, c_gt, c_ge, c_eq, i_nat, rz_k, Nat.add_zero, Nat.zero_add, Nat.add_assoc, Nat.reduceAdd, if_true, if_false, si_eq hf, Int.toNat_natCast]
    rw [if_neg (by omega)]
    rfl
theorem x_fill {a n : Nat} {x : Int32} {f : Nat → Int32} (hn : n ≤ 5000) (hf : v_ia w a n f) : ∃ f', rz_ex X (d + 1) 276 [.ref a, .int x] w = some (.inl none, w.set a (.inl (.int, n, .inl f')), 0, 0) ∧ ∀ j, j < n → f' j = x := by
  obtain ⟨f', e, h⟩ := l_fill (X := X) (d := d) (nc := 0) (ns := 0) hn n 0 w f (by omega) hf (fun j hj => by omega)
  refine ⟨f', ?_, h⟩
  simp (disch := first | exact nl_i | exact nl_r | exact nl_0 | exact nl_n | exact nl_x | exact kd_r | exact kd_n | exact kd_x | exact kd_o | exact cats0 | exact cats1 | exact cats2 | exact cats3 | exact cats4 | exact nr_i | exact nr_l | exact nr_z0 | exact nr_z1 | exact ft_i | exact ft_l | omega | rfl | assumption | (refine i_ne0 ?_ ?_ ?_ <;> omega) | (refine j_ne0 ?_ ?_ ?_ <;> omega) | (refine i_new ?_ ?_ <;> omega) | (refine bl_t ?_; with_unfolding_all rfl) | exact ft_z0 | exact ft_z1) only [n_J7_fill_53178, q_J7_fill_53178_0, q_J7_fill_53178_1, q_J7_fill_53178_2, q_J7_fill_53178_3, q_J7_fill_53178_4, i_add, i_sub, i_mul, i_neg, i_lt, i_le, i_eq, i_tm, i_div, i_j, j_i, j_add, j_sub, j_mul, j_neg, j_lt, j_le, j_eq, j_div, c_lt, c_le, c_gt, c_ge, c_eq, i_nat, rz_k, Nat.add_zero, Nat.zero_add, Nat.add_assoc, Nat.reduceAdd, if_true, if_false, ln_eq hf]
  exact e
-- ways
theorem Wr_fuel {g : Nat → Nat} {v : Nat} (hv : 1 ≤ v) : ∀ (f s : Nat), s ≤ f → zf_Wr g v f s = zf_Wr g v s s := by
  intro f
  induction f using Nat.strongRecOn with
  | ind f ih =>
    intro s hs
    cases f with
    | zero =>
      obtain rfl : s = 0 := by omega
      rfl
    | succ f =>
      cases s with
      | zero =>
        unfold zf_Wr
        rw [if_pos (by omega)]
      | succ s =>
        unfold zf_Wr
        by_cases h : s + 1 < v
        · rw [if_pos h, if_pos h]
        · rw [if_neg h, if_neg h]
          rw [ih f (by omega) (s + 1 - v) (by omega)]
          by_cases hfs : s = f
          · subst hfs
            rw [ih s (by omega) (s + 1 - v) (by omega)]
          · rw [ih s (by omega) (s + 1 - v) (by omega)]
theorem zf_W_step {v : Nat → Nat} {j s : Nat} (hv : 1 ≤ v j) : zf_W v (j + 1) s = if s < v j then zf_W v j s else zf_W v j s + zf_W v (j + 1) (s - v j) := by
  show zf_Wr (zf_W v j) (v j) s s = _
  cases s with
  | zero =>
    rw [if_pos (by omega)]
    rfl
  | succ s =>
    rw [zf_Wr]
    by_cases h : s + 1 < v j
    · rw [if_pos h, if_pos h]
    · rw [if_neg h, if_neg h, Wr_fuel hv s (s + 1 - v j) (by omega)]
      rfl
/-- a bound of the ways: each kind multiplies at most by the count of its coins -/
theorem zf_W_b {v : Nat → Nat} {j : Nat} {B : Nat} (hv : 2 ≤ v j) (hB : ∀ s, s ≤ 2500 → zf_W v j s ≤ B) : ∀ s, s ≤ 2500 → zf_W v (j + 1) s ≤ B * (s / 2 + 1) := by
  intro s
  induction s using Nat.strongRecOn with
  | ind s ih =>
    intro hs
    rw [zf_W_step (by omega)]
    by_cases h : s < v j
    · rw [if_pos h]
      have h1 := hB s hs
      have h2 := Nat.mul_le_mul (Nat.le_refl B) (show 1 ≤ s / 2 + 1 by omega)
      omega
    · rw [if_neg h]
      have h1 := hB s hs
      have h2 := ih (s - v j) (by omega) (by omega)
      have h3 := Nat.mul_le_mul (Nat.le_refl B) (show (s - v j) / 2 + 1 + 1 ≤ s / 2 + 1 by omega)
      rw [Nat.mul_add B ((s - v j) / 2 + 1) 1] at h3
      omega
theorem zf_W_big {v : Nat → Nat} {n : Nat} (hn : n ≤ 4) (hv : ∀ k, k < n → 2 ≤ v k) : ∀ s, s ≤ 2500 → zf_W v n s ≤ 1957816251 := by
  have h0 : ∀ s, s ≤ 2500 → zf_W v 0 s ≤ 1 := by
    intro s _
    unfold zf_W
    split <;> omega
  have step : ∀ j B, 2 ≤ v j → (∀ s, s ≤ 2500 → zf_W v j s ≤ B) → ∀ s, s ≤ 2500 → zf_W v (j + 1) s ≤ B * 1251 := by
    intro j B h1 h2 s hs
    have := zf_W_b h1 h2 s hs
    have h3 := Nat.mul_le_mul (Nat.le_refl B) (show s / 2 + 1 ≤ 1251 by omega)
    omega
  have one : ∀ j, 1 ≤ v j → j = 0 → ∀ s, s ≤ 2500 → zf_W v (j + 1) s ≤ 1 := by
    rintro j hj rfl s
    induction s using Nat.strongRecOn with
    | ind s ih =>
      intro hs
      rw [zf_W_step hj]
      by_cases h : s < v 0
      · rw [if_pos h]; exact h0 s hs
      · rw [if_neg h]
        have h1 : zf_W v 0 s = 0 := by
          unfold zf_W
          rw [if_neg (by omega)]
        rw [h1]
        have := ih (s - v 0) (by omega) (by omega)
        omega
  intro s hs
  rcases n with _ | _ | _ | _ | _ | n
  · have := h0 s hs; omega
  · have := one 0 (by have := hv 0 (by omega); omega) rfl s hs; omega
  · exact Nat.le_trans (step 1 1 (hv 1 (by omega)) (one 0 (by have := hv 0 (by omega); omega) rfl) s hs) (by omega)
  · exact Nat.le_trans (step 2 _ (hv 2 (by omega)) (step 1 1 (hv 1 (by omega)) (one 0 (by have := hv 0 (by omega); omega) rfl)) s hs) (by omega)
  · exact Nat.le_trans (step 3 _ (hv 3 (by omega)) (step 2 _ (hv 2 (by omega)) (step 1 1 (hv 1 (by omega)) (one 0 (by have := hv 0 (by omega); omega) rfl))) s hs) (by omega)
  · omega
end RZPK
