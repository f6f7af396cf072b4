/-! part 97zd05: level 2: isSound: class and reference -/
section RZJE
variable {X : rz_X} {d : Nat} {w : rz_W} {nc ns : Nat} {kp tl kd ty cl th : Int} {G : Nat → Option Nat} {T : Nat → Int × Int × Int × Bool}
theorem zsl_iff (m : Nat) : ∀ i, zsl_all G T i m = true ↔ ∀ j, i ≤ j → j < i + m → G j ≠ none → (T j).2.2.2 = true := by
  induction m with
  | zero => intro i; exact ⟨fun _ j h1 h2 => by omega, fun _ => rfl⟩
  | succ m ih =>
    intro i
    unfold zsl_all
    rw [Bool.and_eq_true, ih (i + 1)]
    constructor
    · rintro ⟨h1, h2⟩ j k1 k2 k3
      by_cases hj : j = i
      · subst hj
        cases hg : G j with
        | none => exact absurd hg k3
        | some g => rw [hg] at h1; exact h1
      · exact h2 j (by omega) (by omega) k3
    · intro h
      refine ⟨?_, fun j k1 k2 k3 => h j (by omega) (by omega) k3⟩
      cases hg : G i with
      | none => rfl
      | some g => exact h i (by omega) (by omega) (by rw [hg]; simp)
/-- the class, with the invariant behind it -/
theorem x_sound (hv : v_inv w) (hH : zs_H w G T) : ∃ (w1 : rz_W) (c s : Nat), c ≤ 16 ∧ s ≤ 48 ∧ rz_ex X (d + 7) 151 [.ref 0] w = some (.inl (some (.int (Int32.ofInt (zb (zsl_all G T 0 8))))), w1, c, s) ∧ rz_fr [4, 5, 6, 7, 8, 18, 25, 29, 30, 31] w w1 ∧ v_inv w1 := by
  obtain ⟨kp, tl, kd, ty, cl, th, hy, hm, hs, ht, hp, hq, hmi⟩ := id hv
  have hstart : rz_ex X (d + 7) 151 [.ref 0] w = rz_G X (d + 6) mz_X10_isSound 2 [some (.ref 0), some (.int (Int32.ofInt ((0 : Nat) : Int))), none, none] [] w 0 0 := by
    simp (disch := first | exact nl_i | exact nl_r | exact nl_0 | exact nl_n | exact nl_x | exact kd_r | exact kd_n | exact kd_x | exact kd_o | exact cats0 | exact cats1 | exact cats2 | exact cats3 | exact cats4 | exact nr_i | exact nr_l | exact nr_z0 | exact nr_z1 | exact ft_i | exact ft_l | omega | rfl | assumption | (refine i_ne0 ?_ ?_ ?_ <;> omega) | (refine j_ne0 ?_ ?_ ?_ <;> omega) | (refine i_new ?_ ?_ <;> omega) | (refine bl_t ?_; with_unfolding_all rfl) | exact ft_z0 | exact ft_z1) only [n_X10_isSound, q_X10_isSound_0, q_X10_isSound_1, i_add, i_sub, i_mul, i_neg, i_lt, i_le, i_eq, i_tm, i_div, i_j, j_i, j_add, j_sub, j_mul, j_neg, j_lt, j_le, j_eq, j_div, c_lt, c_le, c_gt, c_ge, c_eq, i_nat, rz_k, Nat.add_zero, Nat.zero_add, Nat.add_assoc, Nat.reduceAdd, if_true, if_false]
    rfl
  obtain ⟨w1, c, s, l2, l3, b1, b2, f1, m1, hr⟩ := l_csl (X := X) (d := d + 1) 8 w 0 none none 0 0 (by omega) hy hmi hH
  rw [Nat.zero_add, Nat.zero_add] at hr
  have hv1 := v_inv_fr hv f1 (by decide) m1
  rcases hr with ⟨hall, e1⟩ | ⟨⟨j, h1, h2, h3, h4⟩, e1⟩
  · have hb : zsl_all G T 0 8 = true := (zsl_iff 8 0).mpr (fun j k1 k2 k3 => hall j k1 (by omega) k3)
    have hy1 : v_yard w1 kp := fr_get f1 (by decide) hy
    have hp1 := v_purse_fr f1 (by decide) hp
    have hm1 : v_model w1 kp tl kd ty cl th := fr_get f1 (by decide) hm
    obtain ⟨n, x, y, P, Q, R, S, M, O, L, U, pa, pb, pc, rfl, hn, hcp, g18, g44, g45, hRS, hr, g24, g25, g19, g20, g21, g22, g23, hcl⟩ := v_poly_cp hq
    -- behind the polygon
    have hpo : ∃ w2, rz_ex X (d + 6) 170 [.ref 0] w1 = some (.inl (some (.int (Int32.ofInt 1))), w2, 0, 0) ∧ rz_fr [18, 25] w1 w2 ∧ v_inv w2 := by
      rcases hcl with rfl | ⟨rfl, hn3, hok, htr⟩
      · exact ⟨w1, x_polyag0 (X := X) (d := d) hy1 (fr_get f1 (by decide) g18), fr_refl, hv1⟩
      · obtain ⟨w2, e2, f2, c2, r2⟩ := x_polyag1 (X := X) (d := d) (x := x) (y := y) (n := n) hy1 (v_cp_fr hcp f1 (by decide)) (by omega) hok ⟨_, _, O, fr_get f1 (by decide) g18, fr_get f1 (by decide) g25⟩
        refine ⟨w2, e2, f2, ?_⟩
        have ff := fr_trans (fr_sub f1 (T := [4, 5, 6, 7, 8, 18, 25]) (by decide)) (fr_sub f2 (by decide))
        obtain ⟨nn, a2, O1, r18, r25⟩ := id r2
        obtain ⟨cl1, a1, P1, Q1, q18, q22, q23, -, -, he1⟩ := id c2
        have hob := q18.symm.trans r18
        simp only [Option.some.injEq, Sum.inr.injEq, Prod.mk.injEq, List.cons.injEq, Value.int.injEq, true_and, and_true] at hob
        obtain ⟨rfl, rfl, rfl⟩ := hob
        refine ⟨kp, tl, kd, n, 1, th, fr_get ff (by decide) hy, fr_get ff (by decide) hm, v_slots_fr ff (by decide) hs, v_text_fr ff (by decide) (by decide) (by decide) ht, v_purse_fr ff (by decide) hp, ?_, v_misc_fr f2 (by decide) m1⟩
        refine ⟨x, y, P1, Q1, R, S, M, O1, L, U, _, pb, pc, ⟨q18, fr_get ff (by decide) g19, fr_get ff (by decide) g20, fr_get ff (by decide) g21, q22, q23, fr_get ff (by decide) g24, r25, fr_get ff (by decide) g44, fr_get ff (by decide) g45⟩, ⟨by omega, by omega⟩, fun k => ⟨hr k, fun hk => ⟨(he1 k (by omega)).1, (he1 k (by omega)).2, (hRS k (by omega)).1, (hRS k (by omega)).2⟩⟩, .inr ⟨rfl, by omega, hok, htr⟩⟩
    obtain ⟨w2, e2, f2, hv2⟩ := hpo
    have hy2 : v_yard w2 kp := fr_get f2 (by decide) hy1
    obtain ⟨w3, e3, f3, m3⟩ := l_csend (X := X) (d := d) (nc := c) (ns := s) hy1 l2 l3 e2 hy2 (v_inv_misc hv2) (v_purse_fr f2 (by decide) hp1)
    refine ⟨w3, c, s, by omega, by omega, ?_, fr_trans (fr_sub f1 (by decide)) (fr_trans (fr_sub f2 (by decide)) (fr_sub f3 (by decide))), v_inv_fr hv2 f3 (by decide) m3⟩
    rw [hstart, e1, e3, hb, zb_t]
  · have hb : zsl_all G T 0 8 = false := by
      rw [Bool.eq_false_iff]
      intro hc
      have := (zsl_iff 8 0).mp hc j h1 (by omega) h3
      rw [h4] at this
      cases this
    refine ⟨w1, c, s, by omega, by omega, ?_, fr_sub f1 (by decide), hv1⟩
    rw [hstart, e1, hb, zb_f]
theorem ag_isSound (hv : v_inv w) : rz_agv X d 151 265 w ∧ ∀ v w1 c1 s1, rz_ex X (d + 30) 151 [.ref 0] w = some (.inl (some v), w1, c1, s1) → ∃ r : Int32, v = .int r := by
  obtain ⟨kp, tl, kd, ty, cl, th, hy, hm, hs, ht, hp, hq, hmi⟩ := id hv
  obtain ⟨G, KG, H, KH, KS, KT, A, B, C, KA, KB, KC, ⟨g1, g2, g3, g33, g34, g35, g36, g37, g38, g39, g40, g41⟩, hk, hS, hK⟩ := id hs
  have hex : ∀ i : Nat, ∃ t : Int × Int × Int × Bool, i < 8 → ∀ g, G i = some g → (H i = Int32.ofInt 1 ∧ 49 ≤ g ∧ (1 ≤ t.1 ∧ 0 ≤ t.2.1 ∧ t.2.1 < t.2.2.1 ∧ t.1 * t.2.2.1 ≤ 1000000) ∧ v_ob w g 3 [.int (Int32.ofInt t.1), .int (Int32.ofInt t.2.1), .int (Int32.ofInt t.2.2.1)] ∧ (A i = Int64.ofInt t.1 ∧ B i = Int64.ofInt t.2.1 ∧ C i = Int64.ofInt t.2.2.1) ∧ zz_R t.1 t.2.1 t.2.2.1 t.2.2.2) := by
    intro i
    by_cases hi : i < 8
    · have h0 := hS i hi
      cases hg : G i with
      | none => exact ⟨(0, 0, 0, true), fun _ g h => by cases h⟩
      | some g =>
        rw [hg] at h0
        obtain ⟨hh, hg49, a, b, c, hr, ho, ea, eb, ec⟩ := h0
        obtain ⟨r1, r2, r3, r4, hrr, -⟩ := zr_grid hr
        obtain ⟨w', r', q, -, -, -, hI, hl, hbd, hq⟩ := x_lss (X := X) (d := d) hy hmi ho hg49 hr hrr
        refine ⟨(a, b, c, zz_ls q (a * c)), fun _ g' hg' => ?_⟩
        obtain rfl := Option.some.inj hg'
        exact ⟨hh, hg49, hr, ho, ⟨ea, eb, ec⟩, r1, r2, r3, r4, r', q, hrr, hI, hl, hbd, hq, rfl⟩
    · exact ⟨(0, 0, 0, true), fun h => absurd h hi⟩
  obtain ⟨T, hT⟩ : ∃ T : Nat → Int × Int × Int × Bool, ∀ i : Nat, i < 8 → ∀ g, G i = some g → (H i = Int32.ofInt 1 ∧ 49 ≤ g ∧ (1 ≤ (T i).1 ∧ 0 ≤ (T i).2.1 ∧ (T i).2.1 < (T i).2.2.1 ∧ (T i).1 * (T i).2.2.1 ≤ 1000000) ∧ v_ob w g 3 [.int (Int32.ofInt (T i).1), .int (Int32.ofInt (T i).2.1), .int (Int32.ofInt (T i).2.2.1)] ∧ (A i = Int64.ofInt (T i).1 ∧ B i = Int64.ofInt (T i).2.1 ∧ C i = Int64.ofInt (T i).2.2.1) ∧ zz_R (T i).1 (T i).2.1 (T i).2.2.1 (T i).2.2.2) := ⟨fun i => Classical.choose (hex i), fun i => Classical.choose_spec (hex i)⟩
  have hH : zs_H w G T := ⟨g1, fun i g hi hg => by
    obtain ⟨-, k2, k3, k4, -, k6⟩ := hT i hi g hg
    exact ⟨k2, k3, k4, k6⟩⟩
  have hQ : zs_Q G T H A B C := by
    intro i hi
    have h0 := hS i hi
    cases hg : G i with
    | none => rw [hg] at h0; exact h0
    | some g =>
      obtain ⟨k1, -, k3, -, k5, k6⟩ := hT i hi g hg
      exact ⟨k1, k3, k5, k6⟩
  obtain ⟨w1, c, s, b1, b2, e1, f1, hv1⟩ := x_sound (X := X) (d := d + 23) hv hH
  obtain ⟨n, x, y, P, Q, R, S, M, O, L, U, pa, pb, pc, rfl, hn, hcp, g18, g44, g45, hRS, hr, g24, g25, g19, g20, g21, g22, g23, hcl⟩ := v_poly_cp hq
  have hm1 : v_model w1 kp tl kd n cl th := fr_get f1 (by decide) hm
  obtain ⟨w2, c2, s2, b3, b4, e2, f2, hm2⟩ := y_sound (X := X) (d := d + 24) (x := x) (y := y) hQ hm1 (fr_get f1 (by decide) g33) (fr_get f1 (by decide) g34) (fr_get f1 (by decide) g35) (fr_get f1 (by decide) g36) (fr_get f1 (by decide) g44) (fr_get f1 (by decide) g45) hn hr hRS (by
    rcases hcl with h | ⟨h, h3, hok, -⟩
    · exact Or.inl h
    · exact Or.inr ⟨h, h3, hok⟩)
  refine ⟨⟨_, w1, c, s, _, w2, c2, s2, e1, hm1, e2, ?_, by omega, by omega, .inl ⟨_, rfl⟩⟩, ?_⟩
  · exact (v_inv_th (S := []) hv1 hm1 0 f2 (by simp) (v_misc_fr f2 (by decide) (v_inv_misc hv1)) hm2).1
  · intro v w1' c1 s1 h
    have e1' : rz_ex X (d + 30) 151 [.ref 0] w = _ := e1
    rw [e1'] at h
    injection h with h
    injection h with h
    injection h with h
    injection h with h
    exact ⟨_, h.symm⟩
end RZJE
