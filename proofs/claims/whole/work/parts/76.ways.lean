/-! part 76: level 2: calls that tell a text; ways -/
section RZWY
variable {X : rz_X} {d : Nat} {w : rz_W} {nc ns : Nat} {kp tl kd ty cl th : Int}
/-- a call that tells a text and keeps the rest -/
theorem ag_txt {S1 : List Nat} {mx my : Nat} {as : List Value} {es : List String} {c1 s1 : Nat} {w1 : rz_W} {T : List Nat} (hA : v_yard w kp ∧ v_model w kp tl kd ty cl th ∧ v_slots w kp ∧ v_text w tl ∧ v_purse w kd ∧ v_poly w ty cl ∧ v_misc w) (e1 : rz_ex X (d + 29) mx (.ref 0 :: as) w = some (.inl (some (.int (Int32.ofInt T.length))), w1, c1, s1)) (f1 : rz_fr ([12, 13] ++ S1) w w1) (hS1 : ∀ q, q ∈ S1 → q ∈ [4, 5, 6, 7, 8, 9, 10, 11, 26, 27, 28, 29, 30, 31]) (hm1 : v_misc w1) (htx : v_ct w1 T) (hT : T.length ≤ 60 ∧ ∀ c, c ∈ T → c ≤ 65535)
    (H : ∀ (wr : rz_W), rz_fr ([48, 12, 13] ++ S1) w wr → v_model wr kp tl kd ty cl th → ∃ (w2 : rz_W) (c2 s2 : Nat), rz_ex X (d + 30) my (.ref 32 :: as) wr = some (.inl (some (.int (Int32.ofInt T.length))), w2, c2, s2) ∧ rz_fr [32, 42] wr w2 ∧ v_rt w2 T kp kd ty cl 0 ∧ c1 + c2 ≤ 1100 ∧ s1 + s2 ≤ 14000) : rz_ag X d mx my false as es w := by
  obtain ⟨hy, hm, hs, ht, hp, hq, hmi⟩ := hA
  obtain ⟨-, -, -, -, -, -, fo, ho1⟩ := id hm1
  have hin : ∀ q, q ∈ [12, 13] ++ S1 → q ∈ [12, 13, 4, 5, 6, 7, 8, 9, 10, 11, 26, 27, 28, 29, 30, 31] := by
    intro q h
    rcases List.mem_append.mp h with h | h
    · have : ∀ q, q ∈ [12, 13] → q ∈ [12, 13, 4, 5, 6, 7, 8, 9, 10, 11, 26, 27, 28, 29, 30, 31] := by decide
      exact this q h
    · have : ∀ q, q ∈ [4, 5, 6, 7, 8, 9, 10, 11, 26, 27, 28, 29, 30, 31] → q ∈ [12, 13, 4, 5, 6, 7, 8, 9, 10, 11, 26, 27, 28, 29, 30, 31] := by decide
      exact this q (hS1 q h)
  have hin2 : ∀ q, q ∈ [12, 13, 4, 5, 6, 7, 8, 9, 10, 11, 26, 27, 28, 29, 30, 31] → q ∈ [12, 13, 4, 5, 6, 7, 8, 9, 10, 11, 26, 27, 28, 29, 30, 31, 48, 32, 42] := by decide
  have hin3 : ∀ q, q ∈ [12, 13] ++ S1 → q ∈ [48, 12, 13] ++ S1 := by
    intro q h
    rcases List.mem_append.mp h with h | h
    · have : ∀ q, q ∈ [12, 13] → q ∈ [48, 12, 13] := by decide
      exact List.mem_append_left _ (this q h)
    · exact List.mem_append_right _ h
  have hin4 : ∀ q, q ∈ [48] → q ∈ [48, 12, 13] ++ S1 := by
    intro q h
    have : ∀ q, q ∈ [48] → q ∈ [48, 12, 13] := by decide
    exact List.mem_append_left _ (this q h)
  have hno : ∀ p, p ∉ [12, 13, 4, 5, 6, 7, 8, 9, 10, 11, 26, 27, 28, 29, 30, 31] → p ∉ [12, 13] ++ S1 := fun p h c => h (hin p c)
  have hmw1 : v_model w1 kp tl kd ty cl th := fr_get f1 (hno _ (by decide)) hm
  generalize hwr : w1.set 48 (.inl (.long, 1, .inr (.inl (vp_updL fo 0 (Int32.ofInt T.length).toInt64)))) = wr
  have f1r : rz_fr [48] w1 wr := by rw [← hwr]; exact fr_set (by decide)
  have hor : v_la wr 48 1 (vp_updL fo 0 (Int32.ofInt T.length).toInt64) := by rw [← hwr]; exact w_eq (w_lt ho1)
  obtain ⟨w2, c2, s2, e2, f2, ⟨m2, g, h42, hg⟩, b1, b2⟩ := H wr (fr_trans (fr_sub f1 hin3) (fr_sub f1r hin4)) (fr_get f1r (by decide) hmw1)
  have f12 : rz_fr [48, 32, 42] w1 w2 := fr_trans (fr_sub f1r (by decide)) (fr_sub f2 (by decide))
  have fw2 : rz_fr [12, 13, 4, 5, 6, 7, 8, 9, 10, 11, 26, 27, 28, 29, 30, 31, 48, 32, 42] w w2 := fr_trans (fr_sub f1 (fun q h => hin2 q (hin q h))) (fr_sub f12 (by decide))
  have o2 : v_la w2 48 1 (vp_updL fo 0 (Int32.ofInt T.length).toInt64) := fr_get f2 (by decide) hor
  refine .inl ⟨Int32.ofInt T.length, w1, c1, s1, fo, _, w2, c2, s2, e1, ho1, hmw1, by rw [hwr]; exact e2, ⟨_, m2, rfl⟩, ⟨_, o2, vp_updL_self⟩, ?_, b1, b2, fun h => by cases h⟩
  refine ⟨kp, T.length, kd, ty, cl, 0, fr_get fw2 (by decide) hy, m2, v_slots_fr fw2 (by decide) hs, ?_, v_purse_fr fw2 (by decide) hp, v_poly_fr fw2 (by decide) hq, v_misc_fr48 hm1 f12 (by decide) o2⟩
  obtain ⟨f, h12, h13, hf⟩ := htx
  refine ⟨f, g, fr_get f12 (by decide) h12, fr_get f12 (by decide) h13, h42, by omega, ?_⟩
  intro k hk
  have hk' : k < T.length := by omega
  have hget : T[k]? = some T[k] := List.getElem?_eq_getElem hk'
  refine ⟨T[k], ⟨by omega, ?_⟩, hf k _ hget, hg k _ hget⟩
  have := hT.2 T[k] (List.getElem_mem hk')
  omega
/-- the text, emptied -/
theorem v_text_ct {tl' : Int} {w1 : rz_W} (ht : v_text w tl') (hl : w1 = w.set 12 (.inr (9, [.int (Int32.ofInt 0), .ref 13]))) : v_ct w1 [] := by
  obtain ⟨sg, sg2, g12, g13, g42, htl, hsg⟩ := ht
  subst hl
  exact ⟨sg, w_eq (w_lt g12), (w_ne (by decide)).trans g13, fun k c h => by cases h⟩
theorem x_becomeNumber {z : Int} {n L : Nat} {tl' : Int} (ht : v_text w tl') (hz : z.natAbs = n) (hn : n < 10 ^ 18) (hL : zf_len n L) (hLb : L ≤ 50) : ∃ w', rz_ex X (d + 4) 98 [.ref 12, .long (Int64.ofInt z)] w = some (.inl (some (.int (Int32.ofInt ((if z < 0 then [45] else []) ++ zds L n).length))), w', 0, 0) ∧ rz_fr [12, 13] w w' ∧ v_ct w' ((if z < 0 then [45] else []) ++ zds L n) := by
  have hct := v_text_ct ht rfl
  obtain ⟨sg, sg2, g12, g13, g42, htl, hsg⟩ := id ht
  generalize hw1 : w.set 12 (.inr (9, [.int (Int32.ofInt 0), .ref 13])) = w1 at hct
  have f1 : rz_fr [12] w w1 := by rw [← hw1]; exact fr_set (by decide)
  obtain ⟨w', e, f, r⟩ := x_putNumber (X := X) (d := d) hz hn hL (by simp; omega) hct
  rw [List.nil_append] at r
  refine ⟨w', ?_, fr_trans (fr_sub f1 (by decide)) f, r⟩
  obtain ⟨f0, h12, -, -⟩ := hct
  obtain ⟨f3, h12', -, -⟩ := r
  simp (disch := first | exact nl_i | exact nl_r | exact nl_0 | exact nl_n | exact nl_x | exact kd_r | exact kd_n | exact kd_x | exact kd_o | exact cats0 | exact cats1 | exact cats2 | exact cats3 | exact cats4 | exact nr_i | exact nr_l | exact nr_z0 | exact nr_z1 | exact ft_i | exact ft_l | omega | rfl | assumption | (refine i_ne0 ?_ ?_ ?_ <;> omega) | (refine j_ne0 ?_ ?_ ?_ <;> omega) | (refine i_new ?_ ?_ <;> omega) | (refine bl_t ?_; with_unfolding_all rfl) | exact ft_z0 | exact ft_z1) only [n_X9_becomeNumber, q_X9_becomeNumber_0, q_X9_becomeNumber_1, q_X9_becomeNumber_2, q_X9_becomeNumber_5, q_X9_becomeNumber_6, q_X9_becomeNumber_7, q_X9_becomeNumber_10, q_X9_becomeNumber_11, q_X9_becomeNumber_14, i_add, i_sub, i_mul, i_neg, i_lt, i_le, i_eq, i_tm, i_div, i_j, j_i, j_add, j_sub, j_mul, j_neg, j_lt, j_le, j_eq, j_div, c_lt, c_le, c_gt, c_ge, c_eq, i_nat, rz_k, Nat.add_zero, Nat.zero_add, Nat.add_assoc, Nat.reduceAdd, if_true, if_false, pf_eq g12, List.set_cons_zero, List.set_cons_succ, hw1, vk_eq h12, e, gf_eq h12', List.getElem?_cons_zero, List.getElem?_cons_succ]
end RZWY
