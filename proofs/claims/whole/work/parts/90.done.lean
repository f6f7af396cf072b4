/-! part 90: level 2: the cases that stand, written by tools/gen_w.py -/
section RZDN
variable {X : rz_X} {d : Nat} {w : rz_W} {L i : Nat} {xs : Nat → Int32}
theorem i_char (x : Int32) : ∃ c : Int, (0 ≤ c ∧ c ≤ 65535) ∧ (x.toUInt32 % 65536).toInt32 = Int32.ofInt c := by
  refine ⟨((x.toUInt32 % 65536).toNat : Int), ?_, ?_⟩
  · have : (x.toUInt32 % 65536).toNat < 65536 := by
      rw [UInt32.toNat_mod]
      exact Nat.mod_lt _ (by decide)
    omega
  · apply Int32.toBitVec_inj.1
    apply BitVec.eq_of_toNat_eq
    have e : x.toUInt32.toNat = x.toBitVec.toNat := rfl
    simp [Int32.toBitVec_ofInt, BitVec.toNat_ofInt]
    omega
theorem w_spanned (hX : X 0 = some (L, xs)) (hL : L ≤ 3072) (hi : i + 5 < L) (hv : v_inv w) : rz_way X d 240 i w := by
  obtain ⟨p1, h1, e1⟩ := i_all (xs (i + 1))
  obtain ⟨p2, h2, e2⟩ := i_all (xs (i + 2))
  obtain ⟨p3, h3, e3⟩ := i_all (xs (i + 3))
  obtain ⟨p4, h4, e4⟩ := i_all (xs (i + 4))
  obtain ⟨p5, h5, e5⟩ := i_all (xs (i + 5))
  refine c_spanned hX hL hi hv ?_
  rw [e1, e2, e3, e4, e5]
  exact ag_spanned h1 h2 h3 h4 h5 hv
theorem w_remainder (hX : X 0 = some (L, xs)) (hL : L ≤ 3072) (hi : i + 5 < L) (hv : v_inv w) : rz_way X d 344 i w := by
  obtain ⟨p1, h1, e1⟩ := i_all (xs (i + 1))
  obtain ⟨p2, h2, e2⟩ := i_all (xs (i + 2))
  obtain ⟨p3, h3, e3⟩ := i_all (xs (i + 3))
  obtain ⟨p4, h4, e4⟩ := i_all (xs (i + 4))
  refine c_remainder hX hL hi hv ?_
  rw [e1, e2, e3, e4]
  exact ag_remainder h1 h2 h3 h4 hv
theorem w_nth (hX : X 0 = some (L, xs)) (hL : L ≤ 3072) (hi : i + 5 < L) (hv : v_inv w) : rz_way X d 436 i w := by
  obtain ⟨p1, h1, e1⟩ := i_all (xs (i + 1))
  obtain ⟨p2, h2, e2⟩ := i_all (xs (i + 2))
  obtain ⟨p3, h3, e3⟩ := i_all (xs (i + 3))
  refine c_nth hX hL hi hv ?_
  rw [e1, e2, e3]
  exact ag_nth h1 h2 h3 hv
theorem w_grids (hX : X 0 = some (L, xs)) (hL : L ≤ 3072) (hi : i + 5 < L) (hv : v_inv w) : rz_way X d 516 i w := by
  obtain ⟨p1, h1, e1⟩ := i_all (xs (i + 1))
  refine c_grids_ hX hL hi hv ?_
  rw [e1]
  exact ag_grids h1 hv
theorem w_form (hX : X 0 = some (L, xs)) (hL : L ≤ 3072) (hi : i + 5 < L) (hv : v_inv w) : rz_way X d 572 i w := by
  obtain ⟨p1, h1, e1⟩ := i_all (xs (i + 1))
  obtain ⟨p2, h2, e2⟩ := i_char (xs (i + 2))
  refine c_form hX hL hi hv ?_
  rw [e1, e2]
  exact ag_form h1 h2 hv
theorem w_has (hX : X 0 = some (L, xs)) (hL : L ≤ 3072) (hi : i + 5 < L) (hv : v_inv w) : rz_way X d 642 i w := by
  obtain ⟨p1, h1, e1⟩ := i_all (xs (i + 1))
  obtain ⟨p2, h2, e2⟩ := i_all (xs (i + 2))
  obtain ⟨p3, h3, e3⟩ := i_all (xs (i + 3))
  refine c_has hX hL hi hv ?_
  rw [e1, e2, e3]
  exact ag_has h1 h2 h3 hv
theorem w_isSame (hX : X 0 = some (L, xs)) (hL : L ≤ 3072) (hi : i + 5 < L) (hv : v_inv w) : rz_way X d 729 i w := by
  obtain ⟨p1, h1, e1⟩ := i_all (xs (i + 1))
  obtain ⟨p2, h2, e2⟩ := i_all (xs (i + 2))
  refine c_isSame hX hL hi hv ?_
  rw [e1, e2]
  exact ag_isSame h1 h2 hv
theorem w_parts (hX : X 0 = some (L, xs)) (hL : L ≤ 3072) (hi : i + 5 < L) (hv : v_inv w) : rz_way X d 804 i w := by
  obtain ⟨p1, h1, e1⟩ := i_all (xs (i + 1))
  obtain ⟨p2, h2, e2⟩ := i_all (xs (i + 2))
  refine c_parts hX hL hi hv ?_
  rw [e1, e2]
  exact ag_parts h1 h2 hv
theorem w_join (hX : X 0 = some (L, xs)) (hL : L ≤ 3072) (hi : i + 5 < L) (hv : v_inv w) : rz_way X d 952 i w := by
  obtain ⟨p1, h1, e1⟩ := i_all (xs (i + 1))
  obtain ⟨p2, h2, e2⟩ := i_all (xs (i + 2))
  obtain ⟨p3, h3, e3⟩ := i_all (xs (i + 3))
  refine c_join hX hL hi hv ?_
  rw [e1, e2, e3]
  exact ag_join h1 h2 h3 hv
theorem w_undo (hX : X 0 = some (L, xs)) (hL : L ≤ 3072) (hi : i + 5 < L) (hv : v_inv w) : rz_way X d 1032 i w := by
  refine c_undo hX hL hi hv ?_
  exact ag_undo hv
theorem w_signAt (hX : X 0 = some (L, xs)) (hL : L ≤ 3072) (hi : i + 5 < L) (hv : v_inv w) : rz_way X d 1648 i w := by
  obtain ⟨p1, h1, e1⟩ := i_all (xs (i + 1))
  refine c_signAt hX hL hi hv ?_
  rw [e1]
  exact ag_signAt h1 hv
theorem w_coins (hX : X 0 = some (L, xs)) (hL : L ≤ 3072) (hi : i + 5 < L) (hv : v_inv w) : rz_way X d 1704 i w := by
  obtain ⟨p1, h1, e1⟩ := i_all (xs (i + 1))
  obtain ⟨p2, h2, e2⟩ := i_all (xs (i + 2))
  obtain ⟨p3, h3, e3⟩ := i_all (xs (i + 3))
  obtain ⟨p4, h4, e4⟩ := i_all (xs (i + 4))
  refine c_coins hX hL hi hv ?_
  rw [e1, e2, e3, e4]
  exact ag_coins h1 h2 h3 h4 hv
theorem w_lacks (hX : X 0 = some (L, xs)) (hL : L ≤ 3072) (hi : i + 5 < L) (hv : v_inv w) : rz_way X d 1796 i w := by
  refine c_lacks hX hL hi hv ?_
  exact ag_lacks hv
theorem w_lackAt (hX : X 0 = some (L, xs)) (hL : L ≤ 3072) (hi : i + 5 < L) (hv : v_inv w) : rz_way X d 1840 i w := by
  obtain ⟨p1, h1, e1⟩ := i_all (xs (i + 1))
  refine c_lackAt hX hL hi hv ?_
  rw [e1]
  exact ag_lackAt h1 hv
theorem w_canMake (hX : X 0 = some (L, xs)) (hL : L ≤ 3072) (hi : i + 5 < L) (hv : v_inv w) : rz_way X d 1896 i w := by
  obtain ⟨p1, h1, e1⟩ := i_all (xs (i + 1))
  refine c_canMake hX hL hi hv ?_
  rw [e1]
  exact ag_canMake h1 hv
theorem w_fewest (hX : X 0 = some (L, xs)) (hL : L ≤ 3072) (hi : i + 5 < L) (hv : v_inv w) : rz_way X d 1959 i w := by
  obtain ⟨p1, h1, e1⟩ := i_all (xs (i + 1))
  refine c_fewest hX hL hi hv ?_
  rw [e1]
  exact ag_fewest h1 hv
theorem w_ways (hX : X 0 = some (L, xs)) (hL : L ≤ 3072) (hi : i + 5 < L) (hv : v_inv w) : rz_way X d 2015 i w := by
  obtain ⟨p1, h1, e1⟩ := i_all (xs (i + 1))
  refine c_ways hX hL hi hv ?_
  rw [e1]
  exact ag_ways h1 hv
theorem w_corner (hX : X 0 = some (L, xs)) (hL : L ≤ 3072) (hi : i + 5 < L) (hv : v_inv w) : rz_way X d 2071 i w := by
  obtain ⟨p1, h1, e1⟩ := i_all (xs (i + 1))
  obtain ⟨p2, h2, e2⟩ := i_all (xs (i + 2))
  refine c_corner hX hL hi hv ?_
  rw [e1, e2]
  exact ag_corner h1 h2 hv
theorem w_clear (hv : v_inv w) : rz_way X d 2139 i w := c_clear hv (ag_clear hv).1 (ag_clear hv).2
theorem w_rim (hX : X 0 = some (L, xs)) (hL : L ≤ 3072) (hi : i + 5 < L) (hv : v_inv w) : rz_way X d 2196 i w := by
  refine c_rim hX hL hi hv ?_
  exact ag_rim hv
theorem w_isConvex (hX : X 0 = some (L, xs)) (hL : L ≤ 3072) (hi : i + 5 < L) (hv : v_inv w) : rz_way X d 2352 i w := by
  refine c_isConvex hX hL hi hv ?_
  exact ag_isConvex hv
theorem w_grown (hX : X 0 = some (L, xs)) (hL : L ≤ 3072) (hi : i + 5 < L) (hv : v_inv w) : rz_way X d 2403 i w := by
  obtain ⟨p1, h1, e1⟩ := i_all (xs (i + 1))
  refine c_grown hX hL hi hv ?_
  rw [e1]
  exact ag_grown h1 hv
theorem w_terms (hX : X 0 = some (L, xs)) (hL : L ≤ 3072) (hi : i + 5 < L) (hv : v_inv w) : rz_way X d 2806 i w := by
  obtain ⟨p1, h1, e1⟩ := i_all (xs (i + 1))
  obtain ⟨p2, h2, e2⟩ := i_all (xs (i + 2))
  refine c_terms_ hX hL hi hv ?_
  rw [e1, e2]
  exact ag_terms h1 h2 hv
theorem w_termAt (hX : X 0 = some (L, xs)) (hL : L ≤ 3072) (hi : i + 5 < L) (hv : v_inv w) : rz_way X d 2874 i w := by
  obtain ⟨p1, h1, e1⟩ := i_all (xs (i + 1))
  obtain ⟨p2, h2, e2⟩ := i_all (xs (i + 2))
  obtain ⟨p3, h3, e3⟩ := i_all (xs (i + 3))
  refine c_termAt_ hX hL hi hv ?_
  rw [e1, e2, e3]
  exact ag_termAt h1 h2 h3 hv
theorem w_held (hv : v_inv w) : rz_way X d 3102 i w := c_held hv (ag_held hv).1 (ag_held hv).2
theorem w_checksum (hv : v_inv w) : rz_way X d 3115 i w := c_checksum hv (ag_checksum hv).1 (ag_checksum hv).2
end RZDN
