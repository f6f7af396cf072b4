/-! part 97zz: level 2: the other cases, and the pure statement -/
section RZDZ
variable {X : rz_X} {d : Nat} {w : rz_W} {L i : Nat} {xs : Nat → Int32}
theorem w_meet (hX : X 0 = some (L, xs)) (hL : L ≤ 3072) (hi : i + 5 < L) (hv : v_inv w) : rz_way X d 872 i w := by
  obtain ⟨p1, h1, e1⟩ := i_all (xs (i + 1))
  obtain ⟨p2, h2, e2⟩ := i_all (xs (i + 2))
  obtain ⟨p3, h3, e3⟩ := i_all (xs (i + 3))
  refine c_meet hX hL hi hv ?_
  rw [e1, e2, e3]
  exact ag_meet h1 h2 h3 hv
theorem w_stepX (hX : X 0 = some (L, xs)) (hL : L ≤ 3072) (hi : i + 5 < L) (hv : v_inv w) : rz_way X d 1076 i w := by
  obtain ⟨p1, h1, e1⟩ := i_all (xs (i + 1))
  obtain ⟨p2, h2, e2⟩ := i_all (xs (i + 2))
  refine c_stepX hX hL hi hv ?_
  rw [e1, e2]
  exact ag_stepX h1 h2 hv
theorem w_stepY (hX : X 0 = some (L, xs)) (hL : L ≤ 3072) (hi : i + 5 < L) (hv : v_inv w) : rz_way X d 1144 i w := by
  obtain ⟨p1, h1, e1⟩ := i_all (xs (i + 1))
  obtain ⟨p2, h2, e2⟩ := i_all (xs (i + 2))
  refine c_stepY hX hL hi hv ?_
  rw [e1, e2]
  exact ag_stepY h1 h2 hv
theorem w_second (hX : X 0 = some (L, xs)) (hL : L ≤ 3072) (hi : i + 5 < L) (hv : v_inv w) : rz_way X d 1212 i w := by
  obtain ⟨p1, h1, e1⟩ := i_all (xs (i + 1))
  refine c_second hX hL hi hv ?_
  rw [e1]
  exact ag_second h1 hv
theorem w_steps (hX : X 0 = some (L, xs)) (hL : L ≤ 3072) (hi : i + 5 < L) (hv : v_inv w) : rz_way X d 1268 i w := by
  obtain ⟨p1, h1, e1⟩ := i_all (xs (i + 1))
  obtain ⟨p2, h2, e2⟩ := i_all (xs (i + 2))
  refine c_steps hX hL hi hv ?_
  rw [e1, e2]
  exact ag_steps h1 h2 hv
theorem w_nearX (hX : X 0 = some (L, xs)) (hL : L ≤ 3072) (hi : i + 5 < L) (hv : v_inv w) : rz_way X d 1336 i w := by
  obtain ⟨p1, h1, e1⟩ := i_all (xs (i + 1))
  obtain ⟨p2, h2, e2⟩ := i_all (xs (i + 2))
  obtain ⟨p3, h3, e3⟩ := i_all (xs (i + 3))
  refine c_nearX hX hL hi hv ?_
  rw [e1, e2, e3]
  exact ag_nearX h1 h2 h3 hv
theorem w_nearY (hX : X 0 = some (L, xs)) (hL : L ≤ 3072) (hi : i + 5 < L) (hv : v_inv w) : rz_way X d 1416 i w := by
  obtain ⟨p1, h1, e1⟩ := i_all (xs (i + 1))
  obtain ⟨p2, h2, e2⟩ := i_all (xs (i + 2))
  obtain ⟨p3, h3, e3⟩ := i_all (xs (i + 3))
  refine c_nearY hX hL hi hv ?_
  rw [e1, e2, e3]
  exact ag_nearY h1 h2 h3 hv
theorem w_corners (hX : X 0 = some (L, xs)) (hL : L ≤ 3072) (hi : i + 5 < L) (hv : v_inv w) : rz_way X d 1496 i w := by
  obtain ⟨p1, h1, e1⟩ := i_all (xs (i + 1))
  refine c_corners hX hL hi hv ?_
  rw [e1]
  exact ag_corners h1 hv
theorem w_tellCorner (hX : X 0 = some (L, xs)) (hL : L ≤ 3072) (hi : i + 5 < L) (hv : v_inv w) : rz_way X d 1552 i w := by
  obtain ⟨p1, h1, e1⟩ := i_all (xs (i + 1))
  obtain ⟨p2, h2, e2⟩ := i_all (xs (i + 2))
  refine c_tellCorner hX hL hi hv ?_
  rw [e1, e2]
  by_cases hz : xs (i + 3) = Int32.ofInt 0
  · rw [if_pos hz]
    exact ag_tellCorner (.inl rfl) h1 h2 hv
  · rw [if_neg hz]
    exact ag_tellCorner (.inr rfl) h1 h2 hv
theorem w_close (hX : X 0 = some (L, xs)) (hL : L ≤ 3072) (hi : i + 5 < L) (hv : v_inv w) : rz_way X d 2152 i w := by
  refine c_close hX hL hi hv ?_
  exact ag_close hv
theorem w_within (hX : X 0 = some (L, xs)) (hL : L ≤ 3072) (hi : i + 5 < L) (hv : v_inv w) : rz_way X d 2240 i w := by
  refine c_within hX hL hi hv ?_
  exact ag_within_of gm_hP hv
theorem w_where (hX : X 0 = some (L, xs)) (hL : L ≤ 3072) (hi : i + 5 < L) (hv : v_inv w) : rz_way X d 2284 i w := by
  obtain ⟨p1, h1, e1⟩ := i_all (xs (i + 1))
  obtain ⟨p2, h2, e2⟩ := i_all (xs (i + 2))
  refine c_where hX hL hi hv ?_
  rw [e1, e2]
  exact ag_where h1 h2 hv
theorem w_triangleAt (hX : X 0 = some (L, xs)) (hL : L ≤ 3072) (hi : i + 5 < L) (hv : v_inv w) : rz_way X d 2459 i w := by
  obtain ⟨p1, h1, e1⟩ := i_all (xs (i + 1))
  obtain ⟨p2, h2, e2⟩ := i_all (xs (i + 2))
  refine c_triangleAt hX hL hi hv ?_
  rw [e1, e2]
  exact ag_triangleAt_of gm_hT h1 h2 hv
theorem w_tiles (hX : X 0 = some (L, xs)) (hL : L ≤ 3072) (hi : i + 5 < L) (hv : v_inv w) : rz_way X d 2527 i w := by
  obtain ⟨p1, h1, e1⟩ := i_all (xs (i + 1))
  refine c_tiles hX hL hi hv ?_
  rw [e1]
  exact ag_tiles_of gm_hB h1 hv
theorem w_seen (hX : X 0 = some (L, xs)) (hL : L ≤ 3072) (hi : i + 5 < L) (hv : v_inv w) : rz_way X d 2590 i w := by
  obtain ⟨p1, h1, e1⟩ := i_all (xs (i + 1))
  refine c_seen hX hL hi hv ?_
  rw [e1]
  exact ag_seen h1 hv
theorem w_seenAt (hX : X 0 = some (L, xs)) (hL : L ≤ 3072) (hi : i + 5 < L) (hv : v_inv w) : rz_way X d 2646 i w := by
  obtain ⟨p1, h1, e1⟩ := i_all (xs (i + 1))
  obtain ⟨p2, h2, e2⟩ := i_all (xs (i + 2))
  refine c_seenAt hX hL hi hv ?_
  rw [e1, e2]
  exact ag_seenAt h1 h2 hv
theorem w_leaps {f g : Nat → Int32} (hX1 : X 1 = some (4, f)) (hX2 : X 2 = some (4, g)) (hf : f 0 = Int32.ofInt 1 ∧ f 1 = Int32.ofInt 1 ∧ f 2 = Int32.ofInt (-1) ∧ f 3 = Int32.ofInt (-1)) (hg : g 0 = Int32.ofInt 1 ∧ g 1 = Int32.ofInt (-1) ∧ g 2 = Int32.ofInt 1 ∧ g 3 = Int32.ofInt (-1)) (hX : X 0 = some (L, xs)) (hL : L ≤ 3072) (hi : i + 5 < L) (hv : v_inv w) : rz_way X d 2714 i w := by
  obtain ⟨p1, h1, e1⟩ := i_all (xs (i + 1))
  obtain ⟨p2, h2, e2⟩ := i_all (xs (i + 2))
  obtain ⟨p3, h3, e3⟩ := i_all (xs (i + 3))
  obtain ⟨p4, h4, e4⟩ := i_all (xs (i + 4))
  refine c_leaps hX hL hi hv ?_
  rw [e1, e2, e3, e4]
  exact ag_leaps hX1 hX2 hf hg h1 h2 h3 h4 hv
theorem w_hull (hX : X 0 = some (L, xs)) (hL : L ≤ 3072) (hi : i + 5 < L) (hv : v_inv w) : rz_way X d 2954 i w := by
  obtain ⟨p1, h1, e1⟩ := i_all (xs (i + 1))
  obtain ⟨p2, h2, e2⟩ := i_all (xs (i + 2))
  refine c_hull hX hL hi hv ?_
  rw [e1, e2]
  exact ag_hull h1 h2 hv
theorem w_hullAt (hX : X 0 = some (L, xs)) (hL : L ≤ 3072) (hi : i + 5 < L) (hv : v_inv w) : rz_way X d 3022 i w := by
  obtain ⟨p1, h1, e1⟩ := i_all (xs (i + 1))
  obtain ⟨p2, h2, e2⟩ := i_all (xs (i + 2))
  obtain ⟨p3, h3, e3⟩ := i_all (xs (i + 3))
  refine c_hullAt hX hL hi hv ?_
  rw [e1, e2, e3]
  exact ag_hullAt h1 h2 h3 hv
theorem w_isSound (hv : v_inv w) : rz_way X d 3129 i w := c_isSound hv (ag_isSound hv).1 (ag_isSound hv).2
theorem rz_pure : rz_PURE := by
  refine rz_pure_of (fun L xs i w hL hi hv pc hpc => ?_)
  simp only [rz_cs, List.mem_cons, List.not_mem_nil, or_false] at hpc
  rcases hpc with rfl | rfl | rfl | rfl | rfl | rfl | rfl | rfl | rfl | rfl | rfl | rfl | rfl | rfl | rfl | rfl | rfl | rfl | rfl | rfl | rfl | rfl | rfl | rfl | rfl | rfl | rfl | rfl | rfl | rfl | rfl | rfl | rfl | rfl | rfl | rfl | rfl | rfl | rfl | rfl | rfl | rfl | rfl | rfl | rfl | rfl
  · exact w_spanned rfl hL hi hv
  · exact w_remainder rfl hL hi hv
  · exact w_nth rfl hL hi hv
  · exact w_grids rfl hL hi hv
  · exact w_form rfl hL hi hv
  · exact w_has rfl hL hi hv
  · exact w_isSame rfl hL hi hv
  · exact w_parts rfl hL hi hv
  · exact w_meet rfl hL hi hv
  · exact w_join rfl hL hi hv
  · exact w_undo rfl hL hi hv
  · exact w_stepX rfl hL hi hv
  · exact w_stepY rfl hL hi hv
  · exact w_second rfl hL hi hv
  · exact w_steps rfl hL hi hv
  · exact w_nearX rfl hL hi hv
  · exact w_nearY rfl hL hi hv
  · exact w_corners rfl hL hi hv
  · exact w_tellCorner rfl hL hi hv
  · exact w_signAt rfl hL hi hv
  · exact w_coins rfl hL hi hv
  · exact w_lacks rfl hL hi hv
  · exact w_lackAt rfl hL hi hv
  · exact w_canMake rfl hL hi hv
  · exact w_fewest rfl hL hi hv
  · exact w_ways rfl hL hi hv
  · exact w_corner rfl hL hi hv
  · exact w_clear hv
  · exact w_close rfl hL hi hv
  · exact w_rim rfl hL hi hv
  · exact w_within rfl hL hi hv
  · exact w_where rfl hL hi hv
  · exact w_isConvex rfl hL hi hv
  · exact w_grown rfl hL hi hv
  · exact w_triangleAt rfl hL hi hv
  · exact w_tiles rfl hL hi hv
  · exact w_seen rfl hL hi hv
  · exact w_seenAt rfl hL hi hv
  · exact w_leaps rfl rfl ⟨rfl, rfl, rfl, rfl⟩ ⟨rfl, rfl, rfl, rfl⟩ rfl hL hi hv
  · exact w_terms rfl hL hi hv
  · exact w_termAt rfl hL hi hv
  · exact w_hull rfl hL hi hv
  · exact w_hullAt rfl hL hi hv
  · exact w_held hv
  · exact w_checksum hv
  · exact w_isSound hv
end RZDZ
