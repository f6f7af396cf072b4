/-! part 36: level 2: a tableswitch -/
section RZSW
variable {X : rz_X} {d : Nat} {M : rz_M} {pc len : Nat} {loc : rz_L} {r : List Value} {w : rz_W} {nc ns : Nat}
theorem g_sw {dd lo hi o : Int} {offs : Array Int} {x : Int32} (h1 : rz_look M.2.2.2.2.2.2.1 pc = none) (h2 : rz_look M.2.2.2.2.2.1 pc = some (.tableswitch dd lo hi offs, len)) (hx : ¬ (x.toInt < lo ∨ hi < x.toInt)) (ho : offs[(x.toInt - lo).toNat]? = some o) : rz_G X d M pc loc (.int x :: r) w nc ns = rz_G X d M ((pc : Int) + o).toNat loc r w nc ns := by
  refine g_inl ?_
  obtain ⟨y, b, ml, rt, oc, code, tx, hd, hh⟩ := M
  simp only [rz_step] at h1 h2 ⊢
  rw [h1, h2]
  dsimp only [rz_op, rz_br, rz_ld, rz_st]
  rw [if_neg hx, ho]
theorem g_swd {dd lo hi : Int} {offs : Array Int} {x : Int32} (h1 : rz_look M.2.2.2.2.2.2.1 pc = none) (h2 : rz_look M.2.2.2.2.2.1 pc = some (.tableswitch dd lo hi offs, len)) (hx : x.toInt < lo ∨ hi < x.toInt) : rz_G X d M pc loc (.int x :: r) w nc ns = rz_G X d M ((pc : Int) + dd).toNat loc r w nc ns := by
  refine g_inl ?_
  obtain ⟨y, b, ml, rt, oc, code, tx, hd, hh⟩ := M
  simp only [rz_step] at h1 h2 ⊢
  rw [h1, h2]
  dsimp only [rz_op, rz_br, rz_ld, rz_st]
  rw [if_pos hx]
end RZSW
