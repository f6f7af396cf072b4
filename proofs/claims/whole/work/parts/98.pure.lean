/-! part 98: the pure statement -/
theorem rz_pure : rz_PURE := sorry
