/-! part 21a: level 2: a long code in pieces, so that looking up is short -/
theorem rz_look_skip {α : Type} {A B : List (Nat × α)} {lo pc : Nat} (h : A.all (fun q => Nat.blt q.1 lo) = true) (h2 : lo ≤ pc) : rz_look (A ++ B) pc = rz_look B pc := by
  induction A with
  | nil => rfl
  | cons q t ih =>
    simp only [List.all_cons, Bool.and_eq_true] at h
    have h1 : q.1 < lo := by simpa [Nat.blt_eq] using h.1
    have h3 : Nat.beq q.1 pc = false := by
      rw [Bool.eq_false_iff]
      intro e
      have := Nat.eq_of_beq_eq_true e
      omega
    show (bif Nat.beq q.1 pc then some q.2 else rz_look (t ++ B) pc) = rz_look B pc
    rw [h3]
    exact ih h.2
theorem rz_look_fst {α : Type} {A B : List (Nat × α)} {pc : Nat} {z : α} (h : rz_look A pc = some z) : rz_look (A ++ B) pc = some z := by
  induction A with
  | nil => cases h
  | cons q t ih =>
    show (bif Nat.beq q.1 pc then some q.2 else rz_look (t ++ B) pc) = some z
    change (bif Nat.beq q.1 pc then some q.2 else rz_look t pc) = some z at h
    cases hq : Nat.beq q.1 pc with
    | true => rw [hq] at h; exact h
    | false => rw [hq] at h; exact ih h
theorem rz_look_cut {α : Type} {K C R : List (Nat × α)} {n lo pc : Nat} {z : α} (hA : (K.take n).all (fun q => Nat.blt q.1 lo) = true) (hC : K.drop n = C ++ R) (h : Nat.ble lo pc = true) (h2 : rz_look C pc = some z) : rz_look K pc = some z := by
  rw [← List.take_append_drop n K, rz_look_skip hA (Nat.le_of_ble_eq_true h), hC]
  exact rz_look_fst h2
