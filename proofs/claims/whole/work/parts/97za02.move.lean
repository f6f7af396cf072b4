/-! part 97za02: simple polygons: move -/
section RZG02
/-- twice the area of three places -/
def gm_X (a b c : Int × Int) : Int := (b.1 - a.1) * (c.2 - a.2) - (b.2 - a.2) * (c.1 - a.1)
/-- a side as the way to the right of a place meets it -/
def gm_cr (z p q : Int × Int) : Int := gm_k (p.2 - z.2) (q.2 - z.2) (gm_X p q z)
/-- a place, a little moved, is to the left of a line -/
abbrev gm_tp (p q z : Int × Int) : Prop := 0 < gm_X p q z ∨ (gm_X p q z = 0 ∧ (q.2 < p.2 ∨ (q.2 = p.2 ∧ p.1 < q.1)))
/-- a place is to the left of a move that is a little moved -/
abbrev gm_am (z w p : Int × Int) : Prop := 0 < gm_X z w p ∨ (gm_X z w p = 0 ∧ (z.2 < w.2 ∨ (z.2 = w.2 ∧ w.1 < z.1)))
def gm_g (z w p : Int × Int) : Int := (if z.2 < p.2 ∧ p.2 ≤ w.2 ∧ gm_X z w p < 0 then 1 else 0) - (if w.2 < p.2 ∧ p.2 ≤ z.2 ∧ 0 < gm_X z w p then 1 else 0)
def gm_J (z w p q : Int × Int) : Int := if (gm_am z w p ↔ gm_am z w q) then 0 else (if gm_tp p q z then 1 else 0) - (if gm_tp p q w then 1 else 0)
theorem gm_Xswap (z w p : Int × Int) : gm_X w z p = - gm_X z w p := by unfold gm_X; grind
theorem gm_ifc {P Q : Prop} [Decidable P] [Decidable Q] (h : P ↔ Q) (a b : Int) : (if P then a else b) = (if Q then a else b) := by
  by_cases hP : P
  · rw [if_pos hP, if_pos (h.mp hP)]
  · rw [if_neg hP, if_neg (fun hq => hP (h.mpr hq))]
theorem gm_mj_up {z w p q : Int × Int} (ht : z.2 < w.2) : gm_cr z p q - gm_cr w p q = gm_g z w q - gm_g z w p + gm_J z w p q := by
  obtain ⟨zx, zy⟩ := z
  obtain ⟨wx, wy⟩ := w
  obtain ⟨px, py⟩ := p
  obtain ⟨qx, qy⟩ := q
  have c := gm_core (u := py - zy) (v := qy - zy) (t := wy - zy) (a := gm_X (zx, zy) (wx, wy) (px, py)) (b := gm_X (zx, zy) (wx, wy) (qx, qy)) (T := gm_X (px, py) (qx, qy) (zx, zy)) (T' := gm_X (px, py) (qx, qy) (wx, wy)) (p := px) (q := qx) (by simp only at ht; omega) (by unfold gm_X; grind) (by unfold gm_X; grind) (by unfold gm_X; grind) ?_
  · unfold gm_cr gm_g gm_J gm_am gm_tp
    simp only at ht ⊢
    have e1 : py - zy - (wy - zy) = py - wy := by omega
    have e2 : qy - zy - (wy - zy) = qy - wy := by omega
    rw [e1, e2] at c
    rw [c]
    generalize gm_X (zx, zy) (wx, wy) (px, py) = a
    generalize gm_X (zx, zy) (wx, wy) (qx, qy) = b
    generalize gm_X (px, py) (qx, qy) (zx, zy) = T
    generalize gm_X (px, py) (qx, qy) (wx, wy) = T'
    rw [gm_ifc (show (0 < qy - zy ∧ qy - zy ≤ wy - zy ∧ b < 0) ↔ (zy < qy ∧ qy ≤ wy ∧ b < 0) by omega), gm_ifc (show (0 < py - zy ∧ py - zy ≤ wy - zy ∧ a < 0) ↔ (zy < py ∧ py ≤ wy ∧ a < 0) by omega)]
    rw [gm_ifc (show (0 ≤ a ↔ 0 ≤ b) ↔ ((0 < a ∨ a = 0 ∧ (zy < wy ∨ zy = wy ∧ wx < zx)) ↔ (0 < b ∨ b = 0 ∧ (zy < wy ∨ zy = wy ∧ wx < zx))) by omega)]
    rw [gm_ifc (show (0 < T ∨ T = 0 ∧ (qy - zy < py - zy ∨ qy - zy = py - zy ∧ px < qx)) ↔ (0 < T ∨ T = 0 ∧ (qy < py ∨ qy = py ∧ px < qx)) by omega), gm_ifc (show (0 < T' ∨ T' = 0 ∧ (qy - zy < py - zy ∨ qy - zy = py - zy ∧ px < qx)) ↔ (0 < T' ∨ T' = 0 ∧ (qy < py ∨ qy = py ∧ px < qx)) by omega)]
    rw [if_neg (show ¬ (wy < qy ∧ qy ≤ zy ∧ 0 < b) by omega), if_neg (show ¬ (wy < py ∧ py ≤ zy ∧ 0 < a) by omega)]
    omega
  · intro hv
    have hv' : qy = py := by omega
    subst hv'
    simp only at ht
    have e : gm_X (zx, zy) (wx, wy) (px, qy) - gm_X (zx, zy) (wx, wy) (qx, qy) = (wy - zy) * (qx - px) := by unfold gm_X; grind
    have s := gm_sgt (t := wy - zy) (by omega) (qx - px)
    omega
theorem gm_swap_g (z w p : Int × Int) : gm_g w z p = - gm_g z w p := by
  unfold gm_g
  rw [gm_Xswap z w p, gm_ifc (show (w.2 < p.2 ∧ p.2 ≤ z.2 ∧ - gm_X z w p < 0) ↔ (w.2 < p.2 ∧ p.2 ≤ z.2 ∧ 0 < gm_X z w p) by omega), gm_ifc (show (z.2 < p.2 ∧ p.2 ≤ w.2 ∧ 0 < - gm_X z w p) ↔ (z.2 < p.2 ∧ p.2 ≤ w.2 ∧ gm_X z w p < 0) by omega)]
  omega
theorem gm_swap_J {z w p q : Int × Int} (h : z.2 ≠ w.2) : gm_J w z p q = - gm_J z w p q := by
  unfold gm_J
  have h1 : gm_am w z p ↔ ¬ gm_am z w p := by
    unfold gm_am
    rw [gm_Xswap z w p]; omega
  have h2 : gm_am w z q ↔ ¬ gm_am z w q := by
    unfold gm_am
    rw [gm_Xswap z w q]; omega
  rw [gm_ifc (show (gm_am w z p ↔ gm_am w z q) ↔ (gm_am z w p ↔ gm_am z w q) by rw [h1, h2]; exact Decidable.not_iff_not)]
  split <;> omega
theorem gm_mj_flat {z w p q : Int × Int} (ht : z.2 = w.2) : gm_cr z p q - gm_cr w p q = gm_g z w q - gm_g z w p + gm_J z w p q := by
  obtain ⟨zx, zy⟩ := z
  obtain ⟨wx, wy⟩ := w
  obtain ⟨px, py⟩ := p
  obtain ⟨qx, qy⟩ := q
  simp only at ht
  subst ht
  have ea : gm_X (zx, zy) (wx, zy) (px, py) = (wx - zx) * (py - zy) := by unfold gm_X; grind
  have eb : gm_X (zx, zy) (wx, zy) (qx, qy) = (wx - zx) * (qy - zy) := by unfold gm_X; grind
  have e0 : gm_X (px, py) (qx, qy) (wx, zy) = gm_X (px, py) (qx, qy) (zx, zy) + gm_X (zx, zy) (wx, zy) (px, py) - gm_X (zx, zy) (wx, zy) (qx, qy) := by unfold gm_X; grind
  unfold gm_cr gm_g gm_J gm_am gm_tp
  simp only
  rw [if_neg (show ¬ (zy < qy ∧ qy ≤ zy ∧ gm_X (zx, zy) (wx, zy) (qx, qy) < 0) by omega), if_neg (show ¬ (zy < qy ∧ qy ≤ zy ∧ 0 < gm_X (zx, zy) (wx, zy) (qx, qy)) by omega), if_neg (show ¬ (zy < py ∧ py ≤ zy ∧ gm_X (zx, zy) (wx, zy) (px, py) < 0) by omega), if_neg (show ¬ (zy < py ∧ py ≤ zy ∧ 0 < gm_X (zx, zy) (wx, zy) (px, py)) by omega)]
  generalize gm_X (px, py) (qx, qy) (zx, zy) = T at *
  generalize gm_X (px, py) (qx, qy) (wx, zy) = T' at *
  generalize gm_X (zx, zy) (wx, zy) (px, py) = a at *
  generalize gm_X (zx, zy) (wx, zy) (qx, qy) = b at *
  rcases Int.lt_trichotomy zx wx with h | h | h
  · have s1 := gm_sgt (t := wx - zx) (by omega) (py - zy)
    have s2 := gm_sgt (t := wx - zx) (by omega) (qy - zy)
    rw [← ea] at s1
    rw [← eb] at s2
    clear ea eb
    unfold gm_k
    split <;> split <;> repeat' split
    all_goals omega
  · subst h
    have ea' : a = 0 := by rw [ea]; simp
    have eb' : b = 0 := by rw [eb]; simp
    have : T' = T := by omega
    rw [this, ea', eb']
    simp
  · have s1 := gm_sgt (t := zx - wx) (by omega) (py - zy)
    have s2 := gm_sgt (t := zx - wx) (by omega) (qy - zy)
    have ea' : (zx - wx) * (py - zy) = - a := by rw [ea]; grind
    have eb' : (zx - wx) * (qy - zy) = - b := by rw [eb]; grind
    rw [ea'] at s1
    rw [eb'] at s2
    clear ea eb ea' eb'
    unfold gm_k
    simp only [Int.lt_irrefl, true_and, false_or]
    split <;> split <;> repeat' split
    all_goals omega
theorem gm_mj (z w p q : Int × Int) : gm_cr z p q - gm_cr w p q = gm_g z w q - gm_g z w p + gm_J z w p q := by
  rcases Int.lt_trichotomy z.2 w.2 with h | h | h
  · exact gm_mj_up h
  · exact gm_mj_flat h
  · have := gm_mj_up (z := w) (w := z) (p := p) (q := q) h
    rw [gm_swap_g z w q, gm_swap_g z w p, gm_swap_J (by omega)] at this
    omega
end RZG02
