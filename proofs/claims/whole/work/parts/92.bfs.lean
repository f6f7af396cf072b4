/-! part 92: level 2: leaps: a search by breadth finds the least number of leaps, whatever its order -/
section RZLA
/-- a leap from one place of the square to another -/
def zb_N (a b q p : Nat) : Prop := p < 3721 ∧ ((((p / 61 : Nat) : Int) - ((q / 61 : Nat) : Int)).natAbs = a ∧ (((p % 61 : Nat) : Int) - ((q % 61 : Nat) : Int)).natAbs = b ∨ (((p / 61 : Nat) : Int) - ((q / 61 : Nat) : Int)).natAbs = b ∧ (((p % 61 : Nat) : Int) - ((q % 61 : Nat) : Int)).natAbs = a)
/-- the places that are reached by at most so many leaps -/
def zb_R (a b : Nat) : Nat → Nat → Prop
  | 0, p => p = 1860
  | k + 1, p => zb_R a b k p ∨ ∃ q, zb_R a b k q ∧ zb_N a b q p
/-- how many of the first n places have been come to -/
def zb_v (cnt : Nat → Int) : Nat → Nat
  | 0 => 0
  | n + 1 => zb_v cnt n + if 0 ≤ cnt n then 1 else 0
def zb_u {α : Type} (f : Nat → α) (k : Nat) (x : α) (j : Nat) : α := if j = k then x else f j
/-- the search: its counts, its row, how long the row is, how much of it is done -/
def zb_B (a b : Nat) (cnt : Nat → Int) (q : Nat → Nat) (m h : Nat) : Prop :=
  (∀ j, j < m → q j < 3721 ∧ 0 ≤ cnt (q j) ∧ cnt (q j) ≤ j) ∧ (∀ p, p < 3721 → 0 ≤ cnt p → ∃ j, j < m ∧ q j = p) ∧ (∀ i j, i ≤ j → j < m → cnt (q i) ≤ cnt (q j)) ∧ (h < m → ∀ j, j < m → cnt (q j) ≤ cnt (q h) + 1) ∧ (∀ i, i < h → ∀ p, zb_N a b (q i) p → 0 ≤ cnt p ∧ cnt p ≤ cnt (q i) + 1) ∧ (∀ p, p < 3721 → 0 ≤ cnt p → zb_R a b (cnt p).toNat p) ∧ cnt 1860 = 0 ∧ zb_v cnt 3721 = m ∧ (∀ p, p < 3721 → -1 ≤ cnt p) ∧ h ≤ m
theorem zb_v_u {cnt : Nat → Int} {p : Nat} {c : Int} (hp : cnt p < 0) (hc : 0 ≤ c) : ∀ n, zb_v (zb_u cnt p c) n = zb_v cnt n + if p < n then 1 else 0 := by
  intro n
  induction n with
  | zero => rfl
  | succ n ih =>
    unfold zb_v
    rw [ih]
    unfold zb_u
    by_cases h : n = p
    · subst h
      rw [if_pos rfl, if_pos hc, if_neg (Nat.lt_irrefl _), if_neg (show ¬ 0 ≤ cnt n by omega), if_pos (Nat.lt_succ_self _)]
    · rw [if_neg h]
      by_cases h2 : p < n
      · rw [if_pos h2, if_pos (show p < n + 1 by omega)]
        omega
      · rw [if_neg h2, if_neg (show ¬ p < n + 1 by omega)]
        omega
theorem zb_v_le (cnt : Nat → Int) : ∀ n, zb_v cnt n ≤ n := by
  intro n
  induction n with
  | zero => exact Nat.le_refl _
  | succ n ih => unfold zb_v; split <;> omega
theorem zb_v_lt {cnt : Nat → Int} {p : Nat} (hp : cnt p < 0) : ∀ n, p < n → zb_v cnt n < n := by
  intro n
  induction n with
  | zero => intro h; omega
  | succ n ih =>
    intro h
    unfold zb_v
    by_cases h2 : n = p
    · subst h2
      rw [if_neg (by omega)]
      have := zb_v_le cnt n
      omega
    · have := ih (by omega)
      split <;> omega
theorem zb_R_mono {a b : Nat} {p : Nat} {k : Nat} (n : Nat) : zb_R a b k p → zb_R a b (k + n) p := by
  intro h
  induction n with
  | zero => exact h
  | succ n ih => exact .inl ih
theorem zb_come {a b : Nat} {cnt : Nat → Int} {q : Nat → Nat} {m h p : Nat} (hB : zb_B a b cnt q m h) (hm : h < m) (hp : p < 3721) (hN : zb_N a b (q h) p) (hc : cnt p < 0) : m < 3721 ∧ zb_B a b (zb_u cnt p (cnt (q h) + 1)) (zb_u q m p) (m + 1) h ∧ zb_u cnt p (cnt (q h) + 1) (zb_u q m p h) = cnt (q h) := by
  obtain ⟨b1, b2, b3, b4, b5, b6, b7, b8, b9, b10⟩ := hB
  have hne : ∀ j, j < m → q j ≠ p := fun j hj e => by have := (b1 j hj).2.1; rw [e] at this; omega
  have hq0 := b1 h hm
  have e1 : ∀ j, j < m → zb_u q m p j = q j := fun j hj => if_neg (by omega)
  have e2 : zb_u q m p m = p := if_pos rfl
  have e3 : ∀ x, x ≠ p → zb_u cnt p (cnt (q h) + 1) x = cnt x := fun x hx => if_neg hx
  have e4 : zb_u cnt p (cnt (q h) + 1) p = cnt (q h) + 1 := if_pos rfl
  have e5 : ∀ j, j < m → zb_u cnt p (cnt (q h) + 1) (zb_u q m p j) = cnt (q j) := fun j hj => by rw [e1 j hj, e3 _ (hne j hj)]
  have e6 : zb_u cnt p (cnt (q h) + 1) (zb_u q m p m) = cnt (q h) + 1 := by rw [e2, e4]
  have hv := zb_v_lt hc 3721 hp
  have h1860 : (1860 : Nat) ≠ p := fun e => by rw [← e, b7] at hc; omega
  refine ⟨by omega, ⟨?_, ?_, ?_, ?_, ?_, ?_, ?_, ?_, ?_, by omega⟩, e5 h hm⟩
  · intro j hj
    rcases Nat.lt_or_ge j m with hj' | hj'
    · rw [e5 j hj', e1 j hj']
      exact b1 j hj'
    · obtain rfl : j = m := by omega
      rw [e6, e2]
      exact ⟨hp, by omega, by omega⟩
  · intro x hx hx0
    by_cases hxp : x = p
    · exact ⟨m, by omega, by rw [e2, hxp]⟩
    · rw [e3 x hxp] at hx0
      obtain ⟨j, hj, e⟩ := b2 x hx hx0
      exact ⟨j, by omega, by rw [e1 j hj, e]⟩
  · intro i j hij hj
    rcases Nat.lt_or_ge j m with hj' | hj'
    · rw [e5 j hj', e5 i (by omega)]
      exact b3 i j hij hj'
    · obtain rfl : j = m := by omega
      rw [e6]
      rcases Nat.lt_or_ge i j with hi' | hi'
      · rw [e5 i hi']
        exact b4 hm i hi'
      · obtain rfl : i = j := by omega
        rw [e6]
        omega
  · intro _ j hj
    rw [e5 h hm]
    rcases Nat.lt_or_ge j m with hj' | hj'
    · rw [e5 j hj']
      exact b4 hm j hj'
    · obtain rfl : j = m := by omega
      rw [e6]
      omega
  · intro i hi x hx
    rw [e5 i (by omega)]
    rw [e1 i (by omega)] at hx
    have := b5 i hi x hx
    rw [e3 x (fun e => by rw [e] at this; omega)]
    exact this
  · intro x hx hx0
    by_cases hxp : x = p
    · subst hxp
      rw [e4]
      have h6 := b6 (q h) hq0.1 hq0.2.1
      rw [show (cnt (q h) + 1).toNat = (cnt (q h)).toNat + 1 by omega]
      exact .inr ⟨q h, h6, hN⟩
    · rw [e3 x hxp] at hx0 ⊢
      exact b6 x hx hx0
  · rw [e3 _ h1860, b7]
  · rw [zb_v_u hc (by omega), if_pos hp, b8]
  · intro x hx
    by_cases hxp : x = p
    · rw [hxp, e4]; omega
    · rw [e3 x hxp]; exact b9 x hx
theorem zb_next {a b : Nat} {cnt : Nat → Int} {q : Nat → Nat} {m h : Nat} (hB : zb_B a b cnt q m h) (hm : h < m) (hd : ∀ p, zb_N a b (q h) p → 0 ≤ cnt p ∧ cnt p ≤ cnt (q h) + 1) : zb_B a b cnt q m (h + 1) := by
  obtain ⟨b1, b2, b3, b4, b5, b6, b7, b8, b9, b10⟩ := hB
  refine ⟨b1, b2, b3, ?_, ?_, b6, b7, b8, b9, by omega⟩
  · intro hm' j hj
    have := b4 hm j hj
    have := b3 h (h + 1) (by omega) hm'
    omega
  · intro i hi p hp
    rcases Nat.lt_or_ge i h with hi' | hi'
    · exact b5 i hi' p hp
    · obtain rfl : i = h := by omega
      exact hd p hp
theorem zb_reach {a b : Nat} {cnt : Nat → Int} {q : Nat → Nat} {m h : Nat} (hB : zb_B a b cnt q m h) (hab : ∀ k p, zb_R a b k p → p < 3721) : ∀ k p, zb_R a b k p → (0 ≤ cnt p ∧ cnt p ≤ k) ∨ (h < m ∧ cnt (q h) < k) := by
  obtain ⟨b1, b2, b3, b4, b5, b6, b7, b8, b9, b10⟩ := hB
  intro k
  induction k with
  | zero => intro p hp; obtain rfl : p = 1860 := hp; left; omega
  | succ k ih =>
    intro p hp
    rcases hp with hp | ⟨x, hx, hN⟩
    · rcases ih p hp with h1 | h1
      · left; omega
      · right; omega
    · rcases ih x hx with h1 | h1
      · obtain ⟨j, hj, e⟩ := b2 x (hab k x hx) h1.1
        rcases Nat.lt_or_ge j h with h2 | h2
        · left
          have := b5 j h2 p (by rw [e]; exact hN)
          rw [e] at this
          omega
        · right
          have := b3 h j h2 hj
          rw [e] at this
          omega
      · right; omega
theorem zb_lt {a b : Nat} : ∀ k p, zb_R a b k p → p < 3721 := by
  intro k
  induction k with
  | zero => intro p hp; obtain rfl : p = 1860 := hp; omega
  | succ k ih =>
    intro p hp
    rcases hp with hp | ⟨x, hx, hN⟩
    · exact ih p hp
    · exact hN.1
/-- what is come to has its least number of leaps -/
theorem zb_is {a b : Nat} {cnt : Nat → Int} {q : Nat → Nat} {m h p : Nat} (hB : zb_B a b cnt q m h) (hp : p < 3721) (hc : 0 ≤ cnt p) : zb_R a b (cnt p).toNat p ∧ ∀ k, zb_R a b k p → cnt p ≤ k := by
  have hr := zb_reach hB zb_lt
  obtain ⟨b1, b2, b3, b4, b5, b6, b7, b8, b9, b10⟩ := hB
  refine ⟨b6 p hp hc, fun k hk => ?_⟩
  rcases hr k p hk with h1 | h1
  · exact h1.2
  · obtain ⟨j, hj, e⟩ := b2 p hp hc
    have := b4 h1.1 j hj
    rw [e] at this
    omega
theorem zb_end {a b : Nat} {cnt : Nat → Int} {q : Nat → Nat} {m p : Nat} (hB : zb_B a b cnt q m m) (hc : cnt p < 0) : ∀ k, ¬ zb_R a b k p := by
  intro k hk
  rcases zb_reach hB zb_lt k p hk with h1 | h1
  · omega
  · omega
theorem zb_start {a b : Nat} : zb_B a b (zb_u (fun _ => -1) 1860 0) (fun _ => 1860) 1 0 := by
  have hv : zb_v (zb_u (fun _ => (-1 : Int)) 1860 0) 3721 = 1 := by
    rw [zb_v_u (cnt := fun _ => -1) (by omega) (by omega)]
    have : ∀ n, zb_v (fun _ => (-1 : Int)) n = 0 := by
      intro n
      induction n with
      | zero => rfl
      | succ n ih => unfold zb_v; rw [ih, if_neg (by omega)]
    rw [this, if_pos (by omega)]
  have e0 : zb_u (fun _ => (-1 : Int)) 1860 0 1860 = 0 := if_pos rfl
  have e1 : ∀ p, zb_u (fun _ => (-1 : Int)) 1860 0 p = if p = 1860 then 0 else -1 := fun p => rfl
  refine ⟨?_, ?_, ?_, ?_, ?_, ?_, e0, hv, ?_, by omega⟩
  · intro j hj
    have : (fun _ => 1860 : Nat → Nat) j = 1860 := rfl
    rw [e0]; omega
  · intro p hp h
    rw [e1] at h
    by_cases hx : p = 1860
    · exact ⟨0, by omega, hx.symm⟩
    · rw [if_neg hx] at h; omega
  · intro i j _ _; rw [e0]; omega
  · intro _ j _; rw [e0]; omega
  · intro i hi; omega
  · intro p hp h
    rw [e1] at h ⊢
    by_cases hx : p = 1860
    · rw [if_pos hx]; exact hx
    · rw [if_neg hx] at h; omega
  · intro p hp
    rw [e1]
    split <;> omega
end RZLA
