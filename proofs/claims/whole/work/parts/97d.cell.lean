/-! part 97d: level 2: the cell: two ways round give the same corners -/
section RZCE
/-- the point as far from 0, 0 as from two others, times twice the area -/
def zc_o (a b : Int × Int) : Int × Int := (zr_N a.1 a.2 * b.2 - zr_N b.1 b.2 * a.2, zr_N b.1 b.2 * a.1 - zr_N a.1 a.2 * b.1)
/-- the points around, against the hands of a clock -/
def zc_P6 (x y u v : Int) : Nat → Int × Int
  | 0 => (x, y)
  | 1 => (x + u, y + v)
  | 2 => (u, v)
  | 3 => (-x, -y)
  | 4 => (-x - u, -y - v)
  | _ => (-u, -v)
def zc_P4 (x y u v : Int) : Nat → Int × Int
  | 0 => (x, y)
  | 1 => (u, v)
  | 2 => (-x, -y)
  | _ => (-u, -v)
def zc_q6 (x y u v : Int) (k : Nat) : Int × Int := zc_o (zc_P6 x y u v k) (zc_P6 x y u v ((k + 1) % 6))
def zc_q4 (x y u v : Int) (k : Nat) : Int × Int := zc_o (zc_P4 x y u v k) (zc_P4 x y u v ((k + 1) % 4))
/-- one corner is further to the right, or as far and higher -/
abbrev zc_gt (a b : Int × Int) : Prop := b.1 < a.1 ∨ (a.1 = b.1 ∧ b.2 < a.2)
def zc_first (q : Nat → Int × Int) : Nat → Nat → Nat → Nat
  | 0, _, f => f
  | n + 1, k, f => zc_first q n (k + 1) (if zc_gt (q k) (q f) then k else f)
theorem zc_first_ok (q : Nat → Int × Int) (n : Nat) : ∀ k f, f < k → (∀ i, i < k → ¬ zc_gt (q i) (q f)) → zc_first q n k f < k + n ∧ ∀ i, i < k + n → ¬ zc_gt (q i) (q (zc_first q n k f)) := by
  induction n with
  | zero => intro k f h1 h2; exact ⟨h1, h2⟩
  | succ n ih =>
    intro k f h1 h2
    have e : k + (n + 1) = k + 1 + n := by omega
    rw [e]
    by_cases c : zc_gt (q k) (q f)
    · have e2 : zc_first q (n + 1) k f = zc_first q n (k + 1) k := by
        show zc_first q n (k + 1) (if zc_gt (q k) (q f) then k else f) = _
        rw [if_pos c]
      rw [e2]
      refine ih (k + 1) k (by omega) ?_
      intro i hi hc
      rcases Nat.lt_or_ge i k with h3 | h3
      · refine h2 i h3 ?_
        unfold zc_gt at *
        omega
      · obtain rfl : i = k := by omega
        unfold zc_gt at hc
        omega
    · have e2 : zc_first q (n + 1) k f = zc_first q n (k + 1) f := by
        show zc_first q n (k + 1) (if zc_gt (q k) (q f) then k else f) = _
        rw [if_neg c]
      rw [e2]
      refine ih (k + 1) f (by omega) ?_
      intro i hi
      rcases Nat.lt_or_ge i k with h3 | h3
      · exact h2 i h3
      · obtain rfl : i = k := by omega
        exact c
/-- a row and the same row turned on have the same corners from the first on -/
theorem zc_turned {q q' : Nat → Int × Int} {m s : Nat} (hm : m = 4 ∨ m = 6) (hinj : ∀ i j, i < m → j < m → q i = q j → i = j) (hs : ∀ k, k < m → q' k = q ((k + s) % m)) (n : Nat) : q' ((zc_first q' (m - 1) 1 0 + n) % m) = q ((zc_first q (m - 1) 1 0 + n) % m) := by
  obtain ⟨a1, a2⟩ := zc_first_ok q (m - 1) 1 0 (by omega) (fun i hi => by
    obtain rfl : i = 0 := by omega
    unfold zc_gt
    omega)
  obtain ⟨b1, b2⟩ := zc_first_ok q' (m - 1) 1 0 (by omega) (fun i hi => by
    obtain rfl : i = 0 := by omega
    unfold zc_gt
    omega)
  generalize zc_first q (m - 1) 1 0 = f at *
  generalize zc_first q' (m - 1) 1 0 = f' at *
  have hm1 : 1 + (m - 1) = m := by omega
  rw [hm1] at a1 a2 b1 b2
  have e1 := hs f' b1
  have h1 : (f' + s) % m < m := Nat.mod_lt _ (by omega)
  -- the place of the first in the turned row
  have hk : ∃ k, k < m ∧ (k + s) % m = f := by
    rcases hm with rfl | rfl
    · exact ⟨(f + (4 - s % 4)) % 4, by omega, by omega⟩
    · exact ⟨(f + (6 - s % 6)) % 6, by omega, by omega⟩
  obtain ⟨k, hk1, hk2⟩ := hk
  have e2 := hs k hk1
  rw [hk2] at e2
  have g1 := a2 _ h1
  have g2 := b2 k hk1
  rw [e1, e2] at g2
  have heq : q ((f' + s) % m) = q f := by
    unfold zc_gt at g1 g2
    apply Prod.ext <;> omega
  have hf := hinj _ _ h1 a1 heq
  rw [hs _ (Nat.mod_lt _ (by omega)), ← hf]
  congr 1
  rcases hm with rfl | rfl <;> omega
theorem zc_dot6 (x y u v : Int) (k : Nat) (hk : k < 6) : ∃ s t : Int, (zc_q6 x y u v k).1 * x + (zc_q6 x y u v k).2 * y = (x * v - y * u) * s ∧ (zc_q6 x y u v k).1 * u + (zc_q6 x y u v k).2 * v = (x * v - y * u) * t ∧ zc_q6 x y u v k = (s * v - t * y, t * x - s * u) ∧ (s, t) = (match k with
    | 0 => (zr_N x y, zr_N u v + 2 * zr_p x y u v)
    | 1 => (zr_N x y + 2 * zr_p x y u v, zr_N u v)
    | 2 => (-zr_N x y, zr_N u v)
    | 3 => (-zr_N x y, -zr_N u v - 2 * zr_p x y u v)
    | 4 => (-zr_N x y - 2 * zr_p x y u v, -zr_N u v)
    | _ => (zr_N x y, -zr_N u v)) := by
  have hc : k = 0 ∨ k = 1 ∨ k = 2 ∨ k = 3 ∨ k = 4 ∨ k = 5 := by omega
  rcases hc with rfl | rfl | rfl | rfl | rfl | rfl
  · refine ⟨zr_N x y, zr_N u v + 2 * zr_p x y u v, ?_, ?_, ?_, rfl⟩
    · rw [show zc_q6 x y u v 0 = zc_o (x, y) (x + u, y + v) from rfl]; simp only [zc_o, zr_N, zr_p]; grind
    · rw [show zc_q6 x y u v 0 = zc_o (x, y) (x + u, y + v) from rfl]; simp only [zc_o, zr_N, zr_p]; grind
    · rw [show zc_q6 x y u v 0 = zc_o (x, y) (x + u, y + v) from rfl]; simp only [zc_o, zr_N, zr_p]; apply Prod.ext <;> grind
  · refine ⟨zr_N x y + 2 * zr_p x y u v, zr_N u v, ?_, ?_, ?_, rfl⟩
    · rw [show zc_q6 x y u v 1 = zc_o (x + u, y + v) (u, v) from rfl]; simp only [zc_o, zr_N, zr_p]; grind
    · rw [show zc_q6 x y u v 1 = zc_o (x + u, y + v) (u, v) from rfl]; simp only [zc_o, zr_N, zr_p]; grind
    · rw [show zc_q6 x y u v 1 = zc_o (x + u, y + v) (u, v) from rfl]; simp only [zc_o, zr_N, zr_p]; apply Prod.ext <;> grind
  · refine ⟨-zr_N x y, zr_N u v, ?_, ?_, ?_, rfl⟩
    · rw [show zc_q6 x y u v 2 = zc_o (u, v) (-x, -y) from rfl]; simp only [zc_o, zr_N, zr_p]; grind
    · rw [show zc_q6 x y u v 2 = zc_o (u, v) (-x, -y) from rfl]; simp only [zc_o, zr_N, zr_p]; grind
    · rw [show zc_q6 x y u v 2 = zc_o (u, v) (-x, -y) from rfl]; simp only [zc_o, zr_N, zr_p]; apply Prod.ext <;> grind
  · refine ⟨-zr_N x y, -zr_N u v - 2 * zr_p x y u v, ?_, ?_, ?_, rfl⟩
    · rw [show zc_q6 x y u v 3 = zc_o (-x, -y) (-x - u, -y - v) from rfl]; simp only [zc_o, zr_N, zr_p]; grind
    · rw [show zc_q6 x y u v 3 = zc_o (-x, -y) (-x - u, -y - v) from rfl]; simp only [zc_o, zr_N, zr_p]; grind
    · rw [show zc_q6 x y u v 3 = zc_o (-x, -y) (-x - u, -y - v) from rfl]; simp only [zc_o, zr_N, zr_p]; apply Prod.ext <;> grind
  · refine ⟨-zr_N x y - 2 * zr_p x y u v, -zr_N u v, ?_, ?_, ?_, rfl⟩
    · rw [show zc_q6 x y u v 4 = zc_o (-x - u, -y - v) (-u, -v) from rfl]; simp only [zc_o, zr_N, zr_p]; grind
    · rw [show zc_q6 x y u v 4 = zc_o (-x - u, -y - v) (-u, -v) from rfl]; simp only [zc_o, zr_N, zr_p]; grind
    · rw [show zc_q6 x y u v 4 = zc_o (-x - u, -y - v) (-u, -v) from rfl]; simp only [zc_o, zr_N, zr_p]; apply Prod.ext <;> grind
  · refine ⟨zr_N x y, -zr_N u v, ?_, ?_, ?_, rfl⟩
    · rw [show zc_q6 x y u v 5 = zc_o (-u, -v) (x, y) from rfl]; simp only [zc_o, zr_N, zr_p]; grind
    · rw [show zc_q6 x y u v 5 = zc_o (-u, -v) (x, y) from rfl]; simp only [zc_o, zr_N, zr_p]; grind
    · rw [show zc_q6 x y u v 5 = zc_o (-u, -v) (x, y) from rfl]; simp only [zc_o, zr_N, zr_p]; apply Prod.ext <;> grind
theorem zc_dot4 (x y u v : Int) (hp : zr_p x y u v = 0) (k : Nat) (hk : k < 4) : ∃ s t : Int, (zc_q4 x y u v k).1 * x + (zc_q4 x y u v k).2 * y = (x * v - y * u) * s ∧ (zc_q4 x y u v k).1 * u + (zc_q4 x y u v k).2 * v = (x * v - y * u) * t ∧ zc_q4 x y u v k = (s * v - t * y, t * x - s * u) ∧ (s, t) = (match k with
    | 0 => (zr_N x y, zr_N u v)
    | 1 => (-zr_N x y, zr_N u v)
    | 2 => (-zr_N x y, -zr_N u v)
    | _ => (zr_N x y, -zr_N u v)) := by
  have hc : k = 0 ∨ k = 1 ∨ k = 2 ∨ k = 3 := by omega
  unfold zr_p at hp
  rcases hc with rfl | rfl | rfl | rfl
  · refine ⟨zr_N x y, zr_N u v, ?_, ?_, ?_, rfl⟩
    · rw [show zc_q4 x y u v 0 = zc_o (x, y) (u, v) from rfl]; simp only [zc_o, zr_N]; grind
    · rw [show zc_q4 x y u v 0 = zc_o (x, y) (u, v) from rfl]; simp only [zc_o, zr_N]; grind
    · rw [show zc_q4 x y u v 0 = zc_o (x, y) (u, v) from rfl]; simp only [zc_o, zr_N]
  · refine ⟨-zr_N x y, zr_N u v, ?_, ?_, ?_, rfl⟩
    · rw [show zc_q4 x y u v 1 = zc_o (u, v) (-x, -y) from rfl]; simp only [zc_o, zr_N]; grind
    · rw [show zc_q4 x y u v 1 = zc_o (u, v) (-x, -y) from rfl]; simp only [zc_o, zr_N]; grind
    · rw [show zc_q4 x y u v 1 = zc_o (u, v) (-x, -y) from rfl]; simp only [zc_o, zr_N]; apply Prod.ext <;> grind
  · refine ⟨-zr_N x y, -zr_N u v, ?_, ?_, ?_, rfl⟩
    · rw [show zc_q4 x y u v 2 = zc_o (-x, -y) (-u, -v) from rfl]; simp only [zc_o, zr_N]; grind
    · rw [show zc_q4 x y u v 2 = zc_o (-x, -y) (-u, -v) from rfl]; simp only [zc_o, zr_N]; grind
    · rw [show zc_q4 x y u v 2 = zc_o (-x, -y) (-u, -v) from rfl]; simp only [zc_o, zr_N]; apply Prod.ext <;> grind
  · refine ⟨zr_N x y, -zr_N u v, ?_, ?_, ?_, rfl⟩
    · rw [show zc_q4 x y u v 3 = zc_o (-u, -v) (x, y) from rfl]; simp only [zc_o, zr_N]; grind
    · rw [show zc_q4 x y u v 3 = zc_o (-u, -v) (x, y) from rfl]; simp only [zc_o, zr_N]; grind
    · rw [show zc_q4 x y u v 3 = zc_o (-u, -v) (x, y) from rfl]; simp only [zc_o, zr_N]; apply Prod.ext <;> grind
/-- the corners are all different -/
theorem zc_inj6 {x y u v : Int} (hD : 0 < x * v - y * u) (h1 : 0 < zr_N x y) (h2 : zr_N x y ≤ zr_N u v ∨ zr_N u v ≤ zr_N x y) (hu : 0 < zr_N u v) (hp : zr_p x y u v < 0) (hp1 : -zr_N x y ≤ 2 * zr_p x y u v) (hp2 : -zr_N u v ≤ 2 * zr_p x y u v) : ∀ i j, i < 6 → j < 6 → zc_q6 x y u v i = zc_q6 x y u v j → i = j := by
  intro i j hi hj he
  obtain ⟨s, t, a1, a2, -, a3⟩ := zc_dot6 x y u v i hi
  obtain ⟨s', t', b1, b2, -, b3⟩ := zc_dot6 x y u v j hj
  rw [he] at a1 a2
  have es : s = s' := Int.eq_of_mul_eq_mul_left (by omega) (a1.symm.trans b1)
  have et : t = t' := Int.eq_of_mul_eq_mul_left (by omega) (a2.symm.trans b2)
  rw [← es, ← et] at b3
  have hh := a3.symm.trans b3
  clear a3 b3 a1 a2 b1 b2 es et he
  generalize zr_N x y = N1 at *
  generalize zr_N u v = N2 at *
  generalize zr_p x y u v = p at *
  have ci : i = 0 ∨ i = 1 ∨ i = 2 ∨ i = 3 ∨ i = 4 ∨ i = 5 := by omega
  have cj : j = 0 ∨ j = 1 ∨ j = 2 ∨ j = 3 ∨ j = 4 ∨ j = 5 := by omega
  rcases ci with rfl | rfl | rfl | rfl | rfl | rfl <;> rcases cj with rfl | rfl | rfl | rfl | rfl | rfl <;> first | rfl | (exfalso; simp only [Prod.mk.injEq] at hh; omega)
theorem zc_inj4 {x y u v : Int} (hD : 0 < x * v - y * u) (h1 : 0 < zr_N x y) (hu : 0 < zr_N u v) (hp : zr_p x y u v = 0) : ∀ i j, i < 4 → j < 4 → zc_q4 x y u v i = zc_q4 x y u v j → i = j := by
  intro i j hi hj he
  obtain ⟨s, t, a1, a2, -, a3⟩ := zc_dot4 x y u v hp i hi
  obtain ⟨s', t', b1, b2, -, b3⟩ := zc_dot4 x y u v hp j hj
  rw [he] at a1 a2
  have es : s = s' := Int.eq_of_mul_eq_mul_left (by omega) (a1.symm.trans b1)
  have et : t = t' := Int.eq_of_mul_eq_mul_left (by omega) (a2.symm.trans b2)
  rw [← es, ← et] at b3
  have hh := a3.symm.trans b3
  clear a3 b3 a1 a2 b1 b2 es et he
  generalize zr_N x y = N1 at *
  generalize zr_N u v = N2 at *
  have ci : i = 0 ∨ i = 1 ∨ i = 2 ∨ i = 3 := by omega
  have cj : j = 0 ∨ j = 1 ∨ j = 2 ∨ j = 3 := by omega
  rcases ci with rfl | rfl | rfl | rfl <;> rcases cj with rfl | rfl | rfl | rfl <;> first | rfl | (exfalso; simp only [Prod.mk.injEq] at hh; omega)
/-- the reference's second step, turned to the left -/
def zc_l (r : Int × Int × Int × Int) : Int × Int × Int × Int := if r.1 * r.2.2.2 - r.2.1 * r.2.2.1 < 0 then (r.1, r.2.1, -r.2.2.1, -r.2.2.2) else r
/-- the points around, as the reference has them -/
def zc_R (x y u v : Int) : Nat → Int × Int := if 0 < zr_p x y u v then (fun k => match k with
    | 0 => (x, y)
    | 1 => (u, v)
    | 2 => (u - x, v - y)
    | 3 => (-x, -y)
    | 4 => (-u, -v)
    | _ => (x - u, y - v)) else zc_P6 x y u v
theorem zc_R6 {r : Int × Int × Int × Int} (hp : zr_p r.1 r.2.1 r.2.2.1 r.2.2.2 ≠ 0) (hD : r.1 * r.2.2.2 - r.2.1 * r.2.2.1 ≠ 0) : ∃ s : Nat, ∀ k, k < 6 → zc_R (zc_l r).1 (zc_l r).2.1 (zc_l r).2.2.1 (zc_l r).2.2.2 k = zc_P6 (zr_fl r).1 (zr_fl r).2.1 (zr_fl r).2.2.1 (zr_fl r).2.2.2 ((k + s) % 6) := by
  obtain ⟨x, y, u, v⟩ := r
  unfold zr_fl zc_l
  dsimp only at *
  have e1 : x * -v - y * -u = -(x * v - y * u) := by grind
  have e2 : zr_p x y (-u) (-v) = -zr_p x y u v := by unfold zr_p; grind
  have six : ∀ k, k < 6 → k = 0 ∨ k = 1 ∨ k = 2 ∨ k = 3 ∨ k = 4 ∨ k = 5 := by omega
  by_cases h1 : 0 < zr_p x y u v
  · rw [if_pos h1, e1]
    by_cases h2 : x * v - y * u < 0
    · rw [if_pos h2, if_neg (show ¬ -(x * v - y * u) < 0 by omega)]
      refine ⟨0, fun k hk => ?_⟩
      dsimp only
      unfold zc_R
      rw [e2, if_neg (by omega)]
      rcases six k hk with rfl | rfl | rfl | rfl | rfl | rfl <;> rfl
    · rw [if_neg h2, if_pos (show -(x * v - y * u) < 0 by omega)]
      refine ⟨2, fun k hk => ?_⟩
      dsimp only
      unfold zc_R
      rw [if_pos h1]
      rcases six k hk with rfl | rfl | rfl | rfl | rfl | rfl
      · rfl
      · show (u, v) = (- -u, - -v); rw [Int.neg_neg, Int.neg_neg]
      · show (u - x, v - y) = (- -u - x, - -v - y); rw [Int.neg_neg, Int.neg_neg]
      · rfl
      · rfl
      · show (x - u, y - v) = (-u + x, -v + y); rw [Int.add_comm, Int.add_comm (-v)]; rfl
  · rw [if_neg h1]
    by_cases h2 : x * v - y * u < 0
    · rw [if_pos h2, if_pos h2]
      refine ⟨2, fun k hk => ?_⟩
      dsimp only
      unfold zc_R
      rw [e2, if_pos (by omega)]
      rcases six k hk with rfl | rfl | rfl | rfl | rfl | rfl
      · rfl
      · rfl
      · show (-u - x, -v - y) = (-u - x, -v - y); rfl
      · rfl
      · show (- -u, - -v) = (u, v); rw [Int.neg_neg, Int.neg_neg]
      · show (x - -u, y - -v) = (u + x, v + y); rw [Int.sub_neg, Int.sub_neg, Int.add_comm, Int.add_comm y]
    · rw [if_neg h2, if_neg h2]
      refine ⟨0, fun k hk => ?_⟩
      dsimp only
      unfold zc_R
      rw [if_neg h1]
      rcases six k hk with rfl | rfl | rfl | rfl | rfl | rfl <;> rfl
theorem zc_R4 {r : Int × Int × Int × Int} (hp : zr_p r.1 r.2.1 r.2.2.1 r.2.2.2 = 0) : ∃ s : Nat, ∀ k, k < 4 → zc_P4 (zc_l r).1 (zc_l r).2.1 (zc_l r).2.2.1 (zc_l r).2.2.2 k = zc_P4 (zr_fl r).1 (zr_fl r).2.1 (zr_fl r).2.2.1 (zr_fl r).2.2.2 ((k + s) % 4) := by
  obtain ⟨x, y, u, v⟩ := r
  unfold zr_fl zc_l
  dsimp only at *
  have four : ∀ k, k < 4 → k = 0 ∨ k = 1 ∨ k = 2 ∨ k = 3 := by omega
  rw [if_neg (show ¬ 0 < zr_p x y u v by omega)]
  by_cases h2 : x * v - y * u < 0
  · rw [if_pos h2, if_pos h2]
    refine ⟨1, fun k hk => ?_⟩
    dsimp only
    rcases four k hk with rfl | rfl | rfl | rfl
    · rfl
    · rfl
    · rfl
    · show (- -u, - -v) = (u, v); rw [Int.neg_neg, Int.neg_neg]
  · rw [if_neg h2, if_neg h2]
    refine ⟨0, fun k hk => ?_⟩
    rcases four k hk with rfl | rfl | rfl | rfl <;> rfl
end RZCE
