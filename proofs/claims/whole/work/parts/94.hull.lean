/-! part 94: level 2: hull: the chain and the search for the least steep are the same -/
section RZHU
/-- twice the area of three points of a row of heights: above 0 where the third lies above the line -/
def zh_T (L : Nat → Int) (a b x : Nat) : Int := ((b : Int) - a) * (L x - L a) - (L b - L a) * ((x : Int) - a)
def zh_S (L : Nat → Int) (a b v y : Nat) : Int := ((b : Int) - a) * (L y - L v) - (L b - L a) * ((y : Int) - v)
def zh_ch (L : Nat → Int) : List Nat → Prop
  | [] => False
  | [a] => a = 0
  | b :: a :: t => a < b ∧ (∀ z, a ≤ z → z ≤ b → 0 ≤ zh_T L a b z) ∧ (∀ c, t.head? = some c → 0 < zh_T L c a b) ∧ zh_ch L (a :: t)
def zh_pop (L : Nat → Int) (x : Nat) : List Nat → List Nat
  | b :: a :: t => if zh_T L a b x ≤ 0 then zh_pop L x (a :: t) else b :: a :: t
  | l => l
def zh_b (L : Nat → Int) : Nat → List Nat
  | 0 => [0]
  | x + 1 => (x + 1) :: zh_pop L (x + 1) (zh_b L x)
theorem zh_mul {a b : Int} (ha : 0 < a) (h : 0 ≤ a * b) : 0 ≤ b := by
  rcases Int.lt_or_le b 0 with h1 | h1
  · have := Int.mul_neg_of_pos_of_neg ha h1
    omega
  · exact h1
theorem zh_mulp {a b : Int} (ha : 0 < a) (h : 0 < a * b) : 0 < b := by
  rcases Int.lt_or_le 0 b with h1 | h1
  · exact h1
  · have := Int.mul_nonneg (show 0 ≤ a by omega) (show 0 ≤ -b by omega)
    rw [Int.mul_neg] at this
    omega
theorem zh_id1 (A B X z la lb lx lz : Int) : (B - A) * ((X - A) * (lz - la) - (lx - la) * (z - A)) = (X - A) * ((B - A) * (lz - la) - (lb - la) * (z - A)) - (z - A) * ((B - A) * (lx - la) - (lb - la) * (X - A)) := by
  grind
theorem zh_id2 (A B X z la lb lx lz : Int) : (X - B) * ((X - A) * (lz - la) - (lx - la) * (z - A)) = (X - A) * ((X - B) * (lz - lb) - (lx - lb) * (z - B)) + (X - z) * ((X - A) * (lb - la) - (lx - la) * (B - A)) := by
  grind
theorem zh_id3 (A B v y z la lb lv ly lz : Int) : (y - v) * ((B - A) * (lz - lv) - (lb - la) * (z - v)) = (B - A) * ((y - v) * (lz - lv) - (ly - lv) * (z - v)) + (z - v) * ((B - A) * (ly - lv) - (lb - la) * (y - v)) := by
  grind
theorem zh_id4 (A B u v y la lb lu lv ly : Int) : (v - u) * ((B - A) * (ly - lv) - (lb - la) * (y - v)) = (B - A) * ((v - u) * (ly - lv) - (lv - lu) * (y - v)) + (y - v) * ((B - A) * (lv - lu) - (lb - la) * (v - u)) := by
  grind
theorem zh_anti {L : Nat → Int} {a b x : Nat} : zh_T L a b x = - zh_T L a x b := by
  unfold zh_T
  generalize (b : Int) - a = B
  generalize (x : Int) - a = Y
  generalize L x - L a = p
  generalize L b - L a = q
  rw [Int.mul_comm q Y, Int.mul_comm p B]
  omega
theorem zh_aa {L : Nat → Int} {a x : Nat} : zh_T L a x a = 0 ∧ zh_T L a x x = 0 := by
  constructor
  · unfold zh_T; rw [Int.sub_self, Int.sub_self, Int.mul_zero, Int.mul_zero]; rfl
  · unfold zh_T; rw [Int.mul_comm, Int.sub_self]
/-- a popped point leaves all points above -/
theorem zh_step {L : Nat → Int} {a b x : Nat} (hab : a < b) (hbx : b < x) (h1 : ∀ z, a ≤ z → z ≤ b → 0 ≤ zh_T L a b z) (h2 : ∀ z, b ≤ z → z ≤ x → 0 ≤ zh_T L b x z) (h3 : zh_T L a b x ≤ 0) : ∀ z, a ≤ z → z ≤ x → 0 ≤ zh_T L a x z := by
  intro z hz1 hz2
  rcases Nat.lt_or_ge b z with h | h
  · have e := zh_id2 a b x z (L a) (L b) (L x) (L z)
    have p1 := h2 z (by omega) hz2
    have p2 : 0 ≤ zh_T L a x b := by rw [zh_anti] at h3; omega
    have p3 := Int.mul_nonneg (show 0 ≤ (x : Int) - a by omega) p1
    have p4 := Int.mul_nonneg (show 0 ≤ (x : Int) - z by omega) p2
    refine zh_mul (a := (x : Int) - b) (by omega) ?_
    unfold zh_T at p3 p4 ⊢
    omega
  · have e := zh_id1 a b x z (L a) (L b) (L x) (L z)
    have p1 := h1 z hz1 h
    have p3 := Int.mul_nonneg (show 0 ≤ (x : Int) - a by omega) p1
    have p4 := Int.mul_nonneg (show 0 ≤ (z : Int) - a by omega) (show 0 ≤ -zh_T L a b x by omega)
    rw [Int.mul_neg] at p4
    refine zh_mul (a := (b : Int) - a) (by omega) ?_
    unfold zh_T at p3 p4 ⊢
    omega
theorem zh_pop_ch {L : Nat → Int} {x : Nat} (t : List Nat) : ∀ b, b < x → zh_ch L (b :: t) → (∀ z, b ≤ z → z ≤ x → 0 ≤ zh_T L b x z) → zh_ch L (x :: zh_pop L x (b :: t)) := by
  induction t with
  | nil =>
    intro b hb hc hz
    show zh_ch L [x, b]
    exact ⟨hb, hz, (fun c h => by cases h), hc⟩
  | cons a t ih =>
    intro b hb hc hz
    unfold zh_pop
    by_cases h : zh_T L a b x ≤ 0
    · rw [if_pos h]
      exact ih a (by have := hc.1; omega) hc.2.2.2 (zh_step hc.1 hb hc.2.1 hz h)
    · rw [if_neg h]
      refine ⟨hb, hz, ?_, hc⟩
      intro c h2
      obtain rfl : a = c := by simpa using h2
      omega
theorem zh_pop_ne {L : Nat → Int} {x : Nat} (t : List Nat) : ∀ b, ∃ b' t', zh_pop L x (b :: t) = b' :: t' := by
  induction t with
  | nil => intro b; exact ⟨b, [], rfl⟩
  | cons a t ih =>
    intro b
    unfold zh_pop
    by_cases h : zh_T L a b x ≤ 0
    · rw [if_pos h]; exact ih a
    · rw [if_neg h]; exact ⟨b, a :: t, rfl⟩
theorem zh_b_ch (L : Nat → Int) (x : Nat) : (∃ t, zh_b L x = x :: t) ∧ zh_ch L (zh_b L x) := by
  induction x with
  | zero => exact ⟨⟨[], rfl⟩, rfl⟩
  | succ x ih =>
    obtain ⟨⟨t, ht⟩, hc⟩ := ih
    refine ⟨⟨_, rfl⟩, ?_⟩
    show zh_ch L ((x + 1) :: zh_pop L (x + 1) (zh_b L x))
    rw [ht] at hc ⊢
    refine zh_pop_ch t x (by omega) hc ?_
    intro z h1 h2
    rcases Nat.lt_or_ge z (x + 1) with h | h
    · obtain rfl : z = x := by omega
      rw [zh_aa.1]; omega
    · obtain rfl : z = x + 1 := by omega
      rw [zh_aa.2]; omega
/-- right of a side all points lie above its line -/
theorem zh_right {L : Nat → Int} {a b : Nat} {t : List Nat} (pre : List Nat) : zh_ch L (pre ++ b :: a :: t) → ∃ y v s, pre ++ b :: a :: t = y :: v :: s ∧ v < y ∧ b ≤ y ∧ 0 ≤ zh_S L a b v y ∧ ∀ z, b < z → z ≤ y → 0 < zh_T L a b z := by
  induction pre with
  | nil =>
    intro hc
    refine ⟨b, a, t, rfl, hc.1, Nat.le_refl _, ?_, fun z h1 h2 => by omega⟩
    unfold zh_S
    rw [Int.mul_comm, Int.sub_self]
    omega
  | cons x pre ih =>
    intro hc
    have hc' : zh_ch L (pre ++ b :: a :: t) := by
      cases pre with
      | nil => exact hc.2.2.2
      | cons y pre => exact hc.2.2.2
    obtain ⟨y, v, s, e, h1, h2, h3, h4⟩ := ih hc'
    have hab : a < b := by
      clear ih hc h1 h2 h3 h4 e
      induction pre with
      | nil => exact hc'.1
      | cons y pre ih2 =>
        cases pre with
        | nil => exact ih2 hc'.2.2.2
        | cons y2 pre => exact ih2 hc'.2.2.2
    rw [List.cons_append, e] at hc ⊢
    obtain ⟨k1, k2, k3, k4⟩ := hc
    have k5 := k3 v rfl
    have e4 := zh_id4 a b v y x (L a) (L b) (L v) (L y) (L x)
    have hS : 0 < zh_S L a b y x := by
      refine zh_mulp (a := (y : Int) - v) (by omega) ?_
      unfold zh_S at h3 ⊢
      have p1 := Int.mul_pos (show 0 < (b : Int) - a by omega) k5
      have p2 := Int.mul_nonneg (show 0 ≤ (x : Int) - y by omega) h3
      have e5 : ((y : Int) - v) * (L x - L v) - (L y - L v) * ((x : Int) - v) = ((y : Int) - v) * (L x - L y) - (L y - L v) * ((x : Int) - y) := by grind
      unfold zh_T at p1
      rw [e5] at p1
      omega
    refine ⟨x, y, v :: s, rfl, k1, by omega, by omega, ?_⟩
    intro z hz1 hz2
    rcases Nat.lt_or_ge y z with h | h
    · have e3 := zh_id3 a b y x z (L a) (L b) (L y) (L x) (L z)
      have p1 := Int.mul_nonneg (show 0 ≤ (b : Int) - a by omega) (k2 z (by omega) hz2)
      have p2 := Int.mul_pos (show 0 < (z : Int) - y by omega) hS
      have p3 : 0 < ((b : Int) - a) * (L z - L y) - (L b - L a) * ((z : Int) - y) := by
        refine zh_mulp (a := (x : Int) - y) (by omega) ?_
        unfold zh_T at p1
        unfold zh_S at p2
        omega
      have p4 : 0 ≤ zh_T L a b y := by
        rcases Nat.lt_or_ge b y with h5 | h5
        · exact Int.le_of_lt (h4 y h5 (Nat.le_refl _))
        · obtain rfl : y = b := by omega
          rw [zh_aa.2]; omega
      have e6 : zh_T L a b z = zh_T L a b y + (((b : Int) - a) * (L z - L y) - (L b - L a) * ((z : Int) - y)) := by
        unfold zh_T
        grind
      omega
    · exact h4 z hz1 h
/-- the reference's search for the next corner -/
def zh_nx (L : Nat → Int) (a : Nat) : Nat → Nat → Nat → Nat
  | 0, _, n => n
  | k + 1, x, n => zh_nx L a k (x + 1) (if zh_T L a n x ≤ 0 then x else n)
theorem zh_nx_ok {L : Nat → Int} {a : Nat} (k : Nat) : ∀ x n, a < n → n < x → (∀ z, a < z → z < x → 0 ≤ zh_T L a n z) → (∀ z, n < z → z < x → 0 < zh_T L a n z) → a < zh_nx L a k x n ∧ zh_nx L a k x n < x + k ∧ (∀ z, a < z → z < x + k → 0 ≤ zh_T L a (zh_nx L a k x n) z) ∧ (∀ z, zh_nx L a k x n < z → z < x + k → 0 < zh_T L a (zh_nx L a k x n) z) := by
  induction k with
  | zero => intro x n h1 h2 h3 h4; exact ⟨h1, h2, h3, h4⟩
  | succ k ih =>
    intro x n h1 h2 h3 h4
    rw [show x + (k + 1) = x + 1 + k by omega]
    show a < zh_nx L a k (x + 1) _ ∧ _
    by_cases h : zh_T L a n x ≤ 0
    · have e : zh_nx L a (k + 1) x n = zh_nx L a k (x + 1) x := by
        show zh_nx L a k (x + 1) (if zh_T L a n x ≤ 0 then x else n) = _
        rw [if_pos h]
      rw [if_pos h, e]
      refine ih (x + 1) x (by omega) (by omega) ?_ (fun z h5 h6 => by omega)
      intro z h5 h6
      rcases Nat.lt_or_ge z x with h7 | h7
      · have e := zh_id1 a n x z (L a) (L n) (L x) (L z)
        have p3 := Int.mul_nonneg (show 0 ≤ (x : Int) - a by omega) (h3 z h5 h7)
        have p4 := Int.mul_nonneg (show 0 ≤ (z : Int) - a by omega) (show 0 ≤ -zh_T L a n x by omega)
        rw [Int.mul_neg] at p4
        refine zh_mul (a := (n : Int) - a) (by omega) ?_
        unfold zh_T at p3 p4 ⊢
        omega
      · obtain rfl : z = x := by omega
        rw [zh_aa.2]; omega
    · have e : zh_nx L a (k + 1) x n = zh_nx L a k (x + 1) n := by
        show zh_nx L a k (x + 1) (if zh_T L a n x ≤ 0 then x else n) = _
        rw [if_neg h]
      rw [if_neg h, e]
      refine ih (x + 1) n h1 (by omega) ?_ ?_
      · intro z h5 h6
        rcases Nat.lt_or_ge z x with h7 | h7
        · exact h3 z h5 h7
        · obtain rfl : z = x := by omega
          omega
      · intro z h5 h6
        rcases Nat.lt_or_ge z x with h7 | h7
        · exact h4 z h5 h7
        · obtain rfl : z = x := by omega
          omega
/-- it finds the next corner of the chain -/
theorem zh_nx_is {L : Nat → Int} {a b q : Nat} {t pre : List Nat} (hc : zh_ch L (pre ++ b :: a :: t)) (hq : ∃ s, pre ++ b :: a :: t = q :: s) : a < b ∧ b ≤ q ∧ zh_nx L a (q - (a + 1)) (a + 2) (a + 1) = b := by
  obtain ⟨y, v, s, e, h1, h2, h3, h4⟩ := zh_right pre hc
  obtain ⟨s', e'⟩ := hq
  rw [e] at e'
  obtain rfl : y = q := by
    have := List.cons.inj e'
    exact this.1
  have hb : a < b ∧ ∀ z, a ≤ z → z ≤ b → 0 ≤ zh_T L a b z := by
    clear e e' h1 h2 h3 h4
    induction pre with
    | nil => exact ⟨hc.1, hc.2.1⟩
    | cons y pre ih2 =>
      cases pre with
      | nil => exact ih2 hc.2.2.2
      | cons y2 pre => exact ih2 hc.2.2.2
  obtain ⟨k1, k2, k3, k4⟩ := zh_nx_ok (L := L) (a := a) (y - (a + 1)) (a + 2) (a + 1) (by omega) (by omega) (by
    intro z h5 h6
    obtain rfl : z = a + 1 := by omega
    rw [zh_aa.2]; omega) (fun z h5 h6 => by omega)
  generalize hn : zh_nx L a (y - (a + 1)) (a + 2) (a + 1) = n at *
  refine ⟨hb.1, h2, ?_⟩
  rcases Nat.lt_trichotomy n b with h5 | h5 | h5
  · have u1 := k4 b h5 (by omega)
    have u2 := hb.2 n (by omega) (by omega)
    rw [zh_anti] at u2
    omega
  · exact h5
  · have u1 := h4 n h5 (by omega)
    have u2 := k3 b hb.1 (by omega)
    rw [zh_anti] at u2
    omega
theorem zh_pop_len {L : Nat → Int} {x : Nat} (l : List Nat) : (zh_pop L x l).length ≤ l.length ∧ ∀ e, e ∈ zh_pop L x l → e ∈ l := by
  induction l with
  | nil => exact ⟨Nat.le_refl _, fun e h => h⟩
  | cons b t ih =>
    cases t with
    | nil => exact ⟨Nat.le_refl _, fun e h => h⟩
    | cons a t =>
      unfold zh_pop
      by_cases h : zh_T L a b x ≤ 0
      · rw [if_pos h]
        exact ⟨Nat.le_trans ih.1 (Nat.le_succ _), fun e he => List.mem_cons_of_mem _ (ih.2 e he)⟩
      · rw [if_neg h]
        exact ⟨Nat.le_refl _, fun e h => h⟩
theorem zh_b_len {L : Nat → Int} (x : Nat) : (zh_b L x).length ≤ x + 1 ∧ ∀ e, e ∈ zh_b L x → e ≤ x := by
  induction x with
  | zero => exact ⟨Nat.le_refl _, fun e h => by rw [List.mem_singleton.mp h]; exact Nat.le_refl _⟩
  | succ x ih =>
    have hp := zh_pop_len (L := L) (x := x + 1) (zh_b L x)
    refine ⟨?_, ?_⟩
    · show (zh_pop L (x + 1) (zh_b L x)).length + 1 ≤ _
      omega
    · intro e he
      rcases List.mem_cons.mp he with h | h
      · omega
      · have := ih.2 e (hp.2 e h)
        omega
/-- the arrays hold the chain, the last corner first -/
def zh_rep (F G : Nat → Int32) (L : Nat → Int) : List Nat → Prop
  | [] => True
  | h :: t => F t.length = Int32.ofInt (h : Int) ∧ G t.length = Int32.ofInt (L h) ∧ zh_rep F G L t
theorem zh_rep_cg {F G F' G' : Nat → Int32} {L : Nat → Int} (r : List Nat) (h : ∀ i, i < r.length → F' i = F i ∧ G' i = G i) (hr : zh_rep F G L r) : zh_rep F' G' L r := by
  induction r with
  | nil => trivial
  | cons a t ih => exact ⟨((h t.length (Nat.lt_succ_self _)).1).trans hr.1, ((h t.length (Nat.lt_succ_self _)).2).trans hr.2.1, ih (fun i hi => h i (Nat.lt_succ_of_lt hi)) hr.2.2⟩
end RZHU
