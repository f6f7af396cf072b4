/-! part 37: level 2: the invariant, and what the law sees of a call -/
/-- the better of a count and of another one and one coin; below 0: none -/
def zf_bst (x y : Int) : Int := if y < 0 then x else if x < 0 ∨ y + 1 < x then y + 1 else x
def zf_Gr (g : Nat → Int) (v : Nat) : Nat → Nat → Int
  | 0, s => g s
  | f + 1, s => if s < v then g s else zf_bst (g s) (zf_Gr g v f (s - v))
/-- fewest coins, by kinds -/
def zf_G (v : Nat → Nat) : Nat → Nat → Int
  | 0, s => if s = 0 then 0 else -1
  | j + 1, s => zf_Gr (zf_G v j) (v j) s s
def zf_Wr (g : Nat → Nat) (v : Nat) : Nat → Nat → Nat
  | 0, s => g s
  | f + 1, s => if s < v then g s else g s + zf_Wr g v f (s - v)
/-- ways, by kinds -/
def zf_W (v : Nat → Nat) : Nat → Nat → Nat
  | 0, s => if s = 0 then 1 else 0
  | j + 1, s => zf_Wr (zf_W v j) (v j) s s
/-- how many sums below n lack -/
def zf_lk (g : Nat → Int) : Nat → Nat
  | 0 => 0
  | n + 1 => zf_lk g n + if g n < 0 then 1 else 0
/-- the last lack below n, or 0 -/
def zf_ll (g : Nat → Int) : Nat → Nat
  | 0 => 0
  | n + 1 => if g n < 0 then n else zf_ll g n
/-- the places of a way round -/
def zp_nx (n i : Nat) : Nat := if i + 1 < n then i + 1 else 0
section RZPL
variable (x y : Nat → Int) (n : Nat)
def zp_turn (i j k : Nat) : Int := (x j - x i) * (y k - y i) - (y j - y i) * (x k - x i)
def zp_sum (t : Nat → Int) : Nat → Int
  | 0 => 0
  | k + 1 => zp_sum t k + t k
/-- twice the area with its sign -/
def zp_area : Int := zp_sum (fun i => x i * y (zp_nx n i) - y i * x (zp_nx n i)) n
/-- a side that is a point, or goes back over the one before it -/
def zp_fold (i : Nat) : Prop := (x i = x (zp_nx n i) ∧ y i = y (zp_nx n i)) ∨ (zp_turn x y i (zp_nx n i) (zp_nx n (zp_nx n i)) = 0 ∧ (x i - x (zp_nx n i)) * (x (zp_nx n (zp_nx n i)) - x (zp_nx n i)) + (y i - y (zp_nx n i)) * (y (zp_nx n (zp_nx n i)) - y (zp_nx n i)) > 0)
/-- a corner on a side -/
def zp_on (i k : Nat) : Prop := zp_turn x y i (zp_nx n i) k = 0 ∧ (min (x i) (x (zp_nx n i)) ≤ x k ∧ x k ≤ max (x i) (x (zp_nx n i))) ∧ (min (y i) (y (zp_nx n i)) ≤ y k ∧ y k ≤ max (y i) (y (zp_nx n i)))
def zp_crs (i a b : Nat) : Prop := (zp_turn x y i (zp_nx n i) a > 0 ∧ zp_turn x y i (zp_nx n i) b < 0) ∨ (zp_turn x y i (zp_nx n i) a < 0 ∧ zp_turn x y i (zp_nx n i) b > 0)
def zp_meet (i j : Nat) : Prop := (zp_on x y n i j ∨ zp_on x y n i (zp_nx n j) ∨ zp_on x y n j i ∨ zp_on x y n j (zp_nx n i)) ∨ (zp_crs x y n i j (zp_nx n j) ∧ zp_crs x y n j i (zp_nx n i))
/-- a polygon as the document has it -/
def zp_ok : Prop := (∀ i, i < n → ¬ zp_fold x y n i) ∧ ∀ i j, i < j → j < n → zp_nx n i ≠ j → zp_nx n j ≠ i → ¬ zp_meet x y n i j
/-- an ear at a place of the corners that are left -/
def zp_ear (L : List Nat) (p : Nat) : Bool :=
  let m := L.length
  let a := L.getD ((p + m - 1) % m) 0
  let b := L.getD (p % m) 0
  let c := L.getD ((p + 1) % m) 0
  let s : Int := if zp_area x y n > 0 then 1 else -1
  decide (s * zp_turn x y a b c > 0) && L.all fun k => decide (k = a ∨ k = b ∨ k = c ∨ s * zp_turn x y a b k < 0 ∨ s * zp_turn x y b c k < 0 ∨ s * zp_turn x y c a k < 0)
/-- the triangles, ear by ear -/
def zp_cuts : Nat → List Nat → List (Nat × Nat × Nat)
  | 0, L => [(L.getD 0 0, L.getD 1 0, L.getD 2 0)]
  | f + 1, L => match (List.range L.length).find? (zp_ear x y n L) with
    | some p => (L.getD ((p + L.length - 1) % L.length) 0, L.getD p 0, L.getD ((p + 1) % L.length) 0) :: zp_cuts f (L.eraseIdx p)
    | none => []
def zp_tri : List (Nat × Nat × Nat) := zp_cuts x y n (n - 3) (List.range n)
end RZPL
/-- the purse -/
def v_purse (w : rz_W) (kinds : Int) : Prop := ∃ (V U C Y : Nat → Int32) (g l : Int) (v : Nat → Nat), v_ob w 14 7 [.int (Int32.ofInt kinds), .int (Int32.ofInt g), .int (Int32.ofInt l), .ref 15, .ref 16, .ref 17] ∧ v_ia w 15 4 V ∧ v_ia w 16 2501 C ∧ v_ia w 17 2501 Y ∧ v_ia w 43 4 U ∧ (kinds = 0 ∨ ((2 ≤ kinds ∧ kinds ≤ 4) ∧ (∀ k : Nat, (k : Int) < kinds → (2 ≤ v k ∧ v k ≤ 50) ∧ V k = Int32.ofInt (v k) ∧ U k = Int32.ofInt (v k)) ∧ (∀ s, s ≤ 2500 → C s = Int32.ofInt (zf_G v kinds.toNat s) ∧ Y s = Int32.ofInt (zf_W v kinds.toNat s)) ∧ l = zf_lk (zf_G v kinds.toNat) 2501 ∧ g = zf_ll (zf_G v kinds.toNat) 2501 ∧ (kinds = 2 → Nat.gcd (v 0) (v 1) = 1)))
/-- the polygon -/
def v_poly (w : rz_W) (typed closed : Int) : Prop := ∃ (x y : Nat → Int) (P Q R S M O L C : Nat → Int32) (a b c : Int32), (v_ob w 18 6 [.int (Int32.ofInt typed), .int (Int32.ofInt closed), .ref 19, .ref 22, .ref 23, .ref 24, .ref 25, .int a] ∧ v_ob w 19 2 [.ref 20, .int b, .ref 21, .int c] ∧ v_ia w 20 12 L ∧ v_ia w 21 36 C ∧ v_ia w 22 12 P ∧ v_ia w 23 12 Q ∧ v_ia w 24 1600 M ∧ v_ia w 25 12 O ∧ v_ia w 44 12 R ∧ v_ia w 45 12 S) ∧ (0 ≤ typed ∧ typed ≤ 12) ∧ (∀ k, ((-20 ≤ x k ∧ x k ≤ 20) ∧ (-20 ≤ y k ∧ y k ≤ 20)) ∧ ((k : Int) < typed → P k = Int32.ofInt (x k) ∧ Q k = Int32.ofInt (y k) ∧ R k = Int32.ofInt (x k) ∧ S k = Int32.ofInt (y k))) ∧ (closed = 0 ∨ (closed = 1 ∧ 3 ≤ typed ∧ zp_ok x y typed.toNat ∧ ∀ (j : Nat) (t : Nat × Nat × Nat), (zp_tri x y typed.toNat)[j]? = some t → C (3 * j) = Int32.ofInt t.1 ∧ C (3 * j + 1) = Int32.ofInt t.2.1 ∧ C (3 * j + 2) = Int32.ofInt t.2.2))
/-- THE INVARIANT -/
def v_inv (w : rz_W) : Prop := ∃ kept told kinds typed closed thrown : Int, v_yard w kept ∧ v_model w kept told kinds typed closed thrown ∧ v_slots w kept ∧ v_text w told ∧ v_purse w kinds ∧ v_poly w typed closed ∧ v_misc w
section RZFR2
variable {S : List Nat} {w w' : rz_W}
theorem v_purse_fr {kinds : Int} (hf : rz_fr S w w') (hS : ∀ q, q ∈ S → q ∉ [14, 15, 16, 17, 43]) (hv : v_purse w kinds) : v_purse w' kinds := by
  have hn : ∀ q, q ∈ [14, 15, 16, 17, 43] → q ∉ S := fun q h c => hS q c h
  obtain ⟨V, U, C, Y, g, l, v, a1, a2, a3, a4, a5, r⟩ := hv
  exact ⟨V, U, C, Y, g, l, v, fr_get hf (hn _ (by decide)) a1, fr_get hf (hn _ (by decide)) a2, fr_get hf (hn _ (by decide)) a3, fr_get hf (hn _ (by decide)) a4, fr_get hf (hn _ (by decide)) a5, r⟩
theorem v_poly_fr {typed closed : Int} (hf : rz_fr S w w') (hS : ∀ q, q ∈ S → q ∉ [18, 19, 20, 21, 22, 23, 24, 25, 44, 45]) (hv : v_poly w typed closed) : v_poly w' typed closed := by
  have hn : ∀ q, q ∈ [18, 19, 20, 21, 22, 23, 24, 25, 44, 45] → q ∉ S := fun q h c => hS q c h
  obtain ⟨x, y, P, Q, R, T, M, O, L, C, a, b, c, ⟨a1, a2, a3, a4, a5, a6, a7, a8, a9, b1⟩, r⟩ := hv
  exact ⟨x, y, P, Q, R, T, M, O, L, C, a, b, c, ⟨fr_get hf (hn _ (by decide)) a1, fr_get hf (hn _ (by decide)) a2, fr_get hf (hn _ (by decide)) a3, fr_get hf (hn _ (by decide)) a4, fr_get hf (hn _ (by decide)) a5, fr_get hf (hn _ (by decide)) a6, fr_get hf (hn _ (by decide)) a7, fr_get hf (hn _ (by decide)) a8, fr_get hf (hn _ (by decide)) a9, fr_get hf (hn _ (by decide)) b1⟩, r⟩
theorem v_misc_fr (hf : rz_fr S w w') (hS : ∀ q, q ∈ S → q ∉ [4, 5, 6, 7, 8, 9, 10, 11, 26, 27, 28, 29, 30, 31, 46, 47, 48]) (hv : v_misc w) : v_misc w' := by
  have hn : ∀ q, q ∈ [4, 5, 6, 7, 8, 9, 10, 11, 26, 27, 28, 29, 30, 31, 46, 47, 48] → q ∉ S := fun q h c => hS q c h
  obtain ⟨⟨a, b, c, e, f, g, h, a1⟩, ⟨n2, f2, g2, h2, b1, b2, b3, b4⟩, ⟨n3, m3, u3, f3, g3, c1, c2, c3⟩, ⟨n4, f4, g4, d1, d2, d3⟩, ⟨n5, f5, g5, e1, e2, e3⟩, ⟨f6, g6, k1, k2⟩, f7, l1⟩ := hv
  exact ⟨⟨a, b, c, e, f, g, h, fr_get hf (hn _ (by decide)) a1⟩, ⟨n2, f2, g2, h2, fr_get hf (hn _ (by decide)) b1, fr_get hf (hn _ (by decide)) b2, fr_get hf (hn _ (by decide)) b3, fr_get hf (hn _ (by decide)) b4⟩, ⟨n3, m3, u3, f3, g3, fr_get hf (hn _ (by decide)) c1, fr_get hf (hn _ (by decide)) c2, fr_get hf (hn _ (by decide)) c3⟩, ⟨n4, f4, g4, fr_get hf (hn _ (by decide)) d1, fr_get hf (hn _ (by decide)) d2, fr_get hf (hn _ (by decide)) d3⟩, ⟨n5, f5, g5, fr_get hf (hn _ (by decide)) e1, fr_get hf (hn _ (by decide)) e2, fr_get hf (hn _ (by decide)) e3⟩, ⟨f6, g6, fr_get hf (hn _ (by decide)) k1, fr_get hf (hn _ (by decide)) k2⟩, f7, fr_get hf (hn _ (by decide)) l1⟩
end RZFR2
/-- what the reference noted, what the law's own cell holds -/
def v_th (w : rz_W) (e : Int) : Prop := ∃ fs, w[32]? = some (.inr (11, fs)) ∧ fs[18]? = some (.int (Int32.ofInt e))
def v_out (w : rz_W) (r : Int64) : Prop := ∃ f, v_la w 48 1 f ∧ f 0 = r
/-- a call of the class and one of the reference behind it, as the law makes them: the same answer, or the throw that the reference noted -/
def rz_ag (X : rz_X) (d mx my : Nat) (z : Bool) (as : List Value) (es : List String) (w : rz_W) : Prop :=
  (∃ (r : Int32) (w1 : rz_W) (c1 s1 : Nat) (f : Nat → Int64) (fs : List Value) (w2 : rz_W) (c2 s2 : Nat), rz_ex X (d + 29) mx (.ref 0 :: as) w = some (.inl (some (.int r)), w1, c1, s1) ∧ v_la w1 48 1 f ∧ v_ob w1 32 11 fs ∧ rz_ex X (d + 30) my (.ref 32 :: as) (w1.set 48 (.inl (.long, 1, .inr (.inl (vp_updL f 0 r.toInt64))))) = some (.inl (some (.int r)), w2, c2, s2) ∧ v_th w2 0 ∧ v_out w2 r.toInt64 ∧ v_inv w2 ∧ c1 + c2 ≤ 1100 ∧ s1 + s2 ≤ 14000 ∧ (z = true → r = Int32.ofInt 0 ∨ r = Int32.ofInt 1))
  ∨ (∃ (e : Nat) (E : String) (r : Int32) (w1 : rz_W) (c1 s1 : Nat) (fs : List Value) (w2 : rz_W) (c2 s2 : Nat), es[e]? = some E ∧ rz_ex X (d + 29) mx (.ref 0 :: as) w = some (.inr E, w1, c1, s1) ∧ v_ob w1 32 11 fs ∧ rz_ex X (d + 30) my (.ref 32 :: as) w1 = some (.inl (some (.int r)), w2, c2, s2) ∧ v_th w2 (e + 1) ∧ v_inv w2 ∧ c1 + c2 ≤ 1100 ∧ s1 + s2 ≤ 14000)
/-- the law's way through one case: from its first row to the end of the round, with the invariant kept -/
def rz_way (X : rz_X) (d pc i : Nat) (w : rz_W) : Prop := ∀ (l5 l6 : Option Value) (nc ns : Nat), ∃ (w' : rz_W) (c s : Nat) (m5 m6 : Option Value), rz_G X (d + 30) mz_L_law pc [some (.retAddr 0), some (.ref 0), some (.ref 32), some (.ref 48), some (.int (Int32.ofInt i)), l5, l6] [] w nc ns = rz_G X (d + 30) mz_L_law 3142 [some (.retAddr 0), some (.ref 0), some (.ref 32), some (.ref 48), some (.int (Int32.ofInt i)), m5, m6] [] w' (nc + c) (ns + s) ∧ v_inv w' ∧ c ≤ 1100 ∧ s ≤ 14000
