/-! part 28: level 2: frames, and the pieces of the invariant: what binds the class's cells to the reference's -/
def v_ob (w : rz_W) (p ci : Nat) (fs : List Value) : Prop := w[p]? = some (.inr (ci, fs))
def v_ia (w : rz_W) (p n : Nat) (f : Nat → Int32) : Prop := w[p]? = some (.inl (.int, n, .inl f))
def v_za (w : rz_W) (p n : Nat) (f : Nat → Int32) : Prop := w[p]? = some (.inl (.boolean, n, .inl f))
def v_ca (w : rz_W) (p n : Nat) (f : Nat → Int32) : Prop := w[p]? = some (.inl (.char, n, .inl f))
def v_la (w : rz_W) (p n : Nat) (f : Nat → Int64) : Prop := w[p]? = some (.inl (.long, n, .inr (.inl f)))
def v_ga (w : rz_W) (p n : Nat) (f : Nat → Option Nat) : Prop := w[p]? = some (.inl (.object "Latticeyard$Grid", n, .inr (.inr (.inr (.inr f)))))
/-- all cells but those of S stand as before -/
def rz_fr (S : List Nat) (w w' : rz_W) : Prop := w.length ≤ w'.length ∧ ∀ q, q < w.length → q ∉ S → w'[q]? = w[q]?
section RZFR
variable {S : List Nat} {w w' w2 : rz_W} {p q n ci : Nat} {e : rz_E}
theorem fr_refl : rz_fr S w w := ⟨Nat.le_refl _, fun _ _ _ => rfl⟩
theorem fr_trans (h : rz_fr S w w') (h2 : rz_fr S w' w2) : rz_fr S w w2 := ⟨Nat.le_trans h.1 h2.1, fun q a b => (h2.2 q (Nat.lt_of_lt_of_le a h.1) b).trans (h.2 q a b)⟩
theorem fr_sub {T : List Nat} (h : rz_fr S w w') (hT : ∀ q, q ∈ S → q ∈ T) : rz_fr T w w' := ⟨h.1, fun q a b => h.2 q a (fun c => b (hT q c))⟩
theorem fr_set (h : p ∈ S) : rz_fr S w (w.set p e) := ⟨by simp, fun q _ b => w_ne (fun c => b (c ▸ h))⟩
theorem fr_app {l : rz_W} : rz_fr S w (w ++ l) := ⟨by simp, fun q a _ => List.getElem?_append_left a⟩
theorem fr_new {l : rz_W} (h : w.length ≤ p) : rz_fr S w (w.set p e) := ⟨by simp, fun q a _ => w_ne (by omega)⟩
theorem fr_get (h : rz_fr S w w') (hq : q ∉ S) {u : rz_E} (hw : w[q]? = some u) : w'[q]? = some u := (h.2 q (w_lt hw) hq).trans hw
/-- a slot: none and not held, or a grid and the reference's three numbers -/
def v_slot (w : rz_W) (o : Option Nat) (h : Int32) (a b c : Int64) : Prop := match o with
  | none => h = Int32.ofInt 0
  | some g => h = Int32.ofInt 1 ∧ 49 ≤ g ∧ ∃ A B C : Int, (1 ≤ A ∧ 0 ≤ B ∧ B < C ∧ A * C ≤ 1000000) ∧ v_ob w g 3 [.int (Int32.ofInt A), .int (Int32.ofInt B), .int (Int32.ofInt C)] ∧ a = Int64.ofInt A ∧ b = Int64.ofInt B ∧ c = Int64.ofInt C
theorem v_slot_fr {o : Option Nat} {h : Int32} {a b c : Int64} (hf : rz_fr S w w') (hS : ∀ q, q ∈ S → q < 49) (hv : v_slot w o h a b c) : v_slot w' o h a b c := by
  cases o with
  | none => exact hv
  | some g =>
    obtain ⟨h1, h2, A, B, C, h3, h4, h5⟩ := hv
    exact ⟨h1, h2, A, B, C, h3, fr_get hf (fun q => by have := hS g q; omega) h4, h5⟩
def v_slots (w : rz_W) (kept : Int) : Prop := ∃ (G KG : Nat → Option Nat) (H KH KS KT : Nat → Int32) (A B C KA KB KC : Nat → Int64), (v_ga w 1 8 G ∧ v_ia w 2 10 KS ∧ v_ga w 3 10 KG ∧ v_za w 33 8 H ∧ v_la w 34 8 A ∧ v_la w 35 8 B ∧ v_la w 36 8 C ∧ v_ia w 37 10 KT ∧ v_za w 38 10 KH ∧ v_la w 39 10 KA ∧ v_la w 40 10 KB ∧ v_la w 41 10 KC) ∧ (0 ≤ kept ∧ kept ≤ 10) ∧ (∀ i, i < 8 → v_slot w (G i) (H i) (A i) (B i) (C i)) ∧ ∀ k : Nat, (k : Int) < kept → v_slot w (KG k) (KH k) (KA k) (KB k) (KC k) ∧ ∃ s : Int, (0 ≤ s ∧ s ≤ 7) ∧ KS k = Int32.ofInt s ∧ KT k = Int32.ofInt s
theorem v_slots_fr {kept : Int} (hf : rz_fr S w w') (hS : ∀ q, q ∈ S → q < 49 ∧ q ∉ [1, 2, 3, 33, 34, 35, 36, 37, 38, 39, 40, 41]) (hv : v_slots w kept) : v_slots w' kept := by
  have hn : ∀ q, q ∈ [1, 2, 3, 33, 34, 35, 36, 37, 38, 39, 40, 41] → q ∉ S := fun q h c => (hS q c).2 h
  have h49 : ∀ q, q ∈ S → q < 49 := fun q c => (hS q c).1
  obtain ⟨G, KG, H, KH, KS, KT, A, B, C, KA, KB, KC, ⟨a1, a2, a3, a4, a5, a6, a7, a8, a9, b1, b2, b3⟩, hk, hs, hq⟩ := hv
  refine ⟨G, KG, H, KH, KS, KT, A, B, C, KA, KB, KC, ⟨fr_get hf (hn _ (by decide)) a1, fr_get hf (hn _ (by decide)) a2, fr_get hf (hn _ (by decide)) a3, fr_get hf (hn _ (by decide)) a4, fr_get hf (hn _ (by decide)) a5, fr_get hf (hn _ (by decide)) a6, fr_get hf (hn _ (by decide)) a7, fr_get hf (hn _ (by decide)) a8, fr_get hf (hn _ (by decide)) a9, fr_get hf (hn _ (by decide)) b1, fr_get hf (hn _ (by decide)) b2, fr_get hf (hn _ (by decide)) b3⟩, hk, fun i hi => v_slot_fr hf h49 (hs i hi), fun k h => ⟨v_slot_fr hf h49 (hq k h).1, (hq k h).2⟩⟩
/-- the one text -/
def v_text (w : rz_W) (told : Int) : Prop := ∃ f g : Nat → Int32, v_ob w 12 9 [.int (Int32.ofInt told), .ref 13] ∧ v_ca w 13 64 f ∧ v_ia w 42 60 g ∧ (0 ≤ told ∧ told ≤ 60) ∧ ∀ k : Nat, (k : Int) < told → ∃ c : Int, (0 ≤ c ∧ c ≤ 65535) ∧ f k = Int32.ofInt c ∧ g k = Int32.ofInt c
theorem v_text_fr {told : Int} (hf : rz_fr S w w') (h1 : 12 ∉ S) (h2 : 13 ∉ S) (h3 : 42 ∉ S) (hv : v_text w told) : v_text w' told := by
  obtain ⟨f, g, a1, a2, a3, a4⟩ := hv
  exact ⟨f, g, fr_get hf h1 a1, fr_get hf h2 a2, fr_get hf h3 a3, a4⟩
/-- what each call makes anew: the shapes alone -/
def v_misc (w : rz_W) : Prop := (∃ a b c d e f g : Int64, v_ob w 4 0 [.long a, .long b, .long c, .long d, .long e, .long f, .long g]) ∧ (∃ (n : Int32) (f g h : Nat → Int64), v_ob w 5 8 [.ref 6, .ref 7, .ref 8, .int n] ∧ v_la w 6 20 f ∧ v_la w 7 20 g ∧ v_la w 8 20 h) ∧ (∃ (n m : Int32) (u : Int64) (f g : Nat → Int64), v_ob w 9 1 [.int n, .long u, .ref 10, .ref 11, .int m] ∧ v_la w 10 6 f ∧ v_la w 11 6 g) ∧ (∃ (n : Int32) (f g : Nat → Int32), v_ob w 26 5 [.ref 27, .ref 28, .int n] ∧ v_ia w 27 3721 f ∧ v_ia w 28 3721 g) ∧ (∃ (n : Int32) (f g : Nat → Int32), v_ob w 29 4 [.int n, .ref 30, .ref 31] ∧ v_ia w 30 201 f ∧ v_ia w 31 201 g) ∧ (∃ f g : Nat → Int32, v_ia w 46 3721 f ∧ v_ia w 47 3721 g) ∧ ∃ f : Nat → Int64, v_la w 48 1 f
def v_yard (w : rz_W) (kept : Int) : Prop := v_ob w 0 10 [.ref 1, .ref 2, .ref 3, .int (Int32.ofInt kept), .ref 4, .ref 5, .ref 9, .ref 12, .ref 14, .ref 18, .ref 26, .ref 29]
def v_model (w : rz_W) (kept told kinds typed closed thrown : Int) : Prop := v_ob w 32 11 [.ref 33, .ref 34, .ref 35, .ref 36, .ref 37, .ref 38, .ref 39, .ref 40, .ref 41, .int (Int32.ofInt kept), .ref 42, .int (Int32.ofInt told), .ref 43, .int (Int32.ofInt kinds), .ref 44, .ref 45, .int (Int32.ofInt typed), .int (Int32.ofInt closed), .int (Int32.ofInt thrown), .ref 46, .ref 47]
end RZFR
