/-! part 51: level 2: a call that gives a slot a grid keeps the invariant -/
section RZBF
variable {X : rz_X} {d : Nat} {w : rz_W} {nc ns : Nat} {kp tl kd ty cl th : Int}
theorem v_slots_become {S : List Nat} {w2 : rz_W} {g : Nat} {s a b c : Int} {G KG : Nat → Option Nat} {H KH KS KT : Nat → Int32} {A B C KA KB KC : Nat → Int64} (hk : 0 ≤ kp ∧ kp ≤ 10) (hS : ∀ i, i < 8 → v_slot w (G i) (H i) (A i) (B i) (C i)) (hK : ∀ k : Nat, (k : Int) < kp → v_slot w (KG k) (KH k) (KA k) (KB k) (KC k) ∧ ∃ s : Int, (0 ≤ s ∧ s ≤ 7) ∧ KS k = Int32.ofInt s ∧ KT k = Int32.ofInt s) (hs : 0 ≤ s ∧ s ≤ 7) (hf : rz_fr S w w2) (h49 : ∀ q, q ∈ S → q < 49) (hg : 49 ≤ g) (hr : 1 ≤ a ∧ 0 ≤ b ∧ b < c ∧ a * c ≤ 1000000) (ho : v_ob w2 g 3 [.int (Int32.ofInt a), .int (Int32.ofInt b), .int (Int32.ofInt c)])
    (e1 : v_ga w2 1 8 (va_up G s.toNat (some g))) (e2 : v_ia w2 2 10 (upd (zf_ks KS kp) (zf_kk kp).toNat (Int32.ofInt s))) (e3 : v_ga w2 3 10 (va_up (zf_ks KG kp) (zf_kk kp).toNat (G s.toNat))) (e33 : v_za w2 33 8 (upd H s.toNat (Int32.ofInt 1))) (e34 : v_la w2 34 8 (vp_updL A s.toNat (Int64.ofInt a))) (e35 : v_la w2 35 8 (vp_updL B s.toNat (Int64.ofInt b))) (e36 : v_la w2 36 8 (vp_updL C s.toNat (Int64.ofInt c))) (e37 : v_ia w2 37 10 (upd (zf_ks KT kp) (zf_kk kp).toNat (Int32.ofInt s))) (e38 : v_za w2 38 10 (upd (zf_ks KH kp) (zf_kk kp).toNat (H s.toNat))) (e39 : v_la w2 39 10 (vp_updL (zf_ks KA kp) (zf_kk kp).toNat (A s.toNat))) (e40 : v_la w2 40 10 (vp_updL (zf_ks KB kp) (zf_kk kp).toNat (B s.toNat))) (e41 : v_la w2 41 10 (vp_updL (zf_ks KC kp) (zf_kk kp).toNat (C s.toNat))) : v_slots w2 (zf_kk kp + 1) := by
  have hkk : 0 ≤ zf_kk kp ∧ zf_kk kp ≤ 9 := by unfold zf_kk; split <;> omega
  refine ⟨_, _, _, _, _, _, _, _, _, _, _, _, ⟨e1, e2, e3, e33, e34, e35, e36, e37, e38, e39, e40, e41⟩, by omega, ?_, ?_⟩
  · intro i hi
    by_cases h : i = s.toNat
    · subst h
      simp only [va_up, upd, vp_updL, if_true]
      exact ⟨rfl, hg, a, b, c, hr, ho, rfl, rfl, rfl⟩
    · simp only [va_up, upd, vp_updL, if_neg h]
      exact v_slot_fr hf h49 (hS i hi)
  · intro k hk1
    by_cases h : k = (zf_kk kp).toNat
    · subst h
      simp only [va_up, upd, vp_updL, if_true]
      exact ⟨v_slot_fr hf h49 (hS s.toNat (by omega)), s, hs, rfl, rfl⟩
    · simp only [va_up, upd, vp_updL, if_neg h]
      by_cases h10 : kp = 10
      · have k9 : zf_kk kp = 9 := if_pos h10
        have hks : ∀ {α : Type} (f : Nat → α), zf_ks f kp k = f (k + 1) := by
          intro α f
          unfold zf_ks zf_sh
          rw [if_pos h10, if_pos (by omega)]
        simp only [hks]
        obtain ⟨h1, h2⟩ := hK (k + 1) (by omega)
        exact ⟨v_slot_fr hf h49 h1, h2⟩
      · have k9 : zf_kk kp = kp := if_neg h10
        have hks : ∀ {α : Type} (f : Nat → α), zf_ks f kp k = f k := by
          intro α f
          unfold zf_ks
          rw [if_neg h10]
        simp only [hks]
        obtain ⟨h1, h2⟩ := hK k (by omega)
        exact ⟨v_slot_fr hf h49 h1, h2⟩
theorem v_slot_h {o : Option Nat} {h : Int32} {a b c : Int64} (hv : v_slot w o h a b c) : vp_nar .boolean h = h ∧ (∀ q, o = some q → 4 ≤ q ∧ ∃ fs, v_ob w q 3 fs) := by
  cases o with
  | none =>
    have : h = Int32.ofInt 0 := hv
    subst this
    exact ⟨nz_0, fun q hq => by cases hq⟩
  | some g =>
    obtain ⟨h1, h2, A, B, C, h3, h4, h5⟩ := hv
    subst h1
    refine ⟨nz_1, fun q hq => ?_⟩
    obtain rfl : g = q := Option.some.inj hq
    exact ⟨by omega, _, h4⟩
/-- a call that gives a slot a grid, of the class and of the reference -/
theorem ag_bec {mx my g : Nat} {as : List Value} {es : List String} {c1 s1 : Nat} {r : Int32} {s a b c : Int} {w1 : rz_W} (hA : v_yard w kp ∧ v_model w kp tl kd ty cl th ∧ v_slots w kp ∧ v_text w tl ∧ v_purse w kd ∧ v_poly w ty cl ∧ v_misc w) (hsr : 0 ≤ s ∧ s ≤ 7) (hf1 : rz_fr [] w w1) (hg : 49 ≤ g) (hr : 1 ≤ a ∧ 0 ≤ b ∧ b < c ∧ a * c ≤ 1000000) (ho : v_ob w1 g 3 [.int (Int32.ofInt a), .int (Int32.ofInt b), .int (Int32.ofInt c)])
    (E1 : ∀ w', rz_ex X (d + 28) 158 [.ref 0, .int (Int32.ofInt s), .ref g] w1 = some (.inl (some (.int (Int32.ofInt (a * c)))), w', 0, 0) → v_ob w' g 3 [.int (Int32.ofInt a), .int (Int32.ofInt b), .int (Int32.ofInt c)] → rz_ex X (d + 29) mx (.ref 0 :: as) w = some (.inl (some (.int r)), w', c1, s1))
    (E2 : ∀ wr, rz_fr [0, 1, 2, 3, 48] w wr → v_model wr kp tl kd ty cl th → ∃ (wq : rz_W) (c2 s2 : Nat), rz_fr [32] wr wq ∧ v_model wq kp tl kd ty cl 0 ∧ c1 + c2 ≤ 1100 ∧ s1 + s2 ≤ 14000 ∧ ∀ w', rz_ex X (d + 29) 180 [.ref 32, .int (Int32.ofInt s), .long (Int64.ofInt a), .long (Int64.ofInt b), .long (Int64.ofInt c)] wq = some (.inl (some (.int (Int32.ofInt (a * c)))), w', 0, 0) → v_model w' (zf_kk kp + 1) tl kd ty cl 0 → ∃ w3, rz_ex X (d + 30) my (.ref 32 :: as) wr = some (.inl (some (.int r)), w3, c2, s2) ∧ rz_fr [32] w' w3 ∧ v_model w3 (zf_kk kp + 1) tl kd ty cl 0) : rz_ag X d mx my false as es w := by
  obtain ⟨hy, hm, hs, ht, hp, hq, hmi⟩ := hA
  obtain ⟨G, KG, H, KH, KS, KT, A, B, C, KA, KB, KC, ⟨g1, g2, g3, g33, g34, g35, g36, g37, g38, g39, g40, g41⟩, hk, hS, hK⟩ := id hs
  obtain ⟨-, -, -, -, -, -, f, h48⟩ := id hmi
  obtain ⟨wc, e1, fc, yc, k1, k2, k3⟩ := x_become (X := X) (d := d + 26) (w := w1) (s := s) (fr_get hf1 (by decide) hy) hk hsr (fr_get hf1 (by decide) g1) (fr_get hf1 (by decide) g2) (fr_get hf1 (by decide) g3) ho (by omega) (fun j q hj hq => by
    obtain ⟨h4, fs, h5⟩ := (v_slot_h (hS j hj)).2 q hq
    exact ⟨h4, fs, fr_get hf1 (by simp) h5⟩) (fun h10 j q hj hq => by
    obtain ⟨h4, fs, h5⟩ := (v_slot_h (hK j (by omega)).1).2 q hq
    exact ⟨h4, fs, fr_get hf1 (by simp) h5⟩)
  have hoc : v_ob wc g 3 [.int (Int32.ofInt a), .int (Int32.ofInt b), .int (Int32.ofInt c)] := fr_get fc (by simp; omega) ho
  have E1' := E1 wc e1 hoc
  have fwc : rz_fr [0, 1, 2, 3] w wc := fr_trans (fr_sub hf1 (by simp)) fc
  have ho1 : v_la wc 48 1 f := fr_get fwc (by decide) h48
  have hmc : v_model wc kp tl kd ty cl th := fr_get fwc (by decide) hm
  generalize hwr : wc.set 48 (.inl (.long, 1, .inr (.inl (vp_updL f 0 r.toInt64)))) = wr
  have fcr : rz_fr [48] wc wr := by rw [← hwr]; exact fr_set (by decide)
  have hor : v_la wr 48 1 (vp_updL f 0 r.toInt64) := by rw [← hwr]; exact w_eq (w_lt ho1)
  have fwr : rz_fr [0, 1, 2, 3, 48] w wr := fr_trans (fr_sub fwc (by decide)) (fr_sub fcr (by decide))
  obtain ⟨wq, c2, s2, fq, mq, b1, b2, E2'⟩ := E2 wr fwr (fr_get fcr (by decide) hmc)
  have fwq : rz_fr [0, 1, 2, 3, 48, 32] w wq := fr_trans (fr_sub fwr (by decide)) (fr_sub fq (by decide))
  obtain ⟨wy, ey, fy, mY, y33, y34, y35, y36, y37, y38, y39, y40, y41⟩ := y_becomes (X := X) (d := d + 28) (A := a) (B := b) (C := c) mq hk hsr (fr_get fwq (by decide) g33) (fr_get fwq (by decide) g34) (fr_get fwq (by decide) g35) (fr_get fwq (by decide) g36) (fr_get fwq (by decide) g37) (fr_get fwq (by decide) g38) (fr_get fwq (by decide) g39) (fr_get fwq (by decide) g40) (fr_get fwq (by decide) g41) (v_slot_h (hS s.toNat (by omega))).1 (fun h10 j hj => (v_slot_h (hK j (by omega)).1).1)
  obtain ⟨w3, e3, f3, m3⟩ := E2' wy ey mY
  have fc3 : rz_fr [48, 32, 33, 34, 35, 36, 37, 38, 39, 40, 41] wc w3 := fr_trans (fr_sub fcr (by decide)) (fr_trans (fr_sub fq (by decide)) (fr_trans (fr_sub fy (by decide)) (fr_sub f3 (by decide))))
  have fr3 : rz_fr [32, 33, 34, 35, 36, 37, 38, 39, 40, 41] wr w3 := fr_trans (fr_sub fq (by decide)) (fr_trans (fr_sub fy (by decide)) (fr_sub f3 (by decide)))
  have fw3 : rz_fr [0, 1, 2, 3, 48, 32, 33, 34, 35, 36, 37, 38, 39, 40, 41] w w3 := fr_trans (fr_sub fwc (by decide)) (fr_sub fc3 (by decide))
  have o3 : v_la w3 48 1 (vp_updL f 0 r.toInt64) := fr_get fr3 (by decide) hor
  refine .inl ⟨r, wc, c1, s1, f, _, w3, c2, s2, E1', ho1, hmc, by rw [hwr]; exact e3, ⟨_, m3, rfl⟩, ⟨_, o3, vp_updL_self⟩, ?_, b1, b2, fun h => by cases h⟩
  refine ⟨zf_kk kp + 1, tl, kd, ty, cl, 0, fr_get fc3 (by decide) yc, m3, ?_, v_text_fr fw3 (by decide) (by decide) (by decide) ht, v_purse_fr fw3 (by decide) hp, v_poly_fr fw3 (by decide) hq, v_misc_fr48 hmi fw3 (by decide) o3⟩
  exact v_slots_become hk hS hK hsr fw3 (by decide) hg hr (fr_get fc3 (by simp; omega) hoc) (fr_get fc3 (by decide) k1) (fr_get fc3 (by decide) k2) (fr_get fc3 (by decide) k3) (fr_get f3 (by decide) y33) (fr_get f3 (by decide) y34) (fr_get f3 (by decide) y35) (fr_get f3 (by decide) y36) (fr_get f3 (by decide) y37) (fr_get f3 (by decide) y38) (fr_get f3 (by decide) y39) (fr_get f3 (by decide) y40) (fr_get f3 (by decide) y41)
end RZBF
