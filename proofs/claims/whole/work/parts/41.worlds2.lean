/-! part 41: level 2: arrays of booleans, chars and objects; how a call that keeps the state is put together -/
section RZWB
variable {w : rz_W} {p q n b ci : Nat} {C : String} {e : rz_E} {i a : Int} {f : Nat → Int32} {g : Nat → Option Nat} {fs : List Value} {K : rz_K} {Ki : Int32 → Option rz_R} {Kw : rz_W → Option rz_R}
theorem aa_eq (h : w[p]? = some (.inl (.object C, n, .inr (.inr (.inr (.inr g)))))) (h1 : 0 ≤ i) (h2 : i < n) (h3 : i ≤ 2147483647) : rz_aa w p (Int32.ofInt i) K = K (va_rf (g i.toNat)) := by
  unfold rz_aa; rw [h]; dsimp only; rw [if_neg (i_in h1 h2 h3), i_nat h1 h3]
theorem az_eq (h : w[p]? = some (.inl (.boolean, n, .inl f))) (h1 : 0 ≤ i) (h2 : i < n) (h3 : i ≤ 2147483647) : rz_az w p (Int32.ofInt i) Ki = Ki (f i.toNat) := by
  unfold rz_az; rw [h]; dsimp only; rw [if_neg (i_in h1 h2 h3), i_nat h1 h3]
theorem ac_eq (h : w[p]? = some (.inl (.char, n, .inl f))) (h1 : 0 ≤ i) (h2 : i < n) (h3 : i ≤ 2147483647) : rz_ac w p (Int32.ofInt i) Ki = Ki (f i.toNat) := by
  unfold rz_ac; rw [h]; dsimp only; rw [if_neg (i_in h1 h2 h3), i_nat h1 h3]
theorem nz_0 : vp_nar .boolean (Int32.ofInt 0) = Int32.ofInt 0 := by decide
theorem nz_1 : vp_nar .boolean (Int32.ofInt 1) = Int32.ofInt 1 := by decide
theorem sz_eq {x : Int32} (h : w[p]? = some (.inl (.boolean, n, .inl f))) (h1 : 0 ≤ i) (h2 : i < n) (h3 : i ≤ 2147483647) (h4 : vp_nar .boolean x = x) : rz_sz w p (Int32.ofInt i) x Kw = Kw (w.set p (.inl (.boolean, n, .inl (upd f i.toNat x)))) := by
  unfold rz_sz; rw [h]; dsimp only; rw [if_neg (i_in h1 h2 h3), i_nat h1 h3, h4]
theorem sc_at {x : Int32} (h : w[p]? = some (.inl (.char, n, .inl f))) (h1 : 0 ≤ i) (h2 : i < n) (h3 : i ≤ 2147483647) (h4 : vp_nar .char x = x) : rz_sc w p (Int32.ofInt i) x Kw = Kw (w.set p (.inl (.char, n, .inl (upd f i.toNat x)))) := by
  unfold rz_sc; rw [h]; dsimp only; rw [if_neg (i_in h1 h2 h3), i_nat h1 h3, h4]
theorem sa_n (h : w[p]? = some (.inl (.object C, n, .inr (.inr (.inr (.inr g)))))) (h1 : 0 ≤ i) (h2 : i < n) (h3 : i ≤ 2147483647) : rz_sa w p (Int32.ofInt i) .null Kw = Kw (w.set p (.inl (.object C, n, .inr (.inr (.inr (.inr (va_up g i.toNat none))))))) := by
  unfold rz_sa; rw [h]; dsimp only; rw [if_neg (i_in h1 h2 h3), i_nat h1 h3]
theorem sa_r (h : w[p]? = some (.inl (.object C, n, .inr (.inr (.inr (.inr g)))))) (hb : w[b]? = some (.inr (ci, fs))) (hC : rz_on[ci]? = some C) (h1 : 0 ≤ i) (h2 : i < n) (h3 : i ≤ 2147483647) : rz_sa w p (Int32.ofInt i) (.ref b) Kw = Kw (w.set p (.inl (.object C, n, .inr (.inr (.inr (.inr (va_up g i.toNat (some b)))))))) := by
  unfold rz_sa; rw [h]; dsimp only; rw [hb]; dsimp only
  rw [if_neg (by intro c; rcases c with c | c; exact i_in h1 h2 h3 c; exact c hC), i_nat h1 h3]
theorem aa_ne (h : p ≠ q) {j : Int32} : rz_aa (w.set p e) q j K = rz_aa w q j K := by unfold rz_aa; rw [w_ne h]
theorem aa_old (h : q < w.length) {j : Int32} : rz_aa (w ++ [e]) q j K = rz_aa w q j K := by unfold rz_aa; rw [w_old h]
theorem az_ne (h : p ≠ q) {j : Int32} : rz_az (w.set p e) q j Ki = rz_az w q j Ki := by unfold rz_az; rw [w_ne h]
theorem az_old (h : q < w.length) {j : Int32} : rz_az (w ++ [e]) q j Ki = rz_az w q j Ki := by unfold rz_az; rw [w_old h]
theorem ac_ne (h : p ≠ q) {j : Int32} : rz_ac (w.set p e) q j Ki = rz_ac w q j Ki := by unfold rz_ac; rw [w_ne h]
theorem upd_eq {x : Int32} {k : Nat} : upd f k x k = x := by unfold upd; exact if_pos rfl
theorem upd_ne {x : Int32} {k j : Nat} (h : j ≠ k) : upd f k x j = f j := by unfold upd; exact if_neg h
theorem rf_some {k : Nat} : va_rf (some k) = .ref k := rfl
theorem rf_none : va_rf none = .null := rfl
/-- a char, narrowed -/
theorem nc_of {c : Int} (h1 : 0 ≤ c) (h2 : c ≤ 65535) : vp_nar .char (Int32.ofInt c) = Int32.ofInt c := by
  rw [vp_nar_char]
  obtain ⟨n, rfl⟩ := Int.eq_ofNat_of_zero_le h1
  apply Int32.toBitVec_inj.1
  apply BitVec.eq_of_toNat_eq
  simp [Int32.toBitVec_ofInt, BitVec.toNat_ofInt]
  omega
end RZWB
/-- the reference's object -/
def rz_mo (kept told kinds typed closed thrown : Int) : rz_E := .inr (11, [.ref 33, .ref 34, .ref 35, .ref 36, .ref 37, .ref 38, .ref 39, .ref 40, .ref 41, .int (Int32.ofInt kept), .ref 42, .int (Int32.ofInt told), .ref 43, .int (Int32.ofInt kinds), .ref 44, .ref 45, .int (Int32.ofInt typed), .int (Int32.ofInt closed), .int (Int32.ofInt thrown), .ref 46, .ref 47])
section RZAG
variable {X : rz_X} {d : Nat} {w w1 w2 : rz_W} {S : List Nat} {kp tl kd ty cl th : Int}
theorem v_mo {t : Int} (h : v_model w kp tl kd ty cl th) : v_model (w.set 32 (rz_mo kp tl kd ty cl t)) kp tl kd ty cl t := w_eq (w_lt h)
theorem mo_mo {u : rz_E} {k2 t2 d2 y2 c2 h2 : Int} : (w.set 32 u).set 32 (rz_mo k2 t2 d2 y2 c2 h2) = w.set 32 (rz_mo k2 t2 d2 y2 c2 h2) := List.set_set _
theorem x_no1 {k : Int} (hm : v_model w kp tl kd ty cl th) : rz_ex X (d + 1) 175 [.ref 32, .int (Int32.ofInt 1), .int (Int32.ofInt k)] w = some (.inl (some (.int (Int32.ofInt 0))), w.set 32 (rz_mo kp tl kd ty cl 0), 0, 0) := by
  have := x_no (X := X) (d := d) (b := 1) (k := k) hm rfl (by omega) (by omega)
  rw [if_neg (by omega), if_neg (by omega)] at this
  exact this
theorem x_no0 {k : Int} (hm : v_model w kp tl kd ty cl th) : rz_ex X (d + 1) 175 [.ref 32, .int (Int32.ofInt 0), .int (Int32.ofInt k)] w = some (.inl (some (.int (Int32.ofInt 1))), w.set 32 (rz_mo kp tl kd ty cl k), 0, 0) := by
  have := x_no (X := X) (d := d) (b := 0) (k := k) hm rfl (by omega) (by omega)
  rw [if_pos rfl, if_pos rfl] at this
  exact this
/-- a class's or the reference's scratch -/
def rz_scr : List Nat := [4, 5, 6, 7, 8, 9, 10, 11, 26, 27, 28, 29, 30, 31, 46, 47, 48]
theorem v_inv_fr (hv : v_inv w) (hf : rz_fr S w w1) (hS : ∀ q, q ∈ S → q ∈ rz_scr) (hm : v_misc w1) : v_inv w1 := by
  obtain ⟨kept, told, kinds, typed, closed, thr, h0, h1, h2, h3, h4, h5, h6⟩ := hv
  have hn : ∀ q, q ∉ rz_scr → q ∉ S := fun q h c => h (hS q c)
  have h49 : ∀ q, q ∈ rz_scr → q < 49 := by decide
  have e1 : ∀ q, q ∈ rz_scr → q ∉ [1, 2, 3, 33, 34, 35, 36, 37, 38, 39, 40, 41] := by decide
  have e2 : ∀ q, q ∈ rz_scr → q ∉ [14, 15, 16, 17, 43] := by decide
  have e3 : ∀ q, q ∈ rz_scr → q ∉ [18, 19, 20, 21, 22, 23, 24, 25, 44, 45] := by decide
  exact ⟨kept, told, kinds, typed, closed, thr, fr_get hf (hn _ (by decide)) h0, fr_get hf (hn _ (by decide)) h1, v_slots_fr hf (fun q h => ⟨h49 q (hS q h), e1 q (hS q h)⟩) h2, v_text_fr hf (hn _ (by decide)) (hn _ (by decide)) (hn _ (by decide)) h3, v_purse_fr hf (fun q h => e2 q (hS q h)) h4, v_poly_fr hf (fun q h => e3 q (hS q h)) h5, hm⟩
/-- what was noted, changed -/
theorem v_inv_th (hv : v_inv w) (hm0 : v_model w kp tl kd ty cl th) (t : Int) (hf : rz_fr (32 :: S) w w1) (hS : ∀ q, q ∈ S → q ∈ rz_scr) (hm : v_misc w1) (h1 : v_model w1 kp tl kd ty cl t) : v_inv w1 ∧ v_th w1 t := by
  obtain ⟨kept, told, kinds, typed, closed, thr, g0, g1, h2, h3, h4, h5, h6⟩ := hv
  have hn : ∀ q, q ∉ rz_scr → q ≠ 32 → q ∉ (32 :: S) := by
    intro q h c hc
    rcases List.mem_cons.mp hc with hc | hc
    · exact c hc
    · exact h (hS q hc)
  have hin : ∀ q, q ∈ (32 :: S) → q ∈ 32 :: rz_scr := by
    intro q hc
    rcases List.mem_cons.mp hc with hc | hc
    · exact List.mem_cons.mpr (.inl hc)
    · exact List.mem_cons.mpr (.inr (hS q hc))
  have h49 : ∀ q, q ∈ 32 :: rz_scr → q < 49 := by decide
  have e1 : ∀ q, q ∈ 32 :: rz_scr → q ∉ [1, 2, 3, 33, 34, 35, 36, 37, 38, 39, 40, 41] := by decide
  have e2 : ∀ q, q ∈ 32 :: rz_scr → q ∉ [14, 15, 16, 17, 43] := by decide
  have e3 : ∀ q, q ∈ 32 :: rz_scr → q ∉ [18, 19, 20, 21, 22, 23, 24, 25, 44, 45] := by decide
  have hh := hm0.symm.trans g1
  injection hh with hh
  injection hh with hh
  injection hh with _ hh
  injection hh with _ hh; injection hh with _ hh; injection hh with _ hh; injection hh with _ hh; injection hh with _ hh; injection hh with _ hh; injection hh with _ hh; injection hh with _ hh; injection hh with _ hh
  injection hh with k1 hh; injection hh with _ hh; injection hh with k2 hh; injection hh with _ hh; injection hh with k3 hh; injection hh with _ hh; injection hh with _ hh; injection hh with k4 hh; injection hh with k5 hh
  have h1' : v_model w1 kept told kinds typed closed t := by
    unfold v_model at h1 ⊢
    rw [← k1, ← k2, ← k3, ← k4, ← k5]
    exact h1
  exact ⟨⟨kept, told, kinds, typed, closed, t, fr_get hf (hn _ (by decide) (by decide)) g0, h1', v_slots_fr hf (fun q h => ⟨h49 q (hin q h), e1 q (hin q h)⟩) h2, v_text_fr hf (hn _ (by decide) (by decide)) (hn _ (by decide) (by decide)) (hn _ (by decide) (by decide)) h3, v_purse_fr hf (fun q h => e2 q (hin q h)) h4, v_poly_fr hf (fun q h => e3 q (hin q h)) h5, hm⟩, _, h1, rfl⟩
theorem v_misc_out {f : Nat → Int64} (hm : v_misc w) (hf : rz_fr [48] w w1) (hl : v_la w1 48 1 f) : v_misc w1 := by
  obtain ⟨⟨a, b, c, e, f, g, h, a1⟩, ⟨n2, f2, g2, h2, b1, b2, b3, b4⟩, ⟨n3, m3, u3, f3, g3, c1, c2, c3⟩, ⟨n4, f4, g4, d1, d2, d3⟩, ⟨n5, f5, g5, e1, e2, e3⟩, ⟨f6, g6, k1, k2⟩, f7, l1⟩ := hm
  exact ⟨⟨a, b, c, e, f, g, h, fr_get hf (by decide) a1⟩, ⟨n2, f2, g2, h2, fr_get hf (by decide) b1, fr_get hf (by decide) b2, fr_get hf (by decide) b3, fr_get hf (by decide) b4⟩, ⟨n3, m3, u3, f3, g3, fr_get hf (by decide) c1, fr_get hf (by decide) c2, fr_get hf (by decide) c3⟩, ⟨n4, f4, g4, fr_get hf (by decide) d1, fr_get hf (by decide) d2, fr_get hf (by decide) d3⟩, ⟨n5, f5, g5, fr_get hf (by decide) e1, fr_get hf (by decide) e2, fr_get hf (by decide) e3⟩, ⟨f6, g6, fr_get hf (by decide) k1, fr_get hf (by decide) k2⟩, _, hl⟩
theorem v_inv_misc (hv : v_inv w) : v_misc w := by
  obtain ⟨_, _, _, _, _, _, _, _, _, _, _, _, h6⟩ := hv
  exact h6
theorem v_inv_out (hv : v_inv w) : ∃ f, v_la w 48 1 f := by
  obtain ⟨_, _, _, _, _, _, h⟩ := v_inv_misc hv
  exact h
/-- a call that keeps the state and returns -/
theorem ag_ret {S1 S2 : List Nat} {mx my : Nat} {as : List Value} {es : List String} {z : Bool} {c1 s1 : Nat} {r : Int32} (hv : v_inv w) (hm : v_model w kp tl kd ty cl th) (e1 : rz_ex X (d + 29) mx (.ref 0 :: as) w = some (.inl (some (.int r)), w1, c1, s1)) (f1 : rz_fr S1 w w1) (hS1 : ∀ q, q ∈ S1 → q ∈ rz_scr) (hm1 : v_misc w1) (hS2 : ∀ q, q ∈ S2 → q ∈ rz_scr ∧ q ≠ 48) (hz : z = true → r = Int32.ofInt 0 ∨ r = Int32.ofInt 1)
    (H : ∀ (wr : rz_W), rz_fr (48 :: S1) w wr → v_model wr kp tl kd ty cl th → v_inv wr → ∃ (w2 : rz_W) (c2 s2 : Nat), rz_ex X (d + 30) my (.ref 32 :: as) wr = some (.inl (some (.int r)), w2, c2, s2) ∧ rz_fr (32 :: S2) wr w2 ∧ v_model w2 kp tl kd ty cl 0 ∧ v_misc w2 ∧ c1 + c2 ≤ 1100 ∧ s1 + s2 ≤ 14000) : rz_ag X d mx my z as es w := by
  have hv1 := v_inv_fr hv f1 hS1 hm1
  obtain ⟨f, ho⟩ := v_inv_out hv1
  have l48 := w_lt ho
  have hout : v_la (w1.set 48 (.inl (.long, 1, .inr (.inl (vp_updL f 0 r.toInt64))))) 48 1 (vp_updL f 0 r.toInt64) := w_eq l48
  have hfr : rz_fr [48] w1 (w1.set 48 (.inl (.long, 1, .inr (.inl (vp_updL f 0 r.toInt64))))) := fr_set (by decide)
  have hvr := v_inv_fr hv1 hfr (by decide) (v_misc_out (v_inv_misc hv1) hfr hout)
  have hmw1 : v_model w1 kp tl kd ty cl th := fr_get f1 (fun c => absurd (hS1 _ c) (by decide)) hm
  have hmr : v_model (w1.set 48 (.inl (.long, 1, .inr (.inl (vp_updL f 0 r.toInt64))))) kp tl kd ty cl th := fr_get hfr (by decide) hmw1
  obtain ⟨w2, c2, s2, e2, f2, m2, hm2, b1, b2⟩ := H _ (fr_trans (fr_sub f1 (fun q h => List.mem_cons.mpr (.inr h))) (fr_sub hfr (fun q h => by simp at h; simp [h]))) hmr hvr
  obtain ⟨i1, t1⟩ := v_inv_th hvr hmr 0 f2 (fun q h => (hS2 q h).1) hm2 m2
  refine .inl ⟨r, w1, c1, s1, f, _, w2, c2, s2, e1, ho, hmw1, e2, t1, ⟨_, fr_get f2 ?_ hout, vp_updL_self⟩, i1, b1, b2, hz⟩
  intro hc
  rcases List.mem_cons.mp hc with hc | hc
  · exact absurd hc (by decide)
  · exact (hS2 _ hc).2 rfl
/-- a call that keeps the state and throws -/
theorem ag_thr {S1 S2 : List Nat} {mx my : Nat} {as : List Value} {es : List String} {z : Bool} {c1 s1 : Nat} {E : String} (e : Nat) (he : es[e]? = some E) (hv : v_inv w) (hm : v_model w kp tl kd ty cl th) (e1 : rz_ex X (d + 29) mx (.ref 0 :: as) w = some (.inr E, w1, c1, s1)) (f1 : rz_fr S1 w w1) (hS1 : ∀ q, q ∈ S1 → q ∈ rz_scr) (hm1 : v_misc w1) (hS2 : ∀ q, q ∈ S2 → q ∈ rz_scr)
    (H : ∀ (wr : rz_W), rz_fr S1 w wr → v_model wr kp tl kd ty cl th → v_inv wr → ∃ (r : Int32) (w2 : rz_W) (c2 s2 : Nat), rz_ex X (d + 30) my (.ref 32 :: as) wr = some (.inl (some (.int r)), w2, c2, s2) ∧ rz_fr (32 :: S2) wr w2 ∧ v_model w2 kp tl kd ty cl (e + 1) ∧ v_misc w2 ∧ c1 + c2 ≤ 1100 ∧ s1 + s2 ≤ 14000) : rz_ag X d mx my z as es w := by
  have hv1 := v_inv_fr hv f1 hS1 hm1
  have hmw1 : v_model w1 kp tl kd ty cl th := fr_get f1 (fun c => absurd (hS1 _ c) (by decide)) hm
  obtain ⟨r, w2, c2, s2, e2, f2, m2, hm2, b1, b2⟩ := H _ f1 hmw1 hv1
  obtain ⟨i1, t1⟩ := v_inv_th hv1 hmw1 (e + 1) f2 hS2 hm2 m2
  exact .inr ⟨e, E, r, w1, c1, s1, _, w2, c2, s2, he, e1, hmw1, e2, t1, i1, b1, b2⟩
/-- the same for a class's method that leaves the world alone, and a reference's that notes and makes arrays -/
theorem ag_ret0 {mx my : Nat} {as : List Value} {es : List String} {z : Bool} {c1 s1 : Nat} {r : Int32} (hv : v_inv w) (hm : v_model w kp tl kd ty cl th) (e1 : rz_ex X (d + 29) mx (.ref 0 :: as) w = some (.inl (some (.int r)), w, c1, s1)) (hz : z = true → r = Int32.ofInt 0 ∨ r = Int32.ofInt 1)
    (H : ∀ (wr : rz_W), rz_fr [48] w wr → v_model wr kp tl kd ty cl th → v_inv wr → ∃ (l : rz_W) (c2 s2 : Nat), rz_ex X (d + 30) my (.ref 32 :: as) wr = some (.inl (some (.int r)), wr.set 32 (rz_mo kp tl kd ty cl 0) ++ l, c2, s2) ∧ c1 + c2 ≤ 1100 ∧ s1 + s2 ≤ 14000) : rz_ag X d mx my z as es w := by
  refine ag_ret (S1 := []) (S2 := []) hv hm e1 fr_refl (by simp) (v_inv_misc hv) (by simp) hz ?_
  intro wr hf hm hv'
  obtain ⟨l, c2, s2, e2, b1, b2⟩ := H wr hf hm hv'
  have hfr : rz_fr [32] wr (wr.set 32 (rz_mo kp tl kd ty cl 0) ++ l) := fr_trans (fr_set (by decide)) fr_app
  refine ⟨_, c2, s2, e2, hfr, ?_, v_misc_fr hfr (by decide) (v_inv_misc hv'), b1, b2⟩
  unfold v_model v_ob
  rw [List.getElem?_append_left (by rw [List.length_set]; exact w_lt hm), w_eq (w_lt hm)]
  rfl
theorem ag_thr0 {mx my : Nat} {as : List Value} {es : List String} {z : Bool} {c1 s1 : Nat} {E : String} (e : Nat) (he : es[e]? = some E) (hv : v_inv w) (hm : v_model w kp tl kd ty cl th) (e1 : rz_ex X (d + 29) mx (.ref 0 :: as) w = some (.inr E, w, c1, s1))
    (H : ∀ (wr : rz_W), v_model wr kp tl kd ty cl th → wr = w → ∃ (r : Int32) (l : rz_W) (c2 s2 : Nat), rz_ex X (d + 30) my (.ref 32 :: as) wr = some (.inl (some (.int r)), wr.set 32 (rz_mo kp tl kd ty cl (e + 1)) ++ l, c2, s2) ∧ c1 + c2 ≤ 1100 ∧ s1 + s2 ≤ 14000) : rz_ag X d mx my z as es w := by
  obtain ⟨r, l, c2, s2, e2, b1, b2⟩ := H w hm rfl
  have hfr : rz_fr [32] w (w.set 32 (rz_mo kp tl kd ty cl (e + 1)) ++ l) := fr_trans (fr_set (by decide)) fr_app
  have m2 : v_model (w.set 32 (rz_mo kp tl kd ty cl (e + 1)) ++ l) kp tl kd ty cl (e + 1) := by
    unfold v_model v_ob
    rw [List.getElem?_append_left (by rw [List.length_set]; exact w_lt hm), w_eq (w_lt hm)]
    rfl
  obtain ⟨i1, t1⟩ := v_inv_th (S := []) hv hm (e + 1) hfr (by simp) (v_misc_fr hfr (by decide) (v_inv_misc hv)) m2
  exact .inr ⟨e, E, r, w, c1, s1, _, _, c2, s2, he, e1, hm, e2, t1, i1, b1, b2⟩
end RZAG
