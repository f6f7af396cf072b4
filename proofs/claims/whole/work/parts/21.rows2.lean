/-! part 21: level 2: the rows once more, in the forms that the generated rows of part 22 use -/
abbrev rz_K : Type := Value → Option rz_R
/-- a field of an object -/
def rz_gf (w : rz_W) (h ci k : Nat) (K : rz_K) : Option rz_R := match w[h]? with
  | some (.inr (cj, fs)) => if cj = ci then (match fs[k]? with | some v => K v | none => none) else none
  | _ => none
def rz_ai (w : rz_W) (a : Nat) (i : Int32) (K : Int32 → Option rz_R) : Option rz_R := match w[a]? with
  | some (.inl (.int, n, .inl f)) => if i < 0 ∨ n ≤ i.toNatClampNeg then none else K (f i.toNatClampNeg)
  | _ => none
def rz_az (w : rz_W) (a : Nat) (i : Int32) (K : Int32 → Option rz_R) : Option rz_R := match w[a]? with
  | some (.inl (.boolean, n, .inl f)) => if i < 0 ∨ n ≤ i.toNatClampNeg then none else K (f i.toNatClampNeg)
  | _ => none
def rz_ac (w : rz_W) (a : Nat) (i : Int32) (K : Int32 → Option rz_R) : Option rz_R := match w[a]? with
  | some (.inl (.char, n, .inl f)) => if i < 0 ∨ n ≤ i.toNatClampNeg then none else K (f i.toNatClampNeg)
  | _ => none
def rz_al (w : rz_W) (a : Nat) (i : Int32) (K : Int64 → Option rz_R) : Option rz_R := match w[a]? with
  | some (.inl (.long, n, .inr (.inl f))) => if i < 0 ∨ n ≤ i.toNatClampNeg then none else K (f i.toNatClampNeg)
  | _ => none
def rz_aa (w : rz_W) (a : Nat) (i : Int32) (K : rz_K) : Option rz_R := match w[a]? with
  | some (.inl (.object _, n, .inr (.inr (.inr (.inr f))))) => if i < 0 ∨ n ≤ i.toNatClampNeg then none else K (va_rf (f i.toNatClampNeg))
  | _ => none
def rz_ax (X : rz_X) (a : Nat) (i : Int32) (K : Int32 → Option rz_R) : Option rz_R := match X a with
  | some (n, f) => if i < 0 ∨ n ≤ i.toNatClampNeg then none else K (f i.toNatClampNeg)
  | none => none
def rz_ln (w : rz_W) (a : Nat) (K : Int32 → Option rz_R) : Option rz_R := match w[a]? with
  | some (.inl (_, n, _)) => K (Int32.ofNat n)
  | _ => none
def rz_lx (X : rz_X) (a : Nat) (K : Int32 → Option rz_R) : Option rz_R := match X a with
  | some (n, _) => K (Int32.ofNat n)
  | none => none
def rz_pf (w : rz_W) (h ci k : Nat) (ty : FieldType) (v : Value) (K : rz_W → Option rz_R) : Option rz_R := match w[h]? with
  | some (.inr (cj, fs)) => if cj = ci ∧ narrow ty v = v ∧ fits ty v = true ∧ k < fs.length then K (w.set h (.inr (cj, fs.set k v))) else none
  | _ => none
def rz_si (w : rz_W) (a : Nat) (i x : Int32) (K : rz_W → Option rz_R) : Option rz_R := match w[a]? with
  | some (.inl (.int, n, .inl f)) => if i < 0 ∨ n ≤ i.toNatClampNeg then none else K (w.set a (.inl (.int, n, .inl (upd f i.toNatClampNeg x))))
  | _ => none
def rz_sz (w : rz_W) (a : Nat) (i x : Int32) (K : rz_W → Option rz_R) : Option rz_R := match w[a]? with
  | some (.inl (.boolean, n, .inl f)) => if i < 0 ∨ n ≤ i.toNatClampNeg then none else K (w.set a (.inl (.boolean, n, .inl (upd f i.toNatClampNeg (vp_nar .boolean x)))))
  | _ => none
def rz_sc (w : rz_W) (a : Nat) (i x : Int32) (K : rz_W → Option rz_R) : Option rz_R := match w[a]? with
  | some (.inl (.char, n, .inl f)) => if i < 0 ∨ n ≤ i.toNatClampNeg then none else K (w.set a (.inl (.char, n, .inl (upd f i.toNatClampNeg (vp_nar .char x)))))
  | _ => none
def rz_sl (w : rz_W) (a : Nat) (i : Int32) (x : Int64) (K : rz_W → Option rz_R) : Option rz_R := match w[a]? with
  | some (.inl (.long, n, .inr (.inl f))) => if i < 0 ∨ n ≤ i.toNatClampNeg then none else K (w.set a (.inl (.long, n, .inr (.inl (vp_updL f i.toNatClampNeg x)))))
  | _ => none
def rz_sa (w : rz_W) (a : Nat) (i : Int32) (v : Value) (K : rz_W → Option rz_R) : Option rz_R := match v, w[a]? with
  | .ref b, some (.inl (.object C, n, .inr (.inr (.inr (.inr f))))) => (match w[b]? with
    | some (.inr (ci, _)) => if (i < 0 ∨ n ≤ i.toNatClampNeg) ∨ ¬ rz_on[ci]? = some C then none else K (w.set a (.inl (.object C, n, .inr (.inr (.inr (.inr (va_up f i.toNatClampNeg (some b))))))))
    | _ => none)
  | .null, some (.inl (.object C, n, .inr (.inr (.inr (.inr f))))) => if i < 0 ∨ n ≤ i.toNatClampNeg then none else K (w.set a (.inl (.object C, n, .inr (.inr (.inr (.inr (va_up f i.toNatClampNeg none)))))))
  | _, _ => none
/-- the object of a call is of the class -/
def rz_vc (w : rz_W) (h rc : Nat) (z : Option rz_R) : Option rz_R := match w[h]? with
  | some (.inr (ci, _)) => if ci = rc then z else none
  | _ => none
/-- behind a call -/
noncomputable def rz_k (X : rz_X) (d : Nat) (M : rz_M) (pc pc' : Nat) (loc : rz_L) (r : List Value) (nc ns : Nat) : Option rz_R → Option rz_R
  | none => none
  | some (.inl none, w', c', s') => rz_G X d M pc' loc r w' (nc + c') (ns + s')
  | some (.inl (some v), w', c', s') => rz_G X d M pc' loc (v :: r) w' (nc + c') (ns + s')
  | some (.inr E, w', c', s') => match rz_hand M.2.2.2.2.2.2.2.1 pc E with
    | some (h, j) => rz_G X d M h (rz_upd (rz_clr loc j) j none) [] w' (nc + c') (ns + s')
    | none => if M.2.2.2.2.2.2.2.1.isEmpty then some (.inr E, w', nc + c', ns + s') else none
def rz_nl : Option Value → Bool
  | some (.long _) => false
  | some (.double _) => false
  | _ => true
theorem rz_clr_nl {l : rz_L} {j : Nat} (h : rz_nl (rz_at l j) = true) : rz_clr l (j + 1) = l := by
  simp only [rz_clr]
  cases hv : rz_at l j with
  | none => rfl
  | some v =>
    rw [hv] at h
    cases v <;> first | rfl | cases h
section RZG2
variable {X : rz_X} {d : Nat} {M : rz_M} {pc len : Nat} {loc : rz_L} {st st' r : List Value} {w : rz_W} {nc ns : Nat} {i : Instr}
theorem g_st1 {kd j : Nat} {v : Value} {loc' : rz_L} (h1 : rz_look M.2.2.2.2.2.2.1 pc = none) (h2 : rz_look M.2.2.2.2.2.1 pc = some (i, len)) (h3 : rz_op i (v :: st) = none) (h4 : rz_br i (v :: st) = none) (h5 : rz_ld i = none) (h6 : rz_st i = some (kd, j + 1)) (h7 : rz_kd v = kd) (h8 : j + 1 + v.category ≤ loc.length) (hc : v.category = 1) (hn : rz_nl (rz_at loc j) = true) (h9 : rz_upd loc (j + 1) (some v) = loc') : rz_G X d M pc loc (v :: st) w nc ns = rz_G X d M (pc + len) loc' st w nc ns := by
  refine g_st h1 h2 h3 h4 h5 h6 h7 h8 ?_
  unfold rz_set
  rw [if_neg (by rw [hc]; decide), rz_clr_nl hn, h9]
theorem g_st2 {kd j : Nat} {v : Value} {loc' : rz_L} (h1 : rz_look M.2.2.2.2.2.2.1 pc = none) (h2 : rz_look M.2.2.2.2.2.1 pc = some (i, len)) (h3 : rz_op i (v :: st) = none) (h4 : rz_br i (v :: st) = none) (h5 : rz_ld i = none) (h6 : rz_st i = some (kd, j + 1)) (h7 : rz_kd v = kd) (h8 : j + 1 + v.category ≤ loc.length) (hc : v.category = 2) (hn : rz_nl (rz_at loc j) = true) (h9 : rz_upd (rz_upd loc (j + 1) (some v)) (j + 1 + 1) none = loc') : rz_G X d M pc loc (v :: st) w nc ns = rz_G X d M (pc + len) loc' st w nc ns := by
  refine g_st h1 h2 h3 h4 h5 h6 h7 h8 ?_
  unfold rz_set
  rw [if_pos hc, rz_clr_nl hn, h9]
theorem rz_kd1 {v : Value} (h : rz_kd v = 2) : v.category = 1 := by
  cases v <;> first | rfl | cases h
theorem g_sta {j : Nat} {v : Value} {loc' : rz_L} (h1 : rz_look M.2.2.2.2.2.2.1 pc = none) (h2 : rz_look M.2.2.2.2.2.1 pc = some (i, len)) (h3 : rz_op i (v :: st) = none) (h4 : rz_br i (v :: st) = none) (h5 : rz_ld i = none) (h6 : rz_st i = some (2, j + 1)) (h7 : rz_kd v = 2) (h8 : j + 1 + 1 ≤ loc.length) (hn : rz_nl (rz_at loc j) = true) (h9 : rz_upd loc (j + 1) (some v) = loc') : rz_G X d M pc loc (v :: st) w nc ns = rz_G X d M (pc + len) loc' st w nc ns :=
  g_st1 h1 h2 h3 h4 h5 h6 h7 (by rw [rz_kd1 h7]; exact h8) (rz_kd1 h7) hn h9
theorem g_sta0 {v : Value} {loc' : rz_L} (h1 : rz_look M.2.2.2.2.2.2.1 pc = none) (h2 : rz_look M.2.2.2.2.2.1 pc = some (i, len)) (h3 : rz_op i (v :: st) = none) (h4 : rz_br i (v :: st) = none) (h5 : rz_ld i = none) (h6 : rz_st i = some (2, 0)) (h7 : rz_kd v = 2) (h8 : 1 ≤ loc.length) (h9 : rz_upd loc 0 (some v) = loc') : rz_G X d M pc loc (v :: st) w nc ns = rz_G X d M (pc + len) loc' st w nc ns := by
  refine g_st h1 h2 h3 h4 h5 h6 h7 (by rw [rz_kd1 h7]; omega) ?_
  unfold rz_set
  rw [if_neg (by rw [rz_kd1 h7]; decide)]
  exact h9
theorem g_inc1 {j : Nat} {n : Int} {x : Int32} {loc' : rz_L} (h1 : rz_look M.2.2.2.2.2.2.1 pc = none) (h2 : rz_look M.2.2.2.2.2.1 pc = some (.iinc (j + 1) n, len)) (h6 : rz_at loc (j + 1) = some (.int x)) (hn : rz_nl (rz_at loc j) = true) (h9 : rz_upd loc (j + 1) (some (.int (x + Int32.ofInt n))) = loc') : rz_G X d M pc loc st w nc ns = rz_G X d M (pc + len) loc' st w nc ns := by
  refine g_inc h1 h2 h6 ?_
  unfold rz_set
  rw [if_neg (id (show ¬ (1 : Nat) = 2 by decide) : ¬ (Value.int (x + Int32.ofInt n)).category = 2), rz_clr_nl hn, h9]
theorem g_getf2 {ix ci k h : Nat} {q : Bool × FieldType × Nat} (h1 : rz_look M.2.2.2.2.2.2.1 pc = none) (h2 : rz_look M.2.2.2.2.2.1 pc = some (.getfield ix, len)) (h3 : rz_look (rz_flT.getD M.2.2.2.2.1 []) ix = some (ci, k, q)) : rz_G X d M pc loc (.ref h :: r) w nc ns = rz_gf w h ci k fun v => rz_G X d M (pc + len) loc (v :: r) w nc ns := g_getf h1 h2 h3
theorem g_putf2 {ix ci k h : Nat} {v : Value} {fin : Bool} {ty : FieldType} {q : Nat} (h1 : rz_look M.2.2.2.2.2.2.1 pc = none) (h2 : rz_look M.2.2.2.2.2.1 pc = some (.putfield ix, len)) (h3 : rz_look (rz_flT.getD M.2.2.2.2.1 []) ix = some (ci, k, fin, ty, q)) (h4 : fin = false ∨ ((M.1.name == "<init>") = true ∧ ci = M.2.2.2.2.1)) : rz_G X d M pc loc (v :: .ref h :: r) w nc ns = rz_pf w h ci k ty v fun w' => rz_G X d M (pc + len) loc r w' nc ns := g_putf h1 h2 h3 h4
theorem g_aast2 {i : Int32} {a : Nat} {v : Value} (h1 : rz_look M.2.2.2.2.2.2.1 pc = none) (h2 : rz_look M.2.2.2.2.2.1 pc = some (.aastore, len)) (hv : v = .null ∨ ∃ b, v = .ref b) : rz_G X d M pc loc (v :: .int i :: .ref a :: r) w nc ns = rz_sa w a i v fun w' => rz_G X d M (pc + len) loc r w' nc ns := by
  rcases hv with rfl | ⟨b, rfl⟩
  · unfold rz_sa
    cases hw : w[a]? with
    | none => exact g_noW h1 h2 rfl rfl (by simp only [rz_wr, hw]) rfl rfl rfl
    | some e =>
      rcases e with ⟨ty, n, f⟩ | ⟨ci, fs⟩
      · cases ty with
        | object C =>
          rcases f with f | f | f | f | f
          · exact g_noW h1 h2 rfl rfl (by simp only [rz_wr, hw]) rfl rfl rfl
          · exact g_noW h1 h2 rfl rfl (by simp only [rz_wr, hw]) rfl rfl rfl
          · exact g_noW h1 h2 rfl rfl (by simp only [rz_wr, hw]) rfl rfl rfl
          · exact g_noW h1 h2 rfl rfl (by simp only [rz_wr, hw]) rfl rfl rfl
          · dsimp only
            split
            · rename_i hi
              exact g_noW h1 h2 rfl rfl (by simp only [rz_wr, hw, if_pos hi]) rfl rfl rfl
            · rename_i hi
              exact g_aastN h1 h2 hw hi
        | _ => exact g_noW h1 h2 rfl rfl (by simp only [rz_wr, hw]) rfl rfl rfl
      · exact g_noW h1 h2 rfl rfl (by simp only [rz_wr, hw]) rfl rfl rfl
  · unfold rz_sa
    cases hw : w[a]? with
    | none => exact g_noW h1 h2 rfl rfl (by simp only [rz_wr, hw]) rfl rfl rfl
    | some e =>
      rcases e with ⟨ty, n, f⟩ | ⟨ci, fs⟩
      · cases ty with
        | object C =>
          rcases f with f | f | f | f | f
          · exact g_noW h1 h2 rfl rfl (by simp only [rz_wr, hw]) rfl rfl rfl
          · exact g_noW h1 h2 rfl rfl (by simp only [rz_wr, hw]) rfl rfl rfl
          · exact g_noW h1 h2 rfl rfl (by simp only [rz_wr, hw]) rfl rfl rfl
          · exact g_noW h1 h2 rfl rfl (by simp only [rz_wr, hw]) rfl rfl rfl
          · dsimp only
            cases hb : w[b]? with
            | none => exact g_noW h1 h2 rfl rfl (by simp only [rz_wr, hw, hb]) rfl rfl rfl
            | some e2 =>
              rcases e2 with e2 | ⟨ci, fs⟩
              · exact g_noW h1 h2 rfl rfl (by simp only [rz_wr, hw, hb]) rfl rfl rfl
              · dsimp only
                split
                · rename_i hi
                  exact g_noW h1 h2 rfl rfl (by simp only [rz_wr, hw, hb, if_pos hi]) rfl rfl rfl
                · rename_i hi
                  exact g_aast h1 h2 hw hb (fun q => hi (.inl q)) (Classical.byContradiction fun q => hi (.inr q))
        | _ => exact g_noW h1 h2 rfl rfl (by simp only [rz_wr, hw]) rfl rfl rfl
      · exact g_noW h1 h2 rfl rfl (by simp only [rz_wr, hw]) rfl rfl rfl
theorem g_callN {q : Nat × Nat} (h1 : rz_look M.2.2.2.2.2.2.1 pc = none) (h2 : rz_look M.2.2.2.2.2.1 pc = some (i, len)) (hl : rz_late i = true) (h3 : rz_rd X M.2.2.2.2.1 w i st = none) (h4 : rz_wr M.2.2.2.2.1 (M.1.name == "<init>") w i st = none) (h5 : rz_mk M.2.2.2.2.1 i st = none) (h6 : rz_rt M.2.2.2.1 i st = none) (h7 : rz_ca i = some q) (h8 : rz_go0 M.2.2.2.2.1 w q st = none) : rz_G X d M pc loc st w nc ns = none := by
  refine g_none ?_
  rw [g_late h1 h2 hl, h3]
  dsimp only
  rw [h4]
  dsimp only
  rw [h5]
  dsimp only
  rw [h6]
  dsimp only
  rw [h7]
  dsimp only
  rw [h8]
/-- a static method's call; n arguments -/
theorem g_sta_call {ix kind mid n rc : Nat} {q : Nat × Nat × Nat × Nat × Nat} {as : List Value} (h1 : rz_look M.2.2.2.2.2.2.1 pc = none) (h2 : rz_look M.2.2.2.2.2.1 pc = some (.invokestatic ix, len)) (h3 : rz_look (rz_clT.getD M.2.2.2.2.1 []) ix = some (kind, mid, n, rc, q)) (hk : kind = 0 ∨ kind = 3 ∨ kind = 5) (hn : as.length = n) (hr : Nat.ble (rz_cats r) 8 = true) : rz_G X d M pc loc (as.reverse ++ r) w nc ns = rz_k X d M pc (pc + len) loc r nc ns (rz_ex X d mid as w) := by
  have e1 : (as.reverse ++ r).take n = as.reverse := by rw [List.take_append_of_le_length (by simp [hn]), List.take_of_length_le (by simp [hn])]
  have e2 : (as.reverse ++ r).drop n = r := by rw [List.drop_append_of_le_length (by simp [hn]), List.drop_of_length_le (by simp [hn]), List.nil_append]
  have hr' : rz_cats r ≤ 8 := Nat.le_of_ble_eq_true hr
  refine (g_call (r := r) (q := (0, ix)) (kind := kind) (mid := mid) (as := as) h1 h2 rfl rfl rfl rfl rfl rfl ?_ (by omega)).trans ?_
  · simp only [rz_go0, h3]
    rw [e1, e2, if_neg (by simp only [List.length_append, List.length_reverse]; omega), if_pos ⟨hk, trivial⟩, List.reverse_reverse]
  · cases rz_ex X d mid as w with
    | none => rfl
    | some z =>
      obtain ⟨o, w', c', s'⟩ := z
      rcases o with (_ | v) | E <;> rfl
/-- a constructor's call -/
theorem g_ini_call {ix kind mid n rc h : Nat} {q : Nat × Nat × Nat × Nat × Nat} {as : List Value} (h1 : rz_look M.2.2.2.2.2.2.1 pc = none) (h2 : rz_look M.2.2.2.2.2.1 pc = some (.invokespecial ix, len)) (h3 : rz_look (rz_clT.getD M.2.2.2.2.1 []) ix = some (kind, mid, n, rc, q)) (hk : kind = 2 ∨ kind = 4) (hn : as.length + 1 = n) (hr : Nat.ble (rz_cats r) 8 = true) : rz_G X d M pc loc (as.reverse ++ .ref h :: r) w nc ns = rz_k X d M pc (pc + len) loc r nc ns (rz_ex X d mid (.ref h :: as) w) := by
  have e0 : as.reverse ++ .ref h :: r = (Value.ref h :: as).reverse ++ r := by simp
  have e1 : (as.reverse ++ .ref h :: r).take n = (Value.ref h :: as).reverse := by rw [e0, List.take_append_of_le_length (by simp [hn]), List.take_of_length_le (by simp [hn])]
  have e2 : (as.reverse ++ .ref h :: r).drop n = r := by rw [e0, List.drop_append_of_le_length (by simp [hn]), List.drop_of_length_le (by simp [hn]), List.nil_append]
  have hr' : rz_cats r ≤ 8 := Nat.le_of_ble_eq_true hr
  refine (g_call (r := r) (q := (2, ix)) (kind := kind) (mid := mid) (as := .ref h :: as) h1 h2 rfl rfl rfl rfl rfl rfl ?_ (by omega)).trans ?_
  · simp only [rz_go0, h3]
    rw [e1, e2, if_neg (by simp only [List.length_append, List.length_reverse, List.length_cons]; omega), if_neg (by omega), List.reverse_reverse]
    dsimp only
    rw [if_neg (by omega), if_pos ⟨by omega, trivial⟩]
  · cases rz_ex X d mid (.ref h :: as) w with
    | none => rfl
    | some z =>
      obtain ⟨o, w', c', s'⟩ := z
      rcases o with (_ | v) | E <;> rfl
/-- an object's method's call -/
theorem g_vir_call {ix mid n rc h : Nat} {q : Nat × Nat × Nat × Nat × Nat} {as : List Value} (h1 : rz_look M.2.2.2.2.2.2.1 pc = none) (h2 : rz_look M.2.2.2.2.2.1 pc = some (.invokevirtual ix, len)) (h3 : rz_look (rz_clT.getD M.2.2.2.2.1 []) ix = some (1, mid, n, rc, q)) (hn : as.length + 1 = n) (hr : Nat.ble (rz_cats r) 8 = true) : rz_G X d M pc loc (as.reverse ++ .ref h :: r) w nc ns = rz_vc w h rc (rz_k X d M pc (pc + len) loc r nc ns (rz_ex X d mid (.ref h :: as) w)) := by
  have e0 : as.reverse ++ .ref h :: r = (Value.ref h :: as).reverse ++ r := by simp
  have e1 : (as.reverse ++ .ref h :: r).take n = (Value.ref h :: as).reverse := by rw [e0, List.take_append_of_le_length (by simp [hn]), List.take_of_length_le (by simp [hn])]
  have e2 : (as.reverse ++ .ref h :: r).drop n = r := by rw [e0, List.drop_append_of_le_length (by simp [hn]), List.drop_of_length_le (by simp [hn]), List.nil_append]
  have hr' : rz_cats r ≤ 8 := Nat.le_of_ble_eq_true hr
  have hg : ∀ z, (match w[h]? with
      | some (.inr (ci, _)) => if ci = rc then some (1, mid, .ref h :: as, r) else none
      | _ => none) = z → rz_go0 M.2.2.2.2.1 w (1, ix) (as.reverse ++ .ref h :: r) = z := by
    intro z hz
    rw [← hz]
    simp only [rz_go0, h3]
    rw [e1, e2, if_neg (by simp only [List.length_append, List.length_reverse, List.length_cons]; omega), if_neg (by omega), List.reverse_reverse]
    dsimp only
    rw [if_pos ⟨trivial, trivial⟩]
    rfl
  unfold rz_vc
  split
  · rename_i ci fs hw
    split
    · rename_i hc
      refine (g_call (r := r) (q := (1, ix)) (kind := 1) (mid := mid) (as := .ref h :: as) h1 h2 rfl rfl rfl rfl rfl rfl (hg _ (by rw [hw]; exact if_pos hc)) (by omega)).trans ?_
      cases rz_ex X d mid (.ref h :: as) w with
      | none => rfl
      | some z =>
        obtain ⟨o, w', c', s'⟩ := z
        rcases o with (_ | v) | E <;> rfl
    · rename_i hc
      exact g_callN (q := (1, ix)) h1 h2 rfl rfl rfl rfl rfl rfl (hg _ (by rw [hw]; exact if_neg hc))
  · rename_i hw
    refine g_callN (q := (1, ix)) h1 h2 rfl rfl rfl rfl rfl rfl (hg _ ?_)
    split
    · rename_i hw2
      exact (hw _ _ hw2).elim
    · rfl
theorem g_go9 {oc ix p mid rc : Nat} {q : Nat × Nat × Nat × Nat × Nat} (h3 : rz_look (rz_clT.getD oc []) ix = some (9, mid, 1, rc, q)) (hr : Nat.ble (rz_cats r) 8 = true) : rz_go0 oc w (2, ix) (.ref p :: r) = some (9, mid, [.ref p], r) := by
  have hr' : rz_cats r ≤ 8 := Nat.le_of_ble_eq_true hr
  simp only [rz_go0, h3]
  rw [if_neg (by simp only [List.length_cons, List.drop_succ_cons, List.drop_zero]; omega), if_neg (by omega)]
  rfl
end RZG2
