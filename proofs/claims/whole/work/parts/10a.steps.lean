/-! part 13: a step, case by case; what every step keeps -/
theorem rz_step_cases {X : rz_X} {M : rz_M} {ex : Nat → List Value → rz_W → Option rz_R} {pc : Nat} {loc : rz_L} {st : List Value} {w : rz_W} {nc ns : Nat} {z : rz_C ⊕ rz_R} (h : rz_step X M ex (pc, loc, st, w, nc, ns) = some z) :
    (∃ E, rz_look M.2.2.2.2.2.2.1 pc = some E ∧ st = [] ∧ z = .inr (.inr E, w, nc + 1, ns + 6)) ∨
    ∃ i len, rz_look M.2.2.2.2.2.1 pc = some (i, len) ∧ (
      (∃ st', rz_op i st = some st' ∧ z = .inl (pc + len, loc, st', w, nc, ns)) ∨
      (∃ b o st', rz_br i st = some (b, o, st') ∧ ((b = true ∧ z = .inl (((pc : Int) + o).toNat, loc, st', w, nc, ns)) ∨ (b = false ∧ z = .inl (pc + len, loc, st', w, nc, ns)))) ∨
      (∃ kd j v, rz_ld i = some (kd, j) ∧ rz_at loc j = some v ∧ rz_kd v = kd ∧ z = .inl (pc + len, loc, v :: st, w, nc, ns)) ∨
      (∃ kd j v r, rz_st i = some (kd, j) ∧ st = v :: r ∧ rz_kd v = kd ∧ j + v.category ≤ loc.length ∧ z = .inl (pc + len, rz_set loc j v, r, w, nc, ns)) ∨
      (∃ j n x, i = .iinc j n ∧ rz_at loc j = some (.int x) ∧ z = .inl (pc + len, rz_set loc j (.int (x + Int32.ofInt n)), st, w, nc, ns)) ∨
      (∃ d lo hi offs x r o, i = .tableswitch d lo hi offs ∧ st = .int x :: r ∧ ((x.toInt < lo ∨ hi < x.toInt) ∧ o = d ∨ ¬ (x.toInt < lo ∨ hi < x.toInt) ∧ offs[(x.toInt - lo).toNat]? = some o) ∧ z = .inl (((pc : Int) + o).toNat, loc, r, w, nc, ns)) ∨
      (∃ st', rz_rd X M.2.2.2.2.1 w i st = some st' ∧ z = .inl (pc + len, loc, st', w, nc, ns)) ∨
      (∃ r a e, rz_wr M.2.2.2.2.1 (M.1.name == "<init>") w i st = some (r, a, e) ∧ z = .inl (pc + len, loc, r, w.set a e, nc, ns)) ∨
      (∃ e k r, rz_mk M.2.2.2.2.1 i st = some (e, k, r) ∧ z = .inl (pc + len, loc, .ref w.length :: r, w ++ [e], nc + 1, ns + k)) ∨
      (∃ o, rz_rt M.2.2.2.1 i st = some o ∧ z = .inr (.inl o, w, nc, ns)) ∨
      (∃ q kind mid as r, rz_ca i = some q ∧ rz_go0 M.2.2.2.2.1 w q st = some (kind, mid, as, r) ∧ ((kind = 9 ∧ z = .inl (pc + len, loc, r, w, nc, ns)) ∨
        (kind ≠ 9 ∧ ∃ o w' c' s', ex mid as w = some (o, w', c', s') ∧ ((o = .inl none ∧ z = .inl (pc + len, loc, r, w', nc + c', ns + s')) ∨ (∃ v, o = .inl (some v) ∧ z = .inl (pc + len, loc, v :: r, w', nc + c', ns + s')) ∨
          ∃ E, o = .inr E ∧ ((∃ h j, rz_hand M.2.2.2.2.2.2.2.1 pc E = some (h, j) ∧ z = .inl (h, rz_upd (rz_clr loc j) j none, [], w', nc + c', ns + s')) ∨ (rz_hand M.2.2.2.2.2.2.2.1 pc E = none ∧ M.2.2.2.2.2.2.2.1 = [] ∧ z = .inr (.inr E, w', nc + c', ns + s')))))))) := by
  obtain ⟨y, b0, ml, rt, oc, code, tx, hd, hh⟩ := M
  dsimp only
  unfold rz_step at h
  dsimp only at h
  split at h
  · rename_i E hE
    split at h
    · cases h; exact Or.inl ⟨E, hE, rfl, rfl⟩
    · cases h
  · rename_i hE
    split at h
    · cases h
    · rename_i i len hcd
      refine Or.inr ⟨i, len, hcd, ?_⟩
      split at h
      · rename_i st' h1; cases h; exact Or.inl ⟨st', h1, rfl⟩
      · refine Or.inr ?_
        split at h
        · rename_i b o st' h1
          split at h
          · rename_i hb; cases h; exact Or.inl ⟨b, o, st', h1, Or.inl ⟨hb, rfl⟩⟩
          · rename_i hb; cases h; exact Or.inl ⟨b, o, st', h1, Or.inr ⟨by simpa using hb, rfl⟩⟩
        · refine Or.inr ?_
          split at h
          · rename_i kd j h1
            split at h
            · rename_i v hv
              split at h
              · rename_i hk; cases h; exact Or.inl ⟨kd, j, v, h1, hv, hk, rfl⟩
              · cases h
            · cases h
          · refine Or.inr ?_
            split at h
            · rename_i kd j h1
              split at h
              · split at h
                · rename_i hk; cases h; exact Or.inl ⟨kd, j, _, _, h1, rfl, hk.1, hk.2, rfl⟩
                · cases h
              · cases h
            · refine Or.inr ?_
              split at h
              · split at h
                · rename_i x hv; cases h; exact Or.inl ⟨_, _, x, rfl, hv, rfl⟩
                · cases h
              · refine Or.inr (Or.inl ?_)
                split at h
                · split at h
                  · rename_i hc; cases h; exact ⟨_, _, _, _, _, _, _, rfl, rfl, Or.inl ⟨hc, rfl⟩, rfl⟩
                  · rename_i hc
                    split at h
                    · rename_i o ho; cases h; exact ⟨_, _, _, _, _, _, o, rfl, rfl, Or.inr ⟨hc, ho⟩, rfl⟩
                    · cases h
                · cases h
              · refine Or.inr (Or.inr ?_)
                split at h
                · rename_i st' h1; cases h; exact Or.inl ⟨st', h1, rfl⟩
                · refine Or.inr ?_
                  split at h
                  · rename_i r a e h1; cases h; exact Or.inl ⟨r, a, e, h1, rfl⟩
                  · refine Or.inr ?_
                    split at h
                    · rename_i e k r h1; cases h; exact Or.inl ⟨e, k, r, h1, rfl⟩
                    · refine Or.inr ?_
                      split at h
                      · rename_i o h1; cases h; exact Or.inl ⟨o, h1, rfl⟩
                      · refine Or.inr ?_
                        split at h
                        · cases h
                        · rename_i q hq
                          split at h
                          · cases h
                          · rename_i kind mid as r hg
                            refine ⟨q, kind, mid, as, r, hq, hg, ?_⟩
                            split at h
                            · rename_i h9; cases h; exact Or.inl ⟨h9, rfl⟩
                            · rename_i h9
                              refine Or.inr ⟨h9, ?_⟩
                              split at h
                              · cases h
                              · rename_i w' c' s' hx; cases h; exact ⟨_, w', c', s', hx, Or.inl ⟨rfl, rfl⟩⟩
                              · rename_i v w' c' s' hx; cases h; exact ⟨_, w', c', s', hx, Or.inr (Or.inl ⟨v, rfl, rfl⟩)⟩
                              · rename_i E w' c' s' hx
                                refine ⟨_, w', c', s', hx, Or.inr (Or.inr ⟨E, rfl, ?_⟩)⟩
                                split at h
                                · rename_i h0 j hh2; cases h; exact Or.inl ⟨h0, j, hh2, rfl⟩
                                · rename_i hh2
                                  split at h
                                  · rename_i hem; cases h; exact Or.inr ⟨hh2, List.isEmpty_iff.mp hem, rfl⟩
                                  · cases h
/-- references within the cells -/
def rz_inv (c : rz_C) : Prop := rz_wf c.2.2.2.1 ∧ rz_lv c.2.2.2.1.length c.2.1 ∧ rz_sv c.2.2.2.1.length c.2.2.1
def rz_ov (n : Nat) (o : rz_O) : Prop := ∀ v, o = .inl (some v) → rz_rv n v
def rz_exwf (ex : Nat → List Value → rz_W → Option rz_R) : Prop := ∀ mid as w o w' c' s', ex mid as w = some (o, w', c', s') → rz_wf w → rz_sv w.length as → rz_wf w' ∧ w.length ≤ w'.length ∧ rz_ov w'.length o
theorem rz_lv_mono {n n' : Nat} {loc : rz_L} (h : rz_lv n loc) (hn : n ≤ n') : rz_lv n' loc := fun i v hv => rz_rv_mono (h i v hv) hn
theorem rz_sv_mono {n n' : Nat} {st : List Value} (h : rz_sv n st) (hn : n ≤ n') : rz_sv n' st := fun v hv => rz_rv_mono (h v hv) hn
/-- what a step keeps -/
theorem rz_step_keeps {X : rz_X} {M : rz_M} {ex : Nat → List Value → rz_W → Option rz_R} {c : rz_C} {z : rz_C ⊕ rz_R} (h : rz_step X M ex c = some z) (hi : rz_inv c) (hx : rz_exwf ex) :
    (∀ c', z = .inl c' → rz_inv c' ∧ c.2.2.2.1.length ≤ c'.2.2.2.1.length ∧ c.2.2.2.2.1 ≤ c'.2.2.2.2.1 ∧ c.2.2.2.2.2 ≤ c'.2.2.2.2.2) ∧
    (∀ r, z = .inr r → rz_wf r.2.1 ∧ c.2.2.2.1.length ≤ r.2.1.length ∧ rz_ov r.2.1.length r.1 ∧ c.2.2.2.2.1 ≤ r.2.2.1 ∧ c.2.2.2.2.2 ≤ r.2.2.2) := by
  obtain ⟨pc, loc, st, w, nc, ns⟩ := c
  obtain ⟨hw, hl, hs⟩ := hi
  dsimp only at hw hl hs ⊢
  rcases rz_step_cases h with ⟨E, -, -, rfl⟩ | ⟨i, len, -, hc⟩
  · refine ⟨fun c' e => (by cases e), fun r e => ?_⟩
    cases e
    exact ⟨hw, Nat.le_refl _, (fun v e => by cases e), Nat.le_add_right _ _, Nat.le_add_right _ _⟩
  · rcases hc with ⟨st', h1, rfl⟩ | ⟨b, o, st', h1, ⟨-, rfl⟩ | ⟨-, rfl⟩⟩ | ⟨kd, j, v, -, h2, -, rfl⟩ | ⟨kd, j, v, r, -, rfl, -, -, rfl⟩ | ⟨j, n, x, -, -, rfl⟩ | ⟨d, lo, hi, offs, x, r, o, -, rfl, -, rfl⟩ | ⟨st', h1, rfl⟩ | ⟨r, a, e, h1, rfl⟩ | ⟨e, k, r, h1, rfl⟩ | ⟨o, h1, rfl⟩ | ⟨q, kind, mid, as, r, h1, h2, h3⟩
    · refine ⟨fun c' e => ?_, fun r e => by cases e⟩
      cases e
      exact ⟨⟨hw, hl, rz_op_rv h1 hs⟩, Nat.le_refl _, Nat.le_refl _, Nat.le_refl _⟩
    · refine ⟨fun c' e => ?_, fun r e => by cases e⟩
      cases e
      exact ⟨⟨hw, hl, rz_br_rv h1 hs⟩, Nat.le_refl _, Nat.le_refl _, Nat.le_refl _⟩
    · refine ⟨fun c' e => ?_, fun r e => by cases e⟩
      cases e
      exact ⟨⟨hw, hl, rz_br_rv h1 hs⟩, Nat.le_refl _, Nat.le_refl _, Nat.le_refl _⟩
    · refine ⟨fun c' e => ?_, fun r e => by cases e⟩
      cases e
      exact ⟨⟨hw, hl, rz_sv_cons.mpr ⟨hl _ _ h2, hs⟩⟩, Nat.le_refl _, Nat.le_refl _, Nat.le_refl _⟩
    · refine ⟨fun c' e => ?_, fun r e => by cases e⟩
      cases e
      have hs' := rz_sv_cons.mp hs
      exact ⟨⟨hw, rz_set_rv hl hs'.1, hs'.2⟩, Nat.le_refl _, Nat.le_refl _, Nat.le_refl _⟩
    · refine ⟨fun c' e => ?_, fun r e => by cases e⟩
      cases e
      exact ⟨⟨hw, rz_set_rv hl rz_rv_int, hs⟩, Nat.le_refl _, Nat.le_refl _, Nat.le_refl _⟩
    · refine ⟨fun c' e => ?_, fun r e => by cases e⟩
      cases e
      exact ⟨⟨hw, hl, (rz_sv_cons.mp hs).2⟩, Nat.le_refl _, Nat.le_refl _, Nat.le_refl _⟩
    · refine ⟨fun c' e => ?_, fun r e => by cases e⟩
      cases e
      exact ⟨⟨hw, hl, rz_rd_rv h1 hw hs⟩, Nat.le_refl _, Nat.le_refl _, Nat.le_refl _⟩
    · refine ⟨fun c' e0 => ?_, fun r e => by cases e⟩
      cases e0
      obtain ⟨g1, g2⟩ := rz_wr_rv h1 hw hs
      have hln : (w.set a e).length = w.length := List.length_set
      refine ⟨⟨rz_wf_set hw g2, ?_, ?_⟩, ?_, Nat.le_refl _, Nat.le_refl _⟩
      · show rz_lv (w.set a e).length loc
        rw [hln]; exact hl
      · show rz_sv (w.set a e).length r
        rw [hln]; exact g1
      · show w.length ≤ (w.set a e).length
        rw [hln]; exact Nat.le_refl _
    · refine ⟨fun c' e0 => ?_, fun r e => by cases e⟩
      cases e0
      have hln : (w ++ [e]).length = w.length + 1 := by simp
      have hrc : rz_rc w.length e := by
        unfold rz_mk at h1
        split at h1
        · split at h1
          · rename_i ci fs hh hq
            cases h1
            have h5 := rz_all15 rfl rz_nwc_all (rz_look_mem hq)
            unfold rz_nwc at h5
            dsimp only at h5
            cases hv : vwCl[ci]? with
            | none => rw [hv] at h5; cases h5
            | some z =>
              rw [hv] at h5
              simp only [Bool.and_eq_true, decide_eq_true_eq, List.all_eq_true] at h5
              obtain ⟨-, -, -, -, -, a6⟩ := h5
              intro v hv2 a ha
              have := a6 v hv2
              rw [ha] at this
              cases this
          · cases h1
        · split at h1
          · rename_i t n r0 o0 ty hty
            split at h1
            · cases h1
            · cases h1
              unfold rz_prim at hty
              split at hty <;> first
                | (cases hty; done)
                | (cases hty; exact ⟨by simp [rz_five], fun f hf => by cases hf⟩)
          · cases h1
        · split at h1
          · rename_i n r0 o0 C hh hq
            split at h1
            · cases h1
            · cases h1
              have h5 := rz_all15 rfl rz_awc_all (rz_look_mem hq)
              simp only [rz_awc, Bool.and_eq_true, decide_eq_true_eq] at h5
              obtain ⟨rfl, -⟩ := h5
              exact ⟨by simp [rz_five], fun f hf j b hb2 => by cases hf; cases hb2⟩
          · cases h1
        · cases h1
      refine ⟨⟨rz_wf_app hw hrc, ?_, ?_⟩, ?_, Nat.le_add_right _ _, Nat.le_add_right _ _⟩
      · show rz_lv (w ++ [e]).length loc
        rw [hln]; exact rz_lv_mono hl (Nat.le_add_right _ _)
      · show rz_sv (w ++ [e]).length (.ref w.length :: r)
        rw [hln]; exact rz_sv_cons.mpr ⟨rz_rv_ref.mpr (Nat.lt_succ_self _), rz_sv_mono (rz_mk_rv h1 hs) (Nat.le_add_right _ _)⟩
      · show w.length ≤ (w ++ [e]).length
        rw [hln]; exact Nat.le_add_right _ _
    · refine ⟨fun c' e => (by cases e), fun r e => ?_⟩
      cases e
      exact ⟨hw, Nat.le_refl _, (fun v e => by cases e; exact rz_rt_rv h1 hs), Nat.le_refl _, Nat.le_refl _⟩
    · obtain ⟨g1, g2⟩ := rz_go0_rv h2 hs
      rcases h3 with ⟨-, rfl⟩ | ⟨-, o, w', c', s', h4, h5⟩
      · refine ⟨fun c' e => ?_, fun r e => by cases e⟩
        cases e
        exact ⟨⟨hw, hl, g2⟩, Nat.le_refl _, Nat.le_refl _, Nat.le_refl _⟩
      · obtain ⟨k1, k2, k3⟩ := hx _ _ _ _ _ _ _ h4 hw g1
        rcases h5 with ⟨rfl, rfl⟩ | ⟨v, rfl, rfl⟩ | ⟨E, rfl, ⟨h0, j, -, rfl⟩ | ⟨-, -, rfl⟩⟩
        · refine ⟨fun c' e => ?_, fun r e => by cases e⟩
          cases e
          exact ⟨⟨k1, rz_lv_mono hl k2, rz_sv_mono g2 k2⟩, k2, Nat.le_add_right _ _, Nat.le_add_right _ _⟩
        · refine ⟨fun c' e => ?_, fun r e => by cases e⟩
          cases e
          exact ⟨⟨k1, rz_lv_mono hl k2, rz_sv_cons.mpr ⟨k3 v rfl, rz_sv_mono g2 k2⟩⟩, k2, Nat.le_add_right _ _, Nat.le_add_right _ _⟩
        · refine ⟨fun c' e => ?_, fun r e => by cases e⟩
          cases e
          exact ⟨⟨k1, rz_lv_mono (rz_forget_rv hl) k2, fun v hv => by cases hv⟩, k2, Nat.le_add_right _ _, Nat.le_add_right _ _⟩
        · refine ⟨fun c' e => (by cases e), fun r e => ?_⟩
          cases e
          exact ⟨k1, k2, (fun v e => by cases e), Nat.le_add_right _ _, Nat.le_add_right _ _⟩
theorem rz_run_keeps {X : rz_X} {M : rz_M} {ex : Nat → List Value → rz_W → Option rz_R} (hx : rz_exwf ex) : ∀ (n : Nat) (c : rz_C) (r : rz_R), rz_run (rz_step X M ex) n c = some r → rz_inv c → rz_wf r.2.1 ∧ c.2.2.2.1.length ≤ r.2.1.length ∧ rz_ov r.2.1.length r.1 ∧ c.2.2.2.2.1 ≤ r.2.2.1 ∧ c.2.2.2.2.2 ≤ r.2.2.2 := by
  intro n
  induction n with
  | zero => intro c r h; cases h
  | succ n ih =>
    intro c r h hi
    simp only [rz_run] at h
    cases hs : rz_step X M ex c with
    | none => rw [hs] at h; cases h
    | some z =>
      rw [hs] at h
      obtain ⟨g1, g2⟩ := rz_step_keeps hs hi hx
      cases z with
      | inl c' =>
        obtain ⟨k1, k2, k3, k4⟩ := g1 c' rfl
        obtain ⟨m1, m2, m3, m4, m5⟩ := ih c' r h k1
        exact ⟨m1, Nat.le_trans k2 m2, m3, Nat.le_trans k3 m4, Nat.le_trans k4 m5⟩
      | inr r' => cases h; exact g2 r rfl
theorem rz_lay_lv {n : Nat} {as : List Value} (h : rz_sv n as) : rz_lv n (rz_lay as) := by
  induction as with
  | nil => intro i v hv; simp [rz_lay, rz_at] at hv
  | cons a t ih =>
    obtain ⟨h1, h2⟩ := rz_sv_cons.mp h
    have ih := ih h2
    intro i v hv
    unfold rz_lay at hv
    split at hv
    · match i, hv with
      | 0, hv => cases hv; exact h1
      | 1, hv => cases hv
      | i + 2, hv => exact ih i v hv
    · match i, hv with
      | 0, hv => cases hv; exact h1
      | i + 1, hv => exact ih i v hv
theorem rz_at_pad {n i : Nat} {l : rz_L} {v : Value} (h : rz_at (rz_pad n l) i = some v) : rz_at l i = some v := by
  induction n generalizing l i with
  | zero => exact h
  | succ n ih =>
    cases l with
    | nil =>
      cases i with
      | zero => cases h
      | succ i => exact absurd (ih h) (by simp [rz_at])
    | cons u t =>
      cases i with
      | zero => exact h
      | succ i => exact ih (l := t) (i := i) h
theorem rz_ex_wf {X : rz_X} : ∀ d, rz_exwf (rz_ex X d) := by
  intro d
  induction d with
  | zero => intro mid as w o w' c' s' h; cases h
  | succ d ih =>
    intro mid as w o w' c' s' h hw hs
    simp only [rz_ex] at h
    split at h
    · cases h
    · rename_i M hM
      split at h
      rotate_left
      · cases h
      obtain ⟨n, hn⟩ := rz_go_inv h
      obtain ⟨k1, k2, k3, -, -⟩ := rz_run_keeps ih n _ _ hn ⟨hw, fun i v hv => rz_lay_lv hs i v (rz_at_pad hv), fun v hv => by cases hv⟩
      exact ⟨k1, k2, k3⟩
