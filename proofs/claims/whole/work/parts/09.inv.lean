/-! part 09: no reference of the interpreter's points beyond its cells -/
theorem rz_rv_mono {n n' : Nat} {v : Value} (h : rz_rv n v) (hn : n ≤ n') : rz_rv n' v := fun a ha => Nat.lt_of_lt_of_le (h a ha) hn
theorem rz_rc_mono {n n' : Nat} {e : rz_E} (h : rz_rc n e) (hn : n ≤ n') : rz_rc n' e := by
  cases e with
  | inl z => exact ⟨h.1, fun f hf j b hb => Nat.lt_of_lt_of_le (h.2 f hf j b hb) hn⟩
  | inr z => exact fun v hv => rz_rv_mono (h v hv) hn
def rz_sv (n : Nat) (st : List Value) : Prop := ∀ v ∈ st, rz_rv n v
def rz_lv (n : Nat) (loc : rz_L) : Prop := ∀ (i : Nat) (v : Value), rz_at loc i = some v → rz_rv n v
theorem rz_sv_cons {n : Nat} {v : Value} {st : List Value} : rz_sv n (v :: st) ↔ rz_rv n v ∧ rz_sv n st := by simp [rz_sv]
theorem rz_rv_int {n : Nat} {x : Int32} : rz_rv n (.int x) := fun a ha => by cases ha
theorem rz_rv_long {n : Nat} {x : Int64} : rz_rv n (.long x) := fun a ha => by cases ha
theorem rz_rv_null {n : Nat} : rz_rv n .null := fun a ha => by cases ha
theorem rz_rv_ret {n e : Nat} : rz_rv n (.retAddr e) := fun a ha => by cases ha
theorem rz_rv_ref {n a : Nat} : rz_rv n (.ref a) ↔ a < n := ⟨fun h => h a rfl, fun h b hb => by cases hb; exact h⟩
theorem rz_rv_rf {n : Nat} {o : Option Nat} (h : ∀ b, o = some b → b < n) : rz_rv n (va_rf o) := by
  cases o with
  | none => exact rz_rv_null
  | some b => exact rz_rv_ref.mpr (h b rfl)
set_option maxHeartbeats 1000000 in
theorem rz_op_rv {n : Nat} {i : Instr} {st st' : List Value} (h : rz_op i st = some st') (hs : rz_sv n st) : rz_sv n st' := by
  unfold rz_op at h
  split at h <;> (try split at h) <;> first
    | (cases h; done)
    | (cases h; simp only [rz_sv_cons] at hs ⊢; simp only [hs, rz_rv_int, rz_rv_long, rz_rv_null, and_self, true_and, and_true])
theorem rz_br_rv {n : Nat} {i : Instr} {st st' : List Value} {b : Bool} {o : Int} (h : rz_br i st = some (b, o, st')) (hs : rz_sv n st) : rz_sv n st' := by
  unfold rz_br at h
  split at h <;> first
    | (cases h; done)
    | (cases h; simp only [rz_sv_cons] at hs; exact hs.2)
    | (cases h; simp only [rz_sv_cons] at hs; exact hs.2.2)
    | (cases h; exact hs)
theorem rz_set_rv {n j : Nat} {v : Value} {loc : rz_L} (hl : rz_lv n loc) (hv : rz_rv n v) : rz_lv n (rz_set loc j v) := by
  intro i u hu
  unfold rz_set at hu
  split at hu
  · rw [rz_at_upd] at hu
    split at hu
    · cases hu
    · rw [rz_at_upd] at hu
      split at hu
      · cases hu; exact hv
      · exact hl i u (rz_at_clr hu).1
  · rw [rz_at_upd] at hu
    split at hu
    · cases hu; exact hv
    · exact hl i u (rz_at_clr hu).1
theorem rz_forget_rv {n j : Nat} {loc : rz_L} (hl : rz_lv n loc) : rz_lv n (rz_upd (rz_clr loc j) j none) := by
  intro i u hu
  rw [rz_at_upd] at hu
  split at hu
  · cases hu
  · exact hl i u (rz_at_clr hu).1
set_option maxHeartbeats 1000000 in
theorem rz_rd_rv {X : rz_X} {oc : Nat} {w : rz_W} {i : Instr} {st st' : List Value} (h : rz_rd X oc w i st = some st') (hw : rz_wf w) (hs : rz_sv w.length st) : rz_sv w.length st' := by
  unfold rz_rd at h
  split at h
  · split at h
    · rename_i ci fs hwe
      split at h
      · split at h
        · split at h
          · rename_i v hv
            cases h
            simp only [rz_sv_cons] at hs ⊢
            exact ⟨hw _ _ hwe v (List.mem_of_getElem? hv), hs.2⟩
          · cases h
        · cases h
      · cases h
    · cases h
  · split at h
    · split at h
      · cases h
      · cases h; simp only [rz_sv_cons] at hs ⊢; exact ⟨rz_rv_int, hs.2.2⟩
    · cases h
  · split at h
    · split at h
      · cases h
      · cases h; simp only [rz_sv_cons] at hs ⊢; exact ⟨rz_rv_int, hs.2.2⟩
    · cases h
  · split at h
    · split at h
      · cases h
      · cases h; simp only [rz_sv_cons] at hs ⊢; exact ⟨rz_rv_int, hs.2.2⟩
    · cases h
  · split at h
    · split at h
      · cases h
      · cases h; simp only [rz_sv_cons] at hs ⊢; exact ⟨rz_rv_int, hs.2.2⟩
    · cases h
  · split at h
    · split at h
      · cases h
      · cases h; simp only [rz_sv_cons] at hs ⊢; exact ⟨rz_rv_long, hs.2.2⟩
    · cases h
  · split at h
    · rename_i C n f hwe
      split at h
      · cases h
      · cases h; simp only [rz_sv_cons] at hs ⊢; exact ⟨rz_rv_rf (fun b hb => (hw _ _ hwe).2 f rfl _ b hb), hs.2.2⟩
    · cases h
  · split at h
    · cases h; simp only [rz_sv_cons] at hs ⊢; exact ⟨rz_rv_int, hs.2⟩
    · cases h
  · split at h
    · cases h; simp only [rz_sv_cons] at hs ⊢; exact ⟨rz_rv_int, hs.2⟩
    · cases h
  · split at h
    · cases h; simp only [rz_sv_cons]; exact ⟨rz_rv_ret, hs⟩
    · cases h
  · split at h
    · cases h; simp only [rz_sv_cons]; exact ⟨rz_rv_int, hs⟩
    · cases h
  · split at h
    · cases h; simp only [rz_sv_cons]; exact ⟨rz_rv_int, hs⟩
    · cases h
  · split at h
    · cases h; simp only [rz_sv_cons]; exact ⟨rz_rv_long, hs⟩
    · cases h
  · cases h
theorem rz_wf_set {w : rz_W} {a : Nat} {e : rz_E} (hw : rz_wf w) (he : rz_rc w.length e) : rz_wf (w.set a e) := by
  intro k e' h
  rw [List.length_set]
  rw [List.getElem?_set] at h
  split at h
  · split at h
    · cases h; exact he
    · cases h
  · exact hw k e' h
set_option maxHeartbeats 1000000 in
theorem rz_wr_rv {oc : Nat} {isI : Bool} {w : rz_W} {i : Instr} {st r : List Value} {a : Nat} {e : rz_E} (h : rz_wr oc isI w i st = some (r, a, e)) (hw : rz_wf w) (hs : rz_sv w.length st) : rz_sv w.length r ∧ rz_rc w.length e := by
  unfold rz_wr at h
  split at h
  · split at h
    · rename_i ci fs hwe
      split at h
      · split at h
        · cases h
          simp only [rz_sv_cons] at hs
          refine ⟨hs.2.2, fun v hv => ?_⟩
          rcases List.mem_or_eq_of_mem_set hv with h1 | h1
          · exact hw _ _ hwe v h1
          · rw [h1]; exact hs.1
        · cases h
      · cases h
    · cases h
  · split at h
    · rename_i n f hwe
      split at h
      · cases h
      · cases h; simp only [rz_sv_cons] at hs; exact ⟨hs.2.2.2, (hw _ _ hwe).1, fun f hf => by cases hf⟩
    · cases h
  · split at h
    · rename_i n f hwe
      split at h
      · cases h
      · cases h; simp only [rz_sv_cons] at hs; exact ⟨hs.2.2.2, (hw _ _ hwe).1, fun f hf => by cases hf⟩
    · cases h
  · split at h
    · rename_i n f hwe
      split at h
      · cases h
      · cases h; simp only [rz_sv_cons] at hs; exact ⟨hs.2.2.2, (hw _ _ hwe).1, fun f hf => by cases hf⟩
    · cases h
  · split at h
    · rename_i n f hwe
      split at h
      · cases h
      · cases h; simp only [rz_sv_cons] at hs; exact ⟨hs.2.2.2, (hw _ _ hwe).1, fun f hf => by cases hf⟩
    · cases h
  · split at h
    · rename_i C n f ci vs hwe hv
      split at h
      · cases h
      · cases h
        simp only [rz_sv_cons] at hs
        refine ⟨hs.2.2.2, (hw _ _ hwe).1, fun g hg j b hb => ?_⟩
        cases hg
        unfold va_up at hb
        split at hb
        · cases hb; exact rz_rv_ref.mp hs.1
        · exact (hw _ _ hwe).2 f rfl j b hb
    · cases h
  · split at h
    · rename_i C n f hwe
      split at h
      · cases h
      · cases h
        simp only [rz_sv_cons] at hs
        refine ⟨hs.2.2.2, (hw _ _ hwe).1, fun g hg j b hb => ?_⟩
        cases hg
        unfold va_up at hb
        split at hb
        · cases hb
        · exact (hw _ _ hwe).2 f rfl j b hb
    · cases h
  · cases h
theorem rz_wf_app {w : rz_W} {e : rz_E} (hw : rz_wf w) (he : rz_rc w.length e) : rz_wf (w ++ [e]) := by
  intro k e' h
  rw [List.length_append]
  by_cases hk : k < w.length
  · rw [List.getElem?_append_left hk] at h
    exact rz_rc_mono (hw k e' h) (Nat.le_add_right _ _)
  · rw [List.getElem?_append_right (by omega)] at h
    have hz : k - w.length < 1 := (List.getElem?_eq_some_iff.mp h).1
    rw [show k - w.length = 0 by omega] at h
    cases h
    exact rz_rc_mono he (Nat.le_add_right _ _)
theorem rz_mk_rv {oc n0 : Nat} {i : Instr} {st r : List Value} {n : Nat} {e : rz_E} (h : rz_mk oc i st = some (e, n0, r)) (hs : rz_sv n st) : rz_sv n r := by
  unfold rz_mk at h
  split at h
  · split at h
    · cases h; exact hs
    · cases h
  · split at h
    · split at h
      · cases h
      · cases h; exact (rz_sv_cons.mp hs).2
    · cases h
  · split at h
    · split at h
      · cases h
      · cases h; exact (rz_sv_cons.mp hs).2
    · cases h
  · cases h
theorem rz_rt_rv {rt : Option FieldType} {i : Instr} {st : List Value} {n : Nat} {v : Value} (h : rz_rt rt i st = some (some v)) (hs : rz_sv n st) : rz_rv n v := by
  unfold rz_rt at h
  split at h
  · split at h
    · split at h
      · cases h; exact rz_rv_int
      · cases h
    · cases h
  · split at h
    · cases h; exact rz_rv_long
    · cases h
  · split at h
    · cases h; exact (rz_sv_cons.mp hs).1
    · cases h; exact (rz_sv_cons.mp hs).1
    · cases h
  · split at h
    · cases h; exact rz_rv_null
    · cases h; exact rz_rv_null
    · cases h
  · split at h
    · cases h
    · cases h
  · cases h
theorem rz_go0_rv {oc : Nat} {w : rz_W} {q : Nat × Nat} {st as r : List Value} {kind mid n : Nat} (h : rz_go0 oc w q st = some (kind, mid, as, r)) (hs : rz_sv n st) : rz_sv n as ∧ rz_sv n r := by
  have ht : ∀ k, rz_sv n (st.take k).reverse := fun k v hv => hs v (List.mem_of_mem_take (List.mem_reverse.mp hv))
  have hd : ∀ k, rz_sv n (st.drop k) := fun k v hv => hs v (List.mem_of_mem_drop hv)
  unfold rz_go0 at h
  split at h
  · rename_i kd md k rc rest hq
    split at h
    · cases h
    · split at h
      · cases h; exact ⟨ht _, hd _⟩
      · split at h
        · rename_i hh as0 hst
          have h1 := ht k
          rw [hst] at h1
          split at h
          · split at h
            · split at h
              · cases h; exact ⟨h1, hd _⟩
              · cases h
            · cases h
          · split at h
            · cases h; exact ⟨h1, hd _⟩
            · cases h
        · cases h
  · cases h
