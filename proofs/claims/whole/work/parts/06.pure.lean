/-! part 06: instructions that only the stack and the locals decide -/
def rz_len : Instr → Nat
  | .bipush _ => 2
  | .sipush _ => 3
  | .iload _ => 2
  | .lload _ => 2
  | .aload _ => 2
  | .istore _ => 2
  | .lstore _ => 2
  | .astore _ => 2
  | .ldc _ => 2
  | .ldc_w _ => 3
  | .ldc2_w _ => 3
  | .ifCond _ _ => 3
  | .if_icmp _ _ => 3
  | .ifnull _ => 3
  | .ifnonnull _ => 3
  | .goto _ => 3
  | .getfield _ => 3
  | .putfield _ => 3
  | .getstatic _ => 3
  | .invokevirtual _ => 3
  | .invokestatic _ => 3
  | .invokespecial _ => 3
  | .new _ => 3
  | .newarray _ => 2
  | .anewarray _ => 3
  | .iinc _ _ => 3
  | _ => 1
section RZP
variable {p : Program} {l : Launch} {e : Env} {R : Room} {s : State} {m : MethodId} {args : Array Value} {below : List Frame} {meth : Method} {c : Code} {H : Heap} {locs : List Loc} {cells slots : Nat} {Q : State → Prop} {cc : ByteArray} {pc : Nat} {ls : Array Slot} {ad xd : Nat → Nat}
set_option maxHeartbeats 4000000 in
theorem rz_op_sound (hx : p.tables.exec = Jvm.exec) (hb : c.code = cc) {i : Instr} {len : Nat} {st st' : List Value} (h : rz_op i st = some st') (hd : decode cc pc = .ok (i, len)) (hl : rz_len i = len)
    (k : W p l e R s m args below meth c H locs cells slots Q (F0 m (pc + len) ls (st'.map (rz_v ad xd)))) : W p l e R s m args below meth c H locs cells slots Q (F0 m pc ls (st.map (rz_v ad xd))) := by
  subst hl
  unfold rz_op at h
  split at h
  · cases h; exact lv_iconst hx hb hd rfl k
  · cases h; exact lv_bipush hx hb hd rfl k
  · cases h; exact lv_sipush hx hb hd rfl k
  · cases h; exact lv_lconst hx hb hd rfl k
  · cases h; exact lv_null hx hb hd k
  · cases h; exact lv_iadd hx hb hd k
  · cases h; exact lv_isub hx hb hd k
  · cases h; exact lv_imul hx hb hd k
  · cases h; exact lv_iand hx hb hd k
  · cases h; exact lv_ixor hx hb hd k
  · split at h
    · cases h
    · rename_i h0; cases h; exact lv_idiv hx hb hd h0 k
  · split at h
    · cases h
    · rename_i h0; cases h; exact lv_irem hx hb hd h0 k
  · cases h; exact lv_ineg hx hb hd k
  · cases h; exact lv_ladd hx hb hd k
  · cases h; exact lv_lsub hx hb hd k
  · cases h; exact lv_lmul hx hb hd k
  · cases h; exact lv_lxor hx hb hd k
  · split at h
    · cases h
    · rename_i h0; cases h; exact lv_ldiv hx hb hd h0 k
  · split at h
    · cases h
    · rename_i h0; cases h; exact lv_lrem hx hb hd h0 k
  · cases h; exact lv_lneg hx hb hd k
  · cases h; exact W.lcmp hx hb hd k
  · cases h; exact lv_i2l hx hb hd rfl k
  · cases h; exact lv_l2i hx hb hd rfl k
  · cases h; exact lv_i2c hx hb hd rfl k
  · split at h
    · rename_i h0; cases h; exact lv_dup hx hb hd (by rw [rz_cat]; exact h0) k
    · cases h
  · split at h
    · rename_i h0; cases h; exact lv_pop hx hb hd (by rw [rz_cat]; exact h0) k
    · cases h
  · split at h
    · rename_i h0; cases h; exact lv_dup2_11 hx hb hd (by rw [rz_cat]; exact h0.1) (by rw [rz_cat]; exact h0.2) k
    · cases h
  · cases h
/-- whether the instruction's jumps go to a place not below 0 -/
def rz_jok (pc : Nat) : Instr → Bool
  | .ifCond _ o => decide (0 ≤ (pc : Int) + o)
  | .if_icmp _ o => decide (0 ≤ (pc : Int) + o)
  | .ifnull o => decide (0 ≤ (pc : Int) + o)
  | .ifnonnull o => decide (0 ≤ (pc : Int) + o)
  | .goto o => decide (0 ≤ (pc : Int) + o)
  | .tableswitch d _ _ offs => decide (0 ≤ (pc : Int) + d) && offs.toList.all (fun o => decide (0 ≤ (pc : Int) + o))
  | _ => true
theorem rz_tgt {pc : Nat} {o : Int} (h : 0 ≤ (pc : Int) + o) : (pc : Int) + o = ((((pc : Int) + o).toNat : Nat) : Int) := (Int.toNat_of_nonneg h).symm
set_option maxHeartbeats 4000000 in
theorem rz_br_sound (hx : p.tables.exec = Jvm.exec) (hb : c.code = cc) {i : Instr} {len : Nat} {st st' : List Value} {b : Bool} {o : Int} (h : rz_br i st = some (b, o, st')) (hd : decode cc pc = .ok (i, len)) (hl : rz_len i = len) (hj : rz_jok pc i = true)
    (kt : b = true → W p l e R s m args below meth c H locs cells slots Q (F0 m ((pc : Int) + o).toNat ls (st'.map (rz_v ad xd)))) (kf : b = false → W p l e R s m args below meth c H locs cells slots Q (F0 m (pc + len) ls (st'.map (rz_v ad xd)))) : W p l e R s m args below meth c H locs cells slots Q (F0 m pc ls (st.map (rz_v ad xd))) := by
  subst hl
  unfold rz_br at h
  split at h <;> first
    | (cases h; done)
    | (obtain ⟨rfl, rfl, rfl⟩ : _ ∧ _ ∧ _ := by simpa only [Option.some.injEq, Prod.mk.injEq] using h
       have hj' := of_decide_eq_true hj
       first
        | exact lv_if_eq hx hb hd (rz_tgt hj') (fun q => kt (decide_eq_true q)) (fun q => kf (decide_eq_false q))
        | exact lv_if_ne hx hb hd (rz_tgt hj') (fun q => kt (decide_eq_true q)) (fun q => kf (decide_eq_false (not_not_intro q)))
        | exact lv_if_lt hx hb hd (rz_tgt hj') (fun q => kt (decide_eq_true q)) (fun q => kf (decide_eq_false q))
        | exact lv_if_ge hx hb hd (rz_tgt hj') (fun q => kt (decide_eq_true q)) (fun q => kf (decide_eq_false q))
        | exact lv_if_gt hx hb hd (rz_tgt hj') (fun q => kt (decide_eq_true q)) (fun q => kf (decide_eq_false q))
        | exact lv_if_le hx hb hd (rz_tgt hj') (fun q => kt (decide_eq_true q)) (fun q => kf (decide_eq_false q))
        | exact lv_icmp_eq hx hb hd (rz_tgt hj') (fun q => kt (decide_eq_true q)) (fun q => kf (decide_eq_false q))
        | exact lv_icmp_ne hx hb hd (rz_tgt hj') (fun q => kt (decide_eq_true q)) (fun q => kf (decide_eq_false (not_not_intro q)))
        | exact lv_icmp_lt hx hb hd (rz_tgt hj') (fun q => kt (decide_eq_true q)) (fun q => kf (decide_eq_false q))
        | exact lv_icmp_ge hx hb hd (rz_tgt hj') (fun q => kt (decide_eq_true q)) (fun q => kf (decide_eq_false q))
        | exact lv_icmp_gt hx hb hd (rz_tgt hj') (fun q => kt (decide_eq_true q)) (fun q => kf (decide_eq_false q))
        | exact lv_icmp_le hx hb hd (rz_tgt hj') (fun q => kt (decide_eq_true q)) (fun q => kf (decide_eq_false q))
        | exact lv_ifnullN hx hb hd (rz_tgt hj') (kt rfl)
        | exact lv_ifnull hx hb hd (kf rfl)
        | exact lv_ifnonnullN hx hb hd (kf rfl)
        | exact lv_ifnonnull hx hb hd (rz_tgt hj') (kt rfl)
        | exact lv_goto hx hb hd (rz_tgt hj') (kt rfl))
set_option maxHeartbeats 4000000 in
theorem rz_ld_sound (hx : p.tables.exec = Jvm.exec) (hb : c.code = cc) {i : Instr} {len n : Nat} {st : List Value} {kd j : Nat} {v : Value} {loc : rz_L} (h : rz_ld i = some (kd, j)) (hv : rz_at loc j = some v) (hk : rz_kd v = kd) (hlo : rz_lok ad xd ls n loc) (hd : decode cc pc = .ok (i, len)) (hl : rz_len i = len)
    (k : W p l e R s m args below meth c H locs cells slots Q (F0 m (pc + len) ls ((v :: st).map (rz_v ad xd)))) : W p l e R s m args below meth c H locs cells slots Q (F0 m pc ls (st.map (rz_v ad xd))) := by
  subst hl
  have ha := hlo.at hv
  unfold rz_ld at h
  split at h
  · cases h; cases v <;> first | (cases hk; done) | exact lv_iload_n hx hb hd rfl ha k
  · cases h; cases v <;> first | (cases hk; done) | exact lv_iload hx hb hd ha k
  · cases h; cases v <;> first | (cases hk; done) | exact lv_lload_n hx hb hd rfl ha k
  · cases h; cases v <;> first | (cases hk; done) | exact lv_lload hx hb hd ha k
  · cases h; cases v <;> first | (cases hk; done) | exact lv_aload_n hx hb hd rfl ha k | exact lv_aload_nN hx hb hd rfl ha k
  · cases h; cases v <;> first | (cases hk; done) | exact lv_aload hx hb hd ha k | exact lv_aloadN hx hb hd ha k
  · cases h
set_option maxHeartbeats 4000000 in
theorem rz_st_sound (hx : p.tables.exec = Jvm.exec) (hb : c.code = cc) {i : Instr} {len n : Nat} {st : List Value} {kd j : Nat} {v : Value} {loc : rz_L} (h : rz_st i = some (kd, j)) (hk : rz_kd v = kd) (hj : j + v.category ≤ loc.length) (hlo : rz_lok ad xd ls n loc) (hd : decode cc pc = .ok (i, len)) (hl : rz_len i = len)
    (k : ∀ ls' : Array Slot, rz_lok ad xd ls' n (rz_set loc j v) → W p l e R s m args below meth c H locs cells slots Q (F0 m (pc + len) ls' (st.map (rz_v ad xd)))) : W p l e R s m args below meth c H locs cells slots Q (F0 m pc ls ((v :: st).map (rz_v ad xd))) := by
  subst hl
  obtain ⟨hn, hh⟩ := hlo
  rw [hn] at hj
  unfold rz_st at h
  split at h
  · cases h; cases v <;> first | (cases hk; done) | exact lv_istore_n hx hb hd rfl hh (by simp only [Value.category] at hj; omega) rfl (fun ls' h' => k ls' (rz_lok1 hn rfl h'))
  · cases h; cases v <;> first | (cases hk; done) | exact lv_istore hx hb hd hh (by simp only [Value.category] at hj; omega) rfl (fun ls' h' => k ls' (rz_lok1 hn rfl h'))
  · cases h; cases v <;> first | (cases hk; done) | exact lv_lstore_n hx hb hd rfl hh (by simp only [Value.category] at hj; omega) rfl (fun ls' h' => k ls' (rz_lok2 hn rfl h'))
  · cases h; cases v <;> first | (cases hk; done) | exact lv_lstore hx hb hd hh (by simp only [Value.category] at hj; omega) rfl (fun ls' h' => k ls' (rz_lok2 hn rfl h'))
  · cases h; cases v <;> first | (cases hk; done) | exact lv_astore_n hx hb hd rfl hh (by simp only [Value.category] at hj; omega) rfl (fun ls' h' => k ls' (rz_lok1 hn rfl h')) | exact lv_astore_nN hx hb hd rfl hh (by simp only [Value.category] at hj; omega) rfl (fun ls' h' => k ls' (rz_lok1 hn rfl h'))
  · cases h; cases v <;> first | (cases hk; done) | exact lv_astore hx hb hd hh (by simp only [Value.category] at hj; omega) rfl (fun ls' h' => k ls' (rz_lok1 hn rfl h')) | exact lv_astoreN hx hb hd hh (by simp only [Value.category] at hj; omega) rfl (fun ls' h' => k ls' (rz_lok1 hn rfl h'))
  · cases h
theorem rz_iinc_sound (hx : p.tables.exec = Jvm.exec) (hb : c.code = cc) {n : Nat} {st : List Value} {j : Nat} {z : Int} {x : Int32} {loc : rz_L} (hv : rz_at loc j = some (.int x)) (hlo : rz_lok ad xd ls n loc) (hd : decode cc pc = .ok (.iinc j z, 3))
    (k : ∀ ls' : Array Slot, rz_lok ad xd ls' n (rz_set loc j (.int (x + Int32.ofInt z))) → W p l e R s m args below meth c H locs cells slots Q (F0 m (pc + 3) ls' (st.map (rz_v ad xd)))) : W p l e R s m args below meth c H locs cells slots Q (F0 m pc ls (st.map (rz_v ad xd))) := by
  obtain ⟨hn, hh⟩ := hlo
  have hm : (j, Value.int x) ∈ rz_lp ad xd 0 loc := rz_lp_mem.mpr ⟨j, .int x, by omega, hv, rfl⟩
  obtain ⟨k0, hk0⟩ := List.getElem?_of_mem hm
  exact lv_iinc hx hb hd hh hk0 rfl (by rw [← hn]; exact rz_at_lt hv) rfl (fun ls' h' => k ls' (rz_lok1 hn rfl h'))
theorem rz_sw_sound (hx : p.tables.exec = Jvm.exec) (hb : c.code = cc) {len : Nat} {r : List Value} {d lo hi : Int} {offs : Array Int} {x : Int32} {o : Int} (hd : decode cc pc = .ok (.tableswitch d lo hi offs, len)) (hj : rz_jok pc (.tableswitch d lo hi offs) = true)
    (ho : (x.toInt < lo ∨ hi < x.toInt) ∧ o = d ∨ ¬ (x.toInt < lo ∨ hi < x.toInt) ∧ offs[(x.toInt - lo).toNat]? = some o)
    (k : W p l e R s m args below meth c H locs cells slots Q (F0 m ((pc : Int) + o).toNat ls (r.map (rz_v ad xd)))) : W p l e R s m args below meth c H locs cells slots Q (F0 m pc ls ((.int x :: r).map (rz_v ad xd))) := by
  simp only [rz_jok, Bool.and_eq_true, decide_eq_true_eq, List.all_eq_true] at hj
  rcases ho with ⟨h1, rfl⟩ | ⟨h1, h2⟩
  · exact lv_tableOut hx hb hd h1 (rz_tgt hj.1) k
  · refine lv_tableIn hx hb hd (fun q => h1 (Or.inl q)) (fun q => h1 (Or.inr q)) h2 (rz_tgt (hj.2 o ?_)) k
    have := (Array.getElem?_eq_some_iff.mp h2)
    obtain ⟨h3, h4⟩ := this
    rw [← h4]
    simp
end RZP
