/-! part 12: what the tables say of each call, by tools/gen_facts.py -/
def rz_cfk (oc ix kind n rc : Nat) (M : rz_M) : Prop :=
  (kind = 0 ∧ Cond.methodLink (rz_own oc) ix M.1 ∈ lw_good ∧ Cond.static M.1 ∈ lw_good ∧ rz_par M.1 = some n ∧ M.2.2.2.2.2.2.2.2 = []) ∨
  (kind = 1 ∧ Cond.methodLink (rz_own oc) ix M.1 ∈ lw_good ∧ Cond.instanceMethod M.1 ∈ lw_good ∧ Cond.selects M.1.cls M.1 M.1 ∈ lw_good ∧ (∃ k, rz_par M.1 = some k ∧ n = k + 1) ∧ rz_own rc = M.1.cls ∧ M.2.2.2.2.2.2.2.2 = []) ∨
  (kind = 2 ∧ Cond.methodLink (rz_own oc) ix M.1 ∈ lw_good ∧ Cond.instanceMethod M.1 ∈ lw_good ∧ M.1.name = "<init>" ∧ (∃ k, rz_par M.1 = some k ∧ n = k + 1) ∧ M.2.2.2.1 = none ∧ M.2.2.2.2.2.2.2.2 = []) ∨
  (kind = 3 ∧ (rz_own oc, ix, M.1, "Latticeyard") ∈ rz_nests ∧ Cond.static M.1 ∈ lw_good ∧ rz_par M.1 = some n ∧ M.2.2.2.2.2.2.2.2 = []) ∨
  (kind = 4 ∧ (rz_own oc, ix, M.1, "Latticeyard") ∈ rz_nests ∧ Cond.instanceMethod M.1 ∈ lw_good ∧ M.1.name = "<init>" ∧ (∃ k, rz_par M.1 = some k ∧ n = k + 1) ∧ M.2.2.2.1 = none ∧ M.2.2.2.2.2.2.2.2 = []) ∨
  (kind = 5 ∧ Cond.methodLink (rz_own oc) ix M.1 ∈ lw_good ∧ Cond.static M.1 ∈ lw_good ∧ rz_par M.1 = some n ∧ M.2.2.2.2.2.2.2.2 ≠ [])
def rz_cf (oc : Nat) (q : Nat × Nat × Nat × Nat × Nat × Nat × Nat × Nat × Nat × Nat) : Prop :=
  (q.2.1 = 9 ∧ Cond.methodLink (rz_own oc) q.1 objectInit ∈ lw_good ∧ Cond.instanceMethod objectInit ∈ lw_good ∧ Cond.code objectInit ⟨#[0xb1]⟩ 1 none ∈ lw_good ∧ q.2.2.2.1 = 1) ∨
  ∃ M, rz_ms[q.2.2.1]? = some M ∧ rz_cfk oc q.1 q.2.1 q.2.2.2.1 q.2.2.2.2.1 M
theorem pr_X0_init : rz_par mz_X0_init.1 = some 0 := by decide +kernel
set_option maxRecDepth 100000 in
theorem win_X0_init : Cond.instanceMethod mz_X0_init.1 ∈ lw_good := rz_good (i := 108) rfl rfl
theorem pr_X0_reduce : rz_par mz_X0_reduce.1 = some 1 := by decide +kernel
set_option maxRecDepth 100000 in
theorem win_X0_reduce : Cond.instanceMethod mz_X0_reduce.1 ∈ lw_good := rz_good (i := 409) rfl rfl
set_option maxRecDepth 100000 in
theorem wse_X0_reduce : Cond.selects mz_X0_reduce.1.cls mz_X0_reduce.1 mz_X0_reduce.1 ∈ lw_good := rz_good (i := 410) rfl rfl
theorem pr_X0_swap : rz_par mz_X0_swap.1 = some 0 := by decide +kernel
set_option maxRecDepth 100000 in
theorem win_X0_swap : Cond.instanceMethod mz_X0_swap.1 ∈ lw_good := rz_good (i := 414) rfl rfl
set_option maxRecDepth 100000 in
theorem wse_X0_swap : Cond.selects mz_X0_swap.1.cls mz_X0_swap.1 mz_X0_swap.1 ∈ lw_good := rz_good (i := 2) rfl rfl
theorem pr_X0_product : rz_par mz_X0_product.1 = some 0 := by decide +kernel
set_option maxRecDepth 100000 in
theorem win_X0_product : Cond.instanceMethod mz_X0_product.1 ∈ lw_good := rz_good (i := 418) rfl rfl
set_option maxRecDepth 100000 in
theorem wse_X0_product : Cond.selects mz_X0_product.1.cls mz_X0_product.1 mz_X0_product.1 ∈ lw_good := rz_good (i := 419) rfl rfl
theorem pr_X0_turn : rz_par mz_X0_turn.1 = some 0 := by decide +kernel
set_option maxRecDepth 100000 in
theorem win_X0_turn : Cond.instanceMethod mz_X0_turn.1 ∈ lw_good := rz_good (i := 425) rfl rfl
set_option maxRecDepth 100000 in
theorem wse_X0_turn : Cond.selects mz_X0_turn.1.cls mz_X0_turn.1 mz_X0_turn.1 ∈ lw_good := rz_good (i := 426) rfl rfl
theorem pr_X0_seek : rz_par mz_X0_seek.1 = some 2 := by decide +kernel
set_option maxRecDepth 100000 in
theorem win_X0_seek : Cond.instanceMethod mz_X0_seek.1 ∈ lw_good := rz_good (i := 920) rfl rfl
set_option maxRecDepth 100000 in
theorem wse_X0_seek : Cond.selects mz_X0_seek.1.cls mz_X0_seek.1 mz_X0_seek.1 ∈ lw_good := rz_good (i := 921) rfl rfl
theorem pr_X0_compare : rz_par mz_X0_compare.1 = some 4 := by decide +kernel
set_option maxRecDepth 100000 in
theorem win_X0_compare : Cond.instanceMethod mz_X0_compare.1 ∈ lw_good := rz_good (i := 926) rfl rfl
set_option maxRecDepth 100000 in
theorem wse_X0_compare : Cond.selects mz_X0_compare.1.cls mz_X0_compare.1 mz_X0_compare.1 ∈ lw_good := rz_good (i := 19) rfl rfl
theorem pr_X1_init : rz_par mz_X1_init.1 = some 0 := by decide +kernel
set_option maxRecDepth 100000 in
theorem win_X1_init : Cond.instanceMethod mz_X1_init.1 ∈ lw_good := rz_good (i := 167) rfl rfl
theorem pr_X1_draw : rz_par mz_X1_draw.1 = some 1 := by decide +kernel
set_option maxRecDepth 100000 in
theorem win_X1_draw : Cond.instanceMethod mz_X1_draw.1 ∈ lw_good := rz_good (i := 947) rfl rfl
set_option maxRecDepth 100000 in
theorem wse_X1_draw : Cond.selects mz_X1_draw.1.cls mz_X1_draw.1 mz_X1_draw.1 ∈ lw_good := rz_good (i := 948) rfl rfl
theorem pr_X1_put : rz_par mz_X1_put.1 = some 5 := by decide +kernel
set_option maxRecDepth 100000 in
theorem win_X1_put : Cond.instanceMethod mz_X1_put.1 ∈ lw_good := rz_good (i := 955) rfl rfl
set_option maxRecDepth 100000 in
theorem wse_X1_put : Cond.selects mz_X1_put.1.cls mz_X1_put.1 mz_X1_put.1 ∈ lw_good := rz_good (i := 21) rfl rfl
theorem pr_X1_findFirst : rz_par mz_X1_findFirst.1 = some 0 := by decide +kernel
set_option maxRecDepth 100000 in
theorem win_X1_findFirst : Cond.instanceMethod mz_X1_findFirst.1 ∈ lw_good := rz_good (i := 959) rfl rfl
set_option maxRecDepth 100000 in
theorem wse_X1_findFirst : Cond.selects mz_X1_findFirst.1.cls mz_X1_findFirst.1 mz_X1_findFirst.1 ∈ lw_good := rz_good (i := 22) rfl rfl
theorem pr_X1_overX : rz_par mz_X1_overX.1 = some 1 := by decide +kernel
set_option maxRecDepth 100000 in
theorem win_X1_overX : Cond.instanceMethod mz_X1_overX.1 ∈ lw_good := rz_good (i := 970) rfl rfl
set_option maxRecDepth 100000 in
theorem wse_X1_overX : Cond.selects mz_X1_overX.1.cls mz_X1_overX.1 mz_X1_overX.1 ∈ lw_good := rz_good (i := 971) rfl rfl
theorem pr_X1_overY : rz_par mz_X1_overY.1 = some 1 := by decide +kernel
set_option maxRecDepth 100000 in
theorem win_X1_overY : Cond.instanceMethod mz_X1_overY.1 ∈ lw_good := rz_good (i := 979) rfl rfl
set_option maxRecDepth 100000 in
theorem wse_X1_overY : Cond.selects mz_X1_overY.1.cls mz_X1_overY.1 mz_X1_overY.1 ∈ lw_good := rz_good (i := 980) rfl rfl
theorem pr_X1_placeOfCorner : rz_par mz_X1_placeOfCorner.1 = some 1 := by decide +kernel
set_option maxRecDepth 100000 in
theorem win_X1_placeOfCorner : Cond.instanceMethod mz_X1_placeOfCorner.1 ∈ lw_good := rz_good (i := 975) rfl rfl
set_option maxRecDepth 100000 in
theorem wse_X1_placeOfCorner : Cond.selects mz_X1_placeOfCorner.1.cls mz_X1_placeOfCorner.1 mz_X1_placeOfCorner.1 ∈ lw_good := rz_good (i := 23) rfl rfl
theorem pr_X2_init : rz_par mz_X2_init.1 = some 0 := by decide +kernel
set_option maxRecDepth 100000 in
theorem win_X2_init : Cond.instanceMethod mz_X2_init.1 ∈ lw_good := rz_good (i := 240) rfl rfl
theorem pr_X2_cutAll : rz_par mz_X2_cutAll.1 = some 1 := by decide +kernel
set_option maxRecDepth 100000 in
theorem win_X2_cutAll : Cond.instanceMethod mz_X2_cutAll.1 ∈ lw_good := rz_good (i := 1149) rfl rfl
set_option maxRecDepth 100000 in
theorem wse_X2_cutAll : Cond.selects mz_X2_cutAll.1.cls mz_X2_cutAll.1 mz_X2_cutAll.1 ∈ lw_good := rz_good (i := 1150) rfl rfl
theorem pr_X2_cutFirst : rz_par mz_X2_cutFirst.1 = some 1 := by decide +kernel
set_option maxRecDepth 100000 in
theorem win_X2_cutFirst : Cond.instanceMethod mz_X2_cutFirst.1 ∈ lw_good := rz_good (i := 1155) rfl rfl
set_option maxRecDepth 100000 in
theorem wse_X2_cutFirst : Cond.selects mz_X2_cutFirst.1.cls mz_X2_cutFirst.1 mz_X2_cutFirst.1 ∈ lw_good := rz_good (i := 34) rfl rfl
theorem pr_X2_leftAt : rz_par mz_X2_leftAt.1 = some 1 := by decide +kernel
set_option maxRecDepth 100000 in
theorem win_X2_leftAt : Cond.instanceMethod mz_X2_leftAt.1 ∈ lw_good := rz_good (i := 1163) rfl rfl
set_option maxRecDepth 100000 in
theorem wse_X2_leftAt : Cond.selects mz_X2_leftAt.1.cls mz_X2_leftAt.1 mz_X2_leftAt.1 ∈ lw_good := rz_good (i := 36) rfl rfl
theorem pr_X2_remove : rz_par mz_X2_remove.1 = some 1 := by decide +kernel
set_option maxRecDepth 100000 in
theorem win_X2_remove : Cond.instanceMethod mz_X2_remove.1 ∈ lw_good := rz_good (i := 1174) rfl rfl
set_option maxRecDepth 100000 in
theorem wse_X2_remove : Cond.selects mz_X2_remove.1.cls mz_X2_remove.1 mz_X2_remove.1 ∈ lw_good := rz_good (i := 38) rfl rfl
theorem pr_X2_keep : rz_par mz_X2_keep.1 = some 3 := by decide +kernel
set_option maxRecDepth 100000 in
theorem win_X2_keep : Cond.instanceMethod mz_X2_keep.1 ∈ lw_good := rz_good (i := 1170) rfl rfl
set_option maxRecDepth 100000 in
theorem wse_X2_keep : Cond.selects mz_X2_keep.1.cls mz_X2_keep.1 mz_X2_keep.1 ∈ lw_good := rz_good (i := 37) rfl rfl
theorem pr_X2_isEar : rz_par mz_X2_isEar.1 = some 2 := by decide +kernel
set_option maxRecDepth 100000 in
theorem win_X2_isEar : Cond.instanceMethod mz_X2_isEar.1 ∈ lw_good := rz_good (i := 1159) rfl rfl
set_option maxRecDepth 100000 in
theorem wse_X2_isEar : Cond.selects mz_X2_isEar.1.cls mz_X2_isEar.1 mz_X2_isEar.1 ∈ lw_good := rz_good (i := 35) rfl rfl
theorem pr_X2_cornerOf : rz_par mz_X2_cornerOf.1 = some 2 := by decide +kernel
set_option maxRecDepth 100000 in
theorem win_X2_cornerOf : Cond.instanceMethod mz_X2_cornerOf.1 ∈ lw_good := rz_good (i := 1243) rfl rfl
set_option maxRecDepth 100000 in
theorem wse_X2_cornerOf : Cond.selects mz_X2_cornerOf.1.cls mz_X2_cornerOf.1 mz_X2_cornerOf.1 ∈ lw_good := rz_good (i := 1244) rfl rfl
theorem pr_X3_init : rz_par mz_X3_init.1 = some 3 := by decide +kernel
set_option maxRecDepth 100000 in
theorem win_X3_init : Cond.instanceMethod mz_X3_init.1 ∈ lw_good := rz_good (i := 482) rfl rfl
theorem pr_X3_generated : rz_par mz_X3_generated.1 = some 5 := by decide +kernel
set_option maxRecDepth 100000 in
theorem wst_X3_generated : Cond.static mz_X3_generated.1 ∈ lw_good := rz_good (i := 473) rfl rfl
theorem pr_X3_ofMultiples : rz_par mz_X3_ofMultiples.1 = some 3 := by decide +kernel
set_option maxRecDepth 100000 in
theorem wst_X3_ofMultiples : Cond.static mz_X3_ofMultiples.1 ∈ lw_good := rz_good (i := 763) rfl rfl
theorem pr_X3_ranked : rz_par mz_X3_ranked.1 = some 2 := by decide +kernel
set_option maxRecDepth 100000 in
theorem wst_X3_ranked : Cond.static mz_X3_ranked.1 ∈ lw_good := rz_good (i := 774) rfl rfl
theorem pr_X3_joinOf : rz_par mz_X3_joinOf.1 = some 2 := by decide +kernel
set_option maxRecDepth 100000 in
theorem wst_X3_joinOf : Cond.static mz_X3_joinOf.1 ∈ lw_good := rz_good (i := 467) rfl rfl
theorem pr_X3_meetWidth : rz_par mz_X3_meetWidth.1 = some 2 := by decide +kernel
set_option maxRecDepth 100000 in
theorem wst_X3_meetWidth : Cond.static mz_X3_meetWidth.1 ∈ lw_good := rz_good (i := 510) rfl rfl
theorem pr_X3_meetHeight : rz_par mz_X3_meetHeight.1 = some 2 := by decide +kernel
set_option maxRecDepth 100000 in
theorem wst_X3_meetHeight : Cond.static mz_X3_meetHeight.1 ∈ lw_good := rz_good (i := 513) rfl rfl
theorem pr_X3_meetIndex : rz_par mz_X3_meetIndex.1 = some 2 := by decide +kernel
set_option maxRecDepth 100000 in
theorem wst_X3_meetIndex : Cond.static mz_X3_meetIndex.1 ∈ lw_good := rz_good (i := 507) rfl rfl
theorem pr_X3_meetOf : rz_par mz_X3_meetOf.1 = some 2 := by decide +kernel
set_option maxRecDepth 100000 in
theorem wst_X3_meetOf : Cond.static mz_X3_meetOf.1 ∈ lw_good := rz_good (i := 517) rfl rfl
theorem pr_X3_index : rz_par mz_X3_index.1 = some 0 := by decide +kernel
set_option maxRecDepth 100000 in
theorem win_X3_index : Cond.instanceMethod mz_X3_index.1 ∈ lw_good := rz_good (i := 460) rfl rfl
set_option maxRecDepth 100000 in
theorem wse_X3_index : Cond.selects mz_X3_index.1.cls mz_X3_index.1 mz_X3_index.1 ∈ lw_good := rz_good (i := 461) rfl rfl
theorem pr_X3_contains : rz_par mz_X3_contains.1 = some 2 := by decide +kernel
set_option maxRecDepth 100000 in
theorem win_X3_contains : Cond.instanceMethod mz_X3_contains.1 ∈ lw_good := rz_good (i := 453) rfl rfl
set_option maxRecDepth 100000 in
theorem wse_X3_contains : Cond.selects mz_X3_contains.1.cls mz_X3_contains.1 mz_X3_contains.1 ∈ lw_good := rz_good (i := 454) rfl rfl
theorem pr_X3_isPartOf : rz_par mz_X3_isPartOf.1 = some 1 := by decide +kernel
set_option maxRecDepth 100000 in
theorem win_X3_isPartOf : Cond.instanceMethod mz_X3_isPartOf.1 ∈ lw_good := rz_good (i := 502) rfl rfl
set_option maxRecDepth 100000 in
theorem wse_X3_isPartOf : Cond.selects mz_X3_isPartOf.1.cls mz_X3_isPartOf.1 mz_X3_isPartOf.1 ∈ lw_good := rz_good (i := 503) rfl rfl
theorem pr_X3_countUpTo : rz_par mz_X3_countUpTo.1 = some 1 := by decide +kernel
set_option maxRecDepth 100000 in
theorem win_X3_countUpTo : Cond.instanceMethod mz_X3_countUpTo.1 ∈ lw_good := rz_good (i := 902) rfl rfl
set_option maxRecDepth 100000 in
theorem wse_X3_countUpTo : Cond.selects mz_X3_countUpTo.1.cls mz_X3_countUpTo.1 mz_X3_countUpTo.1 ∈ lw_good := rz_good (i := 903) rfl rfl
theorem pr_X3_classOf : rz_par mz_X3_classOf.1 = some 2 := by decide +kernel
set_option maxRecDepth 100000 in
theorem win_X3_classOf : Cond.instanceMethod mz_X3_classOf.1 ∈ lw_good := rz_good (i := 1269) rfl rfl
set_option maxRecDepth 100000 in
theorem wse_X3_classOf : Cond.selects mz_X3_classOf.1.cls mz_X3_classOf.1 mz_X3_classOf.1 ∈ lw_good := rz_good (i := 1270) rfl rfl
theorem pr_X4_init : rz_par mz_X4_init.1 = some 0 := by decide +kernel
set_option maxRecDepth 100000 in
theorem win_X4_init : Cond.instanceMethod mz_X4_init.1 ∈ lw_good := rz_good (i := 304) rfl rfl
theorem pr_X4_build : rz_par mz_X4_build.1 = some 2 := by decide +kernel
set_option maxRecDepth 100000 in
theorem win_X4_build : Cond.instanceMethod mz_X4_build.1 ∈ lw_good := rz_good (i := 598) rfl rfl
set_option maxRecDepth 100000 in
theorem wse_X4_build : Cond.selects mz_X4_build.1.cls mz_X4_build.1 mz_X4_build.1 ∈ lw_good := rz_good (i := 599) rfl rfl
theorem pr_X4_lowest : rz_par mz_X4_lowest.1 = some 3 := by decide +kernel
set_option maxRecDepth 100000 in
theorem wst_X4_lowest : Cond.static mz_X4_lowest.1 ∈ lw_good := rz_good (i := 602) rfl rfl
theorem pr_X4_add : rz_par mz_X4_add.1 = some 2 := by decide +kernel
set_option maxRecDepth 100000 in
theorem win_X4_add : Cond.instanceMethod mz_X4_add.1 ∈ lw_good := rz_good (i := 618) rfl rfl
set_option maxRecDepth 100000 in
theorem wse_X4_add : Cond.selects mz_X4_add.1.cls mz_X4_add.1 mz_X4_add.1 ∈ lw_good := rz_good (i := 13) rfl rfl
theorem pr_X4_xOf : rz_par mz_X4_xOf.1 = some 1 := by decide +kernel
set_option maxRecDepth 100000 in
theorem win_X4_xOf : Cond.instanceMethod mz_X4_xOf.1 ∈ lw_good := rz_good (i := 609) rfl rfl
set_option maxRecDepth 100000 in
theorem wse_X4_xOf : Cond.selects mz_X4_xOf.1.cls mz_X4_xOf.1 mz_X4_xOf.1 ∈ lw_good := rz_good (i := 610) rfl rfl
theorem pr_X4_yOf : rz_par mz_X4_yOf.1 = some 1 := by decide +kernel
set_option maxRecDepth 100000 in
theorem win_X4_yOf : Cond.instanceMethod mz_X4_yOf.1 ∈ lw_good := rz_good (i := 613) rfl rfl
set_option maxRecDepth 100000 in
theorem wse_X4_yOf : Cond.selects mz_X4_yOf.1.cls mz_X4_yOf.1 mz_X4_yOf.1 ∈ lw_good := rz_good (i := 614) rfl rfl
theorem pr_X4_turn : rz_par mz_X4_turn.1 = some 4 := by decide +kernel
set_option maxRecDepth 100000 in
theorem win_X4_turn : Cond.instanceMethod mz_X4_turn.1 ∈ lw_good := rz_good (i := 606) rfl rfl
set_option maxRecDepth 100000 in
theorem wse_X4_turn : Cond.selects mz_X4_turn.1.cls mz_X4_turn.1 mz_X4_turn.1 ∈ lw_good := rz_good (i := 12) rfl rfl
theorem pr_X4_bendsUp : rz_par mz_X4_bendsUp.1 = some 0 := by decide +kernel
set_option maxRecDepth 100000 in
theorem win_X4_bendsUp : Cond.instanceMethod mz_X4_bendsUp.1 ∈ lw_good := rz_good (i := 621) rfl rfl
set_option maxRecDepth 100000 in
theorem wse_X4_bendsUp : Cond.selects mz_X4_bendsUp.1.cls mz_X4_bendsUp.1 mz_X4_bendsUp.1 ∈ lw_good := rz_good (i := 622) rfl rfl
theorem pr_X4_liesBelowAll : rz_par mz_X4_liesBelowAll.1 = some 2 := by decide +kernel
set_option maxRecDepth 100000 in
theorem win_X4_liesBelowAll : Cond.instanceMethod mz_X4_liesBelowAll.1 ∈ lw_good := rz_good (i := 625) rfl rfl
set_option maxRecDepth 100000 in
theorem wse_X4_liesBelowAll : Cond.selects mz_X4_liesBelowAll.1.cls mz_X4_liesBelowAll.1 mz_X4_liesBelowAll.1 ∈ lw_good := rz_good (i := 626) rfl rfl
theorem pr_X5_init : rz_par mz_X5_init.1 = some 0 := by decide +kernel
set_option maxRecDepth 100000 in
theorem win_X5_init : Cond.instanceMethod mz_X5_init.1 ∈ lw_good := rz_good (i := 288) rfl rfl
theorem pr_X5_countTo : rz_par mz_X5_countTo.1 = some 4 := by decide +kernel
set_option maxRecDepth 100000 in
theorem win_X5_countTo : Cond.instanceMethod mz_X5_countTo.1 ∈ lw_good := rz_good (i := 1303) rfl rfl
set_option maxRecDepth 100000 in
theorem wse_X5_countTo : Cond.selects mz_X5_countTo.1.cls mz_X5_countTo.1 mz_X5_countTo.1 ∈ lw_good := rz_good (i := 1304) rfl rfl
theorem pr_X5_leapFrom : rz_par mz_X5_leapFrom.1 = some 3 := by decide +kernel
set_option maxRecDepth 100000 in
theorem win_X5_leapFrom : Cond.instanceMethod mz_X5_leapFrom.1 ∈ lw_good := rz_good (i := 1316) rfl rfl
set_option maxRecDepth 100000 in
theorem wse_X5_leapFrom : Cond.selects mz_X5_leapFrom.1.cls mz_X5_leapFrom.1 mz_X5_leapFrom.1 ∈ lw_good := rz_good (i := 43) rfl rfl
theorem pr_X5_comeTo : rz_par mz_X5_comeTo.1 = some 3 := by decide +kernel
set_option maxRecDepth 100000 in
theorem win_X5_comeTo : Cond.instanceMethod mz_X5_comeTo.1 ∈ lw_good := rz_good (i := 1312) rfl rfl
set_option maxRecDepth 100000 in
theorem wse_X5_comeTo : Cond.selects mz_X5_comeTo.1.cls mz_X5_comeTo.1 mz_X5_comeTo.1 ∈ lw_good := rz_good (i := 42) rfl rfl
theorem pr_X5_placeOfPoint : rz_par mz_X5_placeOfPoint.1 = some 2 := by decide +kernel
set_option maxRecDepth 100000 in
theorem wst_X5_placeOfPoint : Cond.static mz_X5_placeOfPoint.1 ∈ lw_good := rz_good (i := 1308) rfl rfl
theorem pr_X6_init : rz_par mz_X6_init.1 = some 0 := by decide +kernel
set_option maxRecDepth 100000 in
theorem win_X6_init : Cond.instanceMethod mz_X6_init.1 ∈ lw_good := rz_good (i := 234) rfl rfl
theorem pr_X6_type : rz_par mz_X6_type.1 = some 2 := by decide +kernel
set_option maxRecDepth 100000 in
theorem win_X6_type : Cond.instanceMethod mz_X6_type.1 ∈ lw_good := rz_good (i := 1108) rfl rfl
set_option maxRecDepth 100000 in
theorem wse_X6_type : Cond.selects mz_X6_type.1.cls mz_X6_type.1 mz_X6_type.1 ∈ lw_good := rz_good (i := 1109) rfl rfl
theorem pr_X6_takeAway : rz_par mz_X6_takeAway.1 = some 0 := by decide +kernel
set_option maxRecDepth 100000 in
theorem win_X6_takeAway : Cond.instanceMethod mz_X6_takeAway.1 ∈ lw_good := rz_good (i := 360) rfl rfl
set_option maxRecDepth 100000 in
theorem wse_X6_takeAway : Cond.selects mz_X6_takeAway.1.cls mz_X6_takeAway.1 mz_X6_takeAway.1 ∈ lw_good := rz_good (i := 361) rfl rfl
theorem pr_X6_shut : rz_par mz_X6_shut.1 = some 0 := by decide +kernel
set_option maxRecDepth 100000 in
theorem win_X6_shut : Cond.instanceMethod mz_X6_shut.1 ∈ lw_good := rz_good (i := 1145) rfl rfl
set_option maxRecDepth 100000 in
theorem wse_X6_shut : Cond.selects mz_X6_shut.1.cls mz_X6_shut.1 mz_X6_shut.1 ∈ lw_good := rz_good (i := 1146) rfl rfl
theorem pr_X6_xOf : rz_par mz_X6_xOf.1 = some 1 := by decide +kernel
set_option maxRecDepth 100000 in
theorem win_X6_xOf : Cond.instanceMethod mz_X6_xOf.1 ∈ lw_good := rz_good (i := 384) rfl rfl
set_option maxRecDepth 100000 in
theorem wse_X6_xOf : Cond.selects mz_X6_xOf.1.cls mz_X6_xOf.1 mz_X6_xOf.1 ∈ lw_good := rz_good (i := 385) rfl rfl
theorem pr_X6_yOf : rz_par mz_X6_yOf.1 = some 1 := by decide +kernel
set_option maxRecDepth 100000 in
theorem win_X6_yOf : Cond.instanceMethod mz_X6_yOf.1 ∈ lw_good := rz_good (i := 388) rfl rfl
set_option maxRecDepth 100000 in
theorem wse_X6_yOf : Cond.selects mz_X6_yOf.1.cls mz_X6_yOf.1 mz_X6_yOf.1 ∈ lw_good := rz_good (i := 389) rfl rfl
theorem pr_X6_after : rz_par mz_X6_after.1 = some 1 := by decide +kernel
set_option maxRecDepth 100000 in
theorem win_X6_after : Cond.instanceMethod mz_X6_after.1 ∈ lw_good := rz_good (i := 547) rfl rfl
set_option maxRecDepth 100000 in
theorem wse_X6_after : Cond.selects mz_X6_after.1.cls mz_X6_after.1 mz_X6_after.1 ∈ lw_good := rz_good (i := 9) rfl rfl
theorem pr_X6_turn : rz_par mz_X6_turn.1 = some 3 := by decide +kernel
set_option maxRecDepth 100000 in
theorem win_X6_turn : Cond.instanceMethod mz_X6_turn.1 ∈ lw_good := rz_good (i := 1136) rfl rfl
set_option maxRecDepth 100000 in
theorem wse_X6_turn : Cond.selects mz_X6_turn.1.cls mz_X6_turn.1 mz_X6_turn.1 ∈ lw_good := rz_good (i := 1137) rfl rfl
theorem pr_X6_signedArea : rz_par mz_X6_signedArea.1 = some 0 := by decide +kernel
set_option maxRecDepth 100000 in
theorem win_X6_signedArea : Cond.instanceMethod mz_X6_signedArea.1 ∈ lw_good := rz_good (i := 564) rfl rfl
set_option maxRecDepth 100000 in
theorem wse_X6_signedArea : Cond.selects mz_X6_signedArea.1.cls mz_X6_signedArea.1 mz_X6_signedArea.1 ∈ lw_good := rz_good (i := 565) rfl rfl
theorem pr_X6_twiceArea : rz_par mz_X6_twiceArea.1 = some 0 := by decide +kernel
set_option maxRecDepth 100000 in
theorem win_X6_twiceArea : Cond.instanceMethod mz_X6_twiceArea.1 ∈ lw_good := rz_good (i := 560) rfl rfl
set_option maxRecDepth 100000 in
theorem wse_X6_twiceArea : Cond.selects mz_X6_twiceArea.1.cls mz_X6_twiceArea.1 mz_X6_twiceArea.1 ∈ lw_good := rz_good (i := 561) rfl rfl
theorem pr_X6_rimPoints : rz_par mz_X6_rimPoints.1 = some 0 := by decide +kernel
set_option maxRecDepth 100000 in
theorem win_X6_rimPoints : Cond.instanceMethod mz_X6_rimPoints.1 ∈ lw_good := rz_good (i := 571) rfl rfl
set_option maxRecDepth 100000 in
theorem wse_X6_rimPoints : Cond.selects mz_X6_rimPoints.1.cls mz_X6_rimPoints.1 mz_X6_rimPoints.1 ∈ lw_good := rz_good (i := 572) rfl rfl
theorem pr_X6_isProper : rz_par mz_X6_isProper.1 = some 0 := by decide +kernel
set_option maxRecDepth 100000 in
theorem win_X6_isProper : Cond.instanceMethod mz_X6_isProper.1 ∈ lw_good := rz_good (i := 1120) rfl rfl
set_option maxRecDepth 100000 in
theorem wse_X6_isProper : Cond.selects mz_X6_isProper.1.cls mz_X6_isProper.1 mz_X6_isProper.1 ∈ lw_good := rz_good (i := 1121) rfl rfl
theorem pr_X6_foldsBack : rz_par mz_X6_foldsBack.1 = some 1 := by decide +kernel
set_option maxRecDepth 100000 in
theorem win_X6_foldsBack : Cond.instanceMethod mz_X6_foldsBack.1 ∈ lw_good := rz_good (i := 1125) rfl rfl
set_option maxRecDepth 100000 in
theorem wse_X6_foldsBack : Cond.selects mz_X6_foldsBack.1.cls mz_X6_foldsBack.1 mz_X6_foldsBack.1 ∈ lw_good := rz_good (i := 30) rfl rfl
theorem pr_X6_sidesMeet : rz_par mz_X6_sidesMeet.1 = some 2 := by decide +kernel
set_option maxRecDepth 100000 in
theorem win_X6_sidesMeet : Cond.instanceMethod mz_X6_sidesMeet.1 ∈ lw_good := rz_good (i := 1129) rfl rfl
set_option maxRecDepth 100000 in
theorem wse_X6_sidesMeet : Cond.selects mz_X6_sidesMeet.1.cls mz_X6_sidesMeet.1 mz_X6_sidesMeet.1 ∈ lw_good := rz_good (i := 31) rfl rfl
theorem pr_X6_isOn : rz_par mz_X6_isOn.1 = some 2 := by decide +kernel
set_option maxRecDepth 100000 in
theorem win_X6_isOn : Cond.instanceMethod mz_X6_isOn.1 ∈ lw_good := rz_good (i := 1133) rfl rfl
set_option maxRecDepth 100000 in
theorem wse_X6_isOn : Cond.selects mz_X6_isOn.1.cls mz_X6_isOn.1 mz_X6_isOn.1 ∈ lw_good := rz_good (i := 32) rfl rfl
theorem pr_X6_crosses : rz_par mz_X6_crosses.1 = some 3 := by decide +kernel
set_option maxRecDepth 100000 in
theorem win_X6_crosses : Cond.instanceMethod mz_X6_crosses.1 ∈ lw_good := rz_good (i := 1141) rfl rfl
set_option maxRecDepth 100000 in
theorem wse_X6_crosses : Cond.selects mz_X6_crosses.1.cls mz_X6_crosses.1 mz_X6_crosses.1 ∈ lw_good := rz_good (i := 33) rfl rfl
theorem pr_X6_placeOf : rz_par mz_X6_placeOf.1 = some 3 := by decide +kernel
set_option maxRecDepth 100000 in
theorem win_X6_placeOf : Cond.instanceMethod mz_X6_placeOf.1 ∈ lw_good := rz_good (i := 1205) rfl rfl
set_option maxRecDepth 100000 in
theorem wse_X6_placeOf : Cond.selects mz_X6_placeOf.1.cls mz_X6_placeOf.1 mz_X6_placeOf.1 ∈ lw_good := rz_good (i := 1206) rfl rfl
theorem pr_X6_findSidesAt : rz_par mz_X6_findSidesAt.1 = some 2 := by decide +kernel
set_option maxRecDepth 100000 in
theorem win_X6_findSidesAt : Cond.instanceMethod mz_X6_findSidesAt.1 ∈ lw_good := rz_good (i := 543) rfl rfl
set_option maxRecDepth 100000 in
theorem wse_X6_findSidesAt : Cond.selects mz_X6_findSidesAt.1.cls mz_X6_findSidesAt.1 mz_X6_findSidesAt.1 ∈ lw_good := rz_good (i := 8) rfl rfl
theorem pr_X6_placeInRow : rz_par mz_X6_placeInRow.1 = some 3 := by decide +kernel
set_option maxRecDepth 100000 in
theorem win_X6_placeInRow : Cond.instanceMethod mz_X6_placeInRow.1 ∈ lw_good := rz_good (i := 557) rfl rfl
set_option maxRecDepth 100000 in
theorem wse_X6_placeInRow : Cond.selects mz_X6_placeInRow.1.cls mz_X6_placeInRow.1 mz_X6_placeInRow.1 ∈ lw_good := rz_good (i := 10) rfl rfl
theorem pr_X6_turnsOneWay : rz_par mz_X6_turnsOneWay.1 = some 0 := by decide +kernel
set_option maxRecDepth 100000 in
theorem win_X6_turnsOneWay : Cond.instanceMethod mz_X6_turnsOneWay.1 ∈ lw_good := rz_good (i := 1216) rfl rfl
set_option maxRecDepth 100000 in
theorem wse_X6_turnsOneWay : Cond.selects mz_X6_turnsOneWay.1.cls mz_X6_turnsOneWay.1 mz_X6_turnsOneWay.1 ∈ lw_good := rz_good (i := 1217) rfl rfl
theorem pr_X6_isUpright : rz_par mz_X6_isUpright.1 = some 0 := by decide +kernel
set_option maxRecDepth 100000 in
theorem win_X6_isUpright : Cond.instanceMethod mz_X6_isUpright.1 ∈ lw_good := rz_good (i := 1254) rfl rfl
set_option maxRecDepth 100000 in
theorem wse_X6_isUpright : Cond.selects mz_X6_isUpright.1.cls mz_X6_isUpright.1 mz_X6_isUpright.1 ∈ lw_good := rz_good (i := 1255) rfl rfl
theorem pr_X6_fillsBy : rz_par mz_X6_fillsBy.1 = some 1 := by decide +kernel
set_option maxRecDepth 100000 in
theorem win_X6_fillsBy : Cond.instanceMethod mz_X6_fillsBy.1 ∈ lw_good := rz_good (i := 1259) rfl rfl
set_option maxRecDepth 100000 in
theorem wse_X6_fillsBy : Cond.selects mz_X6_fillsBy.1.cls mz_X6_fillsBy.1 mz_X6_fillsBy.1 ∈ lw_good := rz_good (i := 1260) rfl rfl
theorem pr_X6_isMarked : rz_par mz_X6_isMarked.1 = some 1 := by decide +kernel
set_option maxRecDepth 100000 in
theorem win_X6_isMarked : Cond.instanceMethod mz_X6_isMarked.1 ∈ lw_good := rz_good (i := 1277) rfl rfl
set_option maxRecDepth 100000 in
theorem wse_X6_isMarked : Cond.selects mz_X6_isMarked.1.cls mz_X6_isMarked.1 mz_X6_isMarked.1 ∈ lw_good := rz_good (i := 41) rfl rfl
theorem pr_X6_hasSquare : rz_par mz_X6_hasSquare.1 = some 2 := by decide +kernel
set_option maxRecDepth 100000 in
theorem win_X6_hasSquare : Cond.instanceMethod mz_X6_hasSquare.1 ∈ lw_good := rz_good (i := 1266) rfl rfl
set_option maxRecDepth 100000 in
theorem wse_X6_hasSquare : Cond.selects mz_X6_hasSquare.1.cls mz_X6_hasSquare.1 mz_X6_hasSquare.1 ∈ lw_good := rz_good (i := 40) rfl rfl
theorem pr_X6_least : rz_par mz_X6_least.1 = some 1 := by decide +kernel
set_option maxRecDepth 100000 in
theorem win_X6_least : Cond.instanceMethod mz_X6_least.1 ∈ lw_good := rz_good (i := 529) rfl rfl
set_option maxRecDepth 100000 in
theorem wse_X6_least : Cond.selects mz_X6_least.1.cls mz_X6_least.1 mz_X6_least.1 ∈ lw_good := rz_good (i := 6) rfl rfl
theorem pr_X6_greatest : rz_par mz_X6_greatest.1 = some 1 := by decide +kernel
set_option maxRecDepth 100000 in
theorem win_X6_greatest : Cond.instanceMethod mz_X6_greatest.1 ∈ lw_good := rz_good (i := 536) rfl rfl
set_option maxRecDepth 100000 in
theorem wse_X6_greatest : Cond.selects mz_X6_greatest.1.cls mz_X6_greatest.1 mz_X6_greatest.1 ∈ lw_good := rz_good (i := 7) rfl rfl
theorem pr_X6_countsAgree : rz_par mz_X6_countsAgree.1 = some 1 := by decide +kernel
set_option maxRecDepth 100000 in
theorem win_X6_countsAgree : Cond.instanceMethod mz_X6_countsAgree.1 ∈ lw_good := rz_good (i := 524) rfl rfl
set_option maxRecDepth 100000 in
theorem wse_X6_countsAgree : Cond.selects mz_X6_countsAgree.1.cls mz_X6_countsAgree.1 mz_X6_countsAgree.1 ∈ lw_good := rz_good (i := 525) rfl rfl
theorem pr_X6_addTo : rz_par mz_X6_addTo.1 = some 1 := by decide +kernel
set_option maxRecDepth 100000 in
theorem win_X6_addTo : Cond.instanceMethod mz_X6_addTo.1 ∈ lw_good := rz_good (i := 379) rfl rfl
set_option maxRecDepth 100000 in
theorem wse_X6_addTo : Cond.selects mz_X6_addTo.1.cls mz_X6_addTo.1 mz_X6_addTo.1 ∈ lw_good := rz_good (i := 380) rfl rfl
theorem pr_X7_init : rz_par mz_X7_init.1 = some 0 := by decide +kernel
set_option maxRecDepth 100000 in
theorem win_X7_init : Cond.instanceMethod mz_X7_init.1 ∈ lw_good := rz_good (i := 206) rfl rfl
theorem pr_X7_areValues : rz_par mz_X7_areValues.1 = some 4 := by decide +kernel
set_option maxRecDepth 100000 in
theorem wst_X7_areValues : Cond.static mz_X7_areValues.1 ∈ lw_good := rz_good (i := 1022) rfl rfl
theorem pr_X7_isValue : rz_par mz_X7_isValue.1 = some 1 := by decide +kernel
set_option maxRecDepth 100000 in
theorem wst_X7_isValue : Cond.static mz_X7_isValue.1 ∈ lw_good := rz_good (i := 1025) rfl rfl
theorem pr_X7_take : rz_par mz_X7_take.1 = some 4 := by decide +kernel
set_option maxRecDepth 100000 in
theorem win_X7_take : Cond.instanceMethod mz_X7_take.1 ∈ lw_good := rz_good (i := 1030) rfl rfl
set_option maxRecDepth 100000 in
theorem wse_X7_take : Cond.selects mz_X7_take.1.cls mz_X7_take.1 mz_X7_take.1 ∈ lw_good := rz_good (i := 1031) rfl rfl
theorem pr_X7_addKind : rz_par mz_X7_addKind.1 = some 1 := by decide +kernel
set_option maxRecDepth 100000 in
theorem win_X7_addKind : Cond.instanceMethod mz_X7_addKind.1 ∈ lw_good := rz_good (i := 1038) rfl rfl
set_option maxRecDepth 100000 in
theorem wse_X7_addKind : Cond.selects mz_X7_addKind.1.cls mz_X7_addKind.1 mz_X7_addKind.1 ∈ lw_good := rz_good (i := 27) rfl rfl
theorem pr_X7_countLacks : rz_par mz_X7_countLacks.1 = some 0 := by decide +kernel
set_option maxRecDepth 100000 in
theorem win_X7_countLacks : Cond.instanceMethod mz_X7_countLacks.1 ∈ lw_good := rz_good (i := 1042) rfl rfl
set_option maxRecDepth 100000 in
theorem wse_X7_countLacks : Cond.selects mz_X7_countLacks.1.cls mz_X7_countLacks.1 mz_X7_countLacks.1 ∈ lw_good := rz_good (i := 28) rfl rfl
theorem pr_X7_lackOf : rz_par mz_X7_lackOf.1 = some 1 := by decide +kernel
set_option maxRecDepth 100000 in
theorem win_X7_lackOf : Cond.instanceMethod mz_X7_lackOf.1 ∈ lw_good := rz_good (i := 1065) rfl rfl
set_option maxRecDepth 100000 in
theorem wse_X7_lackOf : Cond.selects mz_X7_lackOf.1.cls mz_X7_lackOf.1 mz_X7_lackOf.1 ∈ lw_good := rz_good (i := 1066) rfl rfl
theorem pr_X7_leastCoins : rz_par mz_X7_leastCoins.1 = some 1 := by decide +kernel
set_option maxRecDepth 100000 in
theorem win_X7_leastCoins : Cond.instanceMethod mz_X7_leastCoins.1 ∈ lw_good := rz_good (i := 580) rfl rfl
set_option maxRecDepth 100000 in
theorem wse_X7_leastCoins : Cond.selects mz_X7_leastCoins.1.cls mz_X7_leastCoins.1 mz_X7_leastCoins.1 ∈ lw_good := rz_good (i := 581) rfl rfl
theorem pr_X7_wayCount : rz_par mz_X7_wayCount.1 = some 1 := by decide +kernel
set_option maxRecDepth 100000 in
theorem win_X7_wayCount : Cond.instanceMethod mz_X7_wayCount.1 ∈ lw_good := rz_good (i := 1092) rfl rfl
set_option maxRecDepth 100000 in
theorem wse_X7_wayCount : Cond.selects mz_X7_wayCount.1.cls mz_X7_wayCount.1 mz_X7_wayCount.1 ∈ lw_good := rz_good (i := 1093) rfl rfl
theorem pr_X7_addTo : rz_par mz_X7_addTo.1 = some 1 := by decide +kernel
set_option maxRecDepth 100000 in
theorem win_X7_addTo : Cond.instanceMethod mz_X7_addTo.1 ∈ lw_good := rz_good (i := 374) rfl rfl
set_option maxRecDepth 100000 in
theorem wse_X7_addTo : Cond.selects mz_X7_addTo.1.cls mz_X7_addTo.1 mz_X7_addTo.1 ∈ lw_good := rz_good (i := 375) rfl rfl
theorem pr_X7_lacksAreHalf : rz_par mz_X7_lacksAreHalf.1 = some 0 := by decide +kernel
set_option maxRecDepth 100000 in
theorem win_X7_lacksAreHalf : Cond.instanceMethod mz_X7_lacksAreHalf.1 ∈ lw_good := rz_good (i := 576) rfl rfl
set_option maxRecDepth 100000 in
theorem wse_X7_lacksAreHalf : Cond.selects mz_X7_lacksAreHalf.1.cls mz_X7_lacksAreHalf.1 mz_X7_lacksAreHalf.1 ∈ lw_good := rz_good (i := 577) rfl rfl
theorem pr_X8_init : rz_par mz_X8_init.1 = some 0 := by decide +kernel
set_option maxRecDepth 100000 in
theorem win_X8_init : Cond.instanceMethod mz_X8_init.1 ∈ lw_good := rz_good (i := 147) rfl rfl
theorem pr_X8_fill : rz_par mz_X8_fill.1 = some 1 := by decide +kernel
set_option maxRecDepth 100000 in
theorem win_X8_fill : Cond.instanceMethod mz_X8_fill.1 ∈ lw_good := rz_good (i := 429) rfl rfl
set_option maxRecDepth 100000 in
theorem wse_X8_fill : Cond.selects mz_X8_fill.1.cls mz_X8_fill.1 mz_X8_fill.1 ∈ lw_good := rz_good (i := 430) rfl rfl
theorem pr_X8_add : rz_par mz_X8_add.1 = some 2 := by decide +kernel
set_option maxRecDepth 100000 in
theorem win_X8_add : Cond.instanceMethod mz_X8_add.1 ∈ lw_good := rz_good (i := 434) rfl rfl
set_option maxRecDepth 100000 in
theorem wse_X8_add : Cond.selects mz_X8_add.1.cls mz_X8_add.1 mz_X8_add.1 ∈ lw_good := rz_good (i := 3) rfl rfl
theorem pr_X8_isAhead : rz_par mz_X8_isAhead.1 = some 4 := by decide +kernel
set_option maxRecDepth 100000 in
theorem win_X8_isAhead : Cond.instanceMethod mz_X8_isAhead.1 ∈ lw_good := rz_good (i := 438) rfl rfl
set_option maxRecDepth 100000 in
theorem wse_X8_isAhead : Cond.selects mz_X8_isAhead.1.cls mz_X8_isAhead.1 mz_X8_isAhead.1 ∈ lw_good := rz_good (i := 4) rfl rfl
theorem pr_X8_xOf : rz_par mz_X8_xOf.1 = some 1 := by decide +kernel
set_option maxRecDepth 100000 in
theorem win_X8_xOf : Cond.instanceMethod mz_X8_xOf.1 ∈ lw_good := rz_good (i := 445) rfl rfl
set_option maxRecDepth 100000 in
theorem wse_X8_xOf : Cond.selects mz_X8_xOf.1.cls mz_X8_xOf.1 mz_X8_xOf.1 ∈ lw_good := rz_good (i := 446) rfl rfl
theorem pr_X8_yOf : rz_par mz_X8_yOf.1 = some 1 := by decide +kernel
set_option maxRecDepth 100000 in
theorem win_X8_yOf : Cond.instanceMethod mz_X8_yOf.1 ∈ lw_good := rz_good (i := 449) rfl rfl
set_option maxRecDepth 100000 in
theorem wse_X8_yOf : Cond.selects mz_X8_yOf.1.cls mz_X8_yOf.1 mz_X8_yOf.1 ∈ lw_good := rz_good (i := 450) rfl rfl
theorem pr_X8_firstAside : rz_par mz_X8_firstAside.1 = some 0 := by decide +kernel
set_option maxRecDepth 100000 in
theorem win_X8_firstAside : Cond.instanceMethod mz_X8_firstAside.1 ∈ lw_good := rz_good (i := 441) rfl rfl
set_option maxRecDepth 100000 in
theorem wse_X8_firstAside : Cond.selects mz_X8_firstAside.1.cls mz_X8_firstAside.1 mz_X8_firstAside.1 ∈ lw_good := rz_good (i := 442) rfl rfl
theorem pr_X9_init : rz_par mz_X9_init.1 = some 0 := by decide +kernel
set_option maxRecDepth 100000 in
theorem win_X9_init : Cond.instanceMethod mz_X9_init.1 ∈ lw_good := rz_good (i := 191) rfl rfl
theorem pr_X9_sign : rz_par mz_X9_sign.1 = some 1 := by decide +kernel
set_option maxRecDepth 100000 in
theorem win_X9_sign : Cond.instanceMethod mz_X9_sign.1 ∈ lw_good := rz_good (i := 1011) rfl rfl
set_option maxRecDepth 100000 in
theorem wse_X9_sign : Cond.selects mz_X9_sign.1.cls mz_X9_sign.1 mz_X9_sign.1 ∈ lw_good := rz_good (i := 1012) rfl rfl
theorem pr_X9_becomeNumber : rz_par mz_X9_becomeNumber.1 = some 1 := by decide +kernel
set_option maxRecDepth 100000 in
theorem win_X9_becomeNumber : Cond.instanceMethod mz_X9_becomeNumber.1 ∈ lw_good := rz_good (i := 1096) rfl rfl
set_option maxRecDepth 100000 in
theorem wse_X9_becomeNumber : Cond.selects mz_X9_becomeNumber.1.cls mz_X9_becomeNumber.1 mz_X9_becomeNumber.1 ∈ lw_good := rz_good (i := 1097) rfl rfl
theorem pr_X9_becomeFraction : rz_par mz_X9_becomeFraction.1 = some 2 := by decide +kernel
set_option maxRecDepth 100000 in
theorem win_X9_becomeFraction : Cond.instanceMethod mz_X9_becomeFraction.1 ∈ lw_good := rz_good (i := 983) rfl rfl
set_option maxRecDepth 100000 in
theorem wse_X9_becomeFraction : Cond.selects mz_X9_becomeFraction.1.cls mz_X9_becomeFraction.1 mz_X9_becomeFraction.1 ∈ lw_good := rz_good (i := 984) rfl rfl
theorem pr_X9_becomeProductAndOne : rz_par mz_X9_becomeProductAndOne.1 = some 2 := by decide +kernel
set_option maxRecDepth 100000 in
theorem win_X9_becomeProductAndOne : Cond.instanceMethod mz_X9_becomeProductAndOne.1 ∈ lw_good := rz_good (i := 1228) rfl rfl
set_option maxRecDepth 100000 in
theorem wse_X9_becomeProductAndOne : Cond.selects mz_X9_becomeProductAndOne.1.cls mz_X9_becomeProductAndOne.1 mz_X9_becomeProductAndOne.1 ∈ lw_good := rz_good (i := 1229) rfl rfl
theorem pr_X9_putNumber : rz_par mz_X9_putNumber.1 = some 1 := by decide +kernel
set_option maxRecDepth 100000 in
theorem win_X9_putNumber : Cond.instanceMethod mz_X9_putNumber.1 ∈ lw_good := rz_good (i := 989) rfl rfl
set_option maxRecDepth 100000 in
theorem wse_X9_putNumber : Cond.selects mz_X9_putNumber.1.cls mz_X9_putNumber.1 mz_X9_putNumber.1 ∈ lw_good := rz_good (i := 24) rfl rfl
theorem pr_X9_putDigits : rz_par mz_X9_putDigits.1 = some 2 := by decide +kernel
set_option maxRecDepth 100000 in
theorem win_X9_putDigits : Cond.instanceMethod mz_X9_putDigits.1 ∈ lw_good := rz_good (i := 999) rfl rfl
set_option maxRecDepth 100000 in
theorem wse_X9_putDigits : Cond.selects mz_X9_putDigits.1.cls mz_X9_putDigits.1 mz_X9_putDigits.1 ∈ lw_good := rz_good (i := 26) rfl rfl
theorem pr_X9_putSign : rz_par mz_X9_putSign.1 = some 1 := by decide +kernel
set_option maxRecDepth 100000 in
theorem win_X9_putSign : Cond.instanceMethod mz_X9_putSign.1 ∈ lw_good := rz_good (i := 993) rfl rfl
set_option maxRecDepth 100000 in
theorem wse_X9_putSign : Cond.selects mz_X9_putSign.1.cls mz_X9_putSign.1 mz_X9_putSign.1 ∈ lw_good := rz_good (i := 25) rfl rfl
theorem pr_X9_addTo : rz_par mz_X9_addTo.1 = some 1 := by decide +kernel
set_option maxRecDepth 100000 in
theorem win_X9_addTo : Cond.instanceMethod mz_X9_addTo.1 ∈ lw_good := rz_good (i := 392) rfl rfl
set_option maxRecDepth 100000 in
theorem wse_X9_addTo : Cond.selects mz_X9_addTo.1.cls mz_X9_addTo.1 mz_X9_addTo.1 ∈ lw_good := rz_good (i := 393) rfl rfl
theorem pr_X10_init : rz_par mz_X10_init.1 = some 0 := by decide +kernel
set_option maxRecDepth 100000 in
theorem win_X10_init : Cond.instanceMethod mz_X10_init.1 ∈ lw_good := rz_good (i := 98) rfl rfl
theorem pr_X10_spanned : rz_par mz_X10_spanned.1 = some 5 := by decide +kernel
set_option maxRecDepth 100000 in
theorem win_X10_spanned : Cond.instanceMethod mz_X10_spanned.1 ∈ lw_good := rz_good (i := 635) rfl rfl
set_option maxRecDepth 100000 in
theorem wse_X10_spanned : Cond.selects mz_X10_spanned.1.cls mz_X10_spanned.1 mz_X10_spanned.1 ∈ lw_good := rz_good (i := 636) rfl rfl
theorem pr_X10_remainder : rz_par mz_X10_remainder.1 = some 4 := by decide +kernel
set_option maxRecDepth 100000 in
theorem win_X10_remainder : Cond.instanceMethod mz_X10_remainder.1 ∈ lw_good := rz_good (i := 759) rfl rfl
set_option maxRecDepth 100000 in
theorem wse_X10_remainder : Cond.selects mz_X10_remainder.1.cls mz_X10_remainder.1 mz_X10_remainder.1 ∈ lw_good := rz_good (i := 760) rfl rfl
theorem pr_X10_nth : rz_par mz_X10_nth.1 = some 3 := by decide +kernel
set_option maxRecDepth 100000 in
theorem win_X10_nth : Cond.instanceMethod mz_X10_nth.1 ∈ lw_good := rz_good (i := 770) rfl rfl
set_option maxRecDepth 100000 in
theorem wse_X10_nth : Cond.selects mz_X10_nth.1.cls mz_X10_nth.1 mz_X10_nth.1 ∈ lw_good := rz_good (i := 771) rfl rfl
theorem pr_X10_grids : rz_par mz_X10_grids.1 = some 1 := by decide +kernel
set_option maxRecDepth 100000 in
theorem win_X10_grids : Cond.instanceMethod mz_X10_grids.1 ∈ lw_good := rz_good (i := 796) rfl rfl
set_option maxRecDepth 100000 in
theorem wse_X10_grids : Cond.selects mz_X10_grids.1.cls mz_X10_grids.1 mz_X10_grids.1 ∈ lw_good := rz_good (i := 797) rfl rfl
theorem pr_X10_form : rz_par mz_X10_form.1 = some 2 := by decide +kernel
set_option maxRecDepth 100000 in
theorem win_X10_form : Cond.instanceMethod mz_X10_form.1 ∈ lw_good := rz_good (i := 803) rfl rfl
set_option maxRecDepth 100000 in
theorem wse_X10_form : Cond.selects mz_X10_form.1.cls mz_X10_form.1 mz_X10_form.1 ∈ lw_good := rz_good (i := 804) rfl rfl
theorem pr_X10_has : rz_par mz_X10_has.1 = some 3 := by decide +kernel
set_option maxRecDepth 100000 in
theorem win_X10_has : Cond.instanceMethod mz_X10_has.1 ∈ lw_good := rz_good (i := 816) rfl rfl
set_option maxRecDepth 100000 in
theorem wse_X10_has : Cond.selects mz_X10_has.1.cls mz_X10_has.1 mz_X10_has.1 ∈ lw_good := rz_good (i := 817) rfl rfl
theorem pr_X10_isSame : rz_par mz_X10_isSame.1 = some 2 := by decide +kernel
set_option maxRecDepth 100000 in
theorem win_X10_isSame : Cond.instanceMethod mz_X10_isSame.1 ∈ lw_good := rz_good (i := 823) rfl rfl
set_option maxRecDepth 100000 in
theorem wse_X10_isSame : Cond.selects mz_X10_isSame.1.cls mz_X10_isSame.1 mz_X10_isSame.1 ∈ lw_good := rz_good (i := 824) rfl rfl
theorem pr_X10_parts : rz_par mz_X10_parts.1 = some 2 := by decide +kernel
set_option maxRecDepth 100000 in
theorem win_X10_parts : Cond.instanceMethod mz_X10_parts.1 ∈ lw_good := rz_good (i := 830) rfl rfl
set_option maxRecDepth 100000 in
theorem wse_X10_parts : Cond.selects mz_X10_parts.1.cls mz_X10_parts.1 mz_X10_parts.1 ∈ lw_good := rz_good (i := 831) rfl rfl
theorem pr_X10_meet : rz_par mz_X10_meet.1 = some 3 := by decide +kernel
set_option maxRecDepth 100000 in
theorem win_X10_meet : Cond.instanceMethod mz_X10_meet.1 ∈ lw_good := rz_good (i := 839) rfl rfl
set_option maxRecDepth 100000 in
theorem wse_X10_meet : Cond.selects mz_X10_meet.1.cls mz_X10_meet.1 mz_X10_meet.1 ∈ lw_good := rz_good (i := 840) rfl rfl
theorem pr_X10_join : rz_par mz_X10_join.1 = some 3 := by decide +kernel
set_option maxRecDepth 100000 in
theorem win_X10_join : Cond.instanceMethod mz_X10_join.1 ∈ lw_good := rz_good (i := 862) rfl rfl
set_option maxRecDepth 100000 in
theorem wse_X10_join : Cond.selects mz_X10_join.1.cls mz_X10_join.1 mz_X10_join.1 ∈ lw_good := rz_good (i := 863) rfl rfl
theorem pr_X10_undo : rz_par mz_X10_undo.1 = some 0 := by decide +kernel
set_option maxRecDepth 100000 in
theorem win_X10_undo : Cond.instanceMethod mz_X10_undo.1 ∈ lw_good := rz_good (i := 869) rfl rfl
set_option maxRecDepth 100000 in
theorem wse_X10_undo : Cond.selects mz_X10_undo.1.cls mz_X10_undo.1 mz_X10_undo.1 ∈ lw_good := rz_good (i := 870) rfl rfl
theorem pr_X10_stepX : rz_par mz_X10_stepX.1 = some 2 := by decide +kernel
set_option maxRecDepth 100000 in
theorem win_X10_stepX : Cond.instanceMethod mz_X10_stepX.1 ∈ lw_good := rz_good (i := 877) rfl rfl
set_option maxRecDepth 100000 in
theorem wse_X10_stepX : Cond.selects mz_X10_stepX.1.cls mz_X10_stepX.1 mz_X10_stepX.1 ∈ lw_good := rz_good (i := 878) rfl rfl
theorem pr_X10_stepY : rz_par mz_X10_stepY.1 = some 2 := by decide +kernel
set_option maxRecDepth 100000 in
theorem win_X10_stepY : Cond.instanceMethod mz_X10_stepY.1 ∈ lw_good := rz_good (i := 884) rfl rfl
set_option maxRecDepth 100000 in
theorem wse_X10_stepY : Cond.selects mz_X10_stepY.1.cls mz_X10_stepY.1 mz_X10_stepY.1 ∈ lw_good := rz_good (i := 885) rfl rfl
theorem pr_X10_second : rz_par mz_X10_second.1 = some 1 := by decide +kernel
set_option maxRecDepth 100000 in
theorem win_X10_second : Cond.instanceMethod mz_X10_second.1 ∈ lw_good := rz_good (i := 891) rfl rfl
set_option maxRecDepth 100000 in
theorem wse_X10_second : Cond.selects mz_X10_second.1.cls mz_X10_second.1 mz_X10_second.1 ∈ lw_good := rz_good (i := 892) rfl rfl
theorem pr_X10_steps : rz_par mz_X10_steps.1 = some 2 := by decide +kernel
set_option maxRecDepth 100000 in
theorem win_X10_steps : Cond.instanceMethod mz_X10_steps.1 ∈ lw_good := rz_good (i := 898) rfl rfl
set_option maxRecDepth 100000 in
theorem wse_X10_steps : Cond.selects mz_X10_steps.1.cls mz_X10_steps.1 mz_X10_steps.1 ∈ lw_good := rz_good (i := 899) rfl rfl
theorem pr_X10_nearX : rz_par mz_X10_nearX.1 = some 3 := by decide +kernel
set_option maxRecDepth 100000 in
theorem win_X10_nearX : Cond.instanceMethod mz_X10_nearX.1 ∈ lw_good := rz_good (i := 912) rfl rfl
set_option maxRecDepth 100000 in
theorem wse_X10_nearX : Cond.selects mz_X10_nearX.1.cls mz_X10_nearX.1 mz_X10_nearX.1 ∈ lw_good := rz_good (i := 913) rfl rfl
theorem pr_X10_nearY : rz_par mz_X10_nearY.1 = some 3 := by decide +kernel
set_option maxRecDepth 100000 in
theorem win_X10_nearY : Cond.instanceMethod mz_X10_nearY.1 ∈ lw_good := rz_good (i := 932) rfl rfl
set_option maxRecDepth 100000 in
theorem wse_X10_nearY : Cond.selects mz_X10_nearY.1.cls mz_X10_nearY.1 mz_X10_nearY.1 ∈ lw_good := rz_good (i := 933) rfl rfl
theorem pr_X10_corners : rz_par mz_X10_corners.1 = some 1 := by decide +kernel
set_option maxRecDepth 100000 in
theorem win_X10_corners : Cond.instanceMethod mz_X10_corners.1 ∈ lw_good := rz_good (i := 939) rfl rfl
set_option maxRecDepth 100000 in
theorem wse_X10_corners : Cond.selects mz_X10_corners.1.cls mz_X10_corners.1 mz_X10_corners.1 ∈ lw_good := rz_good (i := 940) rfl rfl
theorem pr_X10_tellCorner : rz_par mz_X10_tellCorner.1 = some 3 := by decide +kernel
set_option maxRecDepth 100000 in
theorem win_X10_tellCorner : Cond.instanceMethod mz_X10_tellCorner.1 ∈ lw_good := rz_good (i := 965) rfl rfl
set_option maxRecDepth 100000 in
theorem wse_X10_tellCorner : Cond.selects mz_X10_tellCorner.1.cls mz_X10_tellCorner.1 mz_X10_tellCorner.1 ∈ lw_good := rz_good (i := 966) rfl rfl
theorem pr_X10_signAt : rz_par mz_X10_signAt.1 = some 1 := by decide +kernel
set_option maxRecDepth 100000 in
theorem win_X10_signAt : Cond.instanceMethod mz_X10_signAt.1 ∈ lw_good := rz_good (i := 1006) rfl rfl
set_option maxRecDepth 100000 in
theorem wse_X10_signAt : Cond.selects mz_X10_signAt.1.cls mz_X10_signAt.1 mz_X10_signAt.1 ∈ lw_good := rz_good (i := 1007) rfl rfl
theorem pr_X10_coins : rz_par mz_X10_coins.1 = some 4 := by decide +kernel
set_option maxRecDepth 100000 in
theorem win_X10_coins : Cond.instanceMethod mz_X10_coins.1 ∈ lw_good := rz_good (i := 1018) rfl rfl
set_option maxRecDepth 100000 in
theorem wse_X10_coins : Cond.selects mz_X10_coins.1.cls mz_X10_coins.1 mz_X10_coins.1 ∈ lw_good := rz_good (i := 1019) rfl rfl
theorem pr_X10_lacks : rz_par mz_X10_lacks.1 = some 0 := by decide +kernel
set_option maxRecDepth 100000 in
theorem win_X10_lacks : Cond.instanceMethod mz_X10_lacks.1 ∈ lw_good := rz_good (i := 1048) rfl rfl
set_option maxRecDepth 100000 in
theorem wse_X10_lacks : Cond.selects mz_X10_lacks.1.cls mz_X10_lacks.1 mz_X10_lacks.1 ∈ lw_good := rz_good (i := 1049) rfl rfl
theorem pr_X10_lackAt : rz_par mz_X10_lackAt.1 = some 1 := by decide +kernel
set_option maxRecDepth 100000 in
theorem win_X10_lackAt : Cond.instanceMethod mz_X10_lackAt.1 ∈ lw_good := rz_good (i := 1060) rfl rfl
set_option maxRecDepth 100000 in
theorem wse_X10_lackAt : Cond.selects mz_X10_lackAt.1.cls mz_X10_lackAt.1 mz_X10_lackAt.1 ∈ lw_good := rz_good (i := 1061) rfl rfl
theorem pr_X10_canMake : rz_par mz_X10_canMake.1 = some 1 := by decide +kernel
set_option maxRecDepth 100000 in
theorem win_X10_canMake : Cond.instanceMethod mz_X10_canMake.1 ∈ lw_good := rz_good (i := 1072) rfl rfl
set_option maxRecDepth 100000 in
theorem wse_X10_canMake : Cond.selects mz_X10_canMake.1.cls mz_X10_canMake.1 mz_X10_canMake.1 ∈ lw_good := rz_good (i := 1073) rfl rfl
theorem pr_X10_fewest : rz_par mz_X10_fewest.1 = some 1 := by decide +kernel
set_option maxRecDepth 100000 in
theorem win_X10_fewest : Cond.instanceMethod mz_X10_fewest.1 ∈ lw_good := rz_good (i := 1080) rfl rfl
set_option maxRecDepth 100000 in
theorem wse_X10_fewest : Cond.selects mz_X10_fewest.1.cls mz_X10_fewest.1 mz_X10_fewest.1 ∈ lw_good := rz_good (i := 1081) rfl rfl
theorem pr_X10_ways : rz_par mz_X10_ways.1 = some 1 := by decide +kernel
set_option maxRecDepth 100000 in
theorem win_X10_ways : Cond.instanceMethod mz_X10_ways.1 ∈ lw_good := rz_good (i := 1088) rfl rfl
set_option maxRecDepth 100000 in
theorem wse_X10_ways : Cond.selects mz_X10_ways.1.cls mz_X10_ways.1 mz_X10_ways.1 ∈ lw_good := rz_good (i := 1089) rfl rfl
theorem pr_X10_corner : rz_par mz_X10_corner.1 = some 2 := by decide +kernel
set_option maxRecDepth 100000 in
theorem win_X10_corner : Cond.instanceMethod mz_X10_corner.1 ∈ lw_good := rz_good (i := 1103) rfl rfl
set_option maxRecDepth 100000 in
theorem wse_X10_corner : Cond.selects mz_X10_corner.1.cls mz_X10_corner.1 mz_X10_corner.1 ∈ lw_good := rz_good (i := 1104) rfl rfl
theorem pr_X10_clear : rz_par mz_X10_clear.1 = some 0 := by decide +kernel
set_option maxRecDepth 100000 in
theorem win_X10_clear : Cond.instanceMethod mz_X10_clear.1 ∈ lw_good := rz_good (i := 356) rfl rfl
set_option maxRecDepth 100000 in
theorem wse_X10_clear : Cond.selects mz_X10_clear.1.cls mz_X10_clear.1 mz_X10_clear.1 ∈ lw_good := rz_good (i := 357) rfl rfl
theorem pr_X10_close : rz_par mz_X10_close.1 = some 0 := by decide +kernel
set_option maxRecDepth 100000 in
theorem win_X10_close : Cond.instanceMethod mz_X10_close.1 ∈ lw_good := rz_good (i := 1115) rfl rfl
set_option maxRecDepth 100000 in
theorem wse_X10_close : Cond.selects mz_X10_close.1.cls mz_X10_close.1 mz_X10_close.1 ∈ lw_good := rz_good (i := 1116) rfl rfl
theorem pr_X10_rim : rz_par mz_X10_rim.1 = some 0 := by decide +kernel
set_option maxRecDepth 100000 in
theorem win_X10_rim : Cond.instanceMethod mz_X10_rim.1 ∈ lw_good := rz_good (i := 1181) rfl rfl
set_option maxRecDepth 100000 in
theorem wse_X10_rim : Cond.selects mz_X10_rim.1.cls mz_X10_rim.1 mz_X10_rim.1 ∈ lw_good := rz_good (i := 1182) rfl rfl
theorem pr_X10_within : rz_par mz_X10_within.1 = some 0 := by decide +kernel
set_option maxRecDepth 100000 in
theorem win_X10_within : Cond.instanceMethod mz_X10_within.1 ∈ lw_good := rz_good (i := 1194) rfl rfl
set_option maxRecDepth 100000 in
theorem wse_X10_within : Cond.selects mz_X10_within.1.cls mz_X10_within.1 mz_X10_within.1 ∈ lw_good := rz_good (i := 1195) rfl rfl
theorem pr_X10_where : rz_par mz_X10_where.1 = some 2 := by decide +kernel
set_option maxRecDepth 100000 in
theorem win_X10_where : Cond.instanceMethod mz_X10_where.1 ∈ lw_good := rz_good (i := 1201) rfl rfl
set_option maxRecDepth 100000 in
theorem wse_X10_where : Cond.selects mz_X10_where.1.cls mz_X10_where.1 mz_X10_where.1 ∈ lw_good := rz_good (i := 1202) rfl rfl
theorem pr_X10_isConvex : rz_par mz_X10_isConvex.1 = some 0 := by decide +kernel
set_option maxRecDepth 100000 in
theorem win_X10_isConvex : Cond.instanceMethod mz_X10_isConvex.1 ∈ lw_good := rz_good (i := 1212) rfl rfl
set_option maxRecDepth 100000 in
theorem wse_X10_isConvex : Cond.selects mz_X10_isConvex.1.cls mz_X10_isConvex.1 mz_X10_isConvex.1 ∈ lw_good := rz_good (i := 1213) rfl rfl
theorem pr_X10_grown : rz_par mz_X10_grown.1 = some 1 := by decide +kernel
set_option maxRecDepth 100000 in
theorem win_X10_grown : Cond.instanceMethod mz_X10_grown.1 ∈ lw_good := rz_good (i := 1223) rfl rfl
set_option maxRecDepth 100000 in
theorem wse_X10_grown : Cond.selects mz_X10_grown.1.cls mz_X10_grown.1 mz_X10_grown.1 ∈ lw_good := rz_good (i := 1224) rfl rfl
theorem pr_X10_triangleAt : rz_par mz_X10_triangleAt.1 = some 2 := by decide +kernel
set_option maxRecDepth 100000 in
theorem win_X10_triangleAt : Cond.instanceMethod mz_X10_triangleAt.1 ∈ lw_good := rz_good (i := 1238) rfl rfl
set_option maxRecDepth 100000 in
theorem wse_X10_triangleAt : Cond.selects mz_X10_triangleAt.1.cls mz_X10_triangleAt.1 mz_X10_triangleAt.1 ∈ lw_good := rz_good (i := 1239) rfl rfl
theorem pr_X10_tiles : rz_par mz_X10_tiles.1 = some 1 := by decide +kernel
set_option maxRecDepth 100000 in
theorem win_X10_tiles : Cond.instanceMethod mz_X10_tiles.1 ∈ lw_good := rz_good (i := 1250) rfl rfl
set_option maxRecDepth 100000 in
theorem wse_X10_tiles : Cond.selects mz_X10_tiles.1.cls mz_X10_tiles.1 mz_X10_tiles.1 ∈ lw_good := rz_good (i := 1251) rfl rfl
theorem pr_X10_seen : rz_par mz_X10_seen.1 = some 1 := by decide +kernel
set_option maxRecDepth 100000 in
theorem win_X10_seen : Cond.instanceMethod mz_X10_seen.1 ∈ lw_good := rz_good (i := 1283) rfl rfl
set_option maxRecDepth 100000 in
theorem wse_X10_seen : Cond.selects mz_X10_seen.1.cls mz_X10_seen.1 mz_X10_seen.1 ∈ lw_good := rz_good (i := 1284) rfl rfl
theorem pr_X10_seenAt : rz_par mz_X10_seenAt.1 = some 2 := by decide +kernel
set_option maxRecDepth 100000 in
theorem win_X10_seenAt : Cond.instanceMethod mz_X10_seenAt.1 ∈ lw_good := rz_good (i := 1290) rfl rfl
set_option maxRecDepth 100000 in
theorem wse_X10_seenAt : Cond.selects mz_X10_seenAt.1.cls mz_X10_seenAt.1 mz_X10_seenAt.1 ∈ lw_good := rz_good (i := 1291) rfl rfl
theorem pr_X10_leaps : rz_par mz_X10_leaps.1 = some 4 := by decide +kernel
set_option maxRecDepth 100000 in
theorem win_X10_leaps : Cond.instanceMethod mz_X10_leaps.1 ∈ lw_good := rz_good (i := 1298) rfl rfl
set_option maxRecDepth 100000 in
theorem wse_X10_leaps : Cond.selects mz_X10_leaps.1.cls mz_X10_leaps.1 mz_X10_leaps.1 ∈ lw_good := rz_good (i := 1299) rfl rfl
theorem pr_X10_terms : rz_par mz_X10_terms.1 = some 2 := by decide +kernel
set_option maxRecDepth 100000 in
theorem win_X10_terms : Cond.instanceMethod mz_X10_terms.1 ∈ lw_good := rz_good (i := 1327) rfl rfl
set_option maxRecDepth 100000 in
theorem wse_X10_terms : Cond.selects mz_X10_terms.1.cls mz_X10_terms.1 mz_X10_terms.1 ∈ lw_good := rz_good (i := 1328) rfl rfl
theorem pr_X10_termAt : rz_par mz_X10_termAt.1 = some 3 := by decide +kernel
set_option maxRecDepth 100000 in
theorem win_X10_termAt : Cond.instanceMethod mz_X10_termAt.1 ∈ lw_good := rz_good (i := 1340) rfl rfl
set_option maxRecDepth 100000 in
theorem wse_X10_termAt : Cond.selects mz_X10_termAt.1.cls mz_X10_termAt.1 mz_X10_termAt.1 ∈ lw_good := rz_good (i := 1341) rfl rfl
theorem pr_X10_hull : rz_par mz_X10_hull.1 = some 2 := by decide +kernel
set_option maxRecDepth 100000 in
theorem win_X10_hull : Cond.instanceMethod mz_X10_hull.1 ∈ lw_good := rz_good (i := 1351) rfl rfl
set_option maxRecDepth 100000 in
theorem wse_X10_hull : Cond.selects mz_X10_hull.1.cls mz_X10_hull.1 mz_X10_hull.1 ∈ lw_good := rz_good (i := 1352) rfl rfl
theorem pr_X10_hullAt : rz_par mz_X10_hullAt.1 = some 3 := by decide +kernel
set_option maxRecDepth 100000 in
theorem win_X10_hullAt : Cond.instanceMethod mz_X10_hullAt.1 ∈ lw_good := rz_good (i := 1358) rfl rfl
set_option maxRecDepth 100000 in
theorem wse_X10_hullAt : Cond.selects mz_X10_hullAt.1.cls mz_X10_hullAt.1 mz_X10_hullAt.1 ∈ lw_good := rz_good (i := 1359) rfl rfl
theorem pr_X10_held : rz_par mz_X10_held.1 = some 0 := by decide +kernel
set_option maxRecDepth 100000 in
theorem win_X10_held : Cond.instanceMethod mz_X10_held.1 ∈ lw_good := rz_good (i := 364) rfl rfl
set_option maxRecDepth 100000 in
theorem wse_X10_held : Cond.selects mz_X10_held.1.cls mz_X10_held.1 mz_X10_held.1 ∈ lw_good := rz_good (i := 365) rfl rfl
theorem pr_X10_checksum : rz_par mz_X10_checksum.1 = some 0 := by decide +kernel
set_option maxRecDepth 100000 in
theorem win_X10_checksum : Cond.instanceMethod mz_X10_checksum.1 ∈ lw_good := rz_good (i := 368) rfl rfl
set_option maxRecDepth 100000 in
theorem wse_X10_checksum : Cond.selects mz_X10_checksum.1.cls mz_X10_checksum.1 mz_X10_checksum.1 ∈ lw_good := rz_good (i := 369) rfl rfl
theorem pr_X10_isSound : rz_par mz_X10_isSound.1 = some 0 := by decide +kernel
set_option maxRecDepth 100000 in
theorem win_X10_isSound : Cond.instanceMethod mz_X10_isSound.1 ∈ lw_good := rz_good (i := 397) rfl rfl
set_option maxRecDepth 100000 in
theorem wse_X10_isSound : Cond.selects mz_X10_isSound.1.cls mz_X10_isSound.1 mz_X10_isSound.1 ∈ lw_good := rz_good (i := 398) rfl rfl
theorem pr_X10_checkSlot : rz_par mz_X10_checkSlot.1 = some 1 := by decide +kernel
set_option maxRecDepth 100000 in
theorem wst_X10_checkSlot : Cond.static mz_X10_checkSlot.1 ∈ lw_good := rz_good (i := 639) rfl rfl
theorem pr_X10_checkRange : rz_par mz_X10_checkRange.1 = some 3 := by decide +kernel
set_option maxRecDepth 100000 in
theorem wst_X10_checkRange : Cond.static mz_X10_checkRange.1 ∈ lw_good := rz_good (i := 712) rfl rfl
theorem pr_X10_checkFraction : rz_par mz_X10_checkFraction.1 = some 2 := by decide +kernel
set_option maxRecDepth 100000 in
theorem wst_X10_checkFraction : Cond.static mz_X10_checkFraction.1 ∈ lw_good := rz_good (i := 1331) rfl rfl
theorem pr_X10_checkCoins : rz_par mz_X10_checkCoins.1 = some 0 := by decide +kernel
set_option maxRecDepth 100000 in
theorem win_X10_checkCoins : Cond.instanceMethod mz_X10_checkCoins.1 ∈ lw_good := rz_good (i := 1053) rfl rfl
set_option maxRecDepth 100000 in
theorem wse_X10_checkCoins : Cond.selects mz_X10_checkCoins.1.cls mz_X10_checkCoins.1 mz_X10_checkCoins.1 ∈ lw_good := rz_good (i := 29) rfl rfl
theorem pr_X10_checkClosed : rz_par mz_X10_checkClosed.1 = some 0 := by decide +kernel
set_option maxRecDepth 100000 in
theorem win_X10_checkClosed : Cond.instanceMethod mz_X10_checkClosed.1 ∈ lw_good := rz_good (i := 1186) rfl rfl
set_option maxRecDepth 100000 in
theorem wse_X10_checkClosed : Cond.selects mz_X10_checkClosed.1.cls mz_X10_checkClosed.1 mz_X10_checkClosed.1 ∈ lw_good := rz_good (i := 39) rfl rfl
theorem pr_X10_gridIn : rz_par mz_X10_gridIn.1 = some 1 := by decide +kernel
set_option maxRecDepth 100000 in
theorem win_X10_gridIn : Cond.instanceMethod mz_X10_gridIn.1 ∈ lw_good := rz_good (i := 809) rfl rfl
set_option maxRecDepth 100000 in
theorem wse_X10_gridIn : Cond.selects mz_X10_gridIn.1.cls mz_X10_gridIn.1 mz_X10_gridIn.1 ∈ lw_good := rz_good (i := 17) rfl rfl
theorem pr_X10_become : rz_par mz_X10_become.1 = some 2 := by decide +kernel
set_option maxRecDepth 100000 in
theorem win_X10_become : Cond.instanceMethod mz_X10_become.1 ∈ lw_good := rz_good (i := 749) rfl rfl
set_option maxRecDepth 100000 in
theorem wse_X10_become : Cond.selects mz_X10_become.1.cls mz_X10_become.1 mz_X10_become.1 ∈ lw_good := rz_good (i := 15) rfl rfl
theorem pr_X10_forgetOldest : rz_par mz_X10_forgetOldest.1 = some 0 := by decide +kernel
set_option maxRecDepth 100000 in
theorem win_X10_forgetOldest : Cond.instanceMethod mz_X10_forgetOldest.1 ∈ lw_good := rz_good (i := 753) rfl rfl
set_option maxRecDepth 100000 in
theorem wse_X10_forgetOldest : Cond.selects mz_X10_forgetOldest.1.cls mz_X10_forgetOldest.1 mz_X10_forgetOldest.1 ∈ lw_good := rz_good (i := 16) rfl rfl
theorem pr_X10_listSteps : rz_par mz_X10_listSteps.1 = some 1 := by decide +kernel
set_option maxRecDepth 100000 in
theorem win_X10_listSteps : Cond.instanceMethod mz_X10_listSteps.1 ∈ lw_good := rz_good (i := 406) rfl rfl
set_option maxRecDepth 100000 in
theorem wse_X10_listSteps : Cond.selects mz_X10_listSteps.1.cls mz_X10_listSteps.1 mz_X10_listSteps.1 ∈ lw_good := rz_good (i := 1) rfl rfl
theorem pr_X10_drawCell : rz_par mz_X10_drawCell.1 = some 1 := by decide +kernel
set_option maxRecDepth 100000 in
theorem win_X10_drawCell : Cond.instanceMethod mz_X10_drawCell.1 ∈ lw_good := rz_good (i := 944) rfl rfl
set_option maxRecDepth 100000 in
theorem wse_X10_drawCell : Cond.selects mz_X10_drawCell.1.cls mz_X10_drawCell.1 mz_X10_drawCell.1 ∈ lw_good := rz_good (i := 20) rfl rfl
theorem pr_X10_seekNearest : rz_par mz_X10_seekNearest.1 = some 3 := by decide +kernel
set_option maxRecDepth 100000 in
theorem win_X10_seekNearest : Cond.instanceMethod mz_X10_seekNearest.1 ∈ lw_good := rz_good (i := 917) rfl rfl
set_option maxRecDepth 100000 in
theorem wse_X10_seekNearest : Cond.selects mz_X10_seekNearest.1.cls mz_X10_seekNearest.1 mz_X10_seekNearest.1 ∈ lw_good := rz_good (i := 18) rfl rfl
theorem pr_X10_gcd : rz_par mz_X10_gcd.1 = some 2 := by decide +kernel
set_option maxRecDepth 100000 in
theorem wst_X10_gcd : Cond.static mz_X10_gcd.1 ∈ lw_good := rz_good (i := 470) rfl rfl
theorem pr_X10_countTerms : rz_par mz_X10_countTerms.1 = some 2 := by decide +kernel
set_option maxRecDepth 100000 in
theorem wst_X10_countTerms : Cond.static mz_X10_countTerms.1 ∈ lw_good := rz_good (i := 1334) rfl rfl
theorem pr_X10_findTerm : rz_par mz_X10_findTerm.1 = some 3 := by decide +kernel
set_option maxRecDepth 100000 in
theorem wst_X10_findTerm : Cond.static mz_X10_findTerm.1 ∈ lw_good := rz_good (i := 1345) rfl rfl
theorem pr_X10_countSeen : rz_par mz_X10_countSeen.1 = some 1 := by decide +kernel
set_option maxRecDepth 100000 in
theorem wst_X10_countSeen : Cond.static mz_X10_countSeen.1 ∈ lw_good := rz_good (i := 587) rfl rfl
theorem pr_X10_findSeen : rz_par mz_X10_findSeen.1 = some 2 := by decide +kernel
set_option maxRecDepth 100000 in
theorem wst_X10_findSeen : Cond.static mz_X10_findSeen.1 ∈ lw_good := rz_good (i := 591) rfl rfl
theorem pr_X10_leastStepsSpan : rz_par mz_X10_leastStepsSpan.1 = some 1 := by decide +kernel
set_option maxRecDepth 100000 in
theorem win_X10_leastStepsSpan : Cond.instanceMethod mz_X10_leastStepsSpan.1 ∈ lw_good := rz_good (i := 402) rfl rfl
set_option maxRecDepth 100000 in
theorem wse_X10_leastStepsSpan : Cond.selects mz_X10_leastStepsSpan.1.cls mz_X10_leastStepsSpan.1 mz_X10_leastStepsSpan.1 ∈ lw_good := rz_good (i := 0) rfl rfl
theorem pr_X10_indexesAgree : rz_par mz_X10_indexesAgree.1 = some 2 := by decide +kernel
set_option maxRecDepth 100000 in
theorem wst_X10_indexesAgree : Cond.static mz_X10_indexesAgree.1 ∈ lw_good := rz_good (i := 464) rfl rfl
theorem pr_X10_polygonAgrees : rz_par mz_X10_polygonAgrees.1 = some 0 := by decide +kernel
set_option maxRecDepth 100000 in
theorem win_X10_polygonAgrees : Cond.instanceMethod mz_X10_polygonAgrees.1 ∈ lw_good := rz_good (i := 521) rfl rfl
set_option maxRecDepth 100000 in
theorem wse_X10_polygonAgrees : Cond.selects mz_X10_polygonAgrees.1.cls mz_X10_polygonAgrees.1 mz_X10_polygonAgrees.1 ∈ lw_good := rz_good (i := 5) rfl rfl
theorem pr_X10_seenNeighboursSpan : rz_par mz_X10_seenNeighboursSpan.1 = some 1 := by decide +kernel
set_option maxRecDepth 100000 in
theorem wst_X10_seenNeighboursSpan : Cond.static mz_X10_seenNeighboursSpan.1 ∈ lw_good := rz_good (i := 584) rfl rfl
theorem pr_X10_hullIsLowest : rz_par mz_X10_hullIsLowest.1 = some 2 := by decide +kernel
set_option maxRecDepth 100000 in
theorem win_X10_hullIsLowest : Cond.instanceMethod mz_X10_hullIsLowest.1 ∈ lw_good := rz_good (i := 595) rfl rfl
set_option maxRecDepth 100000 in
theorem wse_X10_hullIsLowest : Cond.selects mz_X10_hullIsLowest.1.cls mz_X10_hullIsLowest.1 mz_X10_hullIsLowest.1 ∈ lw_good := rz_good (i := 11) rfl rfl
theorem pr_X11_init : rz_par mz_X11_init.1 = some 0 := by decide +kernel
set_option maxRecDepth 100000 in
theorem win_X11_init : Cond.instanceMethod mz_X11_init.1 ∈ lw_good := rz_good (i := 1367) rfl rfl
theorem pr_X11_thrown : rz_par mz_X11_thrown.1 = some 0 := by decide +kernel
set_option maxRecDepth 100000 in
theorem win_X11_thrown : Cond.instanceMethod mz_X11_thrown.1 ∈ lw_good := rz_good (i := 1436) rfl rfl
set_option maxRecDepth 100000 in
theorem wse_X11_thrown : Cond.selects mz_X11_thrown.1.cls mz_X11_thrown.1 mz_X11_thrown.1 ∈ lw_good := rz_good (i := 1437) rfl rfl
theorem pr_X11_no : rz_par mz_X11_no.1 = some 2 := by decide +kernel
set_option maxRecDepth 100000 in
theorem win_X11_no : Cond.instanceMethod mz_X11_no.1 ∈ lw_good := rz_good (i := 1451) rfl rfl
set_option maxRecDepth 100000 in
theorem wse_X11_no : Cond.selects mz_X11_no.1.cls mz_X11_no.1 mz_X11_no.1 ∈ lw_good := rz_good (i := 44) rfl rfl
theorem pr_X11_in : rz_par mz_X11_in.1 = some 3 := by decide +kernel
set_option maxRecDepth 100000 in
theorem wst_X11_in : Cond.static mz_X11_in.1 ∈ lw_good := rz_good (i := 1447) rfl rfl
theorem pr_X11_isSlot : rz_par mz_X11_isSlot.1 = some 1 := by decide +kernel
set_option maxRecDepth 100000 in
theorem wst_X11_isSlot : Cond.static mz_X11_isSlot.1 ∈ lw_good := rz_good (i := 1444) rfl rfl
theorem pr_X11_gcd : rz_par mz_X11_gcd.1 = some 2 := by decide +kernel
set_option maxRecDepth 100000 in
theorem wst_X11_gcd : Cond.static mz_X11_gcd.1 ∈ lw_good := rz_good (i := 1454) rfl rfl
theorem pr_X11_mod : rz_par mz_X11_mod.1 = some 2 := by decide +kernel
set_option maxRecDepth 100000 in
theorem wst_X11_mod : Cond.static mz_X11_mod.1 ∈ lw_good := rz_good (i := 1460) rfl rfl
theorem pr_X11_becomes : rz_par mz_X11_becomes.1 = some 4 := by decide +kernel
set_option maxRecDepth 100000 in
theorem win_X11_becomes : Cond.instanceMethod mz_X11_becomes.1 ∈ lw_good := rz_good (i := 1464) rfl rfl
set_option maxRecDepth 100000 in
theorem wse_X11_becomes : Cond.selects mz_X11_becomes.1.cls mz_X11_becomes.1 mz_X11_becomes.1 ∈ lw_good := rz_good (i := 45) rfl rfl
theorem pr_X11_highOf : rz_par mz_X11_highOf.1 = some 4 := by decide +kernel
set_option maxRecDepth 100000 in
theorem wst_X11_highOf : Cond.static mz_X11_highOf.1 ∈ lw_good := rz_good (i := 1457) rfl rfl
theorem pr_X11_spanned : rz_par mz_X11_spanned.1 = some 5 := by decide +kernel
set_option maxRecDepth 100000 in
theorem win_X11_spanned : Cond.instanceMethod mz_X11_spanned.1 ∈ lw_good := rz_good (i := 1440) rfl rfl
set_option maxRecDepth 100000 in
theorem wse_X11_spanned : Cond.selects mz_X11_spanned.1.cls mz_X11_spanned.1 mz_X11_spanned.1 ∈ lw_good := rz_good (i := 1441) rfl rfl
theorem pr_X11_remainder : rz_par mz_X11_remainder.1 = some 4 := by decide +kernel
set_option maxRecDepth 100000 in
theorem win_X11_remainder : Cond.instanceMethod mz_X11_remainder.1 ∈ lw_good := rz_good (i := 1467) rfl rfl
set_option maxRecDepth 100000 in
theorem wse_X11_remainder : Cond.selects mz_X11_remainder.1.cls mz_X11_remainder.1 mz_X11_remainder.1 ∈ lw_good := rz_good (i := 1468) rfl rfl
theorem pr_X11_nth : rz_par mz_X11_nth.1 = some 3 := by decide +kernel
set_option maxRecDepth 100000 in
theorem win_X11_nth : Cond.instanceMethod mz_X11_nth.1 ∈ lw_good := rz_good (i := 1471) rfl rfl
set_option maxRecDepth 100000 in
theorem wse_X11_nth : Cond.selects mz_X11_nth.1.cls mz_X11_nth.1 mz_X11_nth.1 ∈ lw_good := rz_good (i := 1472) rfl rfl
theorem pr_X11_grids : rz_par mz_X11_grids.1 = some 1 := by decide +kernel
set_option maxRecDepth 100000 in
theorem win_X11_grids : Cond.instanceMethod mz_X11_grids.1 ∈ lw_good := rz_good (i := 1475) rfl rfl
set_option maxRecDepth 100000 in
theorem wse_X11_grids : Cond.selects mz_X11_grids.1.cls mz_X11_grids.1 mz_X11_grids.1 ∈ lw_good := rz_good (i := 1476) rfl rfl
theorem pr_X11_lacks : rz_par mz_X11_lacks.1 = some 1 := by decide +kernel
set_option maxRecDepth 100000 in
theorem win_X11_lacks : Cond.instanceMethod mz_X11_lacks.1 ∈ lw_good := rz_good (i := 1488) rfl rfl
set_option maxRecDepth 100000 in
theorem wse_X11_lacks : Cond.selects mz_X11_lacks.1.cls mz_X11_lacks.1 mz_X11_lacks.1 ∈ lw_good := rz_good (i := 46) rfl rfl
theorem pr_X11_lackBoth : rz_par mz_X11_lackBoth.1 = some 2 := by decide +kernel
set_option maxRecDepth 100000 in
theorem win_X11_lackBoth : Cond.instanceMethod mz_X11_lackBoth.1 ∈ lw_good := rz_good (i := 1500) rfl rfl
set_option maxRecDepth 100000 in
theorem wse_X11_lackBoth : Cond.selects mz_X11_lackBoth.1.cls mz_X11_lackBoth.1 mz_X11_lackBoth.1 ∈ lw_good := rz_good (i := 48) rfl rfl
theorem pr_X11_form : rz_par mz_X11_form.1 = some 2 := by decide +kernel
set_option maxRecDepth 100000 in
theorem win_X11_form : Cond.instanceMethod mz_X11_form.1 ∈ lw_good := rz_good (i := 1479) rfl rfl
set_option maxRecDepth 100000 in
theorem wse_X11_form : Cond.selects mz_X11_form.1.cls mz_X11_form.1 mz_X11_form.1 ∈ lw_good := rz_good (i := 1480) rfl rfl
theorem pr_X11_hasIt : rz_par mz_X11_hasIt.1 = some 3 := by decide +kernel
set_option maxRecDepth 100000 in
theorem win_X11_hasIt : Cond.instanceMethod mz_X11_hasIt.1 ∈ lw_good := rz_good (i := 1492) rfl rfl
set_option maxRecDepth 100000 in
theorem wse_X11_hasIt : Cond.selects mz_X11_hasIt.1.cls mz_X11_hasIt.1 mz_X11_hasIt.1 ∈ lw_good := rz_good (i := 47) rfl rfl
theorem pr_X11_has : rz_par mz_X11_has.1 = some 3 := by decide +kernel
set_option maxRecDepth 100000 in
theorem win_X11_has : Cond.instanceMethod mz_X11_has.1 ∈ lw_good := rz_good (i := 1483) rfl rfl
set_option maxRecDepth 100000 in
theorem wse_X11_has : Cond.selects mz_X11_has.1.cls mz_X11_has.1 mz_X11_has.1 ∈ lw_good := rz_good (i := 1484) rfl rfl
theorem pr_X11_isWithin : rz_par mz_X11_isWithin.1 = some 2 := by decide +kernel
set_option maxRecDepth 100000 in
theorem win_X11_isWithin : Cond.instanceMethod mz_X11_isWithin.1 ∈ lw_good := rz_good (i := 1508) rfl rfl
set_option maxRecDepth 100000 in
theorem wse_X11_isWithin : Cond.selects mz_X11_isWithin.1.cls mz_X11_isWithin.1 mz_X11_isWithin.1 ∈ lw_good := rz_good (i := 49) rfl rfl
theorem pr_X11_isSame : rz_par mz_X11_isSame.1 = some 2 := by decide +kernel
set_option maxRecDepth 100000 in
theorem win_X11_isSame : Cond.instanceMethod mz_X11_isSame.1 ∈ lw_good := rz_good (i := 1495) rfl rfl
set_option maxRecDepth 100000 in
theorem wse_X11_isSame : Cond.selects mz_X11_isSame.1.cls mz_X11_isSame.1 mz_X11_isSame.1 ∈ lw_good := rz_good (i := 1496) rfl rfl
theorem pr_X11_parts : rz_par mz_X11_parts.1 = some 2 := by decide +kernel
set_option maxRecDepth 100000 in
theorem win_X11_parts : Cond.instanceMethod mz_X11_parts.1 ∈ lw_good := rz_good (i := 1503) rfl rfl
set_option maxRecDepth 100000 in
theorem wse_X11_parts : Cond.selects mz_X11_parts.1.cls mz_X11_parts.1 mz_X11_parts.1 ∈ lw_good := rz_good (i := 1504) rfl rfl
theorem pr_X11_lackAll : rz_par mz_X11_lackAll.1 = some 3 := by decide +kernel
set_option maxRecDepth 100000 in
theorem win_X11_lackAll : Cond.instanceMethod mz_X11_lackAll.1 ∈ lw_good := rz_good (i := 1516) rfl rfl
set_option maxRecDepth 100000 in
theorem wse_X11_lackAll : Cond.selects mz_X11_lackAll.1.cls mz_X11_lackAll.1 mz_X11_lackAll.1 ∈ lw_good := rz_good (i := 50) rfl rfl
theorem pr_X11_meet : rz_par mz_X11_meet.1 = some 3 := by decide +kernel
set_option maxRecDepth 100000 in
theorem win_X11_meet : Cond.instanceMethod mz_X11_meet.1 ∈ lw_good := rz_good (i := 1511) rfl rfl
set_option maxRecDepth 100000 in
theorem wse_X11_meet : Cond.selects mz_X11_meet.1.cls mz_X11_meet.1 mz_X11_meet.1 ∈ lw_good := rz_good (i := 1512) rfl rfl
theorem pr_X11_join : rz_par mz_X11_join.1 = some 3 := by decide +kernel
set_option maxRecDepth 100000 in
theorem win_X11_join : Cond.instanceMethod mz_X11_join.1 ∈ lw_good := rz_good (i := 1520) rfl rfl
set_option maxRecDepth 100000 in
theorem wse_X11_join : Cond.selects mz_X11_join.1.cls mz_X11_join.1 mz_X11_join.1 ∈ lw_good := rz_good (i := 1521) rfl rfl
theorem pr_X11_undo : rz_par mz_X11_undo.1 = some 0 := by decide +kernel
set_option maxRecDepth 100000 in
theorem win_X11_undo : Cond.instanceMethod mz_X11_undo.1 ∈ lw_good := rz_good (i := 1524) rfl rfl
set_option maxRecDepth 100000 in
theorem wse_X11_undo : Cond.selects mz_X11_undo.1.cls mz_X11_undo.1 mz_X11_undo.1 ∈ lw_good := rz_good (i := 1525) rfl rfl
theorem pr_X11_times : rz_par mz_X11_times.1 = some 4 := by decide +kernel
set_option maxRecDepth 100000 in
theorem wst_X11_times : Cond.static mz_X11_times.1 ∈ lw_good := rz_good (i := 1544) rfl rfl
theorem pr_X11_floor : rz_par mz_X11_floor.1 = some 2 := by decide +kernel
set_option maxRecDepth 100000 in
theorem wst_X11_floor : Cond.static mz_X11_floor.1 ∈ lw_good := rz_good (i := 1548) rfl rfl
theorem pr_X11_shortOf : rz_par mz_X11_shortOf.1 = some 1 := by decide +kernel
set_option maxRecDepth 100000 in
theorem win_X11_shortOf : Cond.instanceMethod mz_X11_shortOf.1 ∈ lw_good := rz_good (i := 1541) rfl rfl
set_option maxRecDepth 100000 in
theorem wse_X11_shortOf : Cond.selects mz_X11_shortOf.1.cls mz_X11_shortOf.1 mz_X11_shortOf.1 ∈ lw_good := rz_good (i := 53) rfl rfl
theorem pr_X11_isTold : rz_par mz_X11_isTold.1 = some 2 := by decide +kernel
set_option maxRecDepth 100000 in
theorem wst_X11_isTold : Cond.static mz_X11_isTold.1 ∈ lw_good := rz_good (i := 1551) rfl rfl
theorem pr_X11_isAhead : rz_par mz_X11_isAhead.1 = some 4 := by decide +kernel
set_option maxRecDepth 100000 in
theorem wst_X11_isAhead : Cond.static mz_X11_isAhead.1 ∈ lw_good := rz_good (i := 1554) rfl rfl
theorem pr_X11_stepsOf : rz_par mz_X11_stepsOf.1 = some 1 := by decide +kernel
set_option maxRecDepth 100000 in
theorem win_X11_stepsOf : Cond.instanceMethod mz_X11_stepsOf.1 ∈ lw_good := rz_good (i := 1537) rfl rfl
set_option maxRecDepth 100000 in
theorem wse_X11_stepsOf : Cond.selects mz_X11_stepsOf.1.cls mz_X11_stepsOf.1 mz_X11_stepsOf.1 ∈ lw_good := rz_good (i := 52) rfl rfl
theorem pr_X11_lacksStep : rz_par mz_X11_lacksStep.1 = some 2 := by decide +kernel
set_option maxRecDepth 100000 in
theorem win_X11_lacksStep : Cond.instanceMethod mz_X11_lacksStep.1 ∈ lw_good := rz_good (i := 1533) rfl rfl
set_option maxRecDepth 100000 in
theorem wse_X11_lacksStep : Cond.selects mz_X11_lacksStep.1.cls mz_X11_lacksStep.1 mz_X11_lacksStep.1 ∈ lw_good := rz_good (i := 51) rfl rfl
theorem pr_X11_stepX : rz_par mz_X11_stepX.1 = some 2 := by decide +kernel
set_option maxRecDepth 100000 in
theorem win_X11_stepX : Cond.instanceMethod mz_X11_stepX.1 ∈ lw_good := rz_good (i := 1528) rfl rfl
set_option maxRecDepth 100000 in
theorem wse_X11_stepX : Cond.selects mz_X11_stepX.1.cls mz_X11_stepX.1 mz_X11_stepX.1 ∈ lw_good := rz_good (i := 1529) rfl rfl
theorem pr_X11_stepY : rz_par mz_X11_stepY.1 = some 2 := by decide +kernel
set_option maxRecDepth 100000 in
theorem win_X11_stepY : Cond.instanceMethod mz_X11_stepY.1 ∈ lw_good := rz_good (i := 1557) rfl rfl
set_option maxRecDepth 100000 in
theorem wse_X11_stepY : Cond.selects mz_X11_stepY.1.cls mz_X11_stepY.1 mz_X11_stepY.1 ∈ lw_good := rz_good (i := 1558) rfl rfl
theorem pr_X11_second : rz_par mz_X11_second.1 = some 1 := by decide +kernel
set_option maxRecDepth 100000 in
theorem win_X11_second : Cond.instanceMethod mz_X11_second.1 ∈ lw_good := rz_good (i := 1561) rfl rfl
set_option maxRecDepth 100000 in
theorem wse_X11_second : Cond.selects mz_X11_second.1.cls mz_X11_second.1 mz_X11_second.1 ∈ lw_good := rz_good (i := 1562) rfl rfl
theorem pr_X11_steps : rz_par mz_X11_steps.1 = some 2 := by decide +kernel
set_option maxRecDepth 100000 in
theorem win_X11_steps : Cond.instanceMethod mz_X11_steps.1 ∈ lw_good := rz_good (i := 1565) rfl rfl
set_option maxRecDepth 100000 in
theorem wse_X11_steps : Cond.selects mz_X11_steps.1.cls mz_X11_steps.1 mz_X11_steps.1 ∈ lw_good := rz_good (i := 1566) rfl rfl
theorem pr_X11_nearest : rz_par mz_X11_nearest.1 = some 3 := by decide +kernel
set_option maxRecDepth 100000 in
theorem win_X11_nearest : Cond.instanceMethod mz_X11_nearest.1 ∈ lw_good := rz_good (i := 1578) rfl rfl
set_option maxRecDepth 100000 in
theorem wse_X11_nearest : Cond.selects mz_X11_nearest.1.cls mz_X11_nearest.1 mz_X11_nearest.1 ∈ lw_good := rz_good (i := 55) rfl rfl
theorem pr_X11_lacksNear : rz_par mz_X11_lacksNear.1 = some 3 := by decide +kernel
set_option maxRecDepth 100000 in
theorem win_X11_lacksNear : Cond.instanceMethod mz_X11_lacksNear.1 ∈ lw_good := rz_good (i := 1574) rfl rfl
set_option maxRecDepth 100000 in
theorem wse_X11_lacksNear : Cond.selects mz_X11_lacksNear.1.cls mz_X11_lacksNear.1 mz_X11_lacksNear.1 ∈ lw_good := rz_good (i := 54) rfl rfl
theorem pr_X11_nearX : rz_par mz_X11_nearX.1 = some 3 := by decide +kernel
set_option maxRecDepth 100000 in
theorem win_X11_nearX : Cond.instanceMethod mz_X11_nearX.1 ∈ lw_good := rz_good (i := 1569) rfl rfl
set_option maxRecDepth 100000 in
theorem wse_X11_nearX : Cond.selects mz_X11_nearX.1.cls mz_X11_nearX.1 mz_X11_nearX.1 ∈ lw_good := rz_good (i := 1570) rfl rfl
theorem pr_X11_nearY : rz_par mz_X11_nearY.1 = some 3 := by decide +kernel
set_option maxRecDepth 100000 in
theorem win_X11_nearY : Cond.instanceMethod mz_X11_nearY.1 ∈ lw_good := rz_good (i := 1584) rfl rfl
set_option maxRecDepth 100000 in
theorem wse_X11_nearY : Cond.selects mz_X11_nearY.1.cls mz_X11_nearY.1 mz_X11_nearY.1 ∈ lw_good := rz_good (i := 1585) rfl rfl
theorem pr_X11_around : rz_par mz_X11_around.1 = some 1 := by decide +kernel
set_option maxRecDepth 100000 in
theorem win_X11_around : Cond.instanceMethod mz_X11_around.1 ∈ lw_good := rz_good (i := 1593) rfl rfl
set_option maxRecDepth 100000 in
theorem wse_X11_around : Cond.selects mz_X11_around.1.cls mz_X11_around.1 mz_X11_around.1 ∈ lw_good := rz_good (i := 56) rfl rfl
theorem pr_X11_corners : rz_par mz_X11_corners.1 = some 1 := by decide +kernel
set_option maxRecDepth 100000 in
theorem win_X11_corners : Cond.instanceMethod mz_X11_corners.1 ∈ lw_good := rz_good (i := 1588) rfl rfl
set_option maxRecDepth 100000 in
theorem wse_X11_corners : Cond.selects mz_X11_corners.1.cls mz_X11_corners.1 mz_X11_corners.1 ∈ lw_good := rz_good (i := 1589) rfl rfl
theorem pr_X11_cellOf : rz_par mz_X11_cellOf.1 = some 1 := by decide +kernel
set_option maxRecDepth 100000 in
theorem win_X11_cellOf : Cond.instanceMethod mz_X11_cellOf.1 ∈ lw_good := rz_good (i := 1601) rfl rfl
set_option maxRecDepth 100000 in
theorem wse_X11_cellOf : Cond.selects mz_X11_cellOf.1.cls mz_X11_cellOf.1 mz_X11_cellOf.1 ∈ lw_good := rz_good (i := 57) rfl rfl
theorem pr_X11_adds : rz_par mz_X11_adds.1 = some 1 := by decide +kernel
set_option maxRecDepth 100000 in
theorem win_X11_adds : Cond.instanceMethod mz_X11_adds.1 ∈ lw_good := rz_good (i := 1605) rfl rfl
set_option maxRecDepth 100000 in
theorem wse_X11_adds : Cond.selects mz_X11_adds.1.cls mz_X11_adds.1 mz_X11_adds.1 ∈ lw_good := rz_good (i := 58) rfl rfl
theorem pr_X11_addsNumber : rz_par mz_X11_addsNumber.1 = some 2 := by decide +kernel
set_option maxRecDepth 100000 in
theorem win_X11_addsNumber : Cond.instanceMethod mz_X11_addsNumber.1 ∈ lw_good := rz_good (i := 1609) rfl rfl
set_option maxRecDepth 100000 in
theorem wse_X11_addsNumber : Cond.selects mz_X11_addsNumber.1.cls mz_X11_addsNumber.1 mz_X11_addsNumber.1 ∈ lw_good := rz_good (i := 59) rfl rfl
theorem pr_X11_tellCorner : rz_par mz_X11_tellCorner.1 = some 3 := by decide +kernel
set_option maxRecDepth 100000 in
theorem win_X11_tellCorner : Cond.instanceMethod mz_X11_tellCorner.1 ∈ lw_good := rz_good (i := 1596) rfl rfl
set_option maxRecDepth 100000 in
theorem wse_X11_tellCorner : Cond.selects mz_X11_tellCorner.1.cls mz_X11_tellCorner.1 mz_X11_tellCorner.1 ∈ lw_good := rz_good (i := 1597) rfl rfl
theorem pr_X11_signAt : rz_par mz_X11_signAt.1 = some 1 := by decide +kernel
set_option maxRecDepth 100000 in
theorem win_X11_signAt : Cond.instanceMethod mz_X11_signAt.1 ∈ lw_good := rz_good (i := 1615) rfl rfl
set_option maxRecDepth 100000 in
theorem wse_X11_signAt : Cond.selects mz_X11_signAt.1.cls mz_X11_signAt.1 mz_X11_signAt.1 ∈ lw_good := rz_good (i := 1616) rfl rfl
theorem pr_X11_fewestOf : rz_par mz_X11_fewestOf.1 = some 0 := by decide +kernel
set_option maxRecDepth 100000 in
theorem win_X11_fewestOf : Cond.instanceMethod mz_X11_fewestOf.1 ∈ lw_good := rz_good (i := 1624) rfl rfl
set_option maxRecDepth 100000 in
theorem wse_X11_fewestOf : Cond.selects mz_X11_fewestOf.1.cls mz_X11_fewestOf.1 mz_X11_fewestOf.1 ∈ lw_good := rz_good (i := 60) rfl rfl
theorem pr_X11_coins : rz_par mz_X11_coins.1 = some 4 := by decide +kernel
set_option maxRecDepth 100000 in
theorem win_X11_coins : Cond.instanceMethod mz_X11_coins.1 ∈ lw_good := rz_good (i := 1619) rfl rfl
set_option maxRecDepth 100000 in
theorem wse_X11_coins : Cond.selects mz_X11_coins.1.cls mz_X11_coins.1 mz_X11_coins.1 ∈ lw_good := rz_good (i := 1620) rfl rfl
theorem pr_X11_lacksUpTo : rz_par mz_X11_lacksUpTo.1 = some 1 := by decide +kernel
set_option maxRecDepth 100000 in
theorem win_X11_lacksUpTo : Cond.instanceMethod mz_X11_lacksUpTo.1 ∈ lw_good := rz_good (i := 1632) rfl rfl
set_option maxRecDepth 100000 in
theorem wse_X11_lacksUpTo : Cond.selects mz_X11_lacksUpTo.1.cls mz_X11_lacksUpTo.1 mz_X11_lacksUpTo.1 ∈ lw_good := rz_good (i := 61) rfl rfl
theorem pr_X11_lacks_ : rz_par mz_X11_lacks_.1 = some 0 := by decide +kernel
set_option maxRecDepth 100000 in
theorem win_X11_lacks_ : Cond.instanceMethod mz_X11_lacks_.1 ∈ lw_good := rz_good (i := 1627) rfl rfl
set_option maxRecDepth 100000 in
theorem wse_X11_lacks_ : Cond.selects mz_X11_lacks_.1.cls mz_X11_lacks_.1 mz_X11_lacks_.1 ∈ lw_good := rz_good (i := 1628) rfl rfl
theorem pr_X11_lackAt : rz_par mz_X11_lackAt.1 = some 1 := by decide +kernel
set_option maxRecDepth 100000 in
theorem win_X11_lackAt : Cond.instanceMethod mz_X11_lackAt.1 ∈ lw_good := rz_good (i := 1635) rfl rfl
set_option maxRecDepth 100000 in
theorem wse_X11_lackAt : Cond.selects mz_X11_lackAt.1.cls mz_X11_lackAt.1 mz_X11_lackAt.1 ∈ lw_good := rz_good (i := 1636) rfl rfl
theorem pr_X11_canMake : rz_par mz_X11_canMake.1 = some 1 := by decide +kernel
set_option maxRecDepth 100000 in
theorem win_X11_canMake : Cond.instanceMethod mz_X11_canMake.1 ∈ lw_good := rz_good (i := 1639) rfl rfl
set_option maxRecDepth 100000 in
theorem wse_X11_canMake : Cond.selects mz_X11_canMake.1.cls mz_X11_canMake.1 mz_X11_canMake.1 ∈ lw_good := rz_good (i := 1640) rfl rfl
theorem pr_X11_fewest : rz_par mz_X11_fewest.1 = some 1 := by decide +kernel
set_option maxRecDepth 100000 in
theorem win_X11_fewest : Cond.instanceMethod mz_X11_fewest.1 ∈ lw_good := rz_good (i := 1643) rfl rfl
set_option maxRecDepth 100000 in
theorem wse_X11_fewest : Cond.selects mz_X11_fewest.1.cls mz_X11_fewest.1 mz_X11_fewest.1 ∈ lw_good := rz_good (i := 1644) rfl rfl
theorem pr_X11_ways : rz_par mz_X11_ways.1 = some 1 := by decide +kernel
set_option maxRecDepth 100000 in
theorem win_X11_ways : Cond.instanceMethod mz_X11_ways.1 ∈ lw_good := rz_good (i := 1647) rfl rfl
set_option maxRecDepth 100000 in
theorem wse_X11_ways : Cond.selects mz_X11_ways.1.cls mz_X11_ways.1 mz_X11_ways.1 ∈ lw_good := rz_good (i := 1648) rfl rfl
theorem pr_X11_corner : rz_par mz_X11_corner.1 = some 2 := by decide +kernel
set_option maxRecDepth 100000 in
theorem win_X11_corner : Cond.instanceMethod mz_X11_corner.1 ∈ lw_good := rz_good (i := 1651) rfl rfl
set_option maxRecDepth 100000 in
theorem wse_X11_corner : Cond.selects mz_X11_corner.1.cls mz_X11_corner.1 mz_X11_corner.1 ∈ lw_good := rz_good (i := 1652) rfl rfl
theorem pr_X11_clear : rz_par mz_X11_clear.1 = some 0 := by decide +kernel
set_option maxRecDepth 100000 in
theorem win_X11_clear : Cond.instanceMethod mz_X11_clear.1 ∈ lw_good := rz_good (i := 1655) rfl rfl
set_option maxRecDepth 100000 in
theorem wse_X11_clear : Cond.selects mz_X11_clear.1.cls mz_X11_clear.1 mz_X11_clear.1 ∈ lw_good := rz_good (i := 1656) rfl rfl
theorem pr_X11_after : rz_par mz_X11_after.1 = some 1 := by decide +kernel
set_option maxRecDepth 100000 in
theorem win_X11_after : Cond.instanceMethod mz_X11_after.1 ∈ lw_good := rz_good (i := 1668) rfl rfl
set_option maxRecDepth 100000 in
theorem wse_X11_after : Cond.selects mz_X11_after.1.cls mz_X11_after.1 mz_X11_after.1 ∈ lw_good := rz_good (i := 63) rfl rfl
theorem pr_X11_turn : rz_par mz_X11_turn.1 = some 3 := by decide +kernel
set_option maxRecDepth 100000 in
theorem win_X11_turn : Cond.instanceMethod mz_X11_turn.1 ∈ lw_good := rz_good (i := 1672) rfl rfl
set_option maxRecDepth 100000 in
theorem wse_X11_turn : Cond.selects mz_X11_turn.1.cls mz_X11_turn.1 mz_X11_turn.1 ∈ lw_good := rz_good (i := 64) rfl rfl
theorem pr_X11_isOn : rz_par mz_X11_isOn.1 = some 3 := by decide +kernel
set_option maxRecDepth 100000 in
theorem win_X11_isOn : Cond.instanceMethod mz_X11_isOn.1 ∈ lw_good := rz_good (i := 1680) rfl rfl
set_option maxRecDepth 100000 in
theorem wse_X11_isOn : Cond.selects mz_X11_isOn.1.cls mz_X11_isOn.1 mz_X11_isOn.1 ∈ lw_good := rz_good (i := 66) rfl rfl
theorem pr_X11_doMeet : rz_par mz_X11_doMeet.1 = some 2 := by decide +kernel
set_option maxRecDepth 100000 in
theorem win_X11_doMeet : Cond.instanceMethod mz_X11_doMeet.1 ∈ lw_good := rz_good (i := 1676) rfl rfl
set_option maxRecDepth 100000 in
theorem wse_X11_doMeet : Cond.selects mz_X11_doMeet.1.cls mz_X11_doMeet.1 mz_X11_doMeet.1 ∈ lw_good := rz_good (i := 65) rfl rfl
theorem pr_X11_isPolygon : rz_par mz_X11_isPolygon.1 = some 0 := by decide +kernel
set_option maxRecDepth 100000 in
theorem win_X11_isPolygon : Cond.instanceMethod mz_X11_isPolygon.1 ∈ lw_good := rz_good (i := 1664) rfl rfl
set_option maxRecDepth 100000 in
theorem wse_X11_isPolygon : Cond.selects mz_X11_isPolygon.1.cls mz_X11_isPolygon.1 mz_X11_isPolygon.1 ∈ lw_good := rz_good (i := 62) rfl rfl
theorem pr_X11_areaTwice : rz_par mz_X11_areaTwice.1 = some 0 := by decide +kernel
set_option maxRecDepth 100000 in
theorem win_X11_areaTwice : Cond.instanceMethod mz_X11_areaTwice.1 ∈ lw_good := rz_good (i := 1684) rfl rfl
set_option maxRecDepth 100000 in
theorem wse_X11_areaTwice : Cond.selects mz_X11_areaTwice.1.cls mz_X11_areaTwice.1 mz_X11_areaTwice.1 ∈ lw_good := rz_good (i := 67) rfl rfl
theorem pr_X11_close : rz_par mz_X11_close.1 = some 0 := by decide +kernel
set_option maxRecDepth 100000 in
theorem win_X11_close : Cond.instanceMethod mz_X11_close.1 ∈ lw_good := rz_good (i := 1659) rfl rfl
set_option maxRecDepth 100000 in
theorem wse_X11_close : Cond.selects mz_X11_close.1.cls mz_X11_close.1 mz_X11_close.1 ∈ lw_good := rz_good (i := 1660) rfl rfl
theorem pr_X11_rimIts : rz_par mz_X11_rimIts.1 = some 0 := by decide +kernel
set_option maxRecDepth 100000 in
theorem win_X11_rimIts : Cond.instanceMethod mz_X11_rimIts.1 ∈ lw_good := rz_good (i := 1693) rfl rfl
set_option maxRecDepth 100000 in
theorem wse_X11_rimIts : Cond.selects mz_X11_rimIts.1.cls mz_X11_rimIts.1 mz_X11_rimIts.1 ∈ lw_good := rz_good (i := 68) rfl rfl
theorem pr_X11_rim : rz_par mz_X11_rim.1 = some 0 := by decide +kernel
set_option maxRecDepth 100000 in
theorem win_X11_rim : Cond.instanceMethod mz_X11_rim.1 ∈ lw_good := rz_good (i := 1688) rfl rfl
set_option maxRecDepth 100000 in
theorem wse_X11_rim : Cond.selects mz_X11_rim.1.cls mz_X11_rim.1 mz_X11_rim.1 ∈ lw_good := rz_good (i := 1689) rfl rfl
theorem pr_X11_isInside : rz_par mz_X11_isInside.1 = some 2 := by decide +kernel
set_option maxRecDepth 100000 in
theorem win_X11_isInside : Cond.instanceMethod mz_X11_isInside.1 ∈ lw_good := rz_good (i := 1707) rfl rfl
set_option maxRecDepth 100000 in
theorem wse_X11_isInside : Cond.selects mz_X11_isInside.1.cls mz_X11_isInside.1 mz_X11_isInside.1 ∈ lw_good := rz_good (i := 70) rfl rfl
theorem pr_X11_whereIts : rz_par mz_X11_whereIts.1 = some 2 := by decide +kernel
set_option maxRecDepth 100000 in
theorem win_X11_whereIts : Cond.instanceMethod mz_X11_whereIts.1 ∈ lw_good := rz_good (i := 1701) rfl rfl
set_option maxRecDepth 100000 in
theorem wse_X11_whereIts : Cond.selects mz_X11_whereIts.1.cls mz_X11_whereIts.1 mz_X11_whereIts.1 ∈ lw_good := rz_good (i := 69) rfl rfl
theorem pr_X11_where : rz_par mz_X11_where.1 = some 2 := by decide +kernel
set_option maxRecDepth 100000 in
theorem win_X11_where : Cond.instanceMethod mz_X11_where.1 ∈ lw_good := rz_good (i := 1696) rfl rfl
set_option maxRecDepth 100000 in
theorem wse_X11_where : Cond.selects mz_X11_where.1.cls mz_X11_where.1 mz_X11_where.1 ∈ lw_good := rz_good (i := 1697) rfl rfl
theorem pr_X11_within : rz_par mz_X11_within.1 = some 0 := by decide +kernel
set_option maxRecDepth 100000 in
theorem win_X11_within : Cond.instanceMethod mz_X11_within.1 ∈ lw_good := rz_good (i := 1710) rfl rfl
set_option maxRecDepth 100000 in
theorem wse_X11_within : Cond.selects mz_X11_within.1.cls mz_X11_within.1 mz_X11_within.1 ∈ lw_good := rz_good (i := 1711) rfl rfl
theorem pr_X11_isConvex : rz_par mz_X11_isConvex.1 = some 0 := by decide +kernel
set_option maxRecDepth 100000 in
theorem win_X11_isConvex : Cond.instanceMethod mz_X11_isConvex.1 ∈ lw_good := rz_good (i := 1714) rfl rfl
set_option maxRecDepth 100000 in
theorem wse_X11_isConvex : Cond.selects mz_X11_isConvex.1.cls mz_X11_isConvex.1 mz_X11_isConvex.1 ∈ lw_good := rz_good (i := 1715) rfl rfl
theorem pr_X11_grown : rz_par mz_X11_grown.1 = some 1 := by decide +kernel
set_option maxRecDepth 100000 in
theorem win_X11_grown : Cond.instanceMethod mz_X11_grown.1 ∈ lw_good := rz_good (i := 1718) rfl rfl
set_option maxRecDepth 100000 in
theorem wse_X11_grown : Cond.selects mz_X11_grown.1.cls mz_X11_grown.1 mz_X11_grown.1 ∈ lw_good := rz_good (i := 1719) rfl rfl
theorem pr_X11_isEar : rz_par mz_X11_isEar.1 = some 4 := by decide +kernel
set_option maxRecDepth 100000 in
theorem win_X11_isEar : Cond.instanceMethod mz_X11_isEar.1 ∈ lw_good := rz_good (i := 1729) rfl rfl
set_option maxRecDepth 100000 in
theorem wse_X11_isEar : Cond.selects mz_X11_isEar.1.cls mz_X11_isEar.1 mz_X11_isEar.1 ∈ lw_good := rz_good (i := 71) rfl rfl
theorem pr_X11_triangleAt : rz_par mz_X11_triangleAt.1 = some 2 := by decide +kernel
set_option maxRecDepth 100000 in
theorem win_X11_triangleAt : Cond.instanceMethod mz_X11_triangleAt.1 ∈ lw_good := rz_good (i := 1724) rfl rfl
set_option maxRecDepth 100000 in
theorem wse_X11_triangleAt : Cond.selects mz_X11_triangleAt.1.cls mz_X11_triangleAt.1 mz_X11_triangleAt.1 ∈ lw_good := rz_good (i := 1725) rfl rfl
theorem pr_X11_tiles : rz_par mz_X11_tiles.1 = some 1 := by decide +kernel
set_option maxRecDepth 100000 in
theorem win_X11_tiles : Cond.instanceMethod mz_X11_tiles.1 ∈ lw_good := rz_good (i := 1732) rfl rfl
set_option maxRecDepth 100000 in
theorem wse_X11_tiles : Cond.selects mz_X11_tiles.1.cls mz_X11_tiles.1 mz_X11_tiles.1 ∈ lw_good := rz_good (i := 1733) rfl rfl
theorem pr_X11_seenOf : rz_par mz_X11_seenOf.1 = some 1 := by decide +kernel
set_option maxRecDepth 100000 in
theorem wst_X11_seenOf : Cond.static mz_X11_seenOf.1 ∈ lw_good := rz_good (i := 1740) rfl rfl
theorem pr_X11_manyOf : rz_par mz_X11_manyOf.1 = some 1 := by decide +kernel
set_option maxRecDepth 100000 in
theorem wst_X11_manyOf : Cond.static mz_X11_manyOf.1 ∈ lw_good := rz_good (i := 1743) rfl rfl
theorem pr_X11_seen : rz_par mz_X11_seen.1 = some 1 := by decide +kernel
set_option maxRecDepth 100000 in
theorem win_X11_seen : Cond.instanceMethod mz_X11_seen.1 ∈ lw_good := rz_good (i := 1736) rfl rfl
set_option maxRecDepth 100000 in
theorem wse_X11_seen : Cond.selects mz_X11_seen.1.cls mz_X11_seen.1 mz_X11_seen.1 ∈ lw_good := rz_good (i := 1737) rfl rfl
theorem pr_X11_seenAt : rz_par mz_X11_seenAt.1 = some 2 := by decide +kernel
set_option maxRecDepth 100000 in
theorem win_X11_seenAt : Cond.instanceMethod mz_X11_seenAt.1 ∈ lw_good := rz_good (i := 1746) rfl rfl
set_option maxRecDepth 100000 in
theorem wse_X11_seenAt : Cond.selects mz_X11_seenAt.1.cls mz_X11_seenAt.1 mz_X11_seenAt.1 ∈ lw_good := rz_good (i := 1747) rfl rfl
theorem pr_X11_leaps : rz_par mz_X11_leaps.1 = some 4 := by decide +kernel
set_option maxRecDepth 100000 in
theorem win_X11_leaps : Cond.instanceMethod mz_X11_leaps.1 ∈ lw_good := rz_good (i := 1750) rfl rfl
set_option maxRecDepth 100000 in
theorem wse_X11_leaps : Cond.selects mz_X11_leaps.1.cls mz_X11_leaps.1 mz_X11_leaps.1 ∈ lw_good := rz_good (i := 1751) rfl rfl
theorem pr_X11_areRight : rz_par mz_X11_areRight.1 = some 2 := by decide +kernel
set_option maxRecDepth 100000 in
theorem wst_X11_areRight : Cond.static mz_X11_areRight.1 ∈ lw_good := rz_good (i := 1758) rfl rfl
theorem pr_X11_termsOf : rz_par mz_X11_termsOf.1 = some 2 := by decide +kernel
set_option maxRecDepth 100000 in
theorem wst_X11_termsOf : Cond.static mz_X11_termsOf.1 ∈ lw_good := rz_good (i := 1761) rfl rfl
theorem pr_X11_manyTerms : rz_par mz_X11_manyTerms.1 = some 1 := by decide +kernel
set_option maxRecDepth 100000 in
theorem wst_X11_manyTerms : Cond.static mz_X11_manyTerms.1 ∈ lw_good := rz_good (i := 1764) rfl rfl
theorem pr_X11_terms : rz_par mz_X11_terms.1 = some 2 := by decide +kernel
set_option maxRecDepth 100000 in
theorem win_X11_terms : Cond.instanceMethod mz_X11_terms.1 ∈ lw_good := rz_good (i := 1754) rfl rfl
set_option maxRecDepth 100000 in
theorem wse_X11_terms : Cond.selects mz_X11_terms.1.cls mz_X11_terms.1 mz_X11_terms.1 ∈ lw_good := rz_good (i := 1755) rfl rfl
theorem pr_X11_termAt : rz_par mz_X11_termAt.1 = some 3 := by decide +kernel
set_option maxRecDepth 100000 in
theorem win_X11_termAt : Cond.instanceMethod mz_X11_termAt.1 ∈ lw_good := rz_good (i := 1767) rfl rfl
set_option maxRecDepth 100000 in
theorem wse_X11_termAt : Cond.selects mz_X11_termAt.1.cls mz_X11_termAt.1 mz_X11_termAt.1 ∈ lw_good := rz_good (i := 1768) rfl rfl
theorem pr_X11_lowest : rz_par mz_X11_lowest.1 = some 3 := by decide +kernel
set_option maxRecDepth 100000 in
theorem wst_X11_lowest : Cond.static mz_X11_lowest.1 ∈ lw_good := rz_good (i := 1778) rfl rfl
theorem pr_X11_hullOf : rz_par mz_X11_hullOf.1 = some 2 := by decide +kernel
set_option maxRecDepth 100000 in
theorem wst_X11_hullOf : Cond.static mz_X11_hullOf.1 ∈ lw_good := rz_good (i := 1775) rfl rfl
theorem pr_X11_manyHull : rz_par mz_X11_manyHull.1 = some 1 := by decide +kernel
set_option maxRecDepth 100000 in
theorem wst_X11_manyHull : Cond.static mz_X11_manyHull.1 ∈ lw_good := rz_good (i := 1781) rfl rfl
theorem pr_X11_hull : rz_par mz_X11_hull.1 = some 2 := by decide +kernel
set_option maxRecDepth 100000 in
theorem win_X11_hull : Cond.instanceMethod mz_X11_hull.1 ∈ lw_good := rz_good (i := 1771) rfl rfl
set_option maxRecDepth 100000 in
theorem wse_X11_hull : Cond.selects mz_X11_hull.1.cls mz_X11_hull.1 mz_X11_hull.1 ∈ lw_good := rz_good (i := 1772) rfl rfl
theorem pr_X11_hullAt : rz_par mz_X11_hullAt.1 = some 3 := by decide +kernel
set_option maxRecDepth 100000 in
theorem win_X11_hullAt : Cond.instanceMethod mz_X11_hullAt.1 ∈ lw_good := rz_good (i := 1784) rfl rfl
set_option maxRecDepth 100000 in
theorem wse_X11_hullAt : Cond.selects mz_X11_hullAt.1.cls mz_X11_hullAt.1 mz_X11_hullAt.1 ∈ lw_good := rz_good (i := 1785) rfl rfl
theorem pr_X11_held : rz_par mz_X11_held.1 = some 0 := by decide +kernel
set_option maxRecDepth 100000 in
theorem win_X11_held : Cond.instanceMethod mz_X11_held.1 ∈ lw_good := rz_good (i := 1788) rfl rfl
set_option maxRecDepth 100000 in
theorem wse_X11_held : Cond.selects mz_X11_held.1.cls mz_X11_held.1 mz_X11_held.1 ∈ lw_good := rz_good (i := 1789) rfl rfl
theorem pr_X11_checksum : rz_par mz_X11_checksum.1 = some 0 := by decide +kernel
set_option maxRecDepth 100000 in
theorem win_X11_checksum : Cond.instanceMethod mz_X11_checksum.1 ∈ lw_good := rz_good (i := 1792) rfl rfl
set_option maxRecDepth 100000 in
theorem wse_X11_checksum : Cond.selects mz_X11_checksum.1.cls mz_X11_checksum.1 mz_X11_checksum.1 ∈ lw_good := rz_good (i := 1793) rfl rfl
theorem pr_X11_isSound : rz_par mz_X11_isSound.1 = some 0 := by decide +kernel
set_option maxRecDepth 100000 in
theorem win_X11_isSound : Cond.instanceMethod mz_X11_isSound.1 ∈ lw_good := rz_good (i := 1798) rfl rfl
set_option maxRecDepth 100000 in
theorem wse_X11_isSound : Cond.selects mz_X11_isSound.1.cls mz_X11_isSound.1 mz_X11_isSound.1 ∈ lw_good := rz_good (i := 1799) rfl rfl
theorem pr_J9_floorDiv_7cf53 : rz_par mz_J9_floorDiv_7cf53.1 = some 2 := by decide +kernel
set_option maxRecDepth 100000 in
theorem wst_J9_floorDiv_7cf53 : Cond.static mz_J9_floorDiv_7cf53.1 ∈ lw_good := rz_good (i := 1273) rfl rfl
theorem pr_J9_floorDiv_f86c9 : rz_par mz_J9_floorDiv_f86c9.1 = some 2 := by decide +kernel
set_option maxRecDepth 100000 in
theorem wst_J9_floorDiv_f86c9 : Cond.static mz_J9_floorDiv_f86c9.1 ∈ lw_good := rz_good (i := 422) rfl rfl
theorem pr_J9_floorMod_7cf53 : rz_par mz_J9_floorMod_7cf53.1 = some 2 := by decide +kernel
set_option maxRecDepth 100000 in
theorem wst_J9_floorMod_7cf53 : Cond.static mz_J9_floorMod_7cf53.1 ∈ lw_good := rz_good (i := 906) rfl rfl
theorem pr_J9_floorMod_f86c9 : rz_par mz_J9_floorMod_f86c9.1 = some 2 := by decide +kernel
set_option maxRecDepth 100000 in
theorem wst_J9_floorMod_f86c9 : Cond.static mz_J9_floorMod_f86c9.1 ∈ lw_good := rz_good (i := 479) rfl rfl
theorem pr_J9_abs_0f7a4 : rz_par mz_J9_abs_0f7a4.1 = some 1 := by decide +kernel
set_option maxRecDepth 100000 in
theorem wst_J9_abs_0f7a4 : Cond.static mz_J9_abs_0f7a4.1 ∈ lw_good := rz_good (i := 568) rfl rfl
theorem pr_J9_abs_067f4 : rz_par mz_J9_abs_067f4.1 = some 1 := by decide +kernel
set_option maxRecDepth 100000 in
theorem wst_J9_abs_067f4 : Cond.static mz_J9_abs_067f4.1 ∈ lw_good := rz_good (i := 457) rfl rfl
theorem pr_J9_max_7cf53 : rz_par mz_J9_max_7cf53.1 = some 2 := by decide +kernel
set_option maxRecDepth 100000 in
theorem wst_J9_max_7cf53 : Cond.static mz_J9_max_7cf53.1 ∈ lw_good := rz_good (i := 539) rfl rfl
theorem pr_J9_max_f86c9 : rz_par mz_J9_max_f86c9.1 = some 2 := by decide +kernel
set_option maxRecDepth 100000 in
theorem wst_J9_max_f86c9 : Cond.static mz_J9_max_f86c9.1 ∈ lw_good := rz_good (i := 553) rfl rfl
theorem pr_J9_min_7cf53 : rz_par mz_J9_min_7cf53.1 = some 2 := by decide +kernel
set_option maxRecDepth 100000 in
theorem wst_J9_min_7cf53 : Cond.static mz_J9_min_7cf53.1 ∈ lw_good := rz_good (i := 532) rfl rfl
theorem pr_J9_min_f86c9 : rz_par mz_J9_min_f86c9.1 = some 2 := by decide +kernel
set_option maxRecDepth 100000 in
theorem wst_J9_min_f86c9 : Cond.static mz_J9_min_f86c9.1 ∈ lw_good := rz_good (i := 550) rfl rfl
theorem pr_J7_fill_53178 : rz_par mz_J7_fill_53178.1 = some 2 := by decide +kernel
set_option maxRecDepth 100000 in
theorem wst_J7_fill_53178 : Cond.static mz_J7_fill_53178.1 ∈ lw_good := rz_good (i := 1034) rfl rfl
theorem pr_L_spanned : rz_par mz_L_spanned.1 = some 7 := by decide +kernel
set_option maxRecDepth 100000 in
theorem wst_L_spanned : Cond.static mz_L_spanned.1 ∈ lw_good := rz_good (i := 629) rfl rfl
theorem pr_L_remainder : rz_par mz_L_remainder.1 = some 6 := by decide +kernel
set_option maxRecDepth 100000 in
theorem wst_L_remainder : Cond.static mz_L_remainder.1 ∈ lw_good := rz_good (i := 756) rfl rfl
theorem pr_L_nth : rz_par mz_L_nth.1 = some 5 := by decide +kernel
set_option maxRecDepth 100000 in
theorem wst_L_nth : Cond.static mz_L_nth.1 ∈ lw_good := rz_good (i := 766) rfl rfl
theorem pr_L_grids : rz_par mz_L_grids.1 = some 3 := by decide +kernel
set_option maxRecDepth 100000 in
theorem wst_L_grids : Cond.static mz_L_grids.1 ∈ lw_good := rz_good (i := 793) rfl rfl
theorem pr_L_form : rz_par mz_L_form.1 = some 4 := by decide +kernel
set_option maxRecDepth 100000 in
theorem wst_L_form : Cond.static mz_L_form.1 ∈ lw_good := rz_good (i := 800) rfl rfl
theorem pr_L_has : rz_par mz_L_has.1 = some 5 := by decide +kernel
set_option maxRecDepth 100000 in
theorem wst_L_has : Cond.static mz_L_has.1 ∈ lw_good := rz_good (i := 813) rfl rfl
theorem pr_L_isSame : rz_par mz_L_isSame.1 = some 4 := by decide +kernel
set_option maxRecDepth 100000 in
theorem wst_L_isSame : Cond.static mz_L_isSame.1 ∈ lw_good := rz_good (i := 820) rfl rfl
theorem pr_L_parts : rz_par mz_L_parts.1 = some 4 := by decide +kernel
set_option maxRecDepth 100000 in
theorem wst_L_parts : Cond.static mz_L_parts.1 ∈ lw_good := rz_good (i := 827) rfl rfl
theorem pr_L_meet : rz_par mz_L_meet.1 = some 5 := by decide +kernel
set_option maxRecDepth 100000 in
theorem wst_L_meet : Cond.static mz_L_meet.1 ∈ lw_good := rz_good (i := 835) rfl rfl
theorem pr_L_join : rz_par mz_L_join.1 = some 5 := by decide +kernel
set_option maxRecDepth 100000 in
theorem wst_L_join : Cond.static mz_L_join.1 ∈ lw_good := rz_good (i := 859) rfl rfl
theorem pr_L_undo : rz_par mz_L_undo.1 = some 2 := by decide +kernel
set_option maxRecDepth 100000 in
theorem wst_L_undo : Cond.static mz_L_undo.1 ∈ lw_good := rz_good (i := 866) rfl rfl
theorem pr_L_stepX : rz_par mz_L_stepX.1 = some 4 := by decide +kernel
set_option maxRecDepth 100000 in
theorem wst_L_stepX : Cond.static mz_L_stepX.1 ∈ lw_good := rz_good (i := 874) rfl rfl
theorem pr_L_stepY : rz_par mz_L_stepY.1 = some 4 := by decide +kernel
set_option maxRecDepth 100000 in
theorem wst_L_stepY : Cond.static mz_L_stepY.1 ∈ lw_good := rz_good (i := 881) rfl rfl
theorem pr_L_second : rz_par mz_L_second.1 = some 3 := by decide +kernel
set_option maxRecDepth 100000 in
theorem wst_L_second : Cond.static mz_L_second.1 ∈ lw_good := rz_good (i := 888) rfl rfl
theorem pr_L_steps : rz_par mz_L_steps.1 = some 4 := by decide +kernel
set_option maxRecDepth 100000 in
theorem wst_L_steps : Cond.static mz_L_steps.1 ∈ lw_good := rz_good (i := 895) rfl rfl
theorem pr_L_nearX : rz_par mz_L_nearX.1 = some 5 := by decide +kernel
set_option maxRecDepth 100000 in
theorem wst_L_nearX : Cond.static mz_L_nearX.1 ∈ lw_good := rz_good (i := 909) rfl rfl
theorem pr_L_nearY : rz_par mz_L_nearY.1 = some 5 := by decide +kernel
set_option maxRecDepth 100000 in
theorem wst_L_nearY : Cond.static mz_L_nearY.1 ∈ lw_good := rz_good (i := 929) rfl rfl
theorem pr_L_corners : rz_par mz_L_corners.1 = some 3 := by decide +kernel
set_option maxRecDepth 100000 in
theorem wst_L_corners : Cond.static mz_L_corners.1 ∈ lw_good := rz_good (i := 936) rfl rfl
theorem pr_L_tellCorner : rz_par mz_L_tellCorner.1 = some 5 := by decide +kernel
set_option maxRecDepth 100000 in
theorem wst_L_tellCorner : Cond.static mz_L_tellCorner.1 ∈ lw_good := rz_good (i := 962) rfl rfl
theorem pr_L_signAt : rz_par mz_L_signAt.1 = some 3 := by decide +kernel
set_option maxRecDepth 100000 in
theorem wst_L_signAt : Cond.static mz_L_signAt.1 ∈ lw_good := rz_good (i := 1003) rfl rfl
theorem pr_L_coins : rz_par mz_L_coins.1 = some 6 := by decide +kernel
set_option maxRecDepth 100000 in
theorem wst_L_coins : Cond.static mz_L_coins.1 ∈ lw_good := rz_good (i := 1015) rfl rfl
theorem pr_L_lacks : rz_par mz_L_lacks.1 = some 2 := by decide +kernel
set_option maxRecDepth 100000 in
theorem wst_L_lacks : Cond.static mz_L_lacks.1 ∈ lw_good := rz_good (i := 1045) rfl rfl
theorem pr_L_lackAt : rz_par mz_L_lackAt.1 = some 3 := by decide +kernel
set_option maxRecDepth 100000 in
theorem wst_L_lackAt : Cond.static mz_L_lackAt.1 ∈ lw_good := rz_good (i := 1057) rfl rfl
theorem pr_L_canMake : rz_par mz_L_canMake.1 = some 3 := by decide +kernel
set_option maxRecDepth 100000 in
theorem wst_L_canMake : Cond.static mz_L_canMake.1 ∈ lw_good := rz_good (i := 1069) rfl rfl
theorem pr_L_fewest : rz_par mz_L_fewest.1 = some 3 := by decide +kernel
set_option maxRecDepth 100000 in
theorem wst_L_fewest : Cond.static mz_L_fewest.1 ∈ lw_good := rz_good (i := 1077) rfl rfl
theorem pr_L_ways : rz_par mz_L_ways.1 = some 3 := by decide +kernel
set_option maxRecDepth 100000 in
theorem wst_L_ways : Cond.static mz_L_ways.1 ∈ lw_good := rz_good (i := 1085) rfl rfl
theorem pr_L_corner : rz_par mz_L_corner.1 = some 4 := by decide +kernel
set_option maxRecDepth 100000 in
theorem wst_L_corner : Cond.static mz_L_corner.1 ∈ lw_good := rz_good (i := 1100) rfl rfl
theorem pr_L_close : rz_par mz_L_close.1 = some 2 := by decide +kernel
set_option maxRecDepth 100000 in
theorem wst_L_close : Cond.static mz_L_close.1 ∈ lw_good := rz_good (i := 1112) rfl rfl
theorem pr_L_rim : rz_par mz_L_rim.1 = some 2 := by decide +kernel
set_option maxRecDepth 100000 in
theorem wst_L_rim : Cond.static mz_L_rim.1 ∈ lw_good := rz_good (i := 1178) rfl rfl
theorem pr_L_within : rz_par mz_L_within.1 = some 2 := by decide +kernel
set_option maxRecDepth 100000 in
theorem wst_L_within : Cond.static mz_L_within.1 ∈ lw_good := rz_good (i := 1191) rfl rfl
theorem pr_L_where : rz_par mz_L_where.1 = some 4 := by decide +kernel
set_option maxRecDepth 100000 in
theorem wst_L_where : Cond.static mz_L_where.1 ∈ lw_good := rz_good (i := 1198) rfl rfl
theorem pr_L_isConvex : rz_par mz_L_isConvex.1 = some 2 := by decide +kernel
set_option maxRecDepth 100000 in
theorem wst_L_isConvex : Cond.static mz_L_isConvex.1 ∈ lw_good := rz_good (i := 1209) rfl rfl
theorem pr_L_grown : rz_par mz_L_grown.1 = some 3 := by decide +kernel
set_option maxRecDepth 100000 in
theorem wst_L_grown : Cond.static mz_L_grown.1 ∈ lw_good := rz_good (i := 1220) rfl rfl
theorem pr_L_triangleAt : rz_par mz_L_triangleAt.1 = some 4 := by decide +kernel
set_option maxRecDepth 100000 in
theorem wst_L_triangleAt : Cond.static mz_L_triangleAt.1 ∈ lw_good := rz_good (i := 1235) rfl rfl
theorem pr_L_tiles : rz_par mz_L_tiles.1 = some 3 := by decide +kernel
set_option maxRecDepth 100000 in
theorem wst_L_tiles : Cond.static mz_L_tiles.1 ∈ lw_good := rz_good (i := 1247) rfl rfl
theorem pr_L_seen : rz_par mz_L_seen.1 = some 3 := by decide +kernel
set_option maxRecDepth 100000 in
theorem wst_L_seen : Cond.static mz_L_seen.1 ∈ lw_good := rz_good (i := 1280) rfl rfl
theorem pr_L_seenAt : rz_par mz_L_seenAt.1 = some 4 := by decide +kernel
set_option maxRecDepth 100000 in
theorem wst_L_seenAt : Cond.static mz_L_seenAt.1 ∈ lw_good := rz_good (i := 1287) rfl rfl
theorem pr_L_leaps : rz_par mz_L_leaps.1 = some 6 := by decide +kernel
set_option maxRecDepth 100000 in
theorem wst_L_leaps : Cond.static mz_L_leaps.1 ∈ lw_good := rz_good (i := 1295) rfl rfl
theorem pr_L_terms : rz_par mz_L_terms.1 = some 4 := by decide +kernel
set_option maxRecDepth 100000 in
theorem wst_L_terms : Cond.static mz_L_terms.1 ∈ lw_good := rz_good (i := 1324) rfl rfl
theorem pr_L_termAt : rz_par mz_L_termAt.1 = some 5 := by decide +kernel
set_option maxRecDepth 100000 in
theorem wst_L_termAt : Cond.static mz_L_termAt.1 ∈ lw_good := rz_good (i := 1337) rfl rfl
theorem pr_L_hull : rz_par mz_L_hull.1 = some 4 := by decide +kernel
set_option maxRecDepth 100000 in
theorem wst_L_hull : Cond.static mz_L_hull.1 ∈ lw_good := rz_good (i := 1348) rfl rfl
theorem pr_L_hullAt : rz_par mz_L_hullAt.1 = some 5 := by decide +kernel
set_option maxRecDepth 100000 in
theorem wst_L_hullAt : Cond.static mz_L_hullAt.1 ∈ lw_good := rz_good (i := 1355) rfl rfl
set_option maxRecDepth 100000 in
theorem woi : Cond.instanceMethod objectInit ∈ lw_good := rz_good (i := 101) rfl rfl
set_option maxRecDepth 100000 in
theorem woc : Cond.code objectInit ⟨#[0xb1]⟩ 1 none ∈ lw_good := rz_good (i := 102) rfl rfl
set_option maxRecDepth 100000 in
theorem cf_0_0 : rz_cf 0 (3, 9, 0, 1, 0, 110, 101, 0, 0, 102) := Or.inl ⟨rfl, rz_good (i := 110) rfl rfl, woi, woc, rfl⟩
set_option maxRecDepth 100000 in
theorem cf_0_1 : rz_cf 0 (45, 1, 2, 1, 0, 412, 414, 2, 74, 415) := Or.inr ⟨mz_X0_swap, rfl, Or.inr (Or.inl ⟨rfl, rz_good (i := 412) rfl rfl, win_X0_swap, wse_X0_swap, ⟨0, pr_X0_swap, rfl⟩, rfl, rfl⟩)⟩
set_option maxRecDepth 100000 in
theorem cf_0_2 : rz_cf 0 (50, 1, 3, 1, 0, 417, 418, 419, 74, 420) := Or.inr ⟨mz_X0_product, rfl, Or.inr (Or.inl ⟨rfl, rz_good (i := 417) rfl rfl, win_X0_product, wse_X0_product, ⟨0, pr_X0_product, rfl⟩, rfl, rfl⟩)⟩
set_option maxRecDepth 100000 in
theorem cf_0_3 : rz_cf 0 (54, 0, 267, 2, 0, 421, 422, 0, 90, 423) := Or.inr ⟨mz_J9_floorDiv_f86c9, rfl, Or.inl ⟨rfl, rz_good (i := 421) rfl rfl, wst_J9_floorDiv_f86c9, pr_J9_floorDiv_f86c9, rfl⟩⟩
set_option maxRecDepth 100000 in
theorem cf_0_4 : rz_cf 0 (60, 1, 4, 1, 0, 424, 425, 426, 74, 427) := Or.inr ⟨mz_X0_turn, rfl, Or.inr (Or.inl ⟨rfl, rz_good (i := 424) rfl rfl, win_X0_turn, wse_X0_turn, ⟨0, pr_X0_turn, rfl⟩, rfl, rfl⟩)⟩
set_option maxRecDepth 100000 in
theorem cf_0_5 : rz_cf 0 (65, 1, 6, 5, 0, 924, 926, 19, 74, 927) := Or.inr ⟨mz_X0_compare, rfl, Or.inr (Or.inl ⟨rfl, rz_good (i := 924) rfl rfl, win_X0_compare, wse_X0_compare, ⟨4, pr_X0_compare, rfl⟩, rfl, rfl⟩)⟩
set_option maxRecDepth 100000 in
theorem cfa_0 : ∀ q ∈ rz_clT.getD 0 [], rz_cf 0 q := by
  show ∀ q ∈ [(3, 9, 0, 1, 0, 110, 101, 0, 0, 102), (45, 1, 2, 1, 0, 412, 414, 2, 74, 415), (50, 1, 3, 1, 0, 417, 418, 419, 74, 420), (54, 0, 267, 2, 0, 421, 422, 0, 90, 423), (60, 1, 4, 1, 0, 424, 425, 426, 74, 427), (65, 1, 6, 5, 0, 924, 926, 19, 74, 927)], rz_cf 0 q
  intro q hq
  simp only [List.mem_cons, List.not_mem_nil, or_false] at hq
  rcases hq with rfl | rfl | rfl | rfl | rfl | rfl
  · exact cf_0_0
  · exact cf_0_1
  · exact cf_0_2
  · exact cf_0_3
  · exact cf_0_4
  · exact cf_0_5
set_option maxRecDepth 100000 in
theorem cf_1_0 : rz_cf 1 (1, 9, 0, 1, 0, 169, 101, 0, 0, 102) := Or.inl ⟨rfl, rz_good (i := 169) rfl rfl, woi, woc, rfl⟩
set_option maxRecDepth 100000 in
theorem cf_1_1 : rz_cf 1 (29, 1, 4, 1, 0, 951, 425, 426, 74, 427) := Or.inr ⟨mz_X0_turn, rfl, Or.inr (Or.inl ⟨rfl, rz_good (i := 951) rfl rfl, win_X0_turn, wse_X0_turn, ⟨0, pr_X0_turn, rfl⟩, rfl, rfl⟩)⟩
set_option maxRecDepth 100000 in
theorem cf_1_2 : rz_cf 1 (47, 1, 3, 1, 0, 952, 418, 419, 74, 420) := Or.inr ⟨mz_X0_product, rfl, Or.inr (Or.inl ⟨rfl, rz_good (i := 952) rfl rfl, win_X0_product, wse_X0_product, ⟨0, pr_X0_product, rfl⟩, rfl, rfl⟩)⟩
set_option maxRecDepth 100000 in
theorem cf_1_3 : rz_cf 1 (50, 1, 9, 6, 1, 953, 955, 21, 76, 956) := Or.inr ⟨mz_X1_put, rfl, Or.inr (Or.inl ⟨rfl, rz_good (i := 953) rfl rfl, win_X1_put, wse_X1_put, ⟨5, pr_X1_put, rfl⟩, rfl, rfl⟩)⟩
set_option maxRecDepth 100000 in
theorem cf_1_4 : rz_cf 1 (54, 1, 10, 1, 1, 957, 959, 22, 76, 960) := Or.inr ⟨mz_X1_findFirst, rfl, Or.inr (Or.inl ⟨rfl, rz_good (i := 957) rfl rfl, win_X1_findFirst, wse_X1_findFirst, ⟨0, pr_X1_findFirst, rfl⟩, rfl, rfl⟩)⟩
set_option maxRecDepth 100000 in
theorem cf_1_5 : rz_cf 1 (57, 1, 13, 2, 1, 973, 975, 23, 76, 976) := Or.inr ⟨mz_X1_placeOfCorner, rfl, Or.inr (Or.inl ⟨rfl, rz_good (i := 973) rfl rfl, win_X1_placeOfCorner, wse_X1_placeOfCorner, ⟨1, pr_X1_placeOfCorner, rfl⟩, rfl, rfl⟩)⟩
set_option maxRecDepth 100000 in
theorem cf_1_6 : rz_cf 1 (61, 0, 268, 2, 0, 977, 906, 0, 90, 907) := Or.inr ⟨mz_J9_floorMod_7cf53, rfl, Or.inl ⟨rfl, rz_good (i := 977) rfl rfl, wst_J9_floorMod_7cf53, pr_J9_floorMod_7cf53, rfl⟩⟩
set_option maxRecDepth 100000 in
theorem cfa_1 : ∀ q ∈ rz_clT.getD 1 [], rz_cf 1 q := by
  show ∀ q ∈ [(1, 9, 0, 1, 0, 169, 101, 0, 0, 102), (29, 1, 4, 1, 0, 951, 425, 426, 74, 427), (47, 1, 3, 1, 0, 952, 418, 419, 74, 420), (50, 1, 9, 6, 1, 953, 955, 21, 76, 956), (54, 1, 10, 1, 1, 957, 959, 22, 76, 960), (57, 1, 13, 2, 1, 973, 975, 23, 76, 976), (61, 0, 268, 2, 0, 977, 906, 0, 90, 907)], rz_cf 1 q
  intro q hq
  simp only [List.mem_cons, List.not_mem_nil, or_false] at hq
  rcases hq with rfl | rfl | rfl | rfl | rfl | rfl | rfl
  · exact cf_1_0
  · exact cf_1_1
  · exact cf_1_2
  · exact cf_1_3
  · exact cf_1_4
  · exact cf_1_5
  · exact cf_1_6
set_option maxRecDepth 100000 in
theorem cf_2_0 : rz_cf 2 (3, 9, 0, 1, 0, 242, 101, 0, 0, 102) := Or.inl ⟨rfl, rz_good (i := 242) rfl rfl, woi, woc, rfl⟩
set_option maxRecDepth 100000 in
theorem cf_2_1 : rz_cf 2 (30, 0, 274, 2, 0, 1152, 532, 0, 90, 533) := Or.inr ⟨mz_J9_min_7cf53, rfl, Or.inl ⟨rfl, rz_good (i := 1152) rfl rfl, wst_J9_min_7cf53, pr_J9_min_7cf53, rfl⟩⟩
set_option maxRecDepth 100000 in
theorem cf_2_2 : rz_cf 2 (36, 1, 16, 2, 2, 1153, 1155, 34, 80, 1156) := Or.inr ⟨mz_X2_cutFirst, rfl, Or.inr (Or.inl ⟨rfl, rz_good (i := 1153) rfl rfl, win_X2_cutFirst, wse_X2_cutFirst, ⟨1, pr_X2_cutFirst, rfl⟩, rfl, rfl⟩)⟩
set_option maxRecDepth 100000 in
theorem cf_2_3 : rz_cf 2 (48, 1, 20, 3, 2, 1157, 1159, 35, 80, 1160) := Or.inr ⟨mz_X2_isEar, rfl, Or.inr (Or.inl ⟨rfl, rz_good (i := 1157) rfl rfl, win_X2_isEar, wse_X2_isEar, ⟨2, pr_X2_isEar, rfl⟩, rfl, rfl⟩)⟩
set_option maxRecDepth 100000 in
theorem cf_2_4 : rz_cf 2 (40, 1, 17, 2, 2, 1161, 1163, 36, 80, 1164) := Or.inr ⟨mz_X2_leftAt, rfl, Or.inr (Or.inl ⟨rfl, rz_good (i := 1161) rfl rfl, win_X2_leftAt, wse_X2_leftAt, ⟨1, pr_X2_leftAt, rfl⟩, rfl, rfl⟩)⟩
set_option maxRecDepth 100000 in
theorem cf_2_5 : rz_cf 2 (56, 0, 268, 2, 0, 1165, 906, 0, 90, 907) := Or.inr ⟨mz_J9_floorMod_7cf53, rfl, Or.inl ⟨rfl, rz_good (i := 1165) rfl rfl, wst_J9_floorMod_7cf53, pr_J9_floorMod_7cf53, rfl⟩⟩
set_option maxRecDepth 100000 in
theorem cf_2_6 : rz_cf 2 (59, 1, 58, 1, 6, 1166, 564, 565, 79, 566) := Or.inr ⟨mz_X6_signedArea, rfl, Or.inr (Or.inl ⟨rfl, rz_good (i := 1166) rfl rfl, win_X6_signedArea, wse_X6_signedArea, ⟨0, pr_X6_signedArea, rfl⟩, rfl, rfl⟩)⟩
set_option maxRecDepth 100000 in
theorem cf_2_7 : rz_cf 2 (63, 1, 57, 4, 6, 1167, 1136, 1137, 79, 1138) := Or.inr ⟨mz_X6_turn, rfl, Or.inr (Or.inl ⟨rfl, rz_good (i := 1167) rfl rfl, win_X6_turn, wse_X6_turn, ⟨3, pr_X6_turn, rfl⟩, rfl, rfl⟩)⟩
set_option maxRecDepth 100000 in
theorem cf_2_8 : rz_cf 2 (44, 1, 19, 4, 2, 1168, 1170, 37, 80, 1171) := Or.inr ⟨mz_X2_keep, rfl, Or.inr (Or.inl ⟨rfl, rz_good (i := 1168) rfl rfl, win_X2_keep, wse_X2_keep, ⟨3, pr_X2_keep, rfl⟩, rfl, rfl⟩)⟩
set_option maxRecDepth 100000 in
theorem cf_2_9 : rz_cf 2 (52, 1, 18, 2, 2, 1172, 1174, 38, 80, 1175) := Or.inr ⟨mz_X2_remove, rfl, Or.inr (Or.inl ⟨rfl, rz_good (i := 1172) rfl rfl, win_X2_remove, wse_X2_remove, ⟨1, pr_X2_remove, rfl⟩, rfl, rfl⟩)⟩
set_option maxRecDepth 100000 in
theorem cfa_2 : ∀ q ∈ rz_clT.getD 2 [], rz_cf 2 q := by
  show ∀ q ∈ [(3, 9, 0, 1, 0, 242, 101, 0, 0, 102), (30, 0, 274, 2, 0, 1152, 532, 0, 90, 533), (36, 1, 16, 2, 2, 1153, 1155, 34, 80, 1156), (48, 1, 20, 3, 2, 1157, 1159, 35, 80, 1160), (40, 1, 17, 2, 2, 1161, 1163, 36, 80, 1164), (56, 0, 268, 2, 0, 1165, 906, 0, 90, 907), (59, 1, 58, 1, 6, 1166, 564, 565, 79, 566), (63, 1, 57, 4, 6, 1167, 1136, 1137, 79, 1138), (44, 1, 19, 4, 2, 1168, 1170, 37, 80, 1171), (52, 1, 18, 2, 2, 1172, 1174, 38, 80, 1175)], rz_cf 2 q
  intro q hq
  simp only [List.mem_cons, List.not_mem_nil, or_false] at hq
  rcases hq with rfl | rfl | rfl | rfl | rfl | rfl | rfl | rfl | rfl | rfl
  · exact cf_2_0
  · exact cf_2_1
  · exact cf_2_2
  · exact cf_2_3
  · exact cf_2_4
  · exact cf_2_5
  · exact cf_2_6
  · exact cf_2_7
  · exact cf_2_8
  · exact cf_2_9
set_option maxRecDepth 100000 in
theorem cf_3_0 : rz_cf 3 (21, 3, 163, 2, 0, 469, 470, 0, 73, 471) := Or.inr ⟨mz_X10_gcd, rfl, Or.inr (Or.inr (Or.inr (Or.inl ⟨rfl, List.mem_of_getElem? (i := 9) rfl, wst_X10_gcd, pr_X10_gcd, rfl⟩)))⟩
set_option maxRecDepth 100000 in
theorem cf_3_1 : rz_cf 3 (37, 0, 23, 5, 0, 472, 473, 0, 89, 474) := Or.inr ⟨mz_X3_generated, rfl, Or.inl ⟨rfl, rz_good (i := 472) rfl rfl, wst_X3_generated, pr_X3_generated, rfl⟩⟩
set_option maxRecDepth 100000 in
theorem cf_3_2 : rz_cf 3 (25, 0, 271, 1, 0, 477, 457, 0, 90, 458) := Or.inr ⟨mz_J9_abs_067f4, rfl, Or.inl ⟨rfl, rz_good (i := 477) rfl rfl, wst_J9_abs_067f4, pr_J9_abs_067f4, rfl⟩⟩
set_option maxRecDepth 100000 in
theorem cf_3_3 : rz_cf 3 (31, 0, 269, 2, 0, 478, 479, 0, 90, 480) := Or.inr ⟨mz_J9_floorMod_f86c9, rfl, Or.inl ⟨rfl, rz_good (i := 478) rfl rfl, wst_J9_floorMod_f86c9, pr_J9_floorMod_f86c9, rfl⟩⟩
set_option maxRecDepth 100000 in
theorem cf_3_4 : rz_cf 3 (34, 2, 22, 4, 0, 481, 482, 0, 89, 483) := Or.inr ⟨mz_X3_init, rfl, Or.inr (Or.inr (Or.inl ⟨rfl, rz_good (i := 481) rfl rfl, win_X3_init, rfl, ⟨3, pr_X3_init, rfl⟩, rfl, rfl⟩))⟩
set_option maxRecDepth 100000 in
theorem cf_3_5 : rz_cf 3 (3, 9, 0, 1, 0, 484, 101, 0, 0, 102) := Or.inl ⟨rfl, rz_good (i := 484) rfl rfl, woi, woc, rfl⟩
set_option maxRecDepth 100000 in
theorem cf_3_6 : rz_cf 3 (48, 1, 32, 3, 3, 505, 453, 454, 89, 455) := Or.inr ⟨mz_X3_contains, rfl, Or.inr (Or.inl ⟨rfl, rz_good (i := 505) rfl rfl, win_X3_contains, wse_X3_contains, ⟨2, pr_X3_contains, rfl⟩, rfl, rfl⟩)⟩
set_option maxRecDepth 100000 in
theorem cf_3_7 : rz_cf 3 (41, 0, 27, 2, 0, 509, 510, 0, 89, 511) := Or.inr ⟨mz_X3_meetWidth, rfl, Or.inl ⟨rfl, rz_good (i := 509) rfl rfl, wst_X3_meetWidth, pr_X3_meetWidth, rfl⟩⟩
set_option maxRecDepth 100000 in
theorem cf_3_8 : rz_cf 3 (45, 0, 28, 2, 0, 512, 513, 0, 89, 514) := Or.inr ⟨mz_X3_meetHeight, rfl, Or.inl ⟨rfl, rz_good (i := 512) rfl rfl, wst_X3_meetHeight, pr_X3_meetHeight, rfl⟩⟩
set_option maxRecDepth 100000 in
theorem cf_3_9 : rz_cf 3 (52, 0, 268, 2, 0, 905, 906, 0, 90, 907) := Or.inr ⟨mz_J9_floorMod_7cf53, rfl, Or.inl ⟨rfl, rz_good (i := 905) rfl rfl, wst_J9_floorMod_7cf53, pr_J9_floorMod_7cf53, rfl⟩⟩
set_option maxRecDepth 100000 in
theorem cf_3_10 : rz_cf 3 (55, 0, 266, 2, 0, 1272, 1273, 0, 90, 1274) := Or.inr ⟨mz_J9_floorDiv_7cf53, rfl, Or.inl ⟨rfl, rz_good (i := 1272) rfl rfl, wst_J9_floorDiv_7cf53, pr_J9_floorDiv_7cf53, rfl⟩⟩
set_option maxRecDepth 100000 in
theorem cfa_3 : ∀ q ∈ rz_clT.getD 3 [], rz_cf 3 q := by
  show ∀ q ∈ [(21, 3, 163, 2, 0, 469, 470, 0, 73, 471), (37, 0, 23, 5, 0, 472, 473, 0, 89, 474), (25, 0, 271, 1, 0, 477, 457, 0, 90, 458), (31, 0, 269, 2, 0, 478, 479, 0, 90, 480), (34, 2, 22, 4, 0, 481, 482, 0, 89, 483), (3, 9, 0, 1, 0, 484, 101, 0, 0, 102), (48, 1, 32, 3, 3, 505, 453, 454, 89, 455), (41, 0, 27, 2, 0, 509, 510, 0, 89, 511), (45, 0, 28, 2, 0, 512, 513, 0, 89, 514), (52, 0, 268, 2, 0, 905, 906, 0, 90, 907), (55, 0, 266, 2, 0, 1272, 1273, 0, 90, 1274)], rz_cf 3 q
  intro q hq
  simp only [List.mem_cons, List.not_mem_nil, or_false] at hq
  rcases hq with rfl | rfl | rfl | rfl | rfl | rfl | rfl | rfl | rfl | rfl | rfl
  · exact cf_3_0
  · exact cf_3_1
  · exact cf_3_2
  · exact cf_3_3
  · exact cf_3_4
  · exact cf_3_5
  · exact cf_3_6
  · exact cf_3_7
  · exact cf_3_8
  · exact cf_3_9
  · exact cf_3_10
set_option maxRecDepth 100000 in
theorem cf_4_0 : rz_cf 4 (3, 9, 0, 1, 0, 306, 101, 0, 0, 102) := Or.inl ⟨rfl, rz_good (i := 306) rfl rfl, woi, woc, rfl⟩
set_option maxRecDepth 100000 in
theorem cf_4_1 : rz_cf 4 (22, 0, 38, 3, 0, 601, 602, 0, 82, 603) := Or.inr ⟨mz_X4_lowest, rfl, Or.inl ⟨rfl, rz_good (i := 601) rfl rfl, wst_X4_lowest, pr_X4_lowest, rfl⟩⟩
set_option maxRecDepth 100000 in
theorem cf_4_2 : rz_cf 4 (26, 1, 42, 5, 4, 604, 606, 12, 82, 607) := Or.inr ⟨mz_X4_turn, rfl, Or.inr (Or.inl ⟨rfl, rz_good (i := 604) rfl rfl, win_X4_turn, wse_X4_turn, ⟨4, pr_X4_turn, rfl⟩, rfl, rfl⟩)⟩
set_option maxRecDepth 100000 in
theorem cf_4_3 : rz_cf 4 (34, 1, 40, 2, 4, 608, 609, 610, 82, 611) := Or.inr ⟨mz_X4_xOf, rfl, Or.inr (Or.inl ⟨rfl, rz_good (i := 608) rfl rfl, win_X4_xOf, wse_X4_xOf, ⟨1, pr_X4_xOf, rfl⟩, rfl, rfl⟩)⟩
set_option maxRecDepth 100000 in
theorem cf_4_4 : rz_cf 4 (38, 1, 41, 2, 4, 612, 613, 614, 82, 615) := Or.inr ⟨mz_X4_yOf, rfl, Or.inr (Or.inl ⟨rfl, rz_good (i := 612) rfl rfl, win_X4_yOf, wse_X4_yOf, ⟨1, pr_X4_yOf, rfl⟩, rfl, rfl⟩)⟩
set_option maxRecDepth 100000 in
theorem cf_4_5 : rz_cf 4 (30, 1, 39, 3, 4, 616, 618, 13, 82, 619) := Or.inr ⟨mz_X4_add, rfl, Or.inr (Or.inl ⟨rfl, rz_good (i := 616) rfl rfl, win_X4_add, wse_X4_add, ⟨2, pr_X4_add, rfl⟩, rfl, rfl⟩)⟩
set_option maxRecDepth 100000 in
theorem cfa_4 : ∀ q ∈ rz_clT.getD 4 [], rz_cf 4 q := by
  show ∀ q ∈ [(3, 9, 0, 1, 0, 306, 101, 0, 0, 102), (22, 0, 38, 3, 0, 601, 602, 0, 82, 603), (26, 1, 42, 5, 4, 604, 606, 12, 82, 607), (34, 1, 40, 2, 4, 608, 609, 610, 82, 611), (38, 1, 41, 2, 4, 612, 613, 614, 82, 615), (30, 1, 39, 3, 4, 616, 618, 13, 82, 619)], rz_cf 4 q
  intro q hq
  simp only [List.mem_cons, List.not_mem_nil, or_false] at hq
  rcases hq with rfl | rfl | rfl | rfl | rfl | rfl
  · exact cf_4_0
  · exact cf_4_1
  · exact cf_4_2
  · exact cf_4_3
  · exact cf_4_4
  · exact cf_4_5
set_option maxRecDepth 100000 in
theorem cf_5_0 : rz_cf 5 (3, 9, 0, 1, 0, 290, 101, 0, 0, 102) := Or.inl ⟨rfl, rz_good (i := 290) rfl rfl, woi, woc, rfl⟩
set_option maxRecDepth 100000 in
theorem cf_5_1 : rz_cf 5 (20, 0, 276, 2, 0, 1306, 1034, 0, 94, 1035) := Or.inr ⟨mz_J7_fill_53178, rfl, Or.inl ⟨rfl, rz_good (i := 1306) rfl rfl, wst_J7_fill_53178, pr_J7_fill_53178, rfl⟩⟩
set_option maxRecDepth 100000 in
theorem cf_5_2 : rz_cf 5 (26, 0, 49, 2, 0, 1307, 1308, 0, 81, 1309) := Or.inr ⟨mz_X5_placeOfPoint, rfl, Or.inl ⟨rfl, rz_good (i := 1307) rfl rfl, wst_X5_placeOfPoint, pr_X5_placeOfPoint, rfl⟩⟩
set_option maxRecDepth 100000 in
theorem cf_5_3 : rz_cf 5 (30, 1, 48, 4, 5, 1310, 1312, 42, 81, 1313) := Or.inr ⟨mz_X5_comeTo, rfl, Or.inr (Or.inl ⟨rfl, rz_good (i := 1310) rfl rfl, win_X5_comeTo, wse_X5_comeTo, ⟨3, pr_X5_comeTo, rfl⟩, rfl, rfl⟩)⟩
set_option maxRecDepth 100000 in
theorem cf_5_4 : rz_cf 5 (34, 1, 47, 4, 5, 1314, 1316, 43, 81, 1317) := Or.inr ⟨mz_X5_leapFrom, rfl, Or.inr (Or.inl ⟨rfl, rz_good (i := 1314) rfl rfl, win_X5_leapFrom, wse_X5_leapFrom, ⟨3, pr_X5_leapFrom, rfl⟩, rfl, rfl⟩)⟩
set_option maxRecDepth 100000 in
theorem cfa_5 : ∀ q ∈ rz_clT.getD 5 [], rz_cf 5 q := by
  show ∀ q ∈ [(3, 9, 0, 1, 0, 290, 101, 0, 0, 102), (20, 0, 276, 2, 0, 1306, 1034, 0, 94, 1035), (26, 0, 49, 2, 0, 1307, 1308, 0, 81, 1309), (30, 1, 48, 4, 5, 1310, 1312, 42, 81, 1313), (34, 1, 47, 4, 5, 1314, 1316, 43, 81, 1317)], rz_cf 5 q
  intro q hq
  simp only [List.mem_cons, List.not_mem_nil, or_false] at hq
  rcases hq with rfl | rfl | rfl | rfl | rfl
  · exact cf_5_0
  · exact cf_5_1
  · exact cf_5_2
  · exact cf_5_3
  · exact cf_5_4
set_option maxRecDepth 100000 in
theorem cf_6_0 : rz_cf 6 (3, 9, 0, 1, 0, 236, 101, 0, 0, 102) := Or.inl ⟨rfl, rz_good (i := 236) rfl rfl, woi, woc, rfl⟩
set_option maxRecDepth 100000 in
theorem cf_6_1 : rz_cf 6 (21, 4, 14, 1, 0, 239, 240, 0, 80, 241) := Or.inr ⟨mz_X2_init, rfl, Or.inr (Or.inr (Or.inr (Or.inr (Or.inl ⟨rfl, List.mem_of_getElem? (i := 6) rfl, win_X2_init, rfl, ⟨0, pr_X2_init, rfl⟩, rfl, rfl⟩))))⟩
set_option maxRecDepth 100000 in
theorem cf_6_2 : rz_cf 6 (46, 1, 54, 2, 6, 383, 384, 385, 79, 386) := Or.inr ⟨mz_X6_xOf, rfl, Or.inr (Or.inl ⟨rfl, rz_good (i := 383) rfl rfl, win_X6_xOf, wse_X6_xOf, ⟨1, pr_X6_xOf, rfl⟩, rfl, rfl⟩)⟩
set_option maxRecDepth 100000 in
theorem cf_6_3 : rz_cf 6 (50, 1, 55, 2, 6, 387, 388, 389, 79, 390) := Or.inr ⟨mz_X6_yOf, rfl, Or.inr (Or.inl ⟨rfl, rz_good (i := 387) rfl rfl, win_X6_yOf, wse_X6_yOf, ⟨1, pr_X6_yOf, rfl⟩, rfl, rfl⟩)⟩
set_option maxRecDepth 100000 in
theorem cf_6_4 : rz_cf 6 (130, 1, 74, 2, 6, 527, 529, 6, 79, 530) := Or.inr ⟨mz_X6_least, rfl, Or.inr (Or.inl ⟨rfl, rz_good (i := 527) rfl rfl, win_X6_least, wse_X6_least, ⟨1, pr_X6_least, rfl⟩, rfl, rfl⟩)⟩
set_option maxRecDepth 100000 in
theorem cf_6_5 : rz_cf 6 (88, 0, 274, 2, 0, 531, 532, 0, 90, 533) := Or.inr ⟨mz_J9_min_7cf53, rfl, Or.inl ⟨rfl, rz_good (i := 531) rfl rfl, wst_J9_min_7cf53, pr_J9_min_7cf53, rfl⟩⟩
set_option maxRecDepth 100000 in
theorem cf_6_6 : rz_cf 6 (134, 1, 75, 2, 6, 534, 536, 7, 79, 537) := Or.inr ⟨mz_X6_greatest, rfl, Or.inr (Or.inl ⟨rfl, rz_good (i := 534) rfl rfl, win_X6_greatest, wse_X6_greatest, ⟨1, pr_X6_greatest, rfl⟩, rfl, rfl⟩)⟩
set_option maxRecDepth 100000 in
theorem cf_6_7 : rz_cf 6 (92, 0, 272, 2, 0, 538, 539, 0, 90, 540) := Or.inr ⟨mz_J9_max_7cf53, rfl, Or.inl ⟨rfl, rz_good (i := 538) rfl rfl, wst_J9_max_7cf53, pr_J9_max_7cf53, rfl⟩⟩
set_option maxRecDepth 100000 in
theorem cf_6_8 : rz_cf 6 (95, 1, 67, 3, 6, 541, 543, 8, 79, 544) := Or.inr ⟨mz_X6_findSidesAt, rfl, Or.inr (Or.inl ⟨rfl, rz_good (i := 541) rfl rfl, win_X6_findSidesAt, wse_X6_findSidesAt, ⟨2, pr_X6_findSidesAt, rfl⟩, rfl, rfl⟩)⟩
set_option maxRecDepth 100000 in
theorem cf_6_9 : rz_cf 6 (53, 1, 56, 2, 6, 545, 547, 9, 79, 548) := Or.inr ⟨mz_X6_after, rfl, Or.inr (Or.inl ⟨rfl, rz_good (i := 545) rfl rfl, win_X6_after, wse_X6_after, ⟨1, pr_X6_after, rfl⟩, rfl, rfl⟩)⟩
set_option maxRecDepth 100000 in
theorem cf_6_10 : rz_cf 6 (103, 0, 275, 2, 0, 549, 550, 0, 90, 551) := Or.inr ⟨mz_J9_min_f86c9, rfl, Or.inl ⟨rfl, rz_good (i := 549) rfl rfl, wst_J9_min_f86c9, pr_J9_min_f86c9, rfl⟩⟩
set_option maxRecDepth 100000 in
theorem cf_6_11 : rz_cf 6 (105, 0, 273, 2, 0, 552, 553, 0, 90, 554) := Or.inr ⟨mz_J9_max_f86c9, rfl, Or.inl ⟨rfl, rz_good (i := 552) rfl rfl, wst_J9_max_f86c9, pr_J9_max_f86c9, rfl⟩⟩
set_option maxRecDepth 100000 in
theorem cf_6_12 : rz_cf 6 (99, 1, 68, 4, 6, 555, 557, 10, 79, 558) := Or.inr ⟨mz_X6_placeInRow, rfl, Or.inr (Or.inl ⟨rfl, rz_good (i := 555) rfl rfl, win_X6_placeInRow, wse_X6_placeInRow, ⟨3, pr_X6_placeInRow, rfl⟩, rfl, rfl⟩)⟩
set_option maxRecDepth 100000 in
theorem cf_6_13 : rz_cf 6 (107, 1, 59, 1, 6, 559, 560, 561, 79, 562) := Or.inr ⟨mz_X6_twiceArea, rfl, Or.inr (Or.inl ⟨rfl, rz_good (i := 559) rfl rfl, win_X6_twiceArea, wse_X6_twiceArea, ⟨0, pr_X6_twiceArea, rfl⟩, rfl, rfl⟩)⟩
set_option maxRecDepth 100000 in
theorem cf_6_14 : rz_cf 6 (56, 1, 58, 1, 6, 563, 564, 565, 79, 566) := Or.inr ⟨mz_X6_signedArea, rfl, Or.inr (Or.inl ⟨rfl, rz_good (i := 563) rfl rfl, win_X6_signedArea, wse_X6_signedArea, ⟨0, pr_X6_signedArea, rfl⟩, rfl, rfl⟩)⟩
set_option maxRecDepth 100000 in
theorem cf_6_15 : rz_cf 6 (60, 0, 270, 1, 0, 567, 568, 0, 90, 569) := Or.inr ⟨mz_J9_abs_0f7a4, rfl, Or.inl ⟨rfl, rz_good (i := 567) rfl rfl, wst_J9_abs_0f7a4, pr_J9_abs_0f7a4, rfl⟩⟩
set_option maxRecDepth 100000 in
theorem cf_6_16 : rz_cf 6 (137, 1, 60, 1, 6, 570, 571, 572, 79, 573) := Or.inr ⟨mz_X6_rimPoints, rfl, Or.inr (Or.inl ⟨rfl, rz_good (i := 570) rfl rfl, win_X6_rimPoints, wse_X6_rimPoints, ⟨0, pr_X6_rimPoints, rfl⟩, rfl, rfl⟩)⟩
set_option maxRecDepth 100000 in
theorem cf_6_17 : rz_cf 6 (65, 3, 163, 2, 0, 574, 470, 0, 73, 471) := Or.inr ⟨mz_X10_gcd, rfl, Or.inr (Or.inr (Or.inr (Or.inl ⟨rfl, List.mem_of_getElem? (i := 10) rfl, wst_X10_gcd, pr_X10_gcd, rfl⟩)))⟩
set_option maxRecDepth 100000 in
theorem cf_6_18 : rz_cf 6 (69, 1, 62, 2, 6, 1123, 1125, 30, 79, 1126) := Or.inr ⟨mz_X6_foldsBack, rfl, Or.inr (Or.inl ⟨rfl, rz_good (i := 1123) rfl rfl, win_X6_foldsBack, wse_X6_foldsBack, ⟨1, pr_X6_foldsBack, rfl⟩, rfl, rfl⟩)⟩
set_option maxRecDepth 100000 in
theorem cf_6_19 : rz_cf 6 (73, 1, 63, 3, 6, 1127, 1129, 31, 79, 1130) := Or.inr ⟨mz_X6_sidesMeet, rfl, Or.inr (Or.inl ⟨rfl, rz_good (i := 1127) rfl rfl, win_X6_sidesMeet, wse_X6_sidesMeet, ⟨2, pr_X6_sidesMeet, rfl⟩, rfl, rfl⟩)⟩
set_option maxRecDepth 100000 in
theorem cf_6_20 : rz_cf 6 (77, 1, 64, 3, 6, 1131, 1133, 32, 79, 1134) := Or.inr ⟨mz_X6_isOn, rfl, Or.inr (Or.inl ⟨rfl, rz_good (i := 1131) rfl rfl, win_X6_isOn, wse_X6_isOn, ⟨2, pr_X6_isOn, rfl⟩, rfl, rfl⟩)⟩
set_option maxRecDepth 100000 in
theorem cf_6_21 : rz_cf 6 (84, 1, 57, 4, 6, 1135, 1136, 1137, 79, 1138) := Or.inr ⟨mz_X6_turn, rfl, Or.inr (Or.inl ⟨rfl, rz_good (i := 1135) rfl rfl, win_X6_turn, wse_X6_turn, ⟨3, pr_X6_turn, rfl⟩, rfl, rfl⟩)⟩
set_option maxRecDepth 100000 in
theorem cf_6_22 : rz_cf 6 (80, 1, 65, 4, 6, 1139, 1141, 33, 79, 1142) := Or.inr ⟨mz_X6_crosses, rfl, Or.inr (Or.inl ⟨rfl, rz_good (i := 1139) rfl rfl, win_X6_crosses, wse_X6_crosses, ⟨3, pr_X6_crosses, rfl⟩, rfl, rfl⟩)⟩
set_option maxRecDepth 100000 in
theorem cf_6_23 : rz_cf 6 (42, 1, 15, 2, 2, 1148, 1149, 1150, 80, 1151) := Or.inr ⟨mz_X2_cutAll, rfl, Or.inr (Or.inl ⟨rfl, rz_good (i := 1148) rfl rfl, win_X2_cutAll, wse_X2_cutAll, ⟨1, pr_X2_cutAll, rfl⟩, rfl, rfl⟩)⟩
set_option maxRecDepth 100000 in
theorem cf_6_24 : rz_cf 6 (110, 1, 31, 1, 3, 1262, 460, 461, 89, 462) := Or.inr ⟨mz_X3_index, rfl, Or.inr (Or.inl ⟨rfl, rz_good (i := 1262) rfl rfl, win_X3_index, wse_X3_index, ⟨0, pr_X3_index, rfl⟩, rfl, rfl⟩)⟩
set_option maxRecDepth 100000 in
theorem cf_6_25 : rz_cf 6 (115, 0, 276, 2, 0, 1263, 1034, 0, 94, 1035) := Or.inr ⟨mz_J7_fill_53178, rfl, Or.inl ⟨rfl, rz_good (i := 1263) rfl rfl, wst_J7_fill_53178, pr_J7_fill_53178, rfl⟩⟩
set_option maxRecDepth 100000 in
theorem cf_6_26 : rz_cf 6 (121, 1, 73, 3, 6, 1264, 1266, 40, 79, 1267) := Or.inr ⟨mz_X6_hasSquare, rfl, Or.inr (Or.inl ⟨rfl, rz_good (i := 1264) rfl rfl, win_X6_hasSquare, wse_X6_hasSquare, ⟨2, pr_X6_hasSquare, rfl⟩, rfl, rfl⟩)⟩
set_option maxRecDepth 100000 in
theorem cf_6_27 : rz_cf 6 (124, 1, 35, 3, 3, 1268, 1269, 1270, 89, 1271) := Or.inr ⟨mz_X3_classOf, rfl, Or.inr (Or.inl ⟨rfl, rz_good (i := 1268) rfl rfl, win_X3_classOf, wse_X3_classOf, ⟨2, pr_X3_classOf, rfl⟩, rfl, rfl⟩)⟩
set_option maxRecDepth 100000 in
theorem cf_6_28 : rz_cf 6 (127, 1, 72, 2, 6, 1275, 1277, 41, 79, 1278) := Or.inr ⟨mz_X6_isMarked, rfl, Or.inr (Or.inl ⟨rfl, rz_good (i := 1275) rfl rfl, win_X6_isMarked, wse_X6_isMarked, ⟨1, pr_X6_isMarked, rfl⟩, rfl, rfl⟩)⟩
set_option maxRecDepth 100000 in
theorem cfa_6 : ∀ q ∈ rz_clT.getD 6 [], rz_cf 6 q := by
  show ∀ q ∈ [(3, 9, 0, 1, 0, 236, 101, 0, 0, 102), (21, 4, 14, 1, 0, 239, 240, 0, 80, 241), (46, 1, 54, 2, 6, 383, 384, 385, 79, 386), (50, 1, 55, 2, 6, 387, 388, 389, 79, 390), (130, 1, 74, 2, 6, 527, 529, 6, 79, 530), (88, 0, 274, 2, 0, 531, 532, 0, 90, 533), (134, 1, 75, 2, 6, 534, 536, 7, 79, 537), (92, 0, 272, 2, 0, 538, 539, 0, 90, 540), (95, 1, 67, 3, 6, 541, 543, 8, 79, 544), (53, 1, 56, 2, 6, 545, 547, 9, 79, 548), (103, 0, 275, 2, 0, 549, 550, 0, 90, 551), (105, 0, 273, 2, 0, 552, 553, 0, 90, 554), (99, 1, 68, 4, 6, 555, 557, 10, 79, 558), (107, 1, 59, 1, 6, 559, 560, 561, 79, 562), (56, 1, 58, 1, 6, 563, 564, 565, 79, 566), (60, 0, 270, 1, 0, 567, 568, 0, 90, 569), (137, 1, 60, 1, 6, 570, 571, 572, 79, 573), (65, 3, 163, 2, 0, 574, 470, 0, 73, 471), (69, 1, 62, 2, 6, 1123, 1125, 30, 79, 1126), (73, 1, 63, 3, 6, 1127, 1129, 31, 79, 1130), (77, 1, 64, 3, 6, 1131, 1133, 32, 79, 1134), (84, 1, 57, 4, 6, 1135, 1136, 1137, 79, 1138), (80, 1, 65, 4, 6, 1139, 1141, 33, 79, 1142), (42, 1, 15, 2, 2, 1148, 1149, 1150, 80, 1151), (110, 1, 31, 1, 3, 1262, 460, 461, 89, 462), (115, 0, 276, 2, 0, 1263, 1034, 0, 94, 1035), (121, 1, 73, 3, 6, 1264, 1266, 40, 79, 1267), (124, 1, 35, 3, 3, 1268, 1269, 1270, 89, 1271), (127, 1, 72, 2, 6, 1275, 1277, 41, 79, 1278)], rz_cf 6 q
  intro q hq
  simp only [List.mem_cons, List.not_mem_nil, or_false] at hq
  rcases hq with rfl | rfl | rfl | rfl | rfl | rfl | rfl | rfl | rfl | rfl | rfl | rfl | rfl | rfl | rfl | rfl | rfl | rfl | rfl | rfl | rfl | rfl | rfl | rfl | rfl | rfl | rfl | rfl | rfl
  · exact cf_6_0
  · exact cf_6_1
  · exact cf_6_2
  · exact cf_6_3
  · exact cf_6_4
  · exact cf_6_5
  · exact cf_6_6
  · exact cf_6_7
  · exact cf_6_8
  · exact cf_6_9
  · exact cf_6_10
  · exact cf_6_11
  · exact cf_6_12
  · exact cf_6_13
  · exact cf_6_14
  · exact cf_6_15
  · exact cf_6_16
  · exact cf_6_17
  · exact cf_6_18
  · exact cf_6_19
  · exact cf_6_20
  · exact cf_6_21
  · exact cf_6_22
  · exact cf_6_23
  · exact cf_6_24
  · exact cf_6_25
  · exact cf_6_26
  · exact cf_6_27
  · exact cf_6_28
set_option maxRecDepth 100000 in
theorem cf_7_0 : rz_cf 7 (3, 9, 0, 1, 0, 208, 101, 0, 0, 102) := Or.inl ⟨rfl, rz_good (i := 208) rfl rfl, woi, woc, rfl⟩
set_option maxRecDepth 100000 in
theorem cf_7_1 : rz_cf 7 (50, 1, 85, 2, 7, 579, 580, 581, 78, 582) := Or.inr ⟨mz_X7_leastCoins, rfl, Or.inr (Or.inl ⟨rfl, rz_good (i := 579) rfl rfl, win_X7_leastCoins, wse_X7_leastCoins, ⟨1, pr_X7_leastCoins, rfl⟩, rfl, rfl⟩)⟩
set_option maxRecDepth 100000 in
theorem cf_7_2 : rz_cf 7 (31, 0, 80, 1, 0, 1024, 1025, 0, 78, 1026) := Or.inr ⟨mz_X7_isValue, rfl, Or.inl ⟨rfl, rz_good (i := 1024) rfl rfl, wst_X7_isValue, pr_X7_isValue, rfl⟩⟩
set_option maxRecDepth 100000 in
theorem cf_7_3 : rz_cf 7 (35, 0, 276, 2, 0, 1033, 1034, 0, 94, 1035) := Or.inr ⟨mz_J7_fill_53178, rfl, Or.inl ⟨rfl, rz_good (i := 1033) rfl rfl, wst_J7_fill_53178, pr_J7_fill_53178, rfl⟩⟩
set_option maxRecDepth 100000 in
theorem cf_7_4 : rz_cf 7 (41, 1, 82, 2, 7, 1036, 1038, 27, 78, 1039) := Or.inr ⟨mz_X7_addKind, rfl, Or.inr (Or.inl ⟨rfl, rz_good (i := 1036) rfl rfl, win_X7_addKind, wse_X7_addKind, ⟨1, pr_X7_addKind, rfl⟩, rfl, rfl⟩)⟩
set_option maxRecDepth 100000 in
theorem cf_7_5 : rz_cf 7 (45, 1, 83, 1, 7, 1040, 1042, 28, 78, 1043) := Or.inr ⟨mz_X7_countLacks, rfl, Or.inr (Or.inl ⟨rfl, rz_good (i := 1040) rfl rfl, win_X7_countLacks, wse_X7_countLacks, ⟨0, pr_X7_countLacks, rfl⟩, rfl, rfl⟩)⟩
set_option maxRecDepth 100000 in
theorem cfa_7 : ∀ q ∈ rz_clT.getD 7 [], rz_cf 7 q := by
  show ∀ q ∈ [(3, 9, 0, 1, 0, 208, 101, 0, 0, 102), (50, 1, 85, 2, 7, 579, 580, 581, 78, 582), (31, 0, 80, 1, 0, 1024, 1025, 0, 78, 1026), (35, 0, 276, 2, 0, 1033, 1034, 0, 94, 1035), (41, 1, 82, 2, 7, 1036, 1038, 27, 78, 1039), (45, 1, 83, 1, 7, 1040, 1042, 28, 78, 1043)], rz_cf 7 q
  intro q hq
  simp only [List.mem_cons, List.not_mem_nil, or_false] at hq
  rcases hq with rfl | rfl | rfl | rfl | rfl | rfl
  · exact cf_7_0
  · exact cf_7_1
  · exact cf_7_2
  · exact cf_7_3
  · exact cf_7_4
  · exact cf_7_5
set_option maxRecDepth 100000 in
theorem cf_8_0 : rz_cf 8 (3, 9, 0, 1, 0, 149, 101, 0, 0, 102) := Or.inl ⟨rfl, rz_good (i := 149) rfl rfl, woi, woc, rfl⟩
set_option maxRecDepth 100000 in
theorem cf_8_1 : rz_cf 8 (34, 1, 91, 3, 8, 432, 434, 3, 75, 435) := Or.inr ⟨mz_X8_add, rfl, Or.inr (Or.inl ⟨rfl, rz_good (i := 432) rfl rfl, win_X8_add, wse_X8_add, ⟨2, pr_X8_add, rfl⟩, rfl, rfl⟩)⟩
set_option maxRecDepth 100000 in
theorem cf_8_2 : rz_cf 8 (44, 1, 92, 5, 8, 436, 438, 4, 75, 439) := Or.inr ⟨mz_X8_isAhead, rfl, Or.inr (Or.inl ⟨rfl, rz_good (i := 436) rfl rfl, win_X8_isAhead, wse_X8_isAhead, ⟨4, pr_X8_isAhead, rfl⟩, rfl, rfl⟩)⟩
set_option maxRecDepth 100000 in
theorem cfa_8 : ∀ q ∈ rz_clT.getD 8 [], rz_cf 8 q := by
  show ∀ q ∈ [(3, 9, 0, 1, 0, 149, 101, 0, 0, 102), (34, 1, 91, 3, 8, 432, 434, 3, 75, 435), (44, 1, 92, 5, 8, 436, 438, 4, 75, 439)], rz_cf 8 q
  intro q hq
  simp only [List.mem_cons, List.not_mem_nil, or_false] at hq
  rcases hq with rfl | rfl | rfl
  · exact cf_8_0
  · exact cf_8_1
  · exact cf_8_2
set_option maxRecDepth 100000 in
theorem cf_9_0 : rz_cf 9 (3, 9, 0, 1, 0, 193, 101, 0, 0, 102) := Or.inl ⟨rfl, rz_good (i := 193) rfl rfl, woi, woc, rfl⟩
set_option maxRecDepth 100000 in
theorem cf_9_1 : rz_cf 9 (23, 3, 163, 2, 0, 986, 470, 0, 73, 471) := Or.inr ⟨mz_X10_gcd, rfl, Or.inr (Or.inr (Or.inr (Or.inl ⟨rfl, List.mem_of_getElem? (i := 11) rfl, wst_X10_gcd, pr_X10_gcd, rfl⟩)))⟩
set_option maxRecDepth 100000 in
theorem cf_9_2 : rz_cf 9 (19, 1, 101, 2, 9, 987, 989, 24, 77, 990) := Or.inr ⟨mz_X9_putNumber, rfl, Or.inr (Or.inl ⟨rfl, rz_good (i := 987) rfl rfl, win_X9_putNumber, wse_X9_putNumber, ⟨1, pr_X9_putNumber, rfl⟩, rfl, rfl⟩)⟩
set_option maxRecDepth 100000 in
theorem cf_9_3 : rz_cf 9 (27, 1, 103, 2, 9, 991, 993, 25, 77, 994) := Or.inr ⟨mz_X9_putSign, rfl, Or.inr (Or.inl ⟨rfl, rz_good (i := 991) rfl rfl, win_X9_putSign, wse_X9_putSign, ⟨1, pr_X9_putSign, rfl⟩, rfl, rfl⟩)⟩
set_option maxRecDepth 100000 in
theorem cf_9_4 : rz_cf 9 (39, 0, 271, 1, 0, 995, 457, 0, 90, 458) := Or.inr ⟨mz_J9_abs_067f4, rfl, Or.inl ⟨rfl, rz_good (i := 995) rfl rfl, wst_J9_abs_067f4, pr_J9_abs_067f4, rfl⟩⟩
set_option maxRecDepth 100000 in
theorem cf_9_5 : rz_cf 9 (35, 1, 102, 3, 9, 997, 999, 26, 77, 1000) := Or.inr ⟨mz_X9_putDigits, rfl, Or.inr (Or.inl ⟨rfl, rz_good (i := 997) rfl rfl, win_X9_putDigits, wse_X9_putDigits, ⟨2, pr_X9_putDigits, rfl⟩, rfl, rfl⟩)⟩
set_option maxRecDepth 100000 in
theorem cfa_9 : ∀ q ∈ rz_clT.getD 9 [], rz_cf 9 q := by
  show ∀ q ∈ [(3, 9, 0, 1, 0, 193, 101, 0, 0, 102), (23, 3, 163, 2, 0, 986, 470, 0, 73, 471), (19, 1, 101, 2, 9, 987, 989, 24, 77, 990), (27, 1, 103, 2, 9, 991, 993, 25, 77, 994), (39, 0, 271, 1, 0, 995, 457, 0, 90, 458), (35, 1, 102, 3, 9, 997, 999, 26, 77, 1000)], rz_cf 9 q
  intro q hq
  simp only [List.mem_cons, List.not_mem_nil, or_false] at hq
  rcases hq with rfl | rfl | rfl | rfl | rfl | rfl
  · exact cf_9_0
  · exact cf_9_1
  · exact cf_9_2
  · exact cf_9_3
  · exact cf_9_4
  · exact cf_9_5
set_option maxRecDepth 100000 in
theorem cf_10_0 : rz_cf 10 (1, 9, 0, 1, 0, 100, 101, 0, 0, 102) := Or.inl ⟨rfl, rz_good (i := 100) rfl rfl, woi, woc, rfl⟩
set_option maxRecDepth 100000 in
theorem cf_10_1 : rz_cf 10 (28, 4, 0, 1, 0, 107, 108, 0, 74, 109) := Or.inr ⟨mz_X0_init, rfl, Or.inr (Or.inr (Or.inr (Or.inr (Or.inl ⟨rfl, List.mem_of_getElem? (i := 0) rfl, win_X0_init, rfl, ⟨0, pr_X0_init, rfl⟩, rfl, rfl⟩))))⟩
set_option maxRecDepth 100000 in
theorem cf_10_2 : rz_cf 10 (35, 4, 89, 1, 0, 146, 147, 0, 75, 148) := Or.inr ⟨mz_X8_init, rfl, Or.inr (Or.inr (Or.inr (Or.inr (Or.inl ⟨rfl, List.mem_of_getElem? (i := 1) rfl, win_X8_init, rfl, ⟨0, pr_X8_init, rfl⟩, rfl, rfl⟩))))⟩
set_option maxRecDepth 100000 in
theorem cf_10_3 : rz_cf 10 (42, 4, 7, 1, 0, 166, 167, 0, 76, 168) := Or.inr ⟨mz_X1_init, rfl, Or.inr (Or.inr (Or.inr (Or.inr (Or.inl ⟨rfl, List.mem_of_getElem? (i := 2) rfl, win_X1_init, rfl, ⟨0, pr_X1_init, rfl⟩, rfl, rfl⟩))))⟩
set_option maxRecDepth 100000 in
theorem cf_10_4 : rz_cf 10 (49, 4, 96, 1, 0, 190, 191, 0, 77, 192) := Or.inr ⟨mz_X9_init, rfl, Or.inr (Or.inr (Or.inr (Or.inr (Or.inl ⟨rfl, List.mem_of_getElem? (i := 3) rfl, win_X9_init, rfl, ⟨0, pr_X9_init, rfl⟩, rfl, rfl⟩))))⟩
set_option maxRecDepth 100000 in
theorem cf_10_5 : rz_cf 10 (56, 4, 78, 1, 0, 205, 206, 0, 78, 207) := Or.inr ⟨mz_X7_init, rfl, Or.inr (Or.inr (Or.inr (Or.inr (Or.inl ⟨rfl, List.mem_of_getElem? (i := 4) rfl, win_X7_init, rfl, ⟨0, pr_X7_init, rfl⟩, rfl, rfl⟩))))⟩
set_option maxRecDepth 100000 in
theorem cf_10_6 : rz_cf 10 (63, 4, 50, 1, 0, 233, 234, 0, 79, 235) := Or.inr ⟨mz_X6_init, rfl, Or.inr (Or.inr (Or.inr (Or.inr (Or.inl ⟨rfl, List.mem_of_getElem? (i := 5) rfl, win_X6_init, rfl, ⟨0, pr_X6_init, rfl⟩, rfl, rfl⟩))))⟩
set_option maxRecDepth 100000 in
theorem cf_10_7 : rz_cf 10 (70, 4, 45, 1, 0, 287, 288, 0, 81, 289) := Or.inr ⟨mz_X5_init, rfl, Or.inr (Or.inr (Or.inr (Or.inr (Or.inl ⟨rfl, List.mem_of_getElem? (i := 7) rfl, win_X5_init, rfl, ⟨0, pr_X5_init, rfl⟩, rfl, rfl⟩))))⟩
set_option maxRecDepth 100000 in
theorem cf_10_8 : rz_cf 10 (77, 4, 36, 1, 0, 303, 304, 0, 82, 305) := Or.inr ⟨mz_X4_init, rfl, Or.inr (Or.inr (Or.inr (Or.inr (Or.inl ⟨rfl, List.mem_of_getElem? (i := 8) rfl, win_X4_init, rfl, ⟨0, pr_X4_init, rfl⟩, rfl, rfl⟩))))⟩
set_option maxRecDepth 100000 in
theorem cf_10_9 : rz_cf 10 (280, 1, 52, 1, 6, 359, 360, 361, 79, 362) := Or.inr ⟨mz_X6_takeAway, rfl, Or.inr (Or.inl ⟨rfl, rz_good (i := 359) rfl rfl, win_X6_takeAway, wse_X6_takeAway, ⟨0, pr_X6_takeAway, rfl⟩, rfl, rfl⟩)⟩
set_option maxRecDepth 100000 in
theorem cf_10_10 : rz_cf 10 (376, 1, 87, 2, 7, 373, 374, 375, 78, 376) := Or.inr ⟨mz_X7_addTo, rfl, Or.inr (Or.inl ⟨rfl, rz_good (i := 373) rfl rfl, win_X7_addTo, wse_X7_addTo, ⟨1, pr_X7_addTo, rfl⟩, rfl, rfl⟩)⟩
set_option maxRecDepth 100000 in
theorem cf_10_11 : rz_cf 10 (380, 1, 77, 2, 6, 378, 379, 380, 79, 381) := Or.inr ⟨mz_X6_addTo, rfl, Or.inr (Or.inl ⟨rfl, rz_good (i := 378) rfl rfl, win_X6_addTo, wse_X6_addTo, ⟨1, pr_X6_addTo, rfl⟩, rfl, rfl⟩)⟩
set_option maxRecDepth 100000 in
theorem cf_10_12 : rz_cf 10 (381, 1, 104, 2, 9, 391, 392, 393, 77, 394) := Or.inr ⟨mz_X9_addTo, rfl, Or.inr (Or.inl ⟨rfl, rz_good (i := 391) rfl rfl, win_X9_addTo, wse_X9_addTo, ⟨1, pr_X9_addTo, rfl⟩, rfl, rfl⟩)⟩
set_option maxRecDepth 100000 in
theorem cf_10_13 : rz_cf 10 (382, 1, 168, 2, 10, 400, 402, 0, 73, 403) := Or.inr ⟨mz_X10_leastStepsSpan, rfl, Or.inr (Or.inl ⟨rfl, rz_good (i := 400) rfl rfl, win_X10_leastStepsSpan, wse_X10_leastStepsSpan, ⟨1, pr_X10_leastStepsSpan, rfl⟩, rfl, rfl⟩)⟩
set_option maxRecDepth 100000 in
theorem cf_10_14 : rz_cf 10 (170, 1, 160, 2, 10, 404, 406, 1, 73, 407) := Or.inr ⟨mz_X10_listSteps, rfl, Or.inr (Or.inl ⟨rfl, rz_good (i := 404) rfl rfl, win_X10_listSteps, wse_X10_listSteps, ⟨1, pr_X10_listSteps, rfl⟩, rfl, rfl⟩)⟩
set_option maxRecDepth 100000 in
theorem cf_10_15 : rz_cf 10 (423, 1, 1, 2, 0, 408, 409, 410, 74, 411) := Or.inr ⟨mz_X0_reduce, rfl, Or.inr (Or.inl ⟨rfl, rz_good (i := 408) rfl rfl, win_X0_reduce, wse_X0_reduce, ⟨1, pr_X0_reduce, rfl⟩, rfl, rfl⟩)⟩
set_option maxRecDepth 100000 in
theorem cf_10_16 : rz_cf 10 (426, 1, 90, 2, 8, 428, 429, 430, 75, 431) := Or.inr ⟨mz_X8_fill, rfl, Or.inr (Or.inl ⟨rfl, rz_good (i := 428) rfl rfl, win_X8_fill, wse_X8_fill, ⟨1, pr_X8_fill, rfl⟩, rfl, rfl⟩)⟩
set_option maxRecDepth 100000 in
theorem cf_10_17 : rz_cf 10 (181, 1, 95, 1, 8, 440, 441, 442, 75, 443) := Or.inr ⟨mz_X8_firstAside, rfl, Or.inr (Or.inl ⟨rfl, rz_good (i := 440) rfl rfl, win_X8_firstAside, wse_X8_firstAside, ⟨0, pr_X8_firstAside, rfl⟩, rfl, rfl⟩)⟩
set_option maxRecDepth 100000 in
theorem cf_10_18 : rz_cf 10 (174, 1, 93, 2, 8, 444, 445, 446, 75, 447) := Or.inr ⟨mz_X8_xOf, rfl, Or.inr (Or.inl ⟨rfl, rz_good (i := 444) rfl rfl, win_X8_xOf, wse_X8_xOf, ⟨1, pr_X8_xOf, rfl⟩, rfl, rfl⟩)⟩
set_option maxRecDepth 100000 in
theorem cf_10_19 : rz_cf 10 (178, 1, 94, 2, 8, 448, 449, 450, 75, 451) := Or.inr ⟨mz_X8_yOf, rfl, Or.inr (Or.inl ⟨rfl, rz_good (i := 448) rfl rfl, win_X8_yOf, wse_X8_yOf, ⟨1, pr_X8_yOf, rfl⟩, rfl, rfl⟩)⟩
set_option maxRecDepth 100000 in
theorem cf_10_20 : rz_cf 10 (136, 1, 32, 3, 3, 452, 453, 454, 89, 455) := Or.inr ⟨mz_X3_contains, rfl, Or.inr (Or.inl ⟨rfl, rz_good (i := 452) rfl rfl, win_X3_contains, wse_X3_contains, ⟨2, pr_X3_contains, rfl⟩, rfl, rfl⟩)⟩
set_option maxRecDepth 100000 in
theorem cf_10_21 : rz_cf 10 (437, 0, 271, 1, 0, 456, 457, 0, 90, 458) := Or.inr ⟨mz_J9_abs_067f4, rfl, Or.inl ⟨rfl, rz_good (i := 456) rfl rfl, wst_J9_abs_067f4, pr_J9_abs_067f4, rfl⟩⟩
set_option maxRecDepth 100000 in
theorem cf_10_22 : rz_cf 10 (144, 1, 31, 1, 3, 459, 460, 461, 89, 462) := Or.inr ⟨mz_X3_index, rfl, Or.inr (Or.inl ⟨rfl, rz_good (i := 459) rfl rfl, win_X3_index, wse_X3_index, ⟨0, pr_X3_index, rfl⟩, rfl, rfl⟩)⟩
set_option maxRecDepth 100000 in
theorem cf_10_23 : rz_cf 10 (385, 0, 169, 2, 0, 463, 464, 0, 73, 465) := Or.inr ⟨mz_X10_indexesAgree, rfl, Or.inl ⟨rfl, rz_good (i := 463) rfl rfl, wst_X10_indexesAgree, pr_X10_indexesAgree, rfl⟩⟩
set_option maxRecDepth 100000 in
theorem cf_10_24 : rz_cf 10 (165, 0, 26, 2, 0, 466, 467, 0, 89, 468) := Or.inr ⟨mz_X3_joinOf, rfl, Or.inl ⟨rfl, rz_good (i := 466) rfl rfl, wst_X3_joinOf, pr_X3_joinOf, rfl⟩⟩
set_option maxRecDepth 100000 in
theorem cf_10_25 : rz_cf 10 (140, 1, 33, 2, 3, 501, 502, 503, 89, 504) := Or.inr ⟨mz_X3_isPartOf, rfl, Or.inr (Or.inl ⟨rfl, rz_good (i := 501) rfl rfl, win_X3_isPartOf, wse_X3_isPartOf, ⟨1, pr_X3_isPartOf, rfl⟩, rfl, rfl⟩)⟩
set_option maxRecDepth 100000 in
theorem cf_10_26 : rz_cf 10 (150, 0, 29, 2, 0, 506, 507, 0, 89, 508) := Or.inr ⟨mz_X3_meetIndex, rfl, Or.inl ⟨rfl, rz_good (i := 506) rfl rfl, wst_X3_meetIndex, pr_X3_meetIndex, rfl⟩⟩
set_option maxRecDepth 100000 in
theorem cf_10_27 : rz_cf 10 (161, 0, 30, 2, 0, 516, 517, 0, 89, 518) := Or.inr ⟨mz_X3_meetOf, rfl, Or.inl ⟨rfl, rz_good (i := 516) rfl rfl, wst_X3_meetOf, pr_X3_meetOf, rfl⟩⟩
set_option maxRecDepth 100000 in
theorem cf_10_28 : rz_cf 10 (389, 1, 170, 1, 10, 519, 521, 5, 73, 522) := Or.inr ⟨mz_X10_polygonAgrees, rfl, Or.inr (Or.inl ⟨rfl, rz_good (i := 519) rfl rfl, win_X10_polygonAgrees, wse_X10_polygonAgrees, ⟨0, pr_X10_polygonAgrees, rfl⟩, rfl, rfl⟩)⟩
set_option maxRecDepth 100000 in
theorem cf_10_29 : rz_cf 10 (442, 1, 76, 2, 6, 523, 524, 525, 79, 526) := Or.inr ⟨mz_X6_countsAgree, rfl, Or.inr (Or.inl ⟨rfl, rz_good (i := 523) rfl rfl, win_X6_countsAgree, wse_X6_countsAgree, ⟨1, pr_X6_countsAgree, rfl⟩, rfl, rfl⟩)⟩
set_option maxRecDepth 100000 in
theorem cf_10_30 : rz_cf 10 (392, 1, 88, 1, 7, 575, 576, 577, 78, 578) := Or.inr ⟨mz_X7_lacksAreHalf, rfl, Or.inr (Or.inl ⟨rfl, rz_good (i := 575) rfl rfl, win_X7_lacksAreHalf, wse_X7_lacksAreHalf, ⟨0, pr_X7_lacksAreHalf, rfl⟩, rfl, rfl⟩)⟩
set_option maxRecDepth 100000 in
theorem cf_10_31 : rz_cf 10 (395, 0, 171, 1, 0, 583, 584, 0, 73, 585) := Or.inr ⟨mz_X10_seenNeighboursSpan, rfl, Or.inl ⟨rfl, rz_good (i := 583) rfl rfl, wst_X10_seenNeighboursSpan, pr_X10_seenNeighboursSpan, rfl⟩⟩
set_option maxRecDepth 100000 in
theorem cf_10_32 : rz_cf 10 (336, 0, 166, 1, 0, 586, 587, 0, 73, 588) := Or.inr ⟨mz_X10_countSeen, rfl, Or.inl ⟨rfl, rz_good (i := 586) rfl rfl, wst_X10_countSeen, pr_X10_countSeen, rfl⟩⟩
set_option maxRecDepth 100000 in
theorem cf_10_33 : rz_cf 10 (237, 0, 163, 2, 0, 589, 470, 0, 73, 471) := Or.inr ⟨mz_X10_gcd, rfl, Or.inl ⟨rfl, rz_good (i := 589) rfl rfl, wst_X10_gcd, pr_X10_gcd, rfl⟩⟩
set_option maxRecDepth 100000 in
theorem cf_10_34 : rz_cf 10 (341, 0, 167, 2, 0, 590, 591, 0, 73, 592) := Or.inr ⟨mz_X10_findSeen, rfl, Or.inl ⟨rfl, rz_good (i := 590) rfl rfl, wst_X10_findSeen, pr_X10_findSeen, rfl⟩⟩
set_option maxRecDepth 100000 in
theorem cf_10_35 : rz_cf 10 (399, 1, 172, 3, 10, 593, 595, 11, 73, 596) := Or.inr ⟨mz_X10_hullIsLowest, rfl, Or.inr (Or.inl ⟨rfl, rz_good (i := 593) rfl rfl, win_X10_hullIsLowest, wse_X10_hullIsLowest, ⟨2, pr_X10_hullIsLowest, rfl⟩, rfl, rfl⟩)⟩
set_option maxRecDepth 100000 in
theorem cf_10_36 : rz_cf 10 (364, 1, 37, 3, 4, 597, 598, 599, 82, 600) := Or.inr ⟨mz_X4_build, rfl, Or.inr (Or.inl ⟨rfl, rz_good (i := 597) rfl rfl, win_X4_build, wse_X4_build, ⟨2, pr_X4_build, rfl⟩, rfl, rfl⟩)⟩
set_option maxRecDepth 100000 in
theorem cf_10_37 : rz_cf 10 (445, 1, 43, 1, 4, 620, 621, 622, 82, 623) := Or.inr ⟨mz_X4_bendsUp, rfl, Or.inr (Or.inl ⟨rfl, rz_good (i := 620) rfl rfl, win_X4_bendsUp, wse_X4_bendsUp, ⟨0, pr_X4_bendsUp, rfl⟩, rfl, rfl⟩)⟩
set_option maxRecDepth 100000 in
theorem cf_10_38 : rz_cf 10 (448, 1, 44, 3, 4, 624, 625, 626, 82, 627) := Or.inr ⟨mz_X4_liesBelowAll, rfl, Or.inr (Or.inl ⟨rfl, rz_good (i := 624) rfl rfl, win_X4_liesBelowAll, wse_X4_liesBelowAll, ⟨2, pr_X4_liesBelowAll, rfl⟩, rfl, rfl⟩)⟩
set_option maxRecDepth 100000 in
theorem cf_10_39 : rz_cf 10 (82, 0, 152, 1, 0, 638, 639, 0, 73, 640) := Or.inr ⟨mz_X10_checkSlot, rfl, Or.inl ⟨rfl, rz_good (i := 638) rfl rfl, wst_X10_checkSlot, pr_X10_checkSlot, rfl⟩⟩
set_option maxRecDepth 100000 in
theorem cf_10_40 : rz_cf 10 (86, 0, 153, 3, 0, 711, 712, 0, 73, 713) := Or.inr ⟨mz_X10_checkRange, rfl, Or.inl ⟨rfl, rz_good (i := 711) rfl rfl, wst_X10_checkRange, pr_X10_checkRange, rfl⟩⟩
set_option maxRecDepth 100000 in
theorem cf_10_41 : rz_cf 10 (90, 0, 23, 5, 0, 730, 473, 0, 89, 474) := Or.inr ⟨mz_X3_generated, rfl, Or.inl ⟨rfl, rz_good (i := 730) rfl rfl, wst_X3_generated, pr_X3_generated, rfl⟩⟩
set_option maxRecDepth 100000 in
theorem cf_10_42 : rz_cf 10 (101, 1, 158, 3, 10, 747, 749, 15, 73, 750) := Or.inr ⟨mz_X10_become, rfl, Or.inr (Or.inl ⟨rfl, rz_good (i := 747) rfl rfl, win_X10_become, wse_X10_become, ⟨2, pr_X10_become, rfl⟩, rfl, rfl⟩)⟩
set_option maxRecDepth 100000 in
theorem cf_10_43 : rz_cf 10 (420, 1, 159, 1, 10, 751, 753, 16, 73, 754) := Or.inr ⟨mz_X10_forgetOldest, rfl, Or.inr (Or.inl ⟨rfl, rz_good (i := 751) rfl rfl, win_X10_forgetOldest, wse_X10_forgetOldest, ⟨0, pr_X10_forgetOldest, rfl⟩, rfl, rfl⟩)⟩
set_option maxRecDepth 100000 in
theorem cf_10_44 : rz_cf 10 (105, 0, 24, 3, 0, 762, 763, 0, 89, 764) := Or.inr ⟨mz_X3_ofMultiples, rfl, Or.inl ⟨rfl, rz_good (i := 762) rfl rfl, wst_X3_ofMultiples, pr_X3_ofMultiples, rfl⟩⟩
set_option maxRecDepth 100000 in
theorem cf_10_45 : rz_cf 10 (109, 0, 25, 2, 0, 773, 774, 0, 89, 775) := Or.inr ⟨mz_X3_ranked, rfl, Or.inl ⟨rfl, rz_good (i := 773) rfl rfl, wst_X3_ranked, pr_X3_ranked, rfl⟩⟩
set_option maxRecDepth 100000 in
theorem cf_10_46 : rz_cf 10 (126, 1, 157, 2, 10, 807, 809, 17, 73, 810) := Or.inr ⟨mz_X10_gridIn, rfl, Or.inr (Or.inl ⟨rfl, rz_good (i := 807) rfl rfl, win_X10_gridIn, wse_X10_gridIn, ⟨1, pr_X10_gridIn, rfl⟩, rfl, rfl⟩)⟩
set_option maxRecDepth 100000 in
theorem cf_10_47 : rz_cf 10 (184, 1, 34, 2, 3, 901, 902, 903, 89, 904) := Or.inr ⟨mz_X3_countUpTo, rfl, Or.inr (Or.inl ⟨rfl, rz_good (i := 901) rfl rfl, win_X3_countUpTo, wse_X3_countUpTo, ⟨1, pr_X3_countUpTo, rfl⟩, rfl, rfl⟩)⟩
set_option maxRecDepth 100000 in
theorem cf_10_48 : rz_cf 10 (187, 1, 162, 4, 10, 915, 917, 18, 73, 918) := Or.inr ⟨mz_X10_seekNearest, rfl, Or.inr (Or.inl ⟨rfl, rz_good (i := 915) rfl rfl, win_X10_seekNearest, wse_X10_seekNearest, ⟨3, pr_X10_seekNearest, rfl⟩, rfl, rfl⟩)⟩
set_option maxRecDepth 100000 in
theorem cf_10_49 : rz_cf 10 (433, 1, 5, 3, 0, 919, 920, 921, 74, 922) := Or.inr ⟨mz_X0_seek, rfl, Or.inr (Or.inl ⟨rfl, rz_good (i := 919) rfl rfl, win_X0_seek, wse_X0_seek, ⟨2, pr_X0_seek, rfl⟩, rfl, rfl⟩)⟩
set_option maxRecDepth 100000 in
theorem cf_10_50 : rz_cf 10 (197, 1, 161, 2, 10, 942, 944, 20, 73, 945) := Or.inr ⟨mz_X10_drawCell, rfl, Or.inr (Or.inl ⟨rfl, rz_good (i := 942) rfl rfl, win_X10_drawCell, wse_X10_drawCell, ⟨1, pr_X10_drawCell, rfl⟩, rfl, rfl⟩)⟩
set_option maxRecDepth 100000 in
theorem cf_10_51 : rz_cf 10 (430, 1, 8, 2, 1, 946, 947, 948, 76, 949) := Or.inr ⟨mz_X1_draw, rfl, Or.inr (Or.inl ⟨rfl, rz_good (i := 946) rfl rfl, win_X1_draw, wse_X1_draw, ⟨1, pr_X1_draw, rfl⟩, rfl, rfl⟩)⟩
set_option maxRecDepth 100000 in
theorem cf_10_52 : rz_cf 10 (205, 1, 11, 2, 1, 969, 970, 971, 76, 972) := Or.inr ⟨mz_X1_overX, rfl, Or.inr (Or.inl ⟨rfl, rz_good (i := 969) rfl rfl, win_X1_overX, wse_X1_overX, ⟨1, pr_X1_overX, rfl⟩, rfl, rfl⟩)⟩
set_option maxRecDepth 100000 in
theorem cf_10_53 : rz_cf 10 (209, 1, 12, 2, 1, 978, 979, 980, 76, 981) := Or.inr ⟨mz_X1_overY, rfl, Or.inr (Or.inl ⟨rfl, rz_good (i := 978) rfl rfl, win_X1_overY, wse_X1_overY, ⟨1, pr_X1_overY, rfl⟩, rfl, rfl⟩)⟩
set_option maxRecDepth 100000 in
theorem cf_10_54 : rz_cf 10 (215, 1, 99, 3, 9, 982, 983, 984, 77, 985) := Or.inr ⟨mz_X9_becomeFraction, rfl, Or.inr (Or.inl ⟨rfl, rz_good (i := 982) rfl rfl, win_X9_becomeFraction, wse_X9_becomeFraction, ⟨2, pr_X9_becomeFraction, rfl⟩, rfl, rfl⟩)⟩
set_option maxRecDepth 100000 in
theorem cf_10_55 : rz_cf 10 (227, 1, 97, 2, 9, 1010, 1011, 1012, 77, 1013) := Or.inr ⟨mz_X9_sign, rfl, Or.inr (Or.inl ⟨rfl, rz_good (i := 1010) rfl rfl, win_X9_sign, wse_X9_sign, ⟨1, pr_X9_sign, rfl⟩, rfl, rfl⟩)⟩
set_option maxRecDepth 100000 in
theorem cf_10_56 : rz_cf 10 (231, 0, 79, 4, 0, 1021, 1022, 0, 78, 1023) := Or.inr ⟨mz_X7_areValues, rfl, Or.inl ⟨rfl, rz_good (i := 1021) rfl rfl, wst_X7_areValues, pr_X7_areValues, rfl⟩⟩
set_option maxRecDepth 100000 in
theorem cf_10_57 : rz_cf 10 (243, 1, 81, 5, 7, 1029, 1030, 1031, 78, 1032) := Or.inr ⟨mz_X7_take, rfl, Or.inr (Or.inl ⟨rfl, rz_good (i := 1029) rfl rfl, win_X7_take, wse_X7_take, ⟨4, pr_X7_take, rfl⟩, rfl, rfl⟩)⟩
set_option maxRecDepth 100000 in
theorem cf_10_58 : rz_cf 10 (250, 1, 155, 1, 10, 1051, 1053, 29, 73, 1054) := Or.inr ⟨mz_X10_checkCoins, rfl, Or.inr (Or.inl ⟨rfl, rz_good (i := 1051) rfl rfl, win_X10_checkCoins, wse_X10_checkCoins, ⟨0, pr_X10_checkCoins, rfl⟩, rfl, rfl⟩)⟩
set_option maxRecDepth 100000 in
theorem cf_10_59 : rz_cf 10 (258, 1, 84, 2, 7, 1064, 1065, 1066, 78, 1067) := Or.inr ⟨mz_X7_lackOf, rfl, Or.inr (Or.inl ⟨rfl, rz_good (i := 1064) rfl rfl, win_X7_lackOf, wse_X7_lackOf, ⟨1, pr_X7_lackOf, rfl⟩, rfl, rfl⟩)⟩
set_option maxRecDepth 100000 in
theorem cf_10_60 : rz_cf 10 (261, 1, 85, 2, 7, 1075, 580, 581, 78, 582) := Or.inr ⟨mz_X7_leastCoins, rfl, Or.inr (Or.inl ⟨rfl, rz_good (i := 1075) rfl rfl, win_X7_leastCoins, wse_X7_leastCoins, ⟨1, pr_X7_leastCoins, rfl⟩, rfl, rfl⟩)⟩
set_option maxRecDepth 100000 in
theorem cf_10_61 : rz_cf 10 (266, 1, 86, 2, 7, 1091, 1092, 1093, 78, 1094) := Or.inr ⟨mz_X7_wayCount, rfl, Or.inr (Or.inl ⟨rfl, rz_good (i := 1091) rfl rfl, win_X7_wayCount, wse_X7_wayCount, ⟨1, pr_X7_wayCount, rfl⟩, rfl, rfl⟩)⟩
set_option maxRecDepth 100000 in
theorem cf_10_62 : rz_cf 10 (269, 1, 98, 2, 9, 1095, 1096, 1097, 77, 1098) := Or.inr ⟨mz_X9_becomeNumber, rfl, Or.inr (Or.inl ⟨rfl, rz_good (i := 1095) rfl rfl, win_X9_becomeNumber, wse_X9_becomeNumber, ⟨1, pr_X9_becomeNumber, rfl⟩, rfl, rfl⟩)⟩
set_option maxRecDepth 100000 in
theorem cf_10_63 : rz_cf 10 (276, 1, 51, 3, 6, 1107, 1108, 1109, 79, 1110) := Or.inr ⟨mz_X6_type, rfl, Or.inr (Or.inl ⟨rfl, rz_good (i := 1107) rfl rfl, win_X6_type, wse_X6_type, ⟨2, pr_X6_type, rfl⟩, rfl, rfl⟩)⟩
set_option maxRecDepth 100000 in
theorem cf_10_64 : rz_cf 10 (285, 1, 61, 1, 6, 1119, 1120, 1121, 79, 1122) := Or.inr ⟨mz_X6_isProper, rfl, Or.inr (Or.inl ⟨rfl, rz_good (i := 1119) rfl rfl, win_X6_isProper, wse_X6_isProper, ⟨0, pr_X6_isProper, rfl⟩, rfl, rfl⟩)⟩
set_option maxRecDepth 100000 in
theorem cf_10_65 : rz_cf 10 (291, 1, 53, 1, 6, 1144, 1145, 1146, 79, 1147) := Or.inr ⟨mz_X6_shut, rfl, Or.inr (Or.inl ⟨rfl, rz_good (i := 1144) rfl rfl, win_X6_shut, wse_X6_shut, ⟨0, pr_X6_shut, rfl⟩, rfl, rfl⟩)⟩
set_option maxRecDepth 100000 in
theorem cf_10_66 : rz_cf 10 (294, 1, 59, 1, 6, 1176, 560, 561, 79, 562) := Or.inr ⟨mz_X6_twiceArea, rfl, Or.inr (Or.inl ⟨rfl, rz_good (i := 1176) rfl rfl, win_X6_twiceArea, wse_X6_twiceArea, ⟨0, pr_X6_twiceArea, rfl⟩, rfl, rfl⟩)⟩
set_option maxRecDepth 100000 in
theorem cf_10_67 : rz_cf 10 (297, 1, 156, 1, 10, 1184, 1186, 39, 73, 1187) := Or.inr ⟨mz_X10_checkClosed, rfl, Or.inr (Or.inl ⟨rfl, rz_good (i := 1184) rfl rfl, win_X10_checkClosed, wse_X10_checkClosed, ⟨0, pr_X10_checkClosed, rfl⟩, rfl, rfl⟩)⟩
set_option maxRecDepth 100000 in
theorem cf_10_68 : rz_cf 10 (300, 1, 60, 1, 6, 1189, 571, 572, 79, 573) := Or.inr ⟨mz_X6_rimPoints, rfl, Or.inr (Or.inl ⟨rfl, rz_good (i := 1189) rfl rfl, win_X6_rimPoints, wse_X6_rimPoints, ⟨0, pr_X6_rimPoints, rfl⟩, rfl, rfl⟩)⟩
set_option maxRecDepth 100000 in
theorem cf_10_69 : rz_cf 10 (303, 1, 66, 4, 6, 1204, 1205, 1206, 79, 1207) := Or.inr ⟨mz_X6_placeOf, rfl, Or.inr (Or.inl ⟨rfl, rz_good (i := 1204) rfl rfl, win_X6_placeOf, wse_X6_placeOf, ⟨3, pr_X6_placeOf, rfl⟩, rfl, rfl⟩)⟩
set_option maxRecDepth 100000 in
theorem cf_10_70 : rz_cf 10 (307, 1, 69, 1, 6, 1215, 1216, 1217, 79, 1218) := Or.inr ⟨mz_X6_turnsOneWay, rfl, Or.inr (Or.inl ⟨rfl, rz_good (i := 1215) rfl rfl, win_X6_turnsOneWay, wse_X6_turnsOneWay, ⟨0, pr_X6_turnsOneWay, rfl⟩, rfl, rfl⟩)⟩
set_option maxRecDepth 100000 in
theorem cf_10_71 : rz_cf 10 (311, 1, 100, 3, 9, 1227, 1228, 1229, 77, 1230) := Or.inr ⟨mz_X9_becomeProductAndOne, rfl, Or.inr (Or.inl ⟨rfl, rz_good (i := 1227) rfl rfl, win_X9_becomeProductAndOne, wse_X9_becomeProductAndOne, ⟨2, pr_X9_becomeProductAndOne, rfl⟩, rfl, rfl⟩)⟩
set_option maxRecDepth 100000 in
theorem cf_10_72 : rz_cf 10 (322, 1, 21, 3, 2, 1242, 1243, 1244, 80, 1245) := Or.inr ⟨mz_X2_cornerOf, rfl, Or.inr (Or.inl ⟨rfl, rz_good (i := 1242) rfl rfl, win_X2_cornerOf, wse_X2_cornerOf, ⟨2, pr_X2_cornerOf, rfl⟩, rfl, rfl⟩)⟩
set_option maxRecDepth 100000 in
theorem cf_10_73 : rz_cf 10 (328, 1, 70, 1, 6, 1253, 1254, 1255, 79, 1256) := Or.inr ⟨mz_X6_isUpright, rfl, Or.inr (Or.inl ⟨rfl, rz_good (i := 1253) rfl rfl, win_X6_isUpright, wse_X6_isUpright, ⟨0, pr_X6_isUpright, rfl⟩, rfl, rfl⟩)⟩
set_option maxRecDepth 100000 in
theorem cf_10_74 : rz_cf 10 (333, 1, 71, 2, 6, 1258, 1259, 1260, 79, 1261) := Or.inr ⟨mz_X6_fillsBy, rfl, Or.inr (Or.inl ⟨rfl, rz_good (i := 1258) rfl rfl, win_X6_fillsBy, wse_X6_fillsBy, ⟨1, pr_X6_fillsBy, rfl⟩, rfl, rfl⟩)⟩
set_option maxRecDepth 100000 in
theorem cf_10_75 : rz_cf 10 (346, 1, 46, 5, 5, 1302, 1303, 1304, 81, 1305) := Or.inr ⟨mz_X5_countTo, rfl, Or.inr (Or.inl ⟨rfl, rz_good (i := 1302) rfl rfl, win_X5_countTo, wse_X5_countTo, ⟨4, pr_X5_countTo, rfl⟩, rfl, rfl⟩)⟩
set_option maxRecDepth 100000 in
theorem cf_10_76 : rz_cf 10 (352, 0, 154, 2, 0, 1330, 1331, 0, 73, 1332) := Or.inr ⟨mz_X10_checkFraction, rfl, Or.inl ⟨rfl, rz_good (i := 1330) rfl rfl, wst_X10_checkFraction, pr_X10_checkFraction, rfl⟩⟩
set_option maxRecDepth 100000 in
theorem cf_10_77 : rz_cf 10 (355, 0, 164, 2, 0, 1333, 1334, 0, 73, 1335) := Or.inr ⟨mz_X10_countTerms, rfl, Or.inl ⟨rfl, rz_good (i := 1333) rfl rfl, wst_X10_countTerms, pr_X10_countTerms, rfl⟩⟩
set_option maxRecDepth 100000 in
theorem cf_10_78 : rz_cf 10 (360, 0, 165, 3, 0, 1344, 1345, 0, 73, 1346) := Or.inr ⟨mz_X10_findTerm, rfl, Or.inl ⟨rfl, rz_good (i := 1344) rfl rfl, wst_X10_findTerm, pr_X10_findTerm, rfl⟩⟩
set_option maxRecDepth 100000 in
theorem cf_10_79 : rz_cf 10 (370, 1, 40, 2, 4, 1362, 609, 610, 82, 611) := Or.inr ⟨mz_X4_xOf, rfl, Or.inr (Or.inl ⟨rfl, rz_good (i := 1362) rfl rfl, win_X4_xOf, wse_X4_xOf, ⟨1, pr_X4_xOf, rfl⟩, rfl, rfl⟩)⟩
set_option maxRecDepth 100000 in
theorem cf_10_80 : rz_cf 10 (371, 1, 41, 2, 4, 1363, 613, 614, 82, 615) := Or.inr ⟨mz_X4_yOf, rfl, Or.inr (Or.inl ⟨rfl, rz_good (i := 1363) rfl rfl, win_X4_yOf, wse_X4_yOf, ⟨1, pr_X4_yOf, rfl⟩, rfl, rfl⟩)⟩
set_option maxRecDepth 100000 in
theorem cfa_10 : ∀ q ∈ rz_clT.getD 10 [], rz_cf 10 q := by
  show ∀ q ∈ [(1, 9, 0, 1, 0, 100, 101, 0, 0, 102), (28, 4, 0, 1, 0, 107, 108, 0, 74, 109), (35, 4, 89, 1, 0, 146, 147, 0, 75, 148), (42, 4, 7, 1, 0, 166, 167, 0, 76, 168), (49, 4, 96, 1, 0, 190, 191, 0, 77, 192), (56, 4, 78, 1, 0, 205, 206, 0, 78, 207), (63, 4, 50, 1, 0, 233, 234, 0, 79, 235), (70, 4, 45, 1, 0, 287, 288, 0, 81, 289), (77, 4, 36, 1, 0, 303, 304, 0, 82, 305), (280, 1, 52, 1, 6, 359, 360, 361, 79, 362), (376, 1, 87, 2, 7, 373, 374, 375, 78, 376), (380, 1, 77, 2, 6, 378, 379, 380, 79, 381), (381, 1, 104, 2, 9, 391, 392, 393, 77, 394), (382, 1, 168, 2, 10, 400, 402, 0, 73, 403), (170, 1, 160, 2, 10, 404, 406, 1, 73, 407), (423, 1, 1, 2, 0, 408, 409, 410, 74, 411), (426, 1, 90, 2, 8, 428, 429, 430, 75, 431), (181, 1, 95, 1, 8, 440, 441, 442, 75, 443), (174, 1, 93, 2, 8, 444, 445, 446, 75, 447), (178, 1, 94, 2, 8, 448, 449, 450, 75, 451), (136, 1, 32, 3, 3, 452, 453, 454, 89, 455), (437, 0, 271, 1, 0, 456, 457, 0, 90, 458), (144, 1, 31, 1, 3, 459, 460, 461, 89, 462), (385, 0, 169, 2, 0, 463, 464, 0, 73, 465), (165, 0, 26, 2, 0, 466, 467, 0, 89, 468), (140, 1, 33, 2, 3, 501, 502, 503, 89, 504), (150, 0, 29, 2, 0, 506, 507, 0, 89, 508), (161, 0, 30, 2, 0, 516, 517, 0, 89, 518), (389, 1, 170, 1, 10, 519, 521, 5, 73, 522), (442, 1, 76, 2, 6, 523, 524, 525, 79, 526), (392, 1, 88, 1, 7, 575, 576, 577, 78, 578), (395, 0, 171, 1, 0, 583, 584, 0, 73, 585), (336, 0, 166, 1, 0, 586, 587, 0, 73, 588), (237, 0, 163, 2, 0, 589, 470, 0, 73, 471), (341, 0, 167, 2, 0, 590, 591, 0, 73, 592), (399, 1, 172, 3, 10, 593, 595, 11, 73, 596), (364, 1, 37, 3, 4, 597, 598, 599, 82, 600), (445, 1, 43, 1, 4, 620, 621, 622, 82, 623), (448, 1, 44, 3, 4, 624, 625, 626, 82, 627), (82, 0, 152, 1, 0, 638, 639, 0, 73, 640), (86, 0, 153, 3, 0, 711, 712, 0, 73, 713), (90, 0, 23, 5, 0, 730, 473, 0, 89, 474), (101, 1, 158, 3, 10, 747, 749, 15, 73, 750), (420, 1, 159, 1, 10, 751, 753, 16, 73, 754), (105, 0, 24, 3, 0, 762, 763, 0, 89, 764), (109, 0, 25, 2, 0, 773, 774, 0, 89, 775), (126, 1, 157, 2, 10, 807, 809, 17, 73, 810), (184, 1, 34, 2, 3, 901, 902, 903, 89, 904), (187, 1, 162, 4, 10, 915, 917, 18, 73, 918), (433, 1, 5, 3, 0, 919, 920, 921, 74, 922), (197, 1, 161, 2, 10, 942, 944, 20, 73, 945), (430, 1, 8, 2, 1, 946, 947, 948, 76, 949), (205, 1, 11, 2, 1, 969, 970, 971, 76, 972), (209, 1, 12, 2, 1, 978, 979, 980, 76, 981), (215, 1, 99, 3, 9, 982, 983, 984, 77, 985), (227, 1, 97, 2, 9, 1010, 1011, 1012, 77, 1013), (231, 0, 79, 4, 0, 1021, 1022, 0, 78, 1023), (243, 1, 81, 5, 7, 1029, 1030, 1031, 78, 1032), (250, 1, 155, 1, 10, 1051, 1053, 29, 73, 1054), (258, 1, 84, 2, 7, 1064, 1065, 1066, 78, 1067), (261, 1, 85, 2, 7, 1075, 580, 581, 78, 582), (266, 1, 86, 2, 7, 1091, 1092, 1093, 78, 1094), (269, 1, 98, 2, 9, 1095, 1096, 1097, 77, 1098), (276, 1, 51, 3, 6, 1107, 1108, 1109, 79, 1110), (285, 1, 61, 1, 6, 1119, 1120, 1121, 79, 1122), (291, 1, 53, 1, 6, 1144, 1145, 1146, 79, 1147), (294, 1, 59, 1, 6, 1176, 560, 561, 79, 562), (297, 1, 156, 1, 10, 1184, 1186, 39, 73, 1187), (300, 1, 60, 1, 6, 1189, 571, 572, 79, 573), (303, 1, 66, 4, 6, 1204, 1205, 1206, 79, 1207), (307, 1, 69, 1, 6, 1215, 1216, 1217, 79, 1218), (311, 1, 100, 3, 9, 1227, 1228, 1229, 77, 1230), (322, 1, 21, 3, 2, 1242, 1243, 1244, 80, 1245), (328, 1, 70, 1, 6, 1253, 1254, 1255, 79, 1256), (333, 1, 71, 2, 6, 1258, 1259, 1260, 79, 1261), (346, 1, 46, 5, 5, 1302, 1303, 1304, 81, 1305), (352, 0, 154, 2, 0, 1330, 1331, 0, 73, 1332), (355, 0, 164, 2, 0, 1333, 1334, 0, 73, 1335), (360, 0, 165, 3, 0, 1344, 1345, 0, 73, 1346), (370, 1, 40, 2, 4, 1362, 609, 610, 82, 611), (371, 1, 41, 2, 4, 1363, 613, 614, 82, 615)], rz_cf 10 q
  intro q hq
  simp only [List.mem_cons, List.not_mem_nil, or_false] at hq
  rcases hq with rfl | rfl | rfl | rfl | rfl | rfl | rfl | rfl | rfl | rfl | rfl | rfl | rfl | rfl | rfl | rfl | rfl | rfl | rfl | rfl | rfl | rfl | rfl | rfl | rfl | rfl | rfl | rfl | rfl | rfl | rfl | rfl | rfl | rfl | rfl | rfl | rfl | rfl | rfl | rfl | rfl | rfl | rfl | rfl | rfl | rfl | rfl | rfl | rfl | rfl | rfl | rfl | rfl | rfl | rfl | rfl | rfl | rfl | rfl | rfl | rfl | rfl | rfl | rfl | rfl | rfl | rfl | rfl | rfl | rfl | rfl | rfl | rfl | rfl | rfl | rfl | rfl | rfl | rfl | rfl | rfl
  · exact cf_10_0
  · exact cf_10_1
  · exact cf_10_2
  · exact cf_10_3
  · exact cf_10_4
  · exact cf_10_5
  · exact cf_10_6
  · exact cf_10_7
  · exact cf_10_8
  · exact cf_10_9
  · exact cf_10_10
  · exact cf_10_11
  · exact cf_10_12
  · exact cf_10_13
  · exact cf_10_14
  · exact cf_10_15
  · exact cf_10_16
  · exact cf_10_17
  · exact cf_10_18
  · exact cf_10_19
  · exact cf_10_20
  · exact cf_10_21
  · exact cf_10_22
  · exact cf_10_23
  · exact cf_10_24
  · exact cf_10_25
  · exact cf_10_26
  · exact cf_10_27
  · exact cf_10_28
  · exact cf_10_29
  · exact cf_10_30
  · exact cf_10_31
  · exact cf_10_32
  · exact cf_10_33
  · exact cf_10_34
  · exact cf_10_35
  · exact cf_10_36
  · exact cf_10_37
  · exact cf_10_38
  · exact cf_10_39
  · exact cf_10_40
  · exact cf_10_41
  · exact cf_10_42
  · exact cf_10_43
  · exact cf_10_44
  · exact cf_10_45
  · exact cf_10_46
  · exact cf_10_47
  · exact cf_10_48
  · exact cf_10_49
  · exact cf_10_50
  · exact cf_10_51
  · exact cf_10_52
  · exact cf_10_53
  · exact cf_10_54
  · exact cf_10_55
  · exact cf_10_56
  · exact cf_10_57
  · exact cf_10_58
  · exact cf_10_59
  · exact cf_10_60
  · exact cf_10_61
  · exact cf_10_62
  · exact cf_10_63
  · exact cf_10_64
  · exact cf_10_65
  · exact cf_10_66
  · exact cf_10_67
  · exact cf_10_68
  · exact cf_10_69
  · exact cf_10_70
  · exact cf_10_71
  · exact cf_10_72
  · exact cf_10_73
  · exact cf_10_74
  · exact cf_10_75
  · exact cf_10_76
  · exact cf_10_77
  · exact cf_10_78
  · exact cf_10_79
  · exact cf_10_80
set_option maxRecDepth 100000 in
theorem cf_11_0 : rz_cf 11 (1, 9, 0, 1, 0, 1369, 101, 0, 0, 102) := Or.inl ⟨rfl, rz_good (i := 1369) rfl rfl, woi, woc, rfl⟩
set_option maxRecDepth 100000 in
theorem cf_11_1 : rz_cf 11 (68, 0, 177, 1, 0, 1443, 1444, 0, 83, 1445) := Or.inr ⟨mz_X11_isSlot, rfl, Or.inl ⟨rfl, rz_good (i := 1443) rfl rfl, wst_X11_isSlot, pr_X11_isSlot, rfl⟩⟩
set_option maxRecDepth 100000 in
theorem cf_11_2 : rz_cf 11 (61, 0, 176, 3, 0, 1446, 1447, 0, 83, 1448) := Or.inr ⟨mz_X11_in, rfl, Or.inl ⟨rfl, rz_good (i := 1446) rfl rfl, wst_X11_in, pr_X11_in, rfl⟩⟩
set_option maxRecDepth 100000 in
theorem cf_11_3 : rz_cf 11 (72, 1, 175, 3, 11, 1449, 1451, 44, 83, 1452) := Or.inr ⟨mz_X11_no, rfl, Or.inr (Or.inl ⟨rfl, rz_good (i := 1449) rfl rfl, win_X11_no, wse_X11_no, ⟨2, pr_X11_no, rfl⟩, rfl, rfl⟩)⟩
set_option maxRecDepth 100000 in
theorem cf_11_4 : rz_cf 11 (76, 0, 178, 2, 0, 1453, 1454, 0, 83, 1455) := Or.inr ⟨mz_X11_gcd, rfl, Or.inl ⟨rfl, rz_good (i := 1453) rfl rfl, wst_X11_gcd, pr_X11_gcd, rfl⟩⟩
set_option maxRecDepth 100000 in
theorem cf_11_5 : rz_cf 11 (80, 0, 181, 4, 0, 1456, 1457, 0, 83, 1458) := Or.inr ⟨mz_X11_highOf, rfl, Or.inl ⟨rfl, rz_good (i := 1456) rfl rfl, wst_X11_highOf, pr_X11_highOf, rfl⟩⟩
set_option maxRecDepth 100000 in
theorem cf_11_6 : rz_cf 11 (84, 0, 179, 2, 0, 1459, 1460, 0, 83, 1461) := Or.inr ⟨mz_X11_mod, rfl, Or.inl ⟨rfl, rz_good (i := 1459) rfl rfl, wst_X11_mod, pr_X11_mod, rfl⟩⟩
set_option maxRecDepth 100000 in
theorem cf_11_7 : rz_cf 11 (87, 1, 180, 5, 11, 1462, 1464, 45, 83, 1465) := Or.inr ⟨mz_X11_becomes, rfl, Or.inr (Or.inl ⟨rfl, rz_good (i := 1462) rfl rfl, win_X11_becomes, wse_X11_becomes, ⟨4, pr_X11_becomes, rfl⟩, rfl, rfl⟩)⟩
set_option maxRecDepth 100000 in
theorem cf_11_8 : rz_cf 11 (91, 1, 186, 2, 11, 1486, 1488, 46, 83, 1489) := Or.inr ⟨mz_X11_lacks, rfl, Or.inr (Or.inl ⟨rfl, rz_good (i := 1486) rfl rfl, win_X11_lacks, wse_X11_lacks, ⟨1, pr_X11_lacks, rfl⟩, rfl, rfl⟩)⟩
set_option maxRecDepth 100000 in
theorem cf_11_9 : rz_cf 11 (94, 1, 189, 4, 11, 1490, 1492, 47, 83, 1493) := Or.inr ⟨mz_X11_hasIt, rfl, Or.inr (Or.inl ⟨rfl, rz_good (i := 1490) rfl rfl, win_X11_hasIt, wse_X11_hasIt, ⟨3, pr_X11_hasIt, rfl⟩, rfl, rfl⟩)⟩
set_option maxRecDepth 100000 in
theorem cf_11_10 : rz_cf 11 (98, 1, 187, 3, 11, 1498, 1500, 48, 83, 1501) := Or.inr ⟨mz_X11_lackBoth, rfl, Or.inr (Or.inl ⟨rfl, rz_good (i := 1498) rfl rfl, win_X11_lackBoth, wse_X11_lackBoth, ⟨2, pr_X11_lackBoth, rfl⟩, rfl, rfl⟩)⟩
set_option maxRecDepth 100000 in
theorem cf_11_11 : rz_cf 11 (102, 1, 191, 3, 11, 1506, 1508, 49, 83, 1509) := Or.inr ⟨mz_X11_isWithin, rfl, Or.inr (Or.inl ⟨rfl, rz_good (i := 1506) rfl rfl, win_X11_isWithin, wse_X11_isWithin, ⟨2, pr_X11_isWithin, rfl⟩, rfl, rfl⟩)⟩
set_option maxRecDepth 100000 in
theorem cf_11_12 : rz_cf 11 (105, 1, 194, 4, 11, 1514, 1516, 50, 83, 1517) := Or.inr ⟨mz_X11_lackAll, rfl, Or.inr (Or.inl ⟨rfl, rz_good (i := 1514) rfl rfl, win_X11_lackAll, wse_X11_lackAll, ⟨3, pr_X11_lackAll, rfl⟩, rfl, rfl⟩)⟩
set_option maxRecDepth 100000 in
theorem cf_11_13 : rz_cf 11 (130, 1, 204, 3, 11, 1531, 1533, 51, 83, 1534) := Or.inr ⟨mz_X11_lacksStep, rfl, Or.inr (Or.inl ⟨rfl, rz_good (i := 1531) rfl rfl, win_X11_lacksStep, wse_X11_lacksStep, ⟨2, pr_X11_lacksStep, rfl⟩, rfl, rfl⟩)⟩
set_option maxRecDepth 100000 in
theorem cf_11_14 : rz_cf 11 (133, 1, 203, 2, 11, 1535, 1537, 52, 83, 1538) := Or.inr ⟨mz_X11_stepsOf, rfl, Or.inr (Or.inl ⟨rfl, rz_good (i := 1535) rfl rfl, win_X11_stepsOf, wse_X11_stepsOf, ⟨1, pr_X11_stepsOf, rfl⟩, rfl, rfl⟩)⟩
set_option maxRecDepth 100000 in
theorem cf_11_15 : rz_cf 11 (118, 1, 200, 2, 11, 1539, 1541, 53, 83, 1542) := Or.inr ⟨mz_X11_shortOf, rfl, Or.inr (Or.inl ⟨rfl, rz_good (i := 1539) rfl rfl, win_X11_shortOf, wse_X11_shortOf, ⟨1, pr_X11_shortOf, rfl⟩, rfl, rfl⟩)⟩
set_option maxRecDepth 100000 in
theorem cf_11_16 : rz_cf 11 (110, 0, 198, 4, 0, 1543, 1544, 0, 83, 1545) := Or.inr ⟨mz_X11_times, rfl, Or.inl ⟨rfl, rz_good (i := 1543) rfl rfl, wst_X11_times, pr_X11_times, rfl⟩⟩
set_option maxRecDepth 100000 in
theorem cf_11_17 : rz_cf 11 (115, 0, 199, 2, 0, 1547, 1548, 0, 83, 1549) := Or.inr ⟨mz_X11_floor, rfl, Or.inl ⟨rfl, rz_good (i := 1547) rfl rfl, wst_X11_floor, pr_X11_floor, rfl⟩⟩
set_option maxRecDepth 100000 in
theorem cf_11_18 : rz_cf 11 (122, 0, 201, 2, 0, 1550, 1551, 0, 83, 1552) := Or.inr ⟨mz_X11_isTold, rfl, Or.inl ⟨rfl, rz_good (i := 1550) rfl rfl, wst_X11_isTold, pr_X11_isTold, rfl⟩⟩
set_option maxRecDepth 100000 in
theorem cf_11_19 : rz_cf 11 (126, 0, 202, 4, 0, 1553, 1554, 0, 83, 1555) := Or.inr ⟨mz_X11_isAhead, rfl, Or.inl ⟨rfl, rz_good (i := 1553) rfl rfl, wst_X11_isAhead, pr_X11_isAhead, rfl⟩⟩
set_option maxRecDepth 100000 in
theorem cf_11_20 : rz_cf 11 (142, 1, 210, 4, 11, 1572, 1574, 54, 83, 1575) := Or.inr ⟨mz_X11_lacksNear, rfl, Or.inr (Or.inl ⟨rfl, rz_good (i := 1572) rfl rfl, win_X11_lacksNear, wse_X11_lacksNear, ⟨3, pr_X11_lacksNear, rfl⟩, rfl, rfl⟩)⟩
set_option maxRecDepth 100000 in
theorem cf_11_21 : rz_cf 11 (145, 1, 209, 4, 11, 1576, 1578, 55, 83, 1579) := Or.inr ⟨mz_X11_nearest, rfl, Or.inr (Or.inl ⟨rfl, rz_good (i := 1576) rfl rfl, win_X11_nearest, wse_X11_nearest, ⟨3, pr_X11_nearest, rfl⟩, rfl, rfl⟩)⟩
set_option maxRecDepth 100000 in
theorem cf_11_22 : rz_cf 11 (149, 1, 213, 2, 11, 1591, 1593, 56, 83, 1594) := Or.inr ⟨mz_X11_around, rfl, Or.inr (Or.inl ⟨rfl, rz_good (i := 1591) rfl rfl, win_X11_around, wse_X11_around, ⟨1, pr_X11_around, rfl⟩, rfl, rfl⟩)⟩
set_option maxRecDepth 100000 in
theorem cf_11_23 : rz_cf 11 (169, 1, 215, 2, 11, 1599, 1601, 57, 83, 1602) := Or.inr ⟨mz_X11_cellOf, rfl, Or.inr (Or.inl ⟨rfl, rz_good (i := 1599) rfl rfl, win_X11_cellOf, wse_X11_cellOf, ⟨1, pr_X11_cellOf, rfl⟩, rfl, rfl⟩)⟩
set_option maxRecDepth 100000 in
theorem cf_11_24 : rz_cf 11 (165, 1, 216, 2, 11, 1603, 1605, 58, 83, 1606) := Or.inr ⟨mz_X11_adds, rfl, Or.inr (Or.inl ⟨rfl, rz_good (i := 1603) rfl rfl, win_X11_adds, wse_X11_adds, ⟨1, pr_X11_adds, rfl⟩, rfl, rfl⟩)⟩
set_option maxRecDepth 100000 in
theorem cf_11_25 : rz_cf 11 (159, 1, 217, 3, 11, 1607, 1609, 59, 83, 1610) := Or.inr ⟨mz_X11_addsNumber, rfl, Or.inr (Or.inl ⟨rfl, rz_good (i := 1607) rfl rfl, win_X11_addsNumber, wse_X11_addsNumber, ⟨2, pr_X11_addsNumber, rfl⟩, rfl, rfl⟩)⟩
set_option maxRecDepth 100000 in
theorem cf_11_26 : rz_cf 11 (175, 1, 220, 1, 11, 1622, 1624, 60, 83, 1625) := Or.inr ⟨mz_X11_fewestOf, rfl, Or.inr (Or.inl ⟨rfl, rz_good (i := 1622) rfl rfl, win_X11_fewestOf, wse_X11_fewestOf, ⟨0, pr_X11_fewestOf, rfl⟩, rfl, rfl⟩)⟩
set_option maxRecDepth 100000 in
theorem cf_11_27 : rz_cf 11 (179, 1, 222, 2, 11, 1630, 1632, 61, 83, 1633) := Or.inr ⟨mz_X11_lacksUpTo, rfl, Or.inr (Or.inl ⟨rfl, rz_good (i := 1630) rfl rfl, win_X11_lacksUpTo, wse_X11_lacksUpTo, ⟨1, pr_X11_lacksUpTo, rfl⟩, rfl, rfl⟩)⟩
set_option maxRecDepth 100000 in
theorem cf_11_28 : rz_cf 11 (203, 1, 234, 1, 11, 1662, 1664, 62, 83, 1665) := Or.inr ⟨mz_X11_isPolygon, rfl, Or.inr (Or.inl ⟨rfl, rz_good (i := 1662) rfl rfl, win_X11_isPolygon, wse_X11_isPolygon, ⟨0, pr_X11_isPolygon, rfl⟩, rfl, rfl⟩)⟩
set_option maxRecDepth 100000 in
theorem cf_11_29 : rz_cf 11 (190, 1, 230, 2, 11, 1666, 1668, 63, 83, 1669) := Or.inr ⟨mz_X11_after, rfl, Or.inr (Or.inl ⟨rfl, rz_good (i := 1666) rfl rfl, win_X11_after, wse_X11_after, ⟨1, pr_X11_after, rfl⟩, rfl, rfl⟩)⟩
set_option maxRecDepth 100000 in
theorem cf_11_30 : rz_cf 11 (196, 1, 231, 4, 11, 1670, 1672, 64, 83, 1673) := Or.inr ⟨mz_X11_turn, rfl, Or.inr (Or.inl ⟨rfl, rz_good (i := 1670) rfl rfl, win_X11_turn, wse_X11_turn, ⟨3, pr_X11_turn, rfl⟩, rfl, rfl⟩)⟩
set_option maxRecDepth 100000 in
theorem cf_11_31 : rz_cf 11 (200, 1, 233, 3, 11, 1674, 1676, 65, 83, 1677) := Or.inr ⟨mz_X11_doMeet, rfl, Or.inr (Or.inl ⟨rfl, rz_good (i := 1674) rfl rfl, win_X11_doMeet, wse_X11_doMeet, ⟨2, pr_X11_doMeet, rfl⟩, rfl, rfl⟩)⟩
set_option maxRecDepth 100000 in
theorem cf_11_32 : rz_cf 11 (193, 1, 232, 4, 11, 1678, 1680, 66, 83, 1681) := Or.inr ⟨mz_X11_isOn, rfl, Or.inr (Or.inl ⟨rfl, rz_good (i := 1678) rfl rfl, win_X11_isOn, wse_X11_isOn, ⟨3, pr_X11_isOn, rfl⟩, rfl, rfl⟩)⟩
set_option maxRecDepth 100000 in
theorem cf_11_33 : rz_cf 11 (207, 1, 235, 1, 11, 1682, 1684, 67, 83, 1685) := Or.inr ⟨mz_X11_areaTwice, rfl, Or.inr (Or.inl ⟨rfl, rz_good (i := 1682) rfl rfl, win_X11_areaTwice, wse_X11_areaTwice, ⟨0, pr_X11_areaTwice, rfl⟩, rfl, rfl⟩)⟩
set_option maxRecDepth 100000 in
theorem cf_11_34 : rz_cf 11 (211, 0, 270, 1, 0, 1686, 568, 0, 90, 569) := Or.inr ⟨mz_J9_abs_0f7a4, rfl, Or.inl ⟨rfl, rz_good (i := 1686) rfl rfl, wst_J9_abs_0f7a4, pr_J9_abs_0f7a4, rfl⟩⟩
set_option maxRecDepth 100000 in
theorem cf_11_35 : rz_cf 11 (216, 1, 237, 1, 11, 1691, 1693, 68, 83, 1694) := Or.inr ⟨mz_X11_rimIts, rfl, Or.inr (Or.inl ⟨rfl, rz_good (i := 1691) rfl rfl, win_X11_rimIts, wse_X11_rimIts, ⟨0, pr_X11_rimIts, rfl⟩, rfl, rfl⟩)⟩
set_option maxRecDepth 100000 in
theorem cf_11_36 : rz_cf 11 (226, 1, 240, 3, 11, 1699, 1701, 69, 83, 1702) := Or.inr ⟨mz_X11_whereIts, rfl, Or.inr (Or.inl ⟨rfl, rz_good (i := 1699) rfl rfl, win_X11_whereIts, wse_X11_whereIts, ⟨2, pr_X11_whereIts, rfl⟩, rfl, rfl⟩)⟩
set_option maxRecDepth 100000 in
theorem cf_11_37 : rz_cf 11 (223, 1, 239, 3, 11, 1705, 1707, 70, 83, 1708) := Or.inr ⟨mz_X11_isInside, rfl, Or.inr (Or.inl ⟨rfl, rz_good (i := 1705) rfl rfl, win_X11_isInside, wse_X11_isInside, ⟨2, pr_X11_isInside, rfl⟩, rfl, rfl⟩)⟩
set_option maxRecDepth 100000 in
theorem cf_11_38 : rz_cf 11 (233, 1, 245, 5, 11, 1727, 1729, 71, 83, 1730) := Or.inr ⟨mz_X11_isEar, rfl, Or.inr (Or.inl ⟨rfl, rz_good (i := 1727) rfl rfl, win_X11_isEar, wse_X11_isEar, ⟨4, pr_X11_isEar, rfl⟩, rfl, rfl⟩)⟩
set_option maxRecDepth 100000 in
theorem cf_11_39 : rz_cf 11 (237, 0, 248, 1, 0, 1739, 1740, 0, 83, 1741) := Or.inr ⟨mz_X11_seenOf, rfl, Or.inl ⟨rfl, rz_good (i := 1739) rfl rfl, wst_X11_seenOf, pr_X11_seenOf, rfl⟩⟩
set_option maxRecDepth 100000 in
theorem cf_11_40 : rz_cf 11 (241, 0, 249, 1, 0, 1742, 1743, 0, 83, 1744) := Or.inr ⟨mz_X11_manyOf, rfl, Or.inl ⟨rfl, rz_good (i := 1742) rfl rfl, wst_X11_manyOf, pr_X11_manyOf, rfl⟩⟩
set_option maxRecDepth 100000 in
theorem cf_11_41 : rz_cf 11 (245, 0, 253, 2, 0, 1757, 1758, 0, 83, 1759) := Or.inr ⟨mz_X11_areRight, rfl, Or.inl ⟨rfl, rz_good (i := 1757) rfl rfl, wst_X11_areRight, pr_X11_areRight, rfl⟩⟩
set_option maxRecDepth 100000 in
theorem cf_11_42 : rz_cf 11 (248, 0, 254, 2, 0, 1760, 1761, 0, 83, 1762) := Or.inr ⟨mz_X11_termsOf, rfl, Or.inl ⟨rfl, rz_good (i := 1760) rfl rfl, wst_X11_termsOf, pr_X11_termsOf, rfl⟩⟩
set_option maxRecDepth 100000 in
theorem cf_11_43 : rz_cf 11 (252, 0, 255, 1, 0, 1763, 1764, 0, 83, 1765) := Or.inr ⟨mz_X11_manyTerms, rfl, Or.inl ⟨rfl, rz_good (i := 1763) rfl rfl, wst_X11_manyTerms, pr_X11_manyTerms, rfl⟩⟩
set_option maxRecDepth 100000 in
theorem cf_11_44 : rz_cf 11 (258, 0, 259, 2, 0, 1774, 1775, 0, 83, 1776) := Or.inr ⟨mz_X11_hullOf, rfl, Or.inl ⟨rfl, rz_good (i := 1774) rfl rfl, wst_X11_hullOf, pr_X11_hullOf, rfl⟩⟩
set_option maxRecDepth 100000 in
theorem cf_11_45 : rz_cf 11 (255, 0, 258, 3, 0, 1777, 1778, 0, 83, 1779) := Or.inr ⟨mz_X11_lowest, rfl, Or.inl ⟨rfl, rz_good (i := 1777) rfl rfl, wst_X11_lowest, pr_X11_lowest, rfl⟩⟩
set_option maxRecDepth 100000 in
theorem cf_11_46 : rz_cf 11 (261, 0, 260, 1, 0, 1780, 1781, 0, 83, 1782) := Or.inr ⟨mz_X11_manyHull, rfl, Or.inl ⟨rfl, rz_good (i := 1780) rfl rfl, wst_X11_manyHull, pr_X11_manyHull, rfl⟩⟩
set_option maxRecDepth 100000 in
theorem cf_11_47 : rz_cf 11 (268, 1, 207, 2, 11, 1801, 1561, 1562, 83, 1563) := Or.inr ⟨mz_X11_second, rfl, Or.inr (Or.inl ⟨rfl, rz_good (i := 1801) rfl rfl, win_X11_second, wse_X11_second, ⟨1, pr_X11_second, rfl⟩, rfl, rfl⟩)⟩
set_option maxRecDepth 100000 in
theorem cf_11_48 : rz_cf 11 (271, 0, 271, 1, 0, 1802, 457, 0, 90, 458) := Or.inr ⟨mz_J9_abs_067f4, rfl, Or.inl ⟨rfl, rz_good (i := 1802) rfl rfl, wst_J9_abs_067f4, pr_J9_abs_067f4, rfl⟩⟩
set_option maxRecDepth 100000 in
theorem cf_11_49 : rz_cf 11 (274, 1, 242, 1, 11, 1803, 1710, 1711, 83, 1712) := Or.inr ⟨mz_X11_within, rfl, Or.inr (Or.inl ⟨rfl, rz_good (i := 1803) rfl rfl, win_X11_within, wse_X11_within, ⟨0, pr_X11_within, rfl⟩, rfl, rfl⟩)⟩
set_option maxRecDepth 100000 in
theorem cfa_11 : ∀ q ∈ rz_clT.getD 11 [], rz_cf 11 q := by
  show ∀ q ∈ [(1, 9, 0, 1, 0, 1369, 101, 0, 0, 102), (68, 0, 177, 1, 0, 1443, 1444, 0, 83, 1445), (61, 0, 176, 3, 0, 1446, 1447, 0, 83, 1448), (72, 1, 175, 3, 11, 1449, 1451, 44, 83, 1452), (76, 0, 178, 2, 0, 1453, 1454, 0, 83, 1455), (80, 0, 181, 4, 0, 1456, 1457, 0, 83, 1458), (84, 0, 179, 2, 0, 1459, 1460, 0, 83, 1461), (87, 1, 180, 5, 11, 1462, 1464, 45, 83, 1465), (91, 1, 186, 2, 11, 1486, 1488, 46, 83, 1489), (94, 1, 189, 4, 11, 1490, 1492, 47, 83, 1493), (98, 1, 187, 3, 11, 1498, 1500, 48, 83, 1501), (102, 1, 191, 3, 11, 1506, 1508, 49, 83, 1509), (105, 1, 194, 4, 11, 1514, 1516, 50, 83, 1517), (130, 1, 204, 3, 11, 1531, 1533, 51, 83, 1534), (133, 1, 203, 2, 11, 1535, 1537, 52, 83, 1538), (118, 1, 200, 2, 11, 1539, 1541, 53, 83, 1542), (110, 0, 198, 4, 0, 1543, 1544, 0, 83, 1545), (115, 0, 199, 2, 0, 1547, 1548, 0, 83, 1549), (122, 0, 201, 2, 0, 1550, 1551, 0, 83, 1552), (126, 0, 202, 4, 0, 1553, 1554, 0, 83, 1555), (142, 1, 210, 4, 11, 1572, 1574, 54, 83, 1575), (145, 1, 209, 4, 11, 1576, 1578, 55, 83, 1579), (149, 1, 213, 2, 11, 1591, 1593, 56, 83, 1594), (169, 1, 215, 2, 11, 1599, 1601, 57, 83, 1602), (165, 1, 216, 2, 11, 1603, 1605, 58, 83, 1606), (159, 1, 217, 3, 11, 1607, 1609, 59, 83, 1610), (175, 1, 220, 1, 11, 1622, 1624, 60, 83, 1625), (179, 1, 222, 2, 11, 1630, 1632, 61, 83, 1633), (203, 1, 234, 1, 11, 1662, 1664, 62, 83, 1665), (190, 1, 230, 2, 11, 1666, 1668, 63, 83, 1669), (196, 1, 231, 4, 11, 1670, 1672, 64, 83, 1673), (200, 1, 233, 3, 11, 1674, 1676, 65, 83, 1677), (193, 1, 232, 4, 11, 1678, 1680, 66, 83, 1681), (207, 1, 235, 1, 11, 1682, 1684, 67, 83, 1685), (211, 0, 270, 1, 0, 1686, 568, 0, 90, 569), (216, 1, 237, 1, 11, 1691, 1693, 68, 83, 1694), (226, 1, 240, 3, 11, 1699, 1701, 69, 83, 1702), (223, 1, 239, 3, 11, 1705, 1707, 70, 83, 1708), (233, 1, 245, 5, 11, 1727, 1729, 71, 83, 1730), (237, 0, 248, 1, 0, 1739, 1740, 0, 83, 1741), (241, 0, 249, 1, 0, 1742, 1743, 0, 83, 1744), (245, 0, 253, 2, 0, 1757, 1758, 0, 83, 1759), (248, 0, 254, 2, 0, 1760, 1761, 0, 83, 1762), (252, 0, 255, 1, 0, 1763, 1764, 0, 83, 1765), (258, 0, 259, 2, 0, 1774, 1775, 0, 83, 1776), (255, 0, 258, 3, 0, 1777, 1778, 0, 83, 1779), (261, 0, 260, 1, 0, 1780, 1781, 0, 83, 1782), (268, 1, 207, 2, 11, 1801, 1561, 1562, 83, 1563), (271, 0, 271, 1, 0, 1802, 457, 0, 90, 458), (274, 1, 242, 1, 11, 1803, 1710, 1711, 83, 1712)], rz_cf 11 q
  intro q hq
  simp only [List.mem_cons, List.not_mem_nil, or_false] at hq
  rcases hq with rfl | rfl | rfl | rfl | rfl | rfl | rfl | rfl | rfl | rfl | rfl | rfl | rfl | rfl | rfl | rfl | rfl | rfl | rfl | rfl | rfl | rfl | rfl | rfl | rfl | rfl | rfl | rfl | rfl | rfl | rfl | rfl | rfl | rfl | rfl | rfl | rfl | rfl | rfl | rfl | rfl | rfl | rfl | rfl | rfl | rfl | rfl | rfl | rfl | rfl
  · exact cf_11_0
  · exact cf_11_1
  · exact cf_11_2
  · exact cf_11_3
  · exact cf_11_4
  · exact cf_11_5
  · exact cf_11_6
  · exact cf_11_7
  · exact cf_11_8
  · exact cf_11_9
  · exact cf_11_10
  · exact cf_11_11
  · exact cf_11_12
  · exact cf_11_13
  · exact cf_11_14
  · exact cf_11_15
  · exact cf_11_16
  · exact cf_11_17
  · exact cf_11_18
  · exact cf_11_19
  · exact cf_11_20
  · exact cf_11_21
  · exact cf_11_22
  · exact cf_11_23
  · exact cf_11_24
  · exact cf_11_25
  · exact cf_11_26
  · exact cf_11_27
  · exact cf_11_28
  · exact cf_11_29
  · exact cf_11_30
  · exact cf_11_31
  · exact cf_11_32
  · exact cf_11_33
  · exact cf_11_34
  · exact cf_11_35
  · exact cf_11_36
  · exact cf_11_37
  · exact cf_11_38
  · exact cf_11_39
  · exact cf_11_40
  · exact cf_11_41
  · exact cf_11_42
  · exact cf_11_43
  · exact cf_11_44
  · exact cf_11_45
  · exact cf_11_46
  · exact cf_11_47
  · exact cf_11_48
  · exact cf_11_49
set_option maxRecDepth 100000 in
theorem cf_12_0 : rz_cf 12 (159, 2, 105, 1, 0, 97, 98, 0, 73, 99) := Or.inr ⟨mz_X10_init, rfl, Or.inr (Or.inr (Or.inl ⟨rfl, rz_good (i := 97) rfl rfl, win_X10_init, rfl, ⟨0, pr_X10_init, rfl⟩, rfl, rfl⟩))⟩
set_option maxRecDepth 100000 in
theorem cf_12_1 : rz_cf 12 (257, 1, 133, 1, 10, 355, 356, 357, 73, 358) := Or.inr ⟨mz_X10_clear, rfl, Or.inr (Or.inl ⟨rfl, rz_good (i := 355) rfl rfl, win_X10_clear, wse_X10_clear, ⟨0, pr_X10_clear, rfl⟩, rfl, rfl⟩)⟩
set_option maxRecDepth 100000 in
theorem cf_12_2 : rz_cf 12 (306, 1, 149, 1, 10, 363, 364, 365, 73, 366) := Or.inr ⟨mz_X10_held, rfl, Or.inr (Or.inl ⟨rfl, rz_good (i := 363) rfl rfl, win_X10_held, wse_X10_held, ⟨0, pr_X10_held, rfl⟩, rfl, rfl⟩)⟩
set_option maxRecDepth 100000 in
theorem cf_12_3 : rz_cf 12 (310, 1, 150, 1, 10, 367, 368, 369, 73, 370) := Or.inr ⟨mz_X10_checksum, rfl, Or.inr (Or.inl ⟨rfl, rz_good (i := 367) rfl rfl, win_X10_checksum, wse_X10_checksum, ⟨0, pr_X10_checksum, rfl⟩, rfl, rfl⟩)⟩
set_option maxRecDepth 100000 in
theorem cf_12_4 : rz_cf 12 (315, 1, 151, 1, 10, 396, 397, 398, 73, 399) := Or.inr ⟨mz_X10_isSound, rfl, Or.inr (Or.inl ⟨rfl, rz_good (i := 396) rfl rfl, win_X10_isSound, wse_X10_isSound, ⟨0, pr_X10_isSound, rfl⟩, rfl, rfl⟩)⟩
set_option maxRecDepth 100000 in
theorem cf_12_5 : rz_cf 12 (163, 5, 277, 7, 0, 628, 629, 0, 72, 630) := Or.inr ⟨mz_L_spanned, rfl, Or.inr (Or.inr (Or.inr (Or.inr (Or.inr ⟨rfl, rz_good (i := 628) rfl rfl, wst_L_spanned, pr_L_spanned, fun h => by cases h⟩))))⟩
set_option maxRecDepth 100000 in
theorem cf_12_6 : rz_cf 12 (7, 1, 106, 6, 10, 634, 635, 636, 73, 637) := Or.inr ⟨mz_X10_spanned, rfl, Or.inr (Or.inl ⟨rfl, rz_good (i := 634) rfl rfl, win_X10_spanned, wse_X10_spanned, ⟨5, pr_X10_spanned, rfl⟩, rfl, rfl⟩)⟩
set_option maxRecDepth 100000 in
theorem cf_12_7 : rz_cf 12 (172, 5, 278, 6, 0, 755, 756, 0, 72, 757) := Or.inr ⟨mz_L_remainder, rfl, Or.inr (Or.inr (Or.inr (Or.inr (Or.inr ⟨rfl, rz_good (i := 755) rfl rfl, wst_L_remainder, pr_L_remainder, fun h => by cases h⟩))))⟩
set_option maxRecDepth 100000 in
theorem cf_12_8 : rz_cf 12 (19, 1, 107, 5, 10, 758, 759, 760, 73, 761) := Or.inr ⟨mz_X10_remainder, rfl, Or.inr (Or.inl ⟨rfl, rz_good (i := 758) rfl rfl, win_X10_remainder, wse_X10_remainder, ⟨4, pr_X10_remainder, rfl⟩, rfl, rfl⟩)⟩
set_option maxRecDepth 100000 in
theorem cf_12_9 : rz_cf 12 (176, 5, 279, 5, 0, 765, 766, 0, 72, 767) := Or.inr ⟨mz_L_nth, rfl, Or.inr (Or.inr (Or.inr (Or.inr (Or.inr ⟨rfl, rz_good (i := 765) rfl rfl, wst_L_nth, pr_L_nth, fun h => by cases h⟩))))⟩
set_option maxRecDepth 100000 in
theorem cf_12_10 : rz_cf 12 (23, 1, 108, 4, 10, 769, 770, 771, 73, 772) := Or.inr ⟨mz_X10_nth, rfl, Or.inr (Or.inl ⟨rfl, rz_good (i := 769) rfl rfl, win_X10_nth, wse_X10_nth, ⟨3, pr_X10_nth, rfl⟩, rfl, rfl⟩)⟩
set_option maxRecDepth 100000 in
theorem cf_12_11 : rz_cf 12 (180, 5, 280, 3, 0, 792, 793, 0, 72, 794) := Or.inr ⟨mz_L_grids, rfl, Or.inr (Or.inr (Or.inr (Or.inr (Or.inr ⟨rfl, rz_good (i := 792) rfl rfl, wst_L_grids, pr_L_grids, fun h => by cases h⟩))))⟩
set_option maxRecDepth 100000 in
theorem cf_12_12 : rz_cf 12 (29, 1, 109, 2, 10, 795, 796, 797, 73, 798) := Or.inr ⟨mz_X10_grids, rfl, Or.inr (Or.inl ⟨rfl, rz_good (i := 795) rfl rfl, win_X10_grids, wse_X10_grids, ⟨1, pr_X10_grids, rfl⟩, rfl, rfl⟩)⟩
set_option maxRecDepth 100000 in
theorem cf_12_13 : rz_cf 12 (184, 5, 281, 4, 0, 799, 800, 0, 72, 801) := Or.inr ⟨mz_L_form, rfl, Or.inr (Or.inr (Or.inr (Or.inr (Or.inr ⟨rfl, rz_good (i := 799) rfl rfl, wst_L_form, pr_L_form, fun h => by cases h⟩))))⟩
set_option maxRecDepth 100000 in
theorem cf_12_14 : rz_cf 12 (33, 1, 110, 3, 10, 802, 803, 804, 73, 805) := Or.inr ⟨mz_X10_form, rfl, Or.inr (Or.inl ⟨rfl, rz_good (i := 802) rfl rfl, win_X10_form, wse_X10_form, ⟨2, pr_X10_form, rfl⟩, rfl, rfl⟩)⟩
set_option maxRecDepth 100000 in
theorem cf_12_15 : rz_cf 12 (188, 5, 282, 5, 0, 812, 813, 0, 72, 814) := Or.inr ⟨mz_L_has, rfl, Or.inr (Or.inr (Or.inr (Or.inr (Or.inr ⟨rfl, rz_good (i := 812) rfl rfl, wst_L_has, pr_L_has, fun h => by cases h⟩))))⟩
set_option maxRecDepth 100000 in
theorem cf_12_16 : rz_cf 12 (37, 1, 111, 4, 10, 815, 816, 817, 73, 818) := Or.inr ⟨mz_X10_has, rfl, Or.inr (Or.inl ⟨rfl, rz_good (i := 815) rfl rfl, win_X10_has, wse_X10_has, ⟨3, pr_X10_has, rfl⟩, rfl, rfl⟩)⟩
set_option maxRecDepth 100000 in
theorem cf_12_17 : rz_cf 12 (191, 5, 283, 4, 0, 819, 820, 0, 72, 821) := Or.inr ⟨mz_L_isSame, rfl, Or.inr (Or.inr (Or.inr (Or.inr (Or.inr ⟨rfl, rz_good (i := 819) rfl rfl, wst_L_isSame, pr_L_isSame, fun h => by cases h⟩))))⟩
set_option maxRecDepth 100000 in
theorem cf_12_18 : rz_cf 12 (41, 1, 112, 3, 10, 822, 823, 824, 73, 825) := Or.inr ⟨mz_X10_isSame, rfl, Or.inr (Or.inl ⟨rfl, rz_good (i := 822) rfl rfl, win_X10_isSame, wse_X10_isSame, ⟨2, pr_X10_isSame, rfl⟩, rfl, rfl⟩)⟩
set_option maxRecDepth 100000 in
theorem cf_12_19 : rz_cf 12 (195, 5, 284, 4, 0, 826, 827, 0, 72, 828) := Or.inr ⟨mz_L_parts, rfl, Or.inr (Or.inr (Or.inr (Or.inr (Or.inr ⟨rfl, rz_good (i := 826) rfl rfl, wst_L_parts, pr_L_parts, fun h => by cases h⟩))))⟩
set_option maxRecDepth 100000 in
theorem cf_12_20 : rz_cf 12 (45, 1, 113, 3, 10, 829, 830, 831, 73, 832) := Or.inr ⟨mz_X10_parts, rfl, Or.inr (Or.inl ⟨rfl, rz_good (i := 829) rfl rfl, win_X10_parts, wse_X10_parts, ⟨2, pr_X10_parts, rfl⟩, rfl, rfl⟩)⟩
set_option maxRecDepth 100000 in
theorem cf_12_21 : rz_cf 12 (198, 5, 285, 5, 0, 834, 835, 0, 72, 836) := Or.inr ⟨mz_L_meet, rfl, Or.inr (Or.inr (Or.inr (Or.inr (Or.inr ⟨rfl, rz_good (i := 834) rfl rfl, wst_L_meet, pr_L_meet, fun h => by cases h⟩))))⟩
set_option maxRecDepth 100000 in
theorem cf_12_22 : rz_cf 12 (49, 1, 114, 4, 10, 838, 839, 840, 73, 841) := Or.inr ⟨mz_X10_meet, rfl, Or.inr (Or.inl ⟨rfl, rz_good (i := 838) rfl rfl, win_X10_meet, wse_X10_meet, ⟨3, pr_X10_meet, rfl⟩, rfl, rfl⟩)⟩
set_option maxRecDepth 100000 in
theorem cf_12_23 : rz_cf 12 (201, 5, 286, 5, 0, 858, 859, 0, 72, 860) := Or.inr ⟨mz_L_join, rfl, Or.inr (Or.inr (Or.inr (Or.inr (Or.inr ⟨rfl, rz_good (i := 858) rfl rfl, wst_L_join, pr_L_join, fun h => by cases h⟩))))⟩
set_option maxRecDepth 100000 in
theorem cf_12_24 : rz_cf 12 (54, 1, 115, 4, 10, 861, 862, 863, 73, 864) := Or.inr ⟨mz_X10_join, rfl, Or.inr (Or.inl ⟨rfl, rz_good (i := 861) rfl rfl, win_X10_join, wse_X10_join, ⟨3, pr_X10_join, rfl⟩, rfl, rfl⟩)⟩
set_option maxRecDepth 100000 in
theorem cf_12_25 : rz_cf 12 (204, 5, 287, 2, 0, 865, 866, 0, 72, 867) := Or.inr ⟨mz_L_undo, rfl, Or.inr (Or.inr (Or.inr (Or.inr (Or.inr ⟨rfl, rz_good (i := 865) rfl rfl, wst_L_undo, pr_L_undo, fun h => by cases h⟩))))⟩
set_option maxRecDepth 100000 in
theorem cf_12_26 : rz_cf 12 (57, 1, 116, 1, 10, 868, 869, 870, 73, 871) := Or.inr ⟨mz_X10_undo, rfl, Or.inr (Or.inl ⟨rfl, rz_good (i := 868) rfl rfl, win_X10_undo, wse_X10_undo, ⟨0, pr_X10_undo, rfl⟩, rfl, rfl⟩)⟩
set_option maxRecDepth 100000 in
theorem cf_12_27 : rz_cf 12 (208, 5, 288, 4, 0, 873, 874, 0, 72, 875) := Or.inr ⟨mz_L_stepX, rfl, Or.inr (Or.inr (Or.inr (Or.inr (Or.inr ⟨rfl, rz_good (i := 873) rfl rfl, wst_L_stepX, pr_L_stepX, fun h => by cases h⟩))))⟩
set_option maxRecDepth 100000 in
theorem cf_12_28 : rz_cf 12 (61, 1, 117, 3, 10, 876, 877, 878, 73, 879) := Or.inr ⟨mz_X10_stepX, rfl, Or.inr (Or.inl ⟨rfl, rz_good (i := 876) rfl rfl, win_X10_stepX, wse_X10_stepX, ⟨2, pr_X10_stepX, rfl⟩, rfl, rfl⟩)⟩
set_option maxRecDepth 100000 in
theorem cf_12_29 : rz_cf 12 (211, 5, 289, 4, 0, 880, 881, 0, 72, 882) := Or.inr ⟨mz_L_stepY, rfl, Or.inr (Or.inr (Or.inr (Or.inr (Or.inr ⟨rfl, rz_good (i := 880) rfl rfl, wst_L_stepY, pr_L_stepY, fun h => by cases h⟩))))⟩
set_option maxRecDepth 100000 in
theorem cf_12_30 : rz_cf 12 (64, 1, 118, 3, 10, 883, 884, 885, 73, 886) := Or.inr ⟨mz_X10_stepY, rfl, Or.inr (Or.inl ⟨rfl, rz_good (i := 883) rfl rfl, win_X10_stepY, wse_X10_stepY, ⟨2, pr_X10_stepY, rfl⟩, rfl, rfl⟩)⟩
set_option maxRecDepth 100000 in
theorem cf_12_31 : rz_cf 12 (214, 5, 290, 3, 0, 887, 888, 0, 72, 889) := Or.inr ⟨mz_L_second, rfl, Or.inr (Or.inr (Or.inr (Or.inr (Or.inr ⟨rfl, rz_good (i := 887) rfl rfl, wst_L_second, pr_L_second, fun h => by cases h⟩))))⟩
set_option maxRecDepth 100000 in
theorem cf_12_32 : rz_cf 12 (67, 1, 119, 2, 10, 890, 891, 892, 73, 893) := Or.inr ⟨mz_X10_second, rfl, Or.inr (Or.inl ⟨rfl, rz_good (i := 890) rfl rfl, win_X10_second, wse_X10_second, ⟨1, pr_X10_second, rfl⟩, rfl, rfl⟩)⟩
set_option maxRecDepth 100000 in
theorem cf_12_33 : rz_cf 12 (217, 5, 291, 4, 0, 894, 895, 0, 72, 896) := Or.inr ⟨mz_L_steps, rfl, Or.inr (Or.inr (Or.inr (Or.inr (Or.inr ⟨rfl, rz_good (i := 894) rfl rfl, wst_L_steps, pr_L_steps, fun h => by cases h⟩))))⟩
set_option maxRecDepth 100000 in
theorem cf_12_34 : rz_cf 12 (70, 1, 120, 3, 10, 897, 898, 899, 73, 900) := Or.inr ⟨mz_X10_steps, rfl, Or.inr (Or.inl ⟨rfl, rz_good (i := 897) rfl rfl, win_X10_steps, wse_X10_steps, ⟨2, pr_X10_steps, rfl⟩, rfl, rfl⟩)⟩
set_option maxRecDepth 100000 in
theorem cf_12_35 : rz_cf 12 (220, 5, 292, 5, 0, 908, 909, 0, 72, 910) := Or.inr ⟨mz_L_nearX, rfl, Or.inr (Or.inr (Or.inr (Or.inr (Or.inr ⟨rfl, rz_good (i := 908) rfl rfl, wst_L_nearX, pr_L_nearX, fun h => by cases h⟩))))⟩
set_option maxRecDepth 100000 in
theorem cf_12_36 : rz_cf 12 (73, 1, 121, 4, 10, 911, 912, 913, 73, 914) := Or.inr ⟨mz_X10_nearX, rfl, Or.inr (Or.inl ⟨rfl, rz_good (i := 911) rfl rfl, win_X10_nearX, wse_X10_nearX, ⟨3, pr_X10_nearX, rfl⟩, rfl, rfl⟩)⟩
set_option maxRecDepth 100000 in
theorem cf_12_37 : rz_cf 12 (223, 5, 293, 5, 0, 928, 929, 0, 72, 930) := Or.inr ⟨mz_L_nearY, rfl, Or.inr (Or.inr (Or.inr (Or.inr (Or.inr ⟨rfl, rz_good (i := 928) rfl rfl, wst_L_nearY, pr_L_nearY, fun h => by cases h⟩))))⟩
set_option maxRecDepth 100000 in
theorem cf_12_38 : rz_cf 12 (76, 1, 122, 4, 10, 931, 932, 933, 73, 934) := Or.inr ⟨mz_X10_nearY, rfl, Or.inr (Or.inl ⟨rfl, rz_good (i := 931) rfl rfl, win_X10_nearY, wse_X10_nearY, ⟨3, pr_X10_nearY, rfl⟩, rfl, rfl⟩)⟩
set_option maxRecDepth 100000 in
theorem cf_12_39 : rz_cf 12 (226, 5, 294, 3, 0, 935, 936, 0, 72, 937) := Or.inr ⟨mz_L_corners, rfl, Or.inr (Or.inr (Or.inr (Or.inr (Or.inr ⟨rfl, rz_good (i := 935) rfl rfl, wst_L_corners, pr_L_corners, fun h => by cases h⟩))))⟩
set_option maxRecDepth 100000 in
theorem cf_12_40 : rz_cf 12 (79, 1, 123, 2, 10, 938, 939, 940, 73, 941) := Or.inr ⟨mz_X10_corners, rfl, Or.inr (Or.inl ⟨rfl, rz_good (i := 938) rfl rfl, win_X10_corners, wse_X10_corners, ⟨1, pr_X10_corners, rfl⟩, rfl, rfl⟩)⟩
set_option maxRecDepth 100000 in
theorem cf_12_41 : rz_cf 12 (229, 5, 295, 5, 0, 961, 962, 0, 72, 963) := Or.inr ⟨mz_L_tellCorner, rfl, Or.inr (Or.inr (Or.inr (Or.inr (Or.inr ⟨rfl, rz_good (i := 961) rfl rfl, wst_L_tellCorner, pr_L_tellCorner, fun h => by cases h⟩))))⟩
set_option maxRecDepth 100000 in
theorem cf_12_42 : rz_cf 12 (82, 1, 124, 4, 10, 964, 965, 966, 73, 967) := Or.inr ⟨mz_X10_tellCorner, rfl, Or.inr (Or.inl ⟨rfl, rz_good (i := 964) rfl rfl, win_X10_tellCorner, wse_X10_tellCorner, ⟨3, pr_X10_tellCorner, rfl⟩, rfl, rfl⟩)⟩
set_option maxRecDepth 100000 in
theorem cf_12_43 : rz_cf 12 (233, 5, 296, 3, 0, 1002, 1003, 0, 72, 1004) := Or.inr ⟨mz_L_signAt, rfl, Or.inr (Or.inr (Or.inr (Or.inr (Or.inr ⟨rfl, rz_good (i := 1002) rfl rfl, wst_L_signAt, pr_L_signAt, fun h => by cases h⟩))))⟩
set_option maxRecDepth 100000 in
theorem cf_12_44 : rz_cf 12 (86, 1, 125, 2, 10, 1005, 1006, 1007, 73, 1008) := Or.inr ⟨mz_X10_signAt, rfl, Or.inr (Or.inl ⟨rfl, rz_good (i := 1005) rfl rfl, win_X10_signAt, wse_X10_signAt, ⟨1, pr_X10_signAt, rfl⟩, rfl, rfl⟩)⟩
set_option maxRecDepth 100000 in
theorem cf_12_45 : rz_cf 12 (236, 5, 297, 6, 0, 1014, 1015, 0, 72, 1016) := Or.inr ⟨mz_L_coins, rfl, Or.inr (Or.inr (Or.inr (Or.inr (Or.inr ⟨rfl, rz_good (i := 1014) rfl rfl, wst_L_coins, pr_L_coins, fun h => by cases h⟩))))⟩
set_option maxRecDepth 100000 in
theorem cf_12_46 : rz_cf 12 (90, 1, 126, 5, 10, 1017, 1018, 1019, 73, 1020) := Or.inr ⟨mz_X10_coins, rfl, Or.inr (Or.inl ⟨rfl, rz_good (i := 1017) rfl rfl, win_X10_coins, wse_X10_coins, ⟨4, pr_X10_coins, rfl⟩, rfl, rfl⟩)⟩
set_option maxRecDepth 100000 in
theorem cf_12_47 : rz_cf 12 (239, 5, 298, 2, 0, 1044, 1045, 0, 72, 1046) := Or.inr ⟨mz_L_lacks, rfl, Or.inr (Or.inr (Or.inr (Or.inr (Or.inr ⟨rfl, rz_good (i := 1044) rfl rfl, wst_L_lacks, pr_L_lacks, fun h => by cases h⟩))))⟩
set_option maxRecDepth 100000 in
theorem cf_12_48 : rz_cf 12 (93, 1, 127, 1, 10, 1047, 1048, 1049, 73, 1050) := Or.inr ⟨mz_X10_lacks, rfl, Or.inr (Or.inl ⟨rfl, rz_good (i := 1047) rfl rfl, win_X10_lacks, wse_X10_lacks, ⟨0, pr_X10_lacks, rfl⟩, rfl, rfl⟩)⟩
set_option maxRecDepth 100000 in
theorem cf_12_49 : rz_cf 12 (242, 5, 299, 3, 0, 1056, 1057, 0, 72, 1058) := Or.inr ⟨mz_L_lackAt, rfl, Or.inr (Or.inr (Or.inr (Or.inr (Or.inr ⟨rfl, rz_good (i := 1056) rfl rfl, wst_L_lackAt, pr_L_lackAt, fun h => by cases h⟩))))⟩
set_option maxRecDepth 100000 in
theorem cf_12_50 : rz_cf 12 (96, 1, 128, 2, 10, 1059, 1060, 1061, 73, 1062) := Or.inr ⟨mz_X10_lackAt, rfl, Or.inr (Or.inl ⟨rfl, rz_good (i := 1059) rfl rfl, win_X10_lackAt, wse_X10_lackAt, ⟨1, pr_X10_lackAt, rfl⟩, rfl, rfl⟩)⟩
set_option maxRecDepth 100000 in
theorem cf_12_51 : rz_cf 12 (245, 5, 300, 3, 0, 1068, 1069, 0, 72, 1070) := Or.inr ⟨mz_L_canMake, rfl, Or.inr (Or.inr (Or.inr (Or.inr (Or.inr ⟨rfl, rz_good (i := 1068) rfl rfl, wst_L_canMake, pr_L_canMake, fun h => by cases h⟩))))⟩
set_option maxRecDepth 100000 in
theorem cf_12_52 : rz_cf 12 (99, 1, 129, 2, 10, 1071, 1072, 1073, 73, 1074) := Or.inr ⟨mz_X10_canMake, rfl, Or.inr (Or.inl ⟨rfl, rz_good (i := 1071) rfl rfl, win_X10_canMake, wse_X10_canMake, ⟨1, pr_X10_canMake, rfl⟩, rfl, rfl⟩)⟩
set_option maxRecDepth 100000 in
theorem cf_12_53 : rz_cf 12 (248, 5, 301, 3, 0, 1076, 1077, 0, 72, 1078) := Or.inr ⟨mz_L_fewest, rfl, Or.inr (Or.inr (Or.inr (Or.inr (Or.inr ⟨rfl, rz_good (i := 1076) rfl rfl, wst_L_fewest, pr_L_fewest, fun h => by cases h⟩))))⟩
set_option maxRecDepth 100000 in
theorem cf_12_54 : rz_cf 12 (103, 1, 130, 2, 10, 1079, 1080, 1081, 73, 1082) := Or.inr ⟨mz_X10_fewest, rfl, Or.inr (Or.inl ⟨rfl, rz_good (i := 1079) rfl rfl, win_X10_fewest, wse_X10_fewest, ⟨1, pr_X10_fewest, rfl⟩, rfl, rfl⟩)⟩
set_option maxRecDepth 100000 in
theorem cf_12_55 : rz_cf 12 (251, 5, 302, 3, 0, 1084, 1085, 0, 72, 1086) := Or.inr ⟨mz_L_ways, rfl, Or.inr (Or.inr (Or.inr (Or.inr (Or.inr ⟨rfl, rz_good (i := 1084) rfl rfl, wst_L_ways, pr_L_ways, fun h => by cases h⟩))))⟩
set_option maxRecDepth 100000 in
theorem cf_12_56 : rz_cf 12 (106, 1, 131, 2, 10, 1087, 1088, 1089, 73, 1090) := Or.inr ⟨mz_X10_ways, rfl, Or.inr (Or.inl ⟨rfl, rz_good (i := 1087) rfl rfl, win_X10_ways, wse_X10_ways, ⟨1, pr_X10_ways, rfl⟩, rfl, rfl⟩)⟩
set_option maxRecDepth 100000 in
theorem cf_12_57 : rz_cf 12 (254, 5, 303, 4, 0, 1099, 1100, 0, 72, 1101) := Or.inr ⟨mz_L_corner, rfl, Or.inr (Or.inr (Or.inr (Or.inr (Or.inr ⟨rfl, rz_good (i := 1099) rfl rfl, wst_L_corner, pr_L_corner, fun h => by cases h⟩))))⟩
set_option maxRecDepth 100000 in
theorem cf_12_58 : rz_cf 12 (109, 1, 132, 3, 10, 1102, 1103, 1104, 73, 1105) := Or.inr ⟨mz_X10_corner, rfl, Or.inr (Or.inl ⟨rfl, rz_good (i := 1102) rfl rfl, win_X10_corner, wse_X10_corner, ⟨2, pr_X10_corner, rfl⟩, rfl, rfl⟩)⟩
set_option maxRecDepth 100000 in
theorem cf_12_59 : rz_cf 12 (261, 5, 304, 2, 0, 1111, 1112, 0, 72, 1113) := Or.inr ⟨mz_L_close, rfl, Or.inr (Or.inr (Or.inr (Or.inr (Or.inr ⟨rfl, rz_good (i := 1111) rfl rfl, wst_L_close, pr_L_close, fun h => by cases h⟩))))⟩
set_option maxRecDepth 100000 in
theorem cf_12_60 : rz_cf 12 (112, 1, 134, 1, 10, 1114, 1115, 1116, 73, 1117) := Or.inr ⟨mz_X10_close, rfl, Or.inr (Or.inl ⟨rfl, rz_good (i := 1114) rfl rfl, win_X10_close, wse_X10_close, ⟨0, pr_X10_close, rfl⟩, rfl, rfl⟩)⟩
set_option maxRecDepth 100000 in
theorem cf_12_61 : rz_cf 12 (264, 5, 305, 2, 0, 1177, 1178, 0, 72, 1179) := Or.inr ⟨mz_L_rim, rfl, Or.inr (Or.inr (Or.inr (Or.inr (Or.inr ⟨rfl, rz_good (i := 1177) rfl rfl, wst_L_rim, pr_L_rim, fun h => by cases h⟩))))⟩
set_option maxRecDepth 100000 in
theorem cf_12_62 : rz_cf 12 (115, 1, 135, 1, 10, 1180, 1181, 1182, 73, 1183) := Or.inr ⟨mz_X10_rim, rfl, Or.inr (Or.inl ⟨rfl, rz_good (i := 1180) rfl rfl, win_X10_rim, wse_X10_rim, ⟨0, pr_X10_rim, rfl⟩, rfl, rfl⟩)⟩
set_option maxRecDepth 100000 in
theorem cf_12_63 : rz_cf 12 (267, 5, 306, 2, 0, 1190, 1191, 0, 72, 1192) := Or.inr ⟨mz_L_within, rfl, Or.inr (Or.inr (Or.inr (Or.inr (Or.inr ⟨rfl, rz_good (i := 1190) rfl rfl, wst_L_within, pr_L_within, fun h => by cases h⟩))))⟩
set_option maxRecDepth 100000 in
theorem cf_12_64 : rz_cf 12 (118, 1, 136, 1, 10, 1193, 1194, 1195, 73, 1196) := Or.inr ⟨mz_X10_within, rfl, Or.inr (Or.inl ⟨rfl, rz_good (i := 1193) rfl rfl, win_X10_within, wse_X10_within, ⟨0, pr_X10_within, rfl⟩, rfl, rfl⟩)⟩
set_option maxRecDepth 100000 in
theorem cf_12_65 : rz_cf 12 (270, 5, 307, 4, 0, 1197, 1198, 0, 72, 1199) := Or.inr ⟨mz_L_where, rfl, Or.inr (Or.inr (Or.inr (Or.inr (Or.inr ⟨rfl, rz_good (i := 1197) rfl rfl, wst_L_where, pr_L_where, fun h => by cases h⟩))))⟩
set_option maxRecDepth 100000 in
theorem cf_12_66 : rz_cf 12 (121, 1, 137, 3, 10, 1200, 1201, 1202, 73, 1203) := Or.inr ⟨mz_X10_where, rfl, Or.inr (Or.inl ⟨rfl, rz_good (i := 1200) rfl rfl, win_X10_where, wse_X10_where, ⟨2, pr_X10_where, rfl⟩, rfl, rfl⟩)⟩
set_option maxRecDepth 100000 in
theorem cf_12_67 : rz_cf 12 (273, 5, 308, 2, 0, 1208, 1209, 0, 72, 1210) := Or.inr ⟨mz_L_isConvex, rfl, Or.inr (Or.inr (Or.inr (Or.inr (Or.inr ⟨rfl, rz_good (i := 1208) rfl rfl, wst_L_isConvex, pr_L_isConvex, fun h => by cases h⟩))))⟩
set_option maxRecDepth 100000 in
theorem cf_12_68 : rz_cf 12 (125, 1, 138, 1, 10, 1211, 1212, 1213, 73, 1214) := Or.inr ⟨mz_X10_isConvex, rfl, Or.inr (Or.inl ⟨rfl, rz_good (i := 1211) rfl rfl, win_X10_isConvex, wse_X10_isConvex, ⟨0, pr_X10_isConvex, rfl⟩, rfl, rfl⟩)⟩
set_option maxRecDepth 100000 in
theorem cf_12_69 : rz_cf 12 (276, 5, 309, 3, 0, 1219, 1220, 0, 72, 1221) := Or.inr ⟨mz_L_grown, rfl, Or.inr (Or.inr (Or.inr (Or.inr (Or.inr ⟨rfl, rz_good (i := 1219) rfl rfl, wst_L_grown, pr_L_grown, fun h => by cases h⟩))))⟩
set_option maxRecDepth 100000 in
theorem cf_12_70 : rz_cf 12 (129, 1, 139, 2, 10, 1222, 1223, 1224, 73, 1225) := Or.inr ⟨mz_X10_grown, rfl, Or.inr (Or.inl ⟨rfl, rz_good (i := 1222) rfl rfl, win_X10_grown, wse_X10_grown, ⟨1, pr_X10_grown, rfl⟩, rfl, rfl⟩)⟩
set_option maxRecDepth 100000 in
theorem cf_12_71 : rz_cf 12 (279, 5, 310, 4, 0, 1234, 1235, 0, 72, 1236) := Or.inr ⟨mz_L_triangleAt, rfl, Or.inr (Or.inr (Or.inr (Or.inr (Or.inr ⟨rfl, rz_good (i := 1234) rfl rfl, wst_L_triangleAt, pr_L_triangleAt, fun h => by cases h⟩))))⟩
set_option maxRecDepth 100000 in
theorem cf_12_72 : rz_cf 12 (132, 1, 140, 3, 10, 1237, 1238, 1239, 73, 1240) := Or.inr ⟨mz_X10_triangleAt, rfl, Or.inr (Or.inl ⟨rfl, rz_good (i := 1237) rfl rfl, win_X10_triangleAt, wse_X10_triangleAt, ⟨2, pr_X10_triangleAt, rfl⟩, rfl, rfl⟩)⟩
set_option maxRecDepth 100000 in
theorem cf_12_73 : rz_cf 12 (282, 5, 311, 3, 0, 1246, 1247, 0, 72, 1248) := Or.inr ⟨mz_L_tiles, rfl, Or.inr (Or.inr (Or.inr (Or.inr (Or.inr ⟨rfl, rz_good (i := 1246) rfl rfl, wst_L_tiles, pr_L_tiles, fun h => by cases h⟩))))⟩
set_option maxRecDepth 100000 in
theorem cf_12_74 : rz_cf 12 (135, 1, 141, 2, 10, 1249, 1250, 1251, 73, 1252) := Or.inr ⟨mz_X10_tiles, rfl, Or.inr (Or.inl ⟨rfl, rz_good (i := 1249) rfl rfl, win_X10_tiles, wse_X10_tiles, ⟨1, pr_X10_tiles, rfl⟩, rfl, rfl⟩)⟩
set_option maxRecDepth 100000 in
theorem cf_12_75 : rz_cf 12 (285, 5, 312, 3, 0, 1279, 1280, 0, 72, 1281) := Or.inr ⟨mz_L_seen, rfl, Or.inr (Or.inr (Or.inr (Or.inr (Or.inr ⟨rfl, rz_good (i := 1279) rfl rfl, wst_L_seen, pr_L_seen, fun h => by cases h⟩))))⟩
set_option maxRecDepth 100000 in
theorem cf_12_76 : rz_cf 12 (138, 1, 142, 2, 10, 1282, 1283, 1284, 73, 1285) := Or.inr ⟨mz_X10_seen, rfl, Or.inr (Or.inl ⟨rfl, rz_good (i := 1282) rfl rfl, win_X10_seen, wse_X10_seen, ⟨1, pr_X10_seen, rfl⟩, rfl, rfl⟩)⟩
set_option maxRecDepth 100000 in
theorem cf_12_77 : rz_cf 12 (288, 5, 313, 4, 0, 1286, 1287, 0, 72, 1288) := Or.inr ⟨mz_L_seenAt, rfl, Or.inr (Or.inr (Or.inr (Or.inr (Or.inr ⟨rfl, rz_good (i := 1286) rfl rfl, wst_L_seenAt, pr_L_seenAt, fun h => by cases h⟩))))⟩
set_option maxRecDepth 100000 in
theorem cf_12_78 : rz_cf 12 (141, 1, 143, 3, 10, 1289, 1290, 1291, 73, 1292) := Or.inr ⟨mz_X10_seenAt, rfl, Or.inr (Or.inl ⟨rfl, rz_good (i := 1289) rfl rfl, win_X10_seenAt, wse_X10_seenAt, ⟨2, pr_X10_seenAt, rfl⟩, rfl, rfl⟩)⟩
set_option maxRecDepth 100000 in
theorem cf_12_79 : rz_cf 12 (291, 5, 314, 6, 0, 1294, 1295, 0, 72, 1296) := Or.inr ⟨mz_L_leaps, rfl, Or.inr (Or.inr (Or.inr (Or.inr (Or.inr ⟨rfl, rz_good (i := 1294) rfl rfl, wst_L_leaps, pr_L_leaps, fun h => by cases h⟩))))⟩
set_option maxRecDepth 100000 in
theorem cf_12_80 : rz_cf 12 (144, 1, 144, 5, 10, 1297, 1298, 1299, 73, 1300) := Or.inr ⟨mz_X10_leaps, rfl, Or.inr (Or.inl ⟨rfl, rz_good (i := 1297) rfl rfl, win_X10_leaps, wse_X10_leaps, ⟨4, pr_X10_leaps, rfl⟩, rfl, rfl⟩)⟩
set_option maxRecDepth 100000 in
theorem cf_12_81 : rz_cf 12 (294, 5, 315, 4, 0, 1323, 1324, 0, 72, 1325) := Or.inr ⟨mz_L_terms, rfl, Or.inr (Or.inr (Or.inr (Or.inr (Or.inr ⟨rfl, rz_good (i := 1323) rfl rfl, wst_L_terms, pr_L_terms, fun h => by cases h⟩))))⟩
set_option maxRecDepth 100000 in
theorem cf_12_82 : rz_cf 12 (147, 1, 145, 3, 10, 1326, 1327, 1328, 73, 1329) := Or.inr ⟨mz_X10_terms, rfl, Or.inr (Or.inl ⟨rfl, rz_good (i := 1326) rfl rfl, win_X10_terms, wse_X10_terms, ⟨2, pr_X10_terms, rfl⟩, rfl, rfl⟩)⟩
set_option maxRecDepth 100000 in
theorem cf_12_83 : rz_cf 12 (297, 5, 316, 5, 0, 1336, 1337, 0, 72, 1338) := Or.inr ⟨mz_L_termAt, rfl, Or.inr (Or.inr (Or.inr (Or.inr (Or.inr ⟨rfl, rz_good (i := 1336) rfl rfl, wst_L_termAt, pr_L_termAt, fun h => by cases h⟩))))⟩
set_option maxRecDepth 100000 in
theorem cf_12_84 : rz_cf 12 (150, 1, 146, 4, 10, 1339, 1340, 1341, 73, 1342) := Or.inr ⟨mz_X10_termAt, rfl, Or.inr (Or.inl ⟨rfl, rz_good (i := 1339) rfl rfl, win_X10_termAt, wse_X10_termAt, ⟨3, pr_X10_termAt, rfl⟩, rfl, rfl⟩)⟩
set_option maxRecDepth 100000 in
theorem cf_12_85 : rz_cf 12 (300, 5, 317, 4, 0, 1347, 1348, 0, 72, 1349) := Or.inr ⟨mz_L_hull, rfl, Or.inr (Or.inr (Or.inr (Or.inr (Or.inr ⟨rfl, rz_good (i := 1347) rfl rfl, wst_L_hull, pr_L_hull, fun h => by cases h⟩))))⟩
set_option maxRecDepth 100000 in
theorem cf_12_86 : rz_cf 12 (153, 1, 147, 3, 10, 1350, 1351, 1352, 73, 1353) := Or.inr ⟨mz_X10_hull, rfl, Or.inr (Or.inl ⟨rfl, rz_good (i := 1350) rfl rfl, win_X10_hull, wse_X10_hull, ⟨2, pr_X10_hull, rfl⟩, rfl, rfl⟩)⟩
set_option maxRecDepth 100000 in
theorem cf_12_87 : rz_cf 12 (303, 5, 318, 5, 0, 1354, 1355, 0, 72, 1356) := Or.inr ⟨mz_L_hullAt, rfl, Or.inr (Or.inr (Or.inr (Or.inr (Or.inr ⟨rfl, rz_good (i := 1354) rfl rfl, wst_L_hullAt, pr_L_hullAt, fun h => by cases h⟩))))⟩
set_option maxRecDepth 100000 in
theorem cf_12_88 : rz_cf 12 (156, 1, 148, 4, 10, 1357, 1358, 1359, 73, 1360) := Or.inr ⟨mz_X10_hullAt, rfl, Or.inr (Or.inl ⟨rfl, rz_good (i := 1357) rfl rfl, win_X10_hullAt, wse_X10_hullAt, ⟨3, pr_X10_hullAt, rfl⟩, rfl, rfl⟩)⟩
set_option maxRecDepth 100000 in
theorem cf_12_89 : rz_cf 12 (162, 2, 173, 1, 0, 1366, 1367, 0, 83, 1368) := Or.inr ⟨mz_X11_init, rfl, Or.inr (Or.inr (Or.inl ⟨rfl, rz_good (i := 1366) rfl rfl, win_X11_init, rfl, ⟨0, pr_X11_init, rfl⟩, rfl, rfl⟩))⟩
set_option maxRecDepth 100000 in
theorem cf_12_90 : rz_cf 12 (169, 1, 174, 1, 11, 1435, 1436, 1437, 83, 1438) := Or.inr ⟨mz_X11_thrown, rfl, Or.inr (Or.inl ⟨rfl, rz_good (i := 1435) rfl rfl, win_X11_thrown, wse_X11_thrown, ⟨0, pr_X11_thrown, rfl⟩, rfl, rfl⟩)⟩
set_option maxRecDepth 100000 in
theorem cf_12_91 : rz_cf 12 (168, 1, 182, 6, 11, 1439, 1440, 1441, 83, 1442) := Or.inr ⟨mz_X11_spanned, rfl, Or.inr (Or.inl ⟨rfl, rz_good (i := 1439) rfl rfl, win_X11_spanned, wse_X11_spanned, ⟨5, pr_X11_spanned, rfl⟩, rfl, rfl⟩)⟩
set_option maxRecDepth 100000 in
theorem cf_12_92 : rz_cf 12 (175, 1, 183, 5, 11, 1466, 1467, 1468, 83, 1469) := Or.inr ⟨mz_X11_remainder, rfl, Or.inr (Or.inl ⟨rfl, rz_good (i := 1466) rfl rfl, win_X11_remainder, wse_X11_remainder, ⟨4, pr_X11_remainder, rfl⟩, rfl, rfl⟩)⟩
set_option maxRecDepth 100000 in
theorem cf_12_93 : rz_cf 12 (179, 1, 184, 4, 11, 1470, 1471, 1472, 83, 1473) := Or.inr ⟨mz_X11_nth, rfl, Or.inr (Or.inl ⟨rfl, rz_good (i := 1470) rfl rfl, win_X11_nth, wse_X11_nth, ⟨3, pr_X11_nth, rfl⟩, rfl, rfl⟩)⟩
set_option maxRecDepth 100000 in
theorem cf_12_94 : rz_cf 12 (183, 1, 185, 2, 11, 1474, 1475, 1476, 83, 1477) := Or.inr ⟨mz_X11_grids, rfl, Or.inr (Or.inl ⟨rfl, rz_good (i := 1474) rfl rfl, win_X11_grids, wse_X11_grids, ⟨1, pr_X11_grids, rfl⟩, rfl, rfl⟩)⟩
set_option maxRecDepth 100000 in
theorem cf_12_95 : rz_cf 12 (187, 1, 188, 3, 11, 1478, 1479, 1480, 83, 1481) := Or.inr ⟨mz_X11_form, rfl, Or.inr (Or.inl ⟨rfl, rz_good (i := 1478) rfl rfl, win_X11_form, wse_X11_form, ⟨2, pr_X11_form, rfl⟩, rfl, rfl⟩)⟩
set_option maxRecDepth 100000 in
theorem cf_12_96 : rz_cf 12 (190, 1, 190, 4, 11, 1482, 1483, 1484, 83, 1485) := Or.inr ⟨mz_X11_has, rfl, Or.inr (Or.inl ⟨rfl, rz_good (i := 1482) rfl rfl, win_X11_has, wse_X11_has, ⟨3, pr_X11_has, rfl⟩, rfl, rfl⟩)⟩
set_option maxRecDepth 100000 in
theorem cf_12_97 : rz_cf 12 (194, 1, 192, 3, 11, 1494, 1495, 1496, 83, 1497) := Or.inr ⟨mz_X11_isSame, rfl, Or.inr (Or.inl ⟨rfl, rz_good (i := 1494) rfl rfl, win_X11_isSame, wse_X11_isSame, ⟨2, pr_X11_isSame, rfl⟩, rfl, rfl⟩)⟩
set_option maxRecDepth 100000 in
theorem cf_12_98 : rz_cf 12 (197, 1, 193, 3, 11, 1502, 1503, 1504, 83, 1505) := Or.inr ⟨mz_X11_parts, rfl, Or.inr (Or.inl ⟨rfl, rz_good (i := 1502) rfl rfl, win_X11_parts, wse_X11_parts, ⟨2, pr_X11_parts, rfl⟩, rfl, rfl⟩)⟩
set_option maxRecDepth 100000 in
theorem cf_12_99 : rz_cf 12 (200, 1, 195, 4, 11, 1510, 1511, 1512, 83, 1513) := Or.inr ⟨mz_X11_meet, rfl, Or.inr (Or.inl ⟨rfl, rz_good (i := 1510) rfl rfl, win_X11_meet, wse_X11_meet, ⟨3, pr_X11_meet, rfl⟩, rfl, rfl⟩)⟩
set_option maxRecDepth 100000 in
theorem cf_12_100 : rz_cf 12 (203, 1, 196, 4, 11, 1519, 1520, 1521, 83, 1522) := Or.inr ⟨mz_X11_join, rfl, Or.inr (Or.inl ⟨rfl, rz_good (i := 1519) rfl rfl, win_X11_join, wse_X11_join, ⟨3, pr_X11_join, rfl⟩, rfl, rfl⟩)⟩
set_option maxRecDepth 100000 in
theorem cf_12_101 : rz_cf 12 (207, 1, 197, 1, 11, 1523, 1524, 1525, 83, 1526) := Or.inr ⟨mz_X11_undo, rfl, Or.inr (Or.inl ⟨rfl, rz_good (i := 1523) rfl rfl, win_X11_undo, wse_X11_undo, ⟨0, pr_X11_undo, rfl⟩, rfl, rfl⟩)⟩
set_option maxRecDepth 100000 in
theorem cf_12_102 : rz_cf 12 (210, 1, 205, 3, 11, 1527, 1528, 1529, 83, 1530) := Or.inr ⟨mz_X11_stepX, rfl, Or.inr (Or.inl ⟨rfl, rz_good (i := 1527) rfl rfl, win_X11_stepX, wse_X11_stepX, ⟨2, pr_X11_stepX, rfl⟩, rfl, rfl⟩)⟩
set_option maxRecDepth 100000 in
theorem cf_12_103 : rz_cf 12 (213, 1, 206, 3, 11, 1556, 1557, 1558, 83, 1559) := Or.inr ⟨mz_X11_stepY, rfl, Or.inr (Or.inl ⟨rfl, rz_good (i := 1556) rfl rfl, win_X11_stepY, wse_X11_stepY, ⟨2, pr_X11_stepY, rfl⟩, rfl, rfl⟩)⟩
set_option maxRecDepth 100000 in
theorem cf_12_104 : rz_cf 12 (216, 1, 207, 2, 11, 1560, 1561, 1562, 83, 1563) := Or.inr ⟨mz_X11_second, rfl, Or.inr (Or.inl ⟨rfl, rz_good (i := 1560) rfl rfl, win_X11_second, wse_X11_second, ⟨1, pr_X11_second, rfl⟩, rfl, rfl⟩)⟩
set_option maxRecDepth 100000 in
theorem cf_12_105 : rz_cf 12 (219, 1, 208, 3, 11, 1564, 1565, 1566, 83, 1567) := Or.inr ⟨mz_X11_steps, rfl, Or.inr (Or.inl ⟨rfl, rz_good (i := 1564) rfl rfl, win_X11_steps, wse_X11_steps, ⟨2, pr_X11_steps, rfl⟩, rfl, rfl⟩)⟩
set_option maxRecDepth 100000 in
theorem cf_12_106 : rz_cf 12 (222, 1, 211, 4, 11, 1568, 1569, 1570, 83, 1571) := Or.inr ⟨mz_X11_nearX, rfl, Or.inr (Or.inl ⟨rfl, rz_good (i := 1568) rfl rfl, win_X11_nearX, wse_X11_nearX, ⟨3, pr_X11_nearX, rfl⟩, rfl, rfl⟩)⟩
set_option maxRecDepth 100000 in
theorem cf_12_107 : rz_cf 12 (225, 1, 212, 4, 11, 1583, 1584, 1585, 83, 1586) := Or.inr ⟨mz_X11_nearY, rfl, Or.inr (Or.inl ⟨rfl, rz_good (i := 1583) rfl rfl, win_X11_nearY, wse_X11_nearY, ⟨3, pr_X11_nearY, rfl⟩, rfl, rfl⟩)⟩
set_option maxRecDepth 100000 in
theorem cf_12_108 : rz_cf 12 (228, 1, 214, 2, 11, 1587, 1588, 1589, 83, 1590) := Or.inr ⟨mz_X11_corners, rfl, Or.inr (Or.inl ⟨rfl, rz_good (i := 1587) rfl rfl, win_X11_corners, wse_X11_corners, ⟨1, pr_X11_corners, rfl⟩, rfl, rfl⟩)⟩
set_option maxRecDepth 100000 in
theorem cf_12_109 : rz_cf 12 (232, 1, 218, 4, 11, 1595, 1596, 1597, 83, 1598) := Or.inr ⟨mz_X11_tellCorner, rfl, Or.inr (Or.inl ⟨rfl, rz_good (i := 1595) rfl rfl, win_X11_tellCorner, wse_X11_tellCorner, ⟨3, pr_X11_tellCorner, rfl⟩, rfl, rfl⟩)⟩
set_option maxRecDepth 100000 in
theorem cf_12_110 : rz_cf 12 (235, 1, 219, 2, 11, 1614, 1615, 1616, 83, 1617) := Or.inr ⟨mz_X11_signAt, rfl, Or.inr (Or.inl ⟨rfl, rz_good (i := 1614) rfl rfl, win_X11_signAt, wse_X11_signAt, ⟨1, pr_X11_signAt, rfl⟩, rfl, rfl⟩)⟩
set_option maxRecDepth 100000 in
theorem cf_12_111 : rz_cf 12 (238, 1, 221, 5, 11, 1618, 1619, 1620, 83, 1621) := Or.inr ⟨mz_X11_coins, rfl, Or.inr (Or.inl ⟨rfl, rz_good (i := 1618) rfl rfl, win_X11_coins, wse_X11_coins, ⟨4, pr_X11_coins, rfl⟩, rfl, rfl⟩)⟩
set_option maxRecDepth 100000 in
theorem cf_12_112 : rz_cf 12 (241, 1, 223, 1, 11, 1626, 1627, 1628, 83, 1629) := Or.inr ⟨mz_X11_lacks_, rfl, Or.inr (Or.inl ⟨rfl, rz_good (i := 1626) rfl rfl, win_X11_lacks_, wse_X11_lacks_, ⟨0, pr_X11_lacks_, rfl⟩, rfl, rfl⟩)⟩
set_option maxRecDepth 100000 in
theorem cf_12_113 : rz_cf 12 (244, 1, 224, 2, 11, 1634, 1635, 1636, 83, 1637) := Or.inr ⟨mz_X11_lackAt, rfl, Or.inr (Or.inl ⟨rfl, rz_good (i := 1634) rfl rfl, win_X11_lackAt, wse_X11_lackAt, ⟨1, pr_X11_lackAt, rfl⟩, rfl, rfl⟩)⟩
set_option maxRecDepth 100000 in
theorem cf_12_114 : rz_cf 12 (247, 1, 225, 2, 11, 1638, 1639, 1640, 83, 1641) := Or.inr ⟨mz_X11_canMake, rfl, Or.inr (Or.inl ⟨rfl, rz_good (i := 1638) rfl rfl, win_X11_canMake, wse_X11_canMake, ⟨1, pr_X11_canMake, rfl⟩, rfl, rfl⟩)⟩
set_option maxRecDepth 100000 in
theorem cf_12_115 : rz_cf 12 (250, 1, 226, 2, 11, 1642, 1643, 1644, 83, 1645) := Or.inr ⟨mz_X11_fewest, rfl, Or.inr (Or.inl ⟨rfl, rz_good (i := 1642) rfl rfl, win_X11_fewest, wse_X11_fewest, ⟨1, pr_X11_fewest, rfl⟩, rfl, rfl⟩)⟩
set_option maxRecDepth 100000 in
theorem cf_12_116 : rz_cf 12 (253, 1, 227, 2, 11, 1646, 1647, 1648, 83, 1649) := Or.inr ⟨mz_X11_ways, rfl, Or.inr (Or.inl ⟨rfl, rz_good (i := 1646) rfl rfl, win_X11_ways, wse_X11_ways, ⟨1, pr_X11_ways, rfl⟩, rfl, rfl⟩)⟩
set_option maxRecDepth 100000 in
theorem cf_12_117 : rz_cf 12 (256, 1, 228, 3, 11, 1650, 1651, 1652, 83, 1653) := Or.inr ⟨mz_X11_corner, rfl, Or.inr (Or.inl ⟨rfl, rz_good (i := 1650) rfl rfl, win_X11_corner, wse_X11_corner, ⟨2, pr_X11_corner, rfl⟩, rfl, rfl⟩)⟩
set_option maxRecDepth 100000 in
theorem cf_12_118 : rz_cf 12 (260, 1, 229, 1, 11, 1654, 1655, 1656, 83, 1657) := Or.inr ⟨mz_X11_clear, rfl, Or.inr (Or.inl ⟨rfl, rz_good (i := 1654) rfl rfl, win_X11_clear, wse_X11_clear, ⟨0, pr_X11_clear, rfl⟩, rfl, rfl⟩)⟩
set_option maxRecDepth 100000 in
theorem cf_12_119 : rz_cf 12 (263, 1, 236, 1, 11, 1658, 1659, 1660, 83, 1661) := Or.inr ⟨mz_X11_close, rfl, Or.inr (Or.inl ⟨rfl, rz_good (i := 1658) rfl rfl, win_X11_close, wse_X11_close, ⟨0, pr_X11_close, rfl⟩, rfl, rfl⟩)⟩
set_option maxRecDepth 100000 in
theorem cf_12_120 : rz_cf 12 (266, 1, 238, 1, 11, 1687, 1688, 1689, 83, 1690) := Or.inr ⟨mz_X11_rim, rfl, Or.inr (Or.inl ⟨rfl, rz_good (i := 1687) rfl rfl, win_X11_rim, wse_X11_rim, ⟨0, pr_X11_rim, rfl⟩, rfl, rfl⟩)⟩
set_option maxRecDepth 100000 in
theorem cf_12_121 : rz_cf 12 (272, 1, 241, 3, 11, 1695, 1696, 1697, 83, 1698) := Or.inr ⟨mz_X11_where, rfl, Or.inr (Or.inl ⟨rfl, rz_good (i := 1695) rfl rfl, win_X11_where, wse_X11_where, ⟨2, pr_X11_where, rfl⟩, rfl, rfl⟩)⟩
set_option maxRecDepth 100000 in
theorem cf_12_122 : rz_cf 12 (269, 1, 242, 1, 11, 1709, 1710, 1711, 83, 1712) := Or.inr ⟨mz_X11_within, rfl, Or.inr (Or.inl ⟨rfl, rz_good (i := 1709) rfl rfl, win_X11_within, wse_X11_within, ⟨0, pr_X11_within, rfl⟩, rfl, rfl⟩)⟩
set_option maxRecDepth 100000 in
theorem cf_12_123 : rz_cf 12 (275, 1, 243, 1, 11, 1713, 1714, 1715, 83, 1716) := Or.inr ⟨mz_X11_isConvex, rfl, Or.inr (Or.inl ⟨rfl, rz_good (i := 1713) rfl rfl, win_X11_isConvex, wse_X11_isConvex, ⟨0, pr_X11_isConvex, rfl⟩, rfl, rfl⟩)⟩
set_option maxRecDepth 100000 in
theorem cf_12_124 : rz_cf 12 (278, 1, 244, 2, 11, 1717, 1718, 1719, 83, 1720) := Or.inr ⟨mz_X11_grown, rfl, Or.inr (Or.inl ⟨rfl, rz_good (i := 1717) rfl rfl, win_X11_grown, wse_X11_grown, ⟨1, pr_X11_grown, rfl⟩, rfl, rfl⟩)⟩
set_option maxRecDepth 100000 in
theorem cf_12_125 : rz_cf 12 (281, 1, 246, 3, 11, 1723, 1724, 1725, 83, 1726) := Or.inr ⟨mz_X11_triangleAt, rfl, Or.inr (Or.inl ⟨rfl, rz_good (i := 1723) rfl rfl, win_X11_triangleAt, wse_X11_triangleAt, ⟨2, pr_X11_triangleAt, rfl⟩, rfl, rfl⟩)⟩
set_option maxRecDepth 100000 in
theorem cf_12_126 : rz_cf 12 (284, 1, 247, 2, 11, 1731, 1732, 1733, 83, 1734) := Or.inr ⟨mz_X11_tiles, rfl, Or.inr (Or.inl ⟨rfl, rz_good (i := 1731) rfl rfl, win_X11_tiles, wse_X11_tiles, ⟨1, pr_X11_tiles, rfl⟩, rfl, rfl⟩)⟩
set_option maxRecDepth 100000 in
theorem cf_12_127 : rz_cf 12 (287, 1, 250, 2, 11, 1735, 1736, 1737, 83, 1738) := Or.inr ⟨mz_X11_seen, rfl, Or.inr (Or.inl ⟨rfl, rz_good (i := 1735) rfl rfl, win_X11_seen, wse_X11_seen, ⟨1, pr_X11_seen, rfl⟩, rfl, rfl⟩)⟩
set_option maxRecDepth 100000 in
theorem cf_12_128 : rz_cf 12 (290, 1, 251, 3, 11, 1745, 1746, 1747, 83, 1748) := Or.inr ⟨mz_X11_seenAt, rfl, Or.inr (Or.inl ⟨rfl, rz_good (i := 1745) rfl rfl, win_X11_seenAt, wse_X11_seenAt, ⟨2, pr_X11_seenAt, rfl⟩, rfl, rfl⟩)⟩
set_option maxRecDepth 100000 in
theorem cf_12_129 : rz_cf 12 (293, 1, 252, 5, 11, 1749, 1750, 1751, 83, 1752) := Or.inr ⟨mz_X11_leaps, rfl, Or.inr (Or.inl ⟨rfl, rz_good (i := 1749) rfl rfl, win_X11_leaps, wse_X11_leaps, ⟨4, pr_X11_leaps, rfl⟩, rfl, rfl⟩)⟩
set_option maxRecDepth 100000 in
theorem cf_12_130 : rz_cf 12 (296, 1, 256, 3, 11, 1753, 1754, 1755, 83, 1756) := Or.inr ⟨mz_X11_terms, rfl, Or.inr (Or.inl ⟨rfl, rz_good (i := 1753) rfl rfl, win_X11_terms, wse_X11_terms, ⟨2, pr_X11_terms, rfl⟩, rfl, rfl⟩)⟩
set_option maxRecDepth 100000 in
theorem cf_12_131 : rz_cf 12 (299, 1, 257, 4, 11, 1766, 1767, 1768, 83, 1769) := Or.inr ⟨mz_X11_termAt, rfl, Or.inr (Or.inl ⟨rfl, rz_good (i := 1766) rfl rfl, win_X11_termAt, wse_X11_termAt, ⟨3, pr_X11_termAt, rfl⟩, rfl, rfl⟩)⟩
set_option maxRecDepth 100000 in
theorem cf_12_132 : rz_cf 12 (302, 1, 261, 3, 11, 1770, 1771, 1772, 83, 1773) := Or.inr ⟨mz_X11_hull, rfl, Or.inr (Or.inl ⟨rfl, rz_good (i := 1770) rfl rfl, win_X11_hull, wse_X11_hull, ⟨2, pr_X11_hull, rfl⟩, rfl, rfl⟩)⟩
set_option maxRecDepth 100000 in
theorem cf_12_133 : rz_cf 12 (305, 1, 262, 4, 11, 1783, 1784, 1785, 83, 1786) := Or.inr ⟨mz_X11_hullAt, rfl, Or.inr (Or.inl ⟨rfl, rz_good (i := 1783) rfl rfl, win_X11_hullAt, wse_X11_hullAt, ⟨3, pr_X11_hullAt, rfl⟩, rfl, rfl⟩)⟩
set_option maxRecDepth 100000 in
theorem cf_12_134 : rz_cf 12 (309, 1, 263, 1, 11, 1787, 1788, 1789, 83, 1790) := Or.inr ⟨mz_X11_held, rfl, Or.inr (Or.inl ⟨rfl, rz_good (i := 1787) rfl rfl, win_X11_held, wse_X11_held, ⟨0, pr_X11_held, rfl⟩, rfl, rfl⟩)⟩
set_option maxRecDepth 100000 in
theorem cf_12_135 : rz_cf 12 (314, 1, 264, 1, 11, 1791, 1792, 1793, 83, 1794) := Or.inr ⟨mz_X11_checksum, rfl, Or.inr (Or.inl ⟨rfl, rz_good (i := 1791) rfl rfl, win_X11_checksum, wse_X11_checksum, ⟨0, pr_X11_checksum, rfl⟩, rfl, rfl⟩)⟩
set_option maxRecDepth 100000 in
theorem cf_12_136 : rz_cf 12 (318, 1, 265, 1, 11, 1797, 1798, 1799, 83, 1800) := Or.inr ⟨mz_X11_isSound, rfl, Or.inr (Or.inl ⟨rfl, rz_good (i := 1797) rfl rfl, win_X11_isSound, wse_X11_isSound, ⟨0, pr_X11_isSound, rfl⟩, rfl, rfl⟩)⟩
set_option maxRecDepth 100000 in
theorem cfa_12 : ∀ q ∈ rz_clT.getD 12 [], rz_cf 12 q := by
  show ∀ q ∈ [(159, 2, 105, 1, 0, 97, 98, 0, 73, 99), (257, 1, 133, 1, 10, 355, 356, 357, 73, 358), (306, 1, 149, 1, 10, 363, 364, 365, 73, 366), (310, 1, 150, 1, 10, 367, 368, 369, 73, 370), (315, 1, 151, 1, 10, 396, 397, 398, 73, 399), (163, 5, 277, 7, 0, 628, 629, 0, 72, 630), (7, 1, 106, 6, 10, 634, 635, 636, 73, 637), (172, 5, 278, 6, 0, 755, 756, 0, 72, 757), (19, 1, 107, 5, 10, 758, 759, 760, 73, 761), (176, 5, 279, 5, 0, 765, 766, 0, 72, 767), (23, 1, 108, 4, 10, 769, 770, 771, 73, 772), (180, 5, 280, 3, 0, 792, 793, 0, 72, 794), (29, 1, 109, 2, 10, 795, 796, 797, 73, 798), (184, 5, 281, 4, 0, 799, 800, 0, 72, 801), (33, 1, 110, 3, 10, 802, 803, 804, 73, 805), (188, 5, 282, 5, 0, 812, 813, 0, 72, 814), (37, 1, 111, 4, 10, 815, 816, 817, 73, 818), (191, 5, 283, 4, 0, 819, 820, 0, 72, 821), (41, 1, 112, 3, 10, 822, 823, 824, 73, 825), (195, 5, 284, 4, 0, 826, 827, 0, 72, 828), (45, 1, 113, 3, 10, 829, 830, 831, 73, 832), (198, 5, 285, 5, 0, 834, 835, 0, 72, 836), (49, 1, 114, 4, 10, 838, 839, 840, 73, 841), (201, 5, 286, 5, 0, 858, 859, 0, 72, 860), (54, 1, 115, 4, 10, 861, 862, 863, 73, 864), (204, 5, 287, 2, 0, 865, 866, 0, 72, 867), (57, 1, 116, 1, 10, 868, 869, 870, 73, 871), (208, 5, 288, 4, 0, 873, 874, 0, 72, 875), (61, 1, 117, 3, 10, 876, 877, 878, 73, 879), (211, 5, 289, 4, 0, 880, 881, 0, 72, 882), (64, 1, 118, 3, 10, 883, 884, 885, 73, 886), (214, 5, 290, 3, 0, 887, 888, 0, 72, 889), (67, 1, 119, 2, 10, 890, 891, 892, 73, 893), (217, 5, 291, 4, 0, 894, 895, 0, 72, 896), (70, 1, 120, 3, 10, 897, 898, 899, 73, 900), (220, 5, 292, 5, 0, 908, 909, 0, 72, 910), (73, 1, 121, 4, 10, 911, 912, 913, 73, 914), (223, 5, 293, 5, 0, 928, 929, 0, 72, 930), (76, 1, 122, 4, 10, 931, 932, 933, 73, 934), (226, 5, 294, 3, 0, 935, 936, 0, 72, 937), (79, 1, 123, 2, 10, 938, 939, 940, 73, 941), (229, 5, 295, 5, 0, 961, 962, 0, 72, 963), (82, 1, 124, 4, 10, 964, 965, 966, 73, 967), (233, 5, 296, 3, 0, 1002, 1003, 0, 72, 1004), (86, 1, 125, 2, 10, 1005, 1006, 1007, 73, 1008), (236, 5, 297, 6, 0, 1014, 1015, 0, 72, 1016), (90, 1, 126, 5, 10, 1017, 1018, 1019, 73, 1020), (239, 5, 298, 2, 0, 1044, 1045, 0, 72, 1046), (93, 1, 127, 1, 10, 1047, 1048, 1049, 73, 1050), (242, 5, 299, 3, 0, 1056, 1057, 0, 72, 1058), (96, 1, 128, 2, 10, 1059, 1060, 1061, 73, 1062), (245, 5, 300, 3, 0, 1068, 1069, 0, 72, 1070), (99, 1, 129, 2, 10, 1071, 1072, 1073, 73, 1074), (248, 5, 301, 3, 0, 1076, 1077, 0, 72, 1078), (103, 1, 130, 2, 10, 1079, 1080, 1081, 73, 1082), (251, 5, 302, 3, 0, 1084, 1085, 0, 72, 1086), (106, 1, 131, 2, 10, 1087, 1088, 1089, 73, 1090), (254, 5, 303, 4, 0, 1099, 1100, 0, 72, 1101), (109, 1, 132, 3, 10, 1102, 1103, 1104, 73, 1105), (261, 5, 304, 2, 0, 1111, 1112, 0, 72, 1113), (112, 1, 134, 1, 10, 1114, 1115, 1116, 73, 1117), (264, 5, 305, 2, 0, 1177, 1178, 0, 72, 1179), (115, 1, 135, 1, 10, 1180, 1181, 1182, 73, 1183), (267, 5, 306, 2, 0, 1190, 1191, 0, 72, 1192), (118, 1, 136, 1, 10, 1193, 1194, 1195, 73, 1196), (270, 5, 307, 4, 0, 1197, 1198, 0, 72, 1199), (121, 1, 137, 3, 10, 1200, 1201, 1202, 73, 1203), (273, 5, 308, 2, 0, 1208, 1209, 0, 72, 1210), (125, 1, 138, 1, 10, 1211, 1212, 1213, 73, 1214), (276, 5, 309, 3, 0, 1219, 1220, 0, 72, 1221), (129, 1, 139, 2, 10, 1222, 1223, 1224, 73, 1225), (279, 5, 310, 4, 0, 1234, 1235, 0, 72, 1236), (132, 1, 140, 3, 10, 1237, 1238, 1239, 73, 1240), (282, 5, 311, 3, 0, 1246, 1247, 0, 72, 1248), (135, 1, 141, 2, 10, 1249, 1250, 1251, 73, 1252), (285, 5, 312, 3, 0, 1279, 1280, 0, 72, 1281), (138, 1, 142, 2, 10, 1282, 1283, 1284, 73, 1285), (288, 5, 313, 4, 0, 1286, 1287, 0, 72, 1288), (141, 1, 143, 3, 10, 1289, 1290, 1291, 73, 1292), (291, 5, 314, 6, 0, 1294, 1295, 0, 72, 1296), (144, 1, 144, 5, 10, 1297, 1298, 1299, 73, 1300), (294, 5, 315, 4, 0, 1323, 1324, 0, 72, 1325), (147, 1, 145, 3, 10, 1326, 1327, 1328, 73, 1329), (297, 5, 316, 5, 0, 1336, 1337, 0, 72, 1338), (150, 1, 146, 4, 10, 1339, 1340, 1341, 73, 1342), (300, 5, 317, 4, 0, 1347, 1348, 0, 72, 1349), (153, 1, 147, 3, 10, 1350, 1351, 1352, 73, 1353), (303, 5, 318, 5, 0, 1354, 1355, 0, 72, 1356), (156, 1, 148, 4, 10, 1357, 1358, 1359, 73, 1360), (162, 2, 173, 1, 0, 1366, 1367, 0, 83, 1368), (169, 1, 174, 1, 11, 1435, 1436, 1437, 83, 1438), (168, 1, 182, 6, 11, 1439, 1440, 1441, 83, 1442), (175, 1, 183, 5, 11, 1466, 1467, 1468, 83, 1469), (179, 1, 184, 4, 11, 1470, 1471, 1472, 83, 1473), (183, 1, 185, 2, 11, 1474, 1475, 1476, 83, 1477), (187, 1, 188, 3, 11, 1478, 1479, 1480, 83, 1481), (190, 1, 190, 4, 11, 1482, 1483, 1484, 83, 1485), (194, 1, 192, 3, 11, 1494, 1495, 1496, 83, 1497), (197, 1, 193, 3, 11, 1502, 1503, 1504, 83, 1505), (200, 1, 195, 4, 11, 1510, 1511, 1512, 83, 1513), (203, 1, 196, 4, 11, 1519, 1520, 1521, 83, 1522), (207, 1, 197, 1, 11, 1523, 1524, 1525, 83, 1526), (210, 1, 205, 3, 11, 1527, 1528, 1529, 83, 1530), (213, 1, 206, 3, 11, 1556, 1557, 1558, 83, 1559), (216, 1, 207, 2, 11, 1560, 1561, 1562, 83, 1563), (219, 1, 208, 3, 11, 1564, 1565, 1566, 83, 1567), (222, 1, 211, 4, 11, 1568, 1569, 1570, 83, 1571), (225, 1, 212, 4, 11, 1583, 1584, 1585, 83, 1586), (228, 1, 214, 2, 11, 1587, 1588, 1589, 83, 1590), (232, 1, 218, 4, 11, 1595, 1596, 1597, 83, 1598), (235, 1, 219, 2, 11, 1614, 1615, 1616, 83, 1617), (238, 1, 221, 5, 11, 1618, 1619, 1620, 83, 1621), (241, 1, 223, 1, 11, 1626, 1627, 1628, 83, 1629), (244, 1, 224, 2, 11, 1634, 1635, 1636, 83, 1637), (247, 1, 225, 2, 11, 1638, 1639, 1640, 83, 1641), (250, 1, 226, 2, 11, 1642, 1643, 1644, 83, 1645), (253, 1, 227, 2, 11, 1646, 1647, 1648, 83, 1649), (256, 1, 228, 3, 11, 1650, 1651, 1652, 83, 1653), (260, 1, 229, 1, 11, 1654, 1655, 1656, 83, 1657), (263, 1, 236, 1, 11, 1658, 1659, 1660, 83, 1661), (266, 1, 238, 1, 11, 1687, 1688, 1689, 83, 1690), (272, 1, 241, 3, 11, 1695, 1696, 1697, 83, 1698), (269, 1, 242, 1, 11, 1709, 1710, 1711, 83, 1712), (275, 1, 243, 1, 11, 1713, 1714, 1715, 83, 1716), (278, 1, 244, 2, 11, 1717, 1718, 1719, 83, 1720), (281, 1, 246, 3, 11, 1723, 1724, 1725, 83, 1726), (284, 1, 247, 2, 11, 1731, 1732, 1733, 83, 1734), (287, 1, 250, 2, 11, 1735, 1736, 1737, 83, 1738), (290, 1, 251, 3, 11, 1745, 1746, 1747, 83, 1748), (293, 1, 252, 5, 11, 1749, 1750, 1751, 83, 1752), (296, 1, 256, 3, 11, 1753, 1754, 1755, 83, 1756), (299, 1, 257, 4, 11, 1766, 1767, 1768, 83, 1769), (302, 1, 261, 3, 11, 1770, 1771, 1772, 83, 1773), (305, 1, 262, 4, 11, 1783, 1784, 1785, 83, 1786), (309, 1, 263, 1, 11, 1787, 1788, 1789, 83, 1790), (314, 1, 264, 1, 11, 1791, 1792, 1793, 83, 1794), (318, 1, 265, 1, 11, 1797, 1798, 1799, 83, 1800)], rz_cf 12 q
  intro q hq
  simp only [List.mem_cons, List.not_mem_nil, or_false] at hq
  rcases hq with rfl | rfl | rfl | rfl | rfl | rfl | rfl | rfl | rfl | rfl | rfl | rfl | rfl | rfl | rfl | rfl | rfl | rfl | rfl | rfl | rfl | rfl | rfl | rfl | rfl | rfl | rfl | rfl | rfl | rfl | rfl | rfl | rfl | rfl | rfl | rfl | rfl | rfl | rfl | rfl | rfl | rfl | rfl | rfl | rfl | rfl | rfl | rfl | rfl | rfl | rfl | rfl | rfl | rfl | rfl | rfl | rfl | rfl | rfl | rfl | rfl | rfl | rfl | rfl | rfl | rfl | rfl | rfl | rfl | rfl | rfl | rfl | rfl | rfl | rfl | rfl | rfl | rfl | rfl | rfl | rfl | rfl | rfl | rfl | rfl | rfl | rfl | rfl | rfl | rfl | rfl | rfl | rfl | rfl | rfl | rfl | rfl | rfl | rfl | rfl | rfl | rfl | rfl | rfl | rfl | rfl | rfl | rfl | rfl | rfl | rfl | rfl | rfl | rfl | rfl | rfl | rfl | rfl | rfl | rfl | rfl | rfl | rfl | rfl | rfl | rfl | rfl | rfl | rfl | rfl | rfl | rfl | rfl | rfl | rfl | rfl | rfl
  · exact cf_12_0
  · exact cf_12_1
  · exact cf_12_2
  · exact cf_12_3
  · exact cf_12_4
  · exact cf_12_5
  · exact cf_12_6
  · exact cf_12_7
  · exact cf_12_8
  · exact cf_12_9
  · exact cf_12_10
  · exact cf_12_11
  · exact cf_12_12
  · exact cf_12_13
  · exact cf_12_14
  · exact cf_12_15
  · exact cf_12_16
  · exact cf_12_17
  · exact cf_12_18
  · exact cf_12_19
  · exact cf_12_20
  · exact cf_12_21
  · exact cf_12_22
  · exact cf_12_23
  · exact cf_12_24
  · exact cf_12_25
  · exact cf_12_26
  · exact cf_12_27
  · exact cf_12_28
  · exact cf_12_29
  · exact cf_12_30
  · exact cf_12_31
  · exact cf_12_32
  · exact cf_12_33
  · exact cf_12_34
  · exact cf_12_35
  · exact cf_12_36
  · exact cf_12_37
  · exact cf_12_38
  · exact cf_12_39
  · exact cf_12_40
  · exact cf_12_41
  · exact cf_12_42
  · exact cf_12_43
  · exact cf_12_44
  · exact cf_12_45
  · exact cf_12_46
  · exact cf_12_47
  · exact cf_12_48
  · exact cf_12_49
  · exact cf_12_50
  · exact cf_12_51
  · exact cf_12_52
  · exact cf_12_53
  · exact cf_12_54
  · exact cf_12_55
  · exact cf_12_56
  · exact cf_12_57
  · exact cf_12_58
  · exact cf_12_59
  · exact cf_12_60
  · exact cf_12_61
  · exact cf_12_62
  · exact cf_12_63
  · exact cf_12_64
  · exact cf_12_65
  · exact cf_12_66
  · exact cf_12_67
  · exact cf_12_68
  · exact cf_12_69
  · exact cf_12_70
  · exact cf_12_71
  · exact cf_12_72
  · exact cf_12_73
  · exact cf_12_74
  · exact cf_12_75
  · exact cf_12_76
  · exact cf_12_77
  · exact cf_12_78
  · exact cf_12_79
  · exact cf_12_80
  · exact cf_12_81
  · exact cf_12_82
  · exact cf_12_83
  · exact cf_12_84
  · exact cf_12_85
  · exact cf_12_86
  · exact cf_12_87
  · exact cf_12_88
  · exact cf_12_89
  · exact cf_12_90
  · exact cf_12_91
  · exact cf_12_92
  · exact cf_12_93
  · exact cf_12_94
  · exact cf_12_95
  · exact cf_12_96
  · exact cf_12_97
  · exact cf_12_98
  · exact cf_12_99
  · exact cf_12_100
  · exact cf_12_101
  · exact cf_12_102
  · exact cf_12_103
  · exact cf_12_104
  · exact cf_12_105
  · exact cf_12_106
  · exact cf_12_107
  · exact cf_12_108
  · exact cf_12_109
  · exact cf_12_110
  · exact cf_12_111
  · exact cf_12_112
  · exact cf_12_113
  · exact cf_12_114
  · exact cf_12_115
  · exact cf_12_116
  · exact cf_12_117
  · exact cf_12_118
  · exact cf_12_119
  · exact cf_12_120
  · exact cf_12_121
  · exact cf_12_122
  · exact cf_12_123
  · exact cf_12_124
  · exact cf_12_125
  · exact cf_12_126
  · exact cf_12_127
  · exact cf_12_128
  · exact cf_12_129
  · exact cf_12_130
  · exact cf_12_131
  · exact cf_12_132
  · exact cf_12_133
  · exact cf_12_134
  · exact cf_12_135
  · exact cf_12_136
set_option maxRecDepth 100000 in
theorem cfa_13 : ∀ q ∈ rz_clT.getD 13 [], rz_cf 13 q := by
  show ∀ q ∈ [], rz_cf 13 q
  intro q hq
  simp only [List.mem_cons, List.not_mem_nil, or_false] at hq
  
set_option maxRecDepth 100000 in
theorem cfa_14 : ∀ q ∈ rz_clT.getD 14 [], rz_cf 14 q := by
  show ∀ q ∈ [], rz_cf 14 q
  intro q hq
  simp only [List.mem_cons, List.not_mem_nil, or_false] at hq
  
theorem cfa {oc : Nat} {q : Nat × Nat × Nat × Nat × Nat × Nat × Nat × Nat × Nat × Nat} (hq : q ∈ rz_clT.getD oc []) : rz_cf oc q := by
  match oc, hq with
  | 0, hq => exact cfa_0 q hq
  | 1, hq => exact cfa_1 q hq
  | 2, hq => exact cfa_2 q hq
  | 3, hq => exact cfa_3 q hq
  | 4, hq => exact cfa_4 q hq
  | 5, hq => exact cfa_5 q hq
  | 6, hq => exact cfa_6 q hq
  | 7, hq => exact cfa_7 q hq
  | 8, hq => exact cfa_8 q hq
  | 9, hq => exact cfa_9 q hq
  | 10, hq => exact cfa_10 q hq
  | 11, hq => exact cfa_11 q hq
  | 12, hq => exact cfa_12 q hq
  | 13, hq => exact cfa_13 q hq
  | 14, hq => exact cfa_14 q hq
  | n + 15, hq =>
    rw [List.getD_eq_getElem?_getD, List.getElem?_eq_none (by show _ ≤ _; simp [rz_clT])] at hq
    cases hq
