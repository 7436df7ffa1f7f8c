/-! the model's long numbers -/
def cl (P : Nat) : Nat → Nat
  | 0 => 0
  | i + 1 => if P / LB ^ i % LB = 0 then cl P i else i + 1
theorem cl_len {P : Nat} : ∀ i, P < LB ^ i → cl P i = a_len P
  | 0, h => by
    have : P = 0 := by rw [Nat.pow_zero] at h; omega
    subst this
    rfl
  | i + 1, h => by
    have l1 : P / LB ^ i < LB := by rw [Nat.div_lt_iff_lt_mul (lb_pos i), Nat.mul_comm, ← Nat.pow_succ]; exact h
    unfold cl
    rw [Nat.mod_eq_of_lt l1]
    by_cases c : P / LB ^ i = 0
    · rw [if_pos c]
      exact cl_len i ((Nat.div_eq_zero_iff_lt (lb_pos _)).mp c)
    · rw [if_neg c]
      refine a_len_un h (fun _ => ?_)
      rw [Nat.add_sub_cancel]
      exact (Nat.div_pos_iff.mp (Nat.pos_of_ne_zero c)).2
theorem l_and30 {h : Nat} : lN h &&& lN 1073741823 = lN (h % LB) := by
  have e : h % LB = h &&& 1073741823 := (Nat.and_two_pow_sub_one_eq_mod h 30).symm
  rw [e, ← Int64.toBitVec_inj, Int64.toBitVec_and]
  show BitVec.ofNat 64 h &&& BitVec.ofNat 64 1073741823 = BitVec.ofNat 64 (h &&& 1073741823)
  rw [BitVec.ofNat_and]
theorem l_shr30 {h : Nat} (hh : h < 2 ^ 63) : lN h >>> ((nI 30).toInt64 &&& 63) = lN (h / LB) := by
  have s : (((nI 30).toInt64 &&& 63).toBitVec.smod 64).toNat = 30 := by decide +kernel
  rw [← Int64.toBitVec_inj, Int64.toBitVec_shiftRight]
  apply BitVec.eq_of_toInt_eq
  rw [BitVec.toInt_sshiftRight', s]
  show (BitVec.ofNat 64 h).toInt >>> 30 = (BitVec.ofNat 64 (h / LB)).toInt
  have hl : h / LB < 2 ^ 63 := Nat.lt_of_le_of_lt (Nat.div_le_self _ _) hh
  have key : ∀ a : Nat, a < 2 ^ 63 → (BitVec.ofNat 64 a).toInt = (a : Int) := by
    intro a ha
    rw [BitVec.toInt_ofNat', Int.bmod_eq_of_le (by omega) (by omega)]
  rw [key h hh, key _ hl, Int.shiftRight_eq_div_pow]
  rfl
theorem lg_ne {a : Nat} (h : a < 2 ^ 63) : (lg_cmp (lN a) (lN 0) = nI 0) = (a = 0) := by
  by_cases c : a = 0
  · subst c; rw [lg_eq]; simp
  · rw [lg_gt (by omega) h]
    simp only [c, eq_iff_iff, iff_false]
    decide
section
variable {fi fi' : Nat → Nat → Int32} {fl fl' : Nat → Nat → Int64} {fr : Nat → Nat → Option Nat} {Q : Option Value → Mm → Prop} {w : Nat → Nat} {k : Nat} {M : Mm} {ws : Nat → Nat → Nat} {nn tx : Nat → Nat} {n : Nat}
theorem sm_ti_ (hf : z_FR fr) {arr v f many : Nat} (ha : z_al arr = 10) (ho : z_ok 151 arr 3 = true) (hm : many = a_len v) (m8 : many ≤ 8) (f0 : 0 < f) (hf2 : f ≤ 200) (hv : v * f < LB ^ 10)
    (hQ : ∀ fl', (∀ i, i < 10 → fl' arr i = lN (v * f / LB ^ i % LB)) → (∀ j, j ≠ arr → fl' j = fl j) → Q (some (.int (nI (a_len (v * f))))) (151, fi, fl', fr)) :
    ∀ m i, i + m = 10 → ∀ f1 v8, (∀ j, i ≤ j → j < many → f1 arr j = lN (v / LB ^ j % LB)) → (∀ j, j < i → f1 arr j = lN (v * f / LB ^ j % LB)) → (∀ j, j ≠ arr → f1 j = fl j) → TT 62 9 [some (.ref arr), some (.int (nI many)), some (.long (lN f)), none, some (.long (lN (v % LB ^ i * f / LB ^ i))), none, some (.int (nI (cl (v * f) i))), some (.int (nI i)), v8, none] [] (151, fi, f1, fr) Q := by
  intro m
  induction m with
  | zero =>
    intro i hi f1 v8 h1 h2 h3
    obtain rfl : i = 10 := by omega
    rw [cl_len 10 hv]
    have o := hQ f1 h2 h3
    simp (disch := first | assumption | rfl | exact zle_0 | exact zle_1 | exact zle_2 | exact zle_3 | exact zle_4 | exact zb_0 | exact zb_1 | exact zb01_B | omega) only [zT62_9, zr_iload_7, zT62_11, zr_ic_10, zT62_13, zr_icmp_ge, zT62_80, zr_iload_6, zT62_82, zr_ret0, zcl_i, zcl_r, zcl_l, zcl_n, zv_some, zv_none, Nat.reduceAdd, Nat.reduceMul, Nat.reduceSub, Nat.reduceLT, Nat.reduceLeDiff, Nat.reduceEqDiff, Int.reduceToNat, true_implies, false_implies, implies_true, and_true, true_and, not_true_eq_false, not_false_eq_true, Nat.zero_add, Nat.add_zero, nI_add, nI_ltI, nI_leI, nI_eq, pk_mul, pk_sub, u2_same, u2_row, u2_other, olt_T, olt_F, ole_T, ole_F, oeq_T, oeq_F]
    exact o
  | succ m ih =>
    intro i hi f1 v8 h1 h2 h3
    have i10 : i < 10 := by omega
    have st := lb_step v f i
    have dv := lb_div v f i
    have md := lb_mod v f i
    have sm := lb_small v f i f0
    have LBv := LB_eq
    have vl : v / LB ^ i % LB < LB := Nat.mod_lt _ (by decide)
    have prod : v / LB ^ i % LB * f ≤ LB * 200 := Nat.mul_le_mul (by omega) hf2
    have zl : many ≤ i → v / LB ^ i % LB = 0 := by
      intro h
      have : v < LB ^ i := Nat.lt_of_lt_of_le (a_len_lt v) (by rw [← hm]; exact Nat.pow_le_pow_right (by decide) h)
      rw [(Nat.div_eq_zero_iff_lt (lb_pos _)).mpr this]
      exact Nat.zero_mod _
    have hd := h1 i (Nat.le_refl _)
    have cs : cl (v * f) (i + 1) = if v * f / LB ^ i % LB = 0 then cl (v * f) i else i + 1 := rfl
    have nx1 := ih (i + 1) (by omega) (u2 f1 arr i (lN (v * f / LB ^ i % LB))) (some (.long (lN (v % LB ^ (i + 1) * f / LB ^ i)))) (fun j j1 j2 => by rw [u2_row (by omega)]; exact h1 j (by omega) j2) (fun j hj => by
      by_cases e : j = i
      · subst e; rw [u2_same]
      · rw [u2_row e]; exact h2 j (by omega)) (fun j hj => by rw [u2_ne hj]; exact h3 j hj)
    rw [cs, ← dv] at nx1
    have lw : v * f / LB ^ i % LB < LB := Nat.mod_lt _ (by decide)
    have a30 := l_and30 (h := v % LB ^ (i + 1) * f / LB ^ i)
    rw [md] at a30
    have s30 := l_shr30 (h := v % LB ^ (i + 1) * f / LB ^ i) (by omega)
    have nz := lg_ne (a := v * f / LB ^ i % LB) (by omega)
    have add : lN (v / LB ^ i % LB) * lN f + lN (v % LB ^ i * f / LB ^ i) = lN (v % LB ^ (i + 1) * f / LB ^ i) := by rw [lN_mul, lN_add, Nat.add_comm, st]
    generalize lN (v % LB ^ (i + 1) * f / LB ^ i) = here at *
    generalize v % LB ^ (i + 1) * f / LB ^ i / LB = carry at *
    generalize lN (v % LB ^ i * f / LB ^ i) = carry0 at *
    generalize v * f / LB ^ i % LB = low at *
    simp (disch := first | assumption | rfl | exact zle_0 | exact zle_1 | exact zle_2 | exact zle_3 | exact zle_4 | exact zb_0 | exact zb_1 | exact zb01_B | omega) only [zT62_9, zr_iload_7, zcl_i, zcl_r, zcl_l, zcl_n, zv_some, zv_none, Nat.reduceAdd, Nat.reduceMul, Nat.reduceSub, Nat.reduceLT, Nat.reduceLeDiff, Nat.reduceEqDiff, Int.reduceToNat, true_implies, false_implies, implies_true, and_true, true_and, not_true_eq_false, not_false_eq_true, Nat.zero_add, Nat.add_zero, nI_add, nI_ltI, nI_leI, nI_eq, pk_mul, pk_sub, u2_same, u2_row, u2_other]
    by_cases c : i < many
    · have hd' := hd c
      generalize v / LB ^ i % LB = limb at *
      by_cases cz : low = 0
      · rw [if_pos cz] at nx1
        simp (disch := first | assumption | rfl | exact zle_0 | exact zle_1 | exact zle_2 | exact zle_3 | exact zle_4 | exact zb_0 | exact zb_1 | exact zb01_B | omega) only [zT62_11, zr_ic_10, zT62_13, zr_icmp_ge, zT62_16, zr_iload_7, zT62_18, zr_iload_1, zT62_19, zT62_22, zr_aload_0, zT62_23, zT62_25, zr_lald, zT62_26, zr_goto, zT62_29, zr_ldc2, zT62_30, zr_lload_2, zT62_31, zr_lmul, zT62_32, zr_lload_4, zT62_34, zr_ladd, zT62_35, zr_lstore_8, zT62_37, zT62_38, zT62_40, zr_lload_8, zT62_42, zT62_45, zr_land, zT62_46, zr_last, zT62_47, zT62_49, zr_ic_30, zT62_51, zr_lshr, zT62_52, zr_lstore_4, zT62_54, zT62_55, zT62_57, zT62_58, zT62_59, zr_lcmp, zT62_60, zr_if_eq, zT62_63, zT62_65, zr_ic_1, zT62_66, zr_iadd, zT62_67, zT62_70, zr_iload_6, zT62_72, zr_istore_6, zT62_74, zr_iinc_7_1, zT62_77, zcl_i, zcl_r, zcl_l, zcl_n, zv_some, zv_none, Nat.reduceAdd, Nat.reduceMul, Nat.reduceSub, Nat.reduceLT, Nat.reduceLeDiff, Nat.reduceEqDiff, Int.reduceToNat, true_implies, false_implies, implies_true, and_true, true_and, not_true_eq_false, not_false_eq_true, Nat.zero_add, Nat.add_zero, nI_add, nI_ltI, nI_leI, nI_eq, pk_mul, pk_sub, u2_same, u2_row, u2_other, hd', add, a30, s30, nz, cz, lg_eq, olt_T, olt_F, ole_T, ole_F, oeq_T, oeq_F]
        rw [cz] at nx1
        exact nx1
      · rw [if_neg cz] at nx1
        simp (disch := first | assumption | rfl | exact zle_0 | exact zle_1 | exact zle_2 | exact zle_3 | exact zle_4 | exact zb_0 | exact zb_1 | exact zb01_B | omega) only [zT62_11, zr_ic_10, zT62_13, zr_icmp_ge, zT62_16, zr_iload_7, zT62_18, zr_iload_1, zT62_19, zT62_22, zr_aload_0, zT62_23, zT62_25, zr_lald, zT62_26, zr_goto, zT62_29, zr_ldc2, zT62_30, zr_lload_2, zT62_31, zr_lmul, zT62_32, zr_lload_4, zT62_34, zr_ladd, zT62_35, zr_lstore_8, zT62_37, zT62_38, zT62_40, zr_lload_8, zT62_42, zT62_45, zr_land, zT62_46, zr_last, zT62_47, zT62_49, zr_ic_30, zT62_51, zr_lshr, zT62_52, zr_lstore_4, zT62_54, zT62_55, zT62_57, zT62_58, zT62_59, zr_lcmp, zT62_60, zr_if_eq, zT62_63, zT62_65, zr_ic_1, zT62_66, zr_iadd, zT62_67, zT62_70, zr_iload_6, zT62_72, zr_istore_6, zT62_74, zr_iinc_7_1, zT62_77, zcl_i, zcl_r, zcl_l, zcl_n, zv_some, zv_none, Nat.reduceAdd, Nat.reduceMul, Nat.reduceSub, Nat.reduceLT, Nat.reduceLeDiff, Nat.reduceEqDiff, Int.reduceToNat, true_implies, false_implies, implies_true, and_true, true_and, not_true_eq_false, not_false_eq_true, Nat.zero_add, Nat.add_zero, nI_add, nI_ltI, nI_leI, nI_eq, pk_mul, pk_sub, u2_same, u2_row, u2_other, hd', add, a30, s30, nz, cz, olt_T, olt_F, ole_T, ole_F, oeq_T, oeq_F]
        exact nx1
    · rw [zl (by omega)] at add
      by_cases cz : low = 0
      · rw [if_pos cz] at nx1
        simp (disch := first | assumption | rfl | exact zle_0 | exact zle_1 | exact zle_2 | exact zle_3 | exact zle_4 | exact zb_0 | exact zb_1 | exact zb01_B | omega) only [zT62_11, zr_ic_10, zT62_13, zr_icmp_ge, zT62_16, zr_iload_7, zT62_18, zr_iload_1, zT62_19, zT62_22, zr_aload_0, zT62_23, zT62_25, zr_lald, zT62_26, zr_goto, zT62_29, zr_ldc2, zT62_30, zr_lload_2, zT62_31, zr_lmul, zT62_32, zr_lload_4, zT62_34, zr_ladd, zT62_35, zr_lstore_8, zT62_37, zT62_38, zT62_40, zr_lload_8, zT62_42, zT62_45, zr_land, zT62_46, zr_last, zT62_47, zT62_49, zr_ic_30, zT62_51, zr_lshr, zT62_52, zr_lstore_4, zT62_54, zT62_55, zT62_57, zT62_58, zT62_59, zr_lcmp, zT62_60, zr_if_eq, zT62_63, zT62_65, zr_ic_1, zT62_66, zr_iadd, zT62_67, zT62_70, zr_iload_6, zT62_72, zr_istore_6, zT62_74, zr_iinc_7_1, zT62_77, zcl_i, zcl_r, zcl_l, zcl_n, zv_some, zv_none, Nat.reduceAdd, Nat.reduceMul, Nat.reduceSub, Nat.reduceLT, Nat.reduceLeDiff, Nat.reduceEqDiff, Int.reduceToNat, true_implies, false_implies, implies_true, and_true, true_and, not_true_eq_false, not_false_eq_true, Nat.zero_add, Nat.add_zero, nI_add, nI_ltI, nI_leI, nI_eq, pk_mul, pk_sub, u2_same, u2_row, u2_other, add, a30, s30, nz, cz, lg_eq, olt_T, olt_F, ole_T, ole_F, oeq_T, oeq_F]
        rw [cz] at nx1
        exact nx1
      · rw [if_neg cz] at nx1
        simp (disch := first | assumption | rfl | exact zle_0 | exact zle_1 | exact zle_2 | exact zle_3 | exact zle_4 | exact zb_0 | exact zb_1 | exact zb01_B | omega) only [zT62_11, zr_ic_10, zT62_13, zr_icmp_ge, zT62_16, zr_iload_7, zT62_18, zr_iload_1, zT62_19, zT62_22, zr_aload_0, zT62_23, zT62_25, zr_lald, zT62_26, zr_goto, zT62_29, zr_ldc2, zT62_30, zr_lload_2, zT62_31, zr_lmul, zT62_32, zr_lload_4, zT62_34, zr_ladd, zT62_35, zr_lstore_8, zT62_37, zT62_38, zT62_40, zr_lload_8, zT62_42, zT62_45, zr_land, zT62_46, zr_last, zT62_47, zT62_49, zr_ic_30, zT62_51, zr_lshr, zT62_52, zr_lstore_4, zT62_54, zT62_55, zT62_57, zT62_58, zT62_59, zr_lcmp, zT62_60, zr_if_eq, zT62_63, zT62_65, zr_ic_1, zT62_66, zr_iadd, zT62_67, zT62_70, zr_iload_6, zT62_72, zr_istore_6, zT62_74, zr_iinc_7_1, zT62_77, zcl_i, zcl_r, zcl_l, zcl_n, zv_some, zv_none, Nat.reduceAdd, Nat.reduceMul, Nat.reduceSub, Nat.reduceLT, Nat.reduceLeDiff, Nat.reduceEqDiff, Int.reduceToNat, true_implies, false_implies, implies_true, and_true, true_and, not_true_eq_false, not_false_eq_true, Nat.zero_add, Nat.add_zero, nI_add, nI_ltI, nI_leI, nI_eq, pk_mul, pk_sub, u2_same, u2_row, u2_other, add, a30, s30, nz, cz, olt_T, olt_F, ole_T, ole_F, oeq_T, oeq_F]
        exact nx1
theorem sm_t0_ (hf : z_FR fr) {arr many : Nat} (ha : z_al arr = 10) (ho : z_ok 151 arr 3 = true) (m8 : many ≤ 8)
    (hQ : ∀ fl', (∀ j, j ≠ arr → fl' j = fl j) → Q (some (.int (nI 0))) (151, fi, fl', fr)) :
    ∀ m i, i + m = 10 → ∀ f1 v8, (∀ j, i ≤ j → j < many → ∃ u, f1 arr j = lN u) → (∀ j, j ≠ arr → f1 j = fl j) → TT 62 9 [some (.ref arr), some (.int (nI many)), some (.long (lN 0)), none, some (.long (lN 0)), none, some (.int (nI 0)), some (.int (nI i)), v8, none] [] (151, fi, f1, fr) Q := by
  intro m
  induction m with
  | zero =>
    intro i hi f1 v8 h1 h3
    obtain rfl : i = 10 := by omega
    have o := hQ f1 h3
    simp (disch := first | assumption | rfl | exact zle_0 | exact zle_1 | exact zle_2 | exact zle_3 | exact zle_4 | exact zb_0 | exact zb_1 | exact zb01_B | omega) only [zT62_9, zr_iload_7, zT62_11, zr_ic_10, zT62_13, zr_icmp_ge, zT62_80, zr_iload_6, zT62_82, zr_ret0, zcl_i, zcl_r, zcl_l, zcl_n, zv_some, zv_none, Nat.reduceAdd, Nat.reduceMul, Nat.reduceSub, Nat.reduceLT, Nat.reduceLeDiff, Nat.reduceEqDiff, Int.reduceToNat, true_implies, false_implies, implies_true, and_true, true_and, not_true_eq_false, not_false_eq_true, Nat.zero_add, Nat.add_zero, nI_add, nI_ltI, nI_leI, nI_eq, pk_mul, pk_sub, u2_same, u2_row, u2_other, olt_T, olt_F, ole_T, ole_F, oeq_T, oeq_F]
    exact o
  | succ m ih =>
    intro i hi f1 v8 h1 h3
    have i10 : i < 10 := by omega
    have nx1 := ih (i + 1) (by omega) (u2 f1 arr i (lN 0)) (some (.long (lN 0))) (fun j j1 j2 => by rw [u2_row (by omega)]; exact h1 j (by omega) j2) (fun j hj => by rw [u2_ne hj]; exact h3 j hj)
    have a30 : lN 0 &&& lN 1073741823 = lN 0 := by decide +kernel
    have s30 : lN 0 >>> ((nI 30).toInt64 &&& 63) = lN 0 := by decide +kernel
    have ad : ∀ u, lN u * lN 0 + lN 0 = lN 0 := fun u => by rw [lN_mul, lN_add, Nat.mul_zero]
    simp (disch := first | assumption | rfl | exact zle_0 | exact zle_1 | exact zle_2 | exact zle_3 | exact zle_4 | exact zb_0 | exact zb_1 | exact zb01_B | omega) only [zT62_9, zr_iload_7, zcl_i, zcl_r, zcl_l, zcl_n, zv_some, zv_none, Nat.reduceAdd, Nat.reduceMul, Nat.reduceSub, Nat.reduceLT, Nat.reduceLeDiff, Nat.reduceEqDiff, Int.reduceToNat, true_implies, false_implies, implies_true, and_true, true_and, not_true_eq_false, not_false_eq_true, Nat.zero_add, Nat.add_zero, nI_add, nI_ltI, nI_leI, nI_eq, pk_mul, pk_sub, u2_same, u2_row, u2_other]
    by_cases c : i < many
    · obtain ⟨u, hu⟩ := h1 i (Nat.le_refl _) c
      simp (disch := first | assumption | rfl | exact zle_0 | exact zle_1 | exact zle_2 | exact zle_3 | exact zle_4 | exact zb_0 | exact zb_1 | exact zb01_B | omega) only [zT62_11, zr_ic_10, zT62_13, zr_icmp_ge, zT62_16, zr_iload_7, zT62_18, zr_iload_1, zT62_19, zT62_22, zr_aload_0, zT62_23, zT62_25, zr_lald, zT62_26, zr_goto, zT62_29, zr_ldc2, zT62_30, zr_lload_2, zT62_31, zr_lmul, zT62_32, zr_lload_4, zT62_34, zr_ladd, zT62_35, zr_lstore_8, zT62_37, zT62_38, zT62_40, zr_lload_8, zT62_42, zT62_45, zr_land, zT62_46, zr_last, zT62_47, zT62_49, zr_ic_30, zT62_51, zr_lshr, zT62_52, zr_lstore_4, zT62_54, zT62_55, zT62_57, zT62_58, zT62_59, zr_lcmp, zT62_60, zr_if_eq, zT62_63, zT62_65, zr_ic_1, zT62_66, zr_iadd, zT62_67, zT62_70, zr_iload_6, zT62_72, zr_istore_6, zT62_74, zr_iinc_7_1, zT62_77, zcl_i, zcl_r, zcl_l, zcl_n, zv_some, zv_none, Nat.reduceAdd, Nat.reduceMul, Nat.reduceSub, Nat.reduceLT, Nat.reduceLeDiff, Nat.reduceEqDiff, Int.reduceToNat, true_implies, false_implies, implies_true, and_true, true_and, not_true_eq_false, not_false_eq_true, Nat.zero_add, Nat.add_zero, nI_add, nI_ltI, nI_leI, nI_eq, pk_mul, pk_sub, u2_same, u2_row, u2_other, hu, ad, a30, s30, lg_eq, olt_T, olt_F, ole_T, ole_F, oeq_T, oeq_F]
      exact nx1
    · simp (disch := first | assumption | rfl | exact zle_0 | exact zle_1 | exact zle_2 | exact zle_3 | exact zle_4 | exact zb_0 | exact zb_1 | exact zb01_B | omega) only [zT62_11, zr_ic_10, zT62_13, zr_icmp_ge, zT62_16, zr_iload_7, zT62_18, zr_iload_1, zT62_19, zT62_22, zr_aload_0, zT62_23, zT62_25, zr_lald, zT62_26, zr_goto, zT62_29, zr_ldc2, zT62_30, zr_lload_2, zT62_31, zr_lmul, zT62_32, zr_lload_4, zT62_34, zr_ladd, zT62_35, zr_lstore_8, zT62_37, zT62_38, zT62_40, zr_lload_8, zT62_42, zT62_45, zr_land, zT62_46, zr_last, zT62_47, zT62_49, zr_ic_30, zT62_51, zr_lshr, zT62_52, zr_lstore_4, zT62_54, zT62_55, zT62_57, zT62_58, zT62_59, zr_lcmp, zT62_60, zr_if_eq, zT62_63, zT62_65, zr_ic_1, zT62_66, zr_iadd, zT62_67, zT62_70, zr_iload_6, zT62_72, zr_istore_6, zT62_74, zr_iinc_7_1, zT62_77, zcl_i, zcl_r, zcl_l, zcl_n, zv_some, zv_none, Nat.reduceAdd, Nat.reduceMul, Nat.reduceSub, Nat.reduceLT, Nat.reduceLeDiff, Nat.reduceEqDiff, Int.reduceToNat, true_implies, false_implies, implies_true, and_true, true_and, not_true_eq_false, not_false_eq_true, Nat.zero_add, Nat.add_zero, nI_add, nI_ltI, nI_leI, nI_eq, pk_mul, pk_sub, u2_same, u2_row, u2_other, ad, a30, s30, lg_eq, olt_T, olt_F, ole_T, ole_F, oeq_T, oeq_F]
      exact nx1
theorem sm_times (hf : z_FR fr) {arr v f : Nat} (ha : z_al arr = 10) (ho : z_ok 151 arr 3 = true) (hv8 : v < LB ^ 8) (hd : ∀ k, k < a_len v → fl arr k = lN (v / LB ^ k % LB)) (hf2 : f ≤ 200) (hv : v * f < LB ^ 8)
    (hQ : ∀ fl', (∀ i, i < a_len (v * f) → fl' arr i = lN (v * f / LB ^ i % LB)) → (∀ j, j ≠ arr → fl' j = fl j) → Q (some (.int (nI (a_len (v * f))))) (151, fi, fl', fr)) :
    TT 62 0 [some (.ref arr), some (.int (nI (a_len v))), some (.long (lN f)), none, none, none, none, none, none, none] [] (151, fi, fl, fr) Q := by
  have m8 := a_len_8 hv8
  have v10 : v * f < LB ^ 10 := Nat.lt_of_lt_of_le hv (Nat.pow_le_pow_right (by decide) (by decide))
  have p8 := a_len_8 hv
  by_cases f0 : 0 < f
  · have L := sm_ti_ (fi := fi) (Q := Q) hf ha ho (rfl : a_len v = a_len v) m8 f0 hf2 v10 (fun fl' g1 g2 => hQ fl' (fun i hi => g1 i (by omega)) g2) 10 0 rfl fl none (fun j _ hj => hd j hj) (fun j hj => absurd hj (Nat.not_lt_zero _)) (fun _ _ => rfl)
    rw [show v % LB ^ 0 * f / LB ^ 0 = 0 by simp [Nat.mod_one], show cl (v * f) 0 = 0 from rfl] at L
    simp (disch := first | assumption | rfl | exact zle_0 | exact zle_1 | exact zle_2 | exact zle_3 | exact zle_4 | exact zb_0 | exact zb_1 | exact zb01_B | omega) only [zT62_0, zr_ldc2, zT62_1, zr_lstore_4, zT62_3, zr_ic_0, zT62_4, zr_istore_6, zT62_6, zT62_7, zr_istore_7, zcl_i, zcl_r, zcl_l, zcl_n, zv_some, zv_none, Nat.reduceAdd, Nat.reduceMul, Nat.reduceSub, Nat.reduceLT, Nat.reduceLeDiff, Nat.reduceEqDiff, Int.reduceToNat, true_implies, false_implies, implies_true, and_true, true_and, not_true_eq_false, not_false_eq_true, Nat.zero_add, Nat.add_zero, nI_add, nI_ltI, nI_leI, nI_eq, pk_mul, pk_sub, u2_same, u2_row, u2_other, olt_T, olt_F, ole_T, ole_F, oeq_T, oeq_F]
    exact L
  · obtain rfl : f = 0 := by omega
    have L := sm_t0_ (fi := fi) (Q := Q) (many := a_len v) hf ha ho m8 (fun fl' g2 => hQ fl' (fun i hi => absurd hi (by rw [Nat.mul_zero]; exact Nat.not_lt_zero _)) g2) 10 0 rfl fl none (fun j _ hj => ⟨v / LB ^ j % LB, hd j hj⟩) (fun _ _ => rfl)
    simp (disch := first | assumption | rfl | exact zle_0 | exact zle_1 | exact zle_2 | exact zle_3 | exact zle_4 | exact zb_0 | exact zb_1 | exact zb01_B | omega) only [zT62_0, zr_ldc2, zT62_1, zr_lstore_4, zT62_3, zr_ic_0, zT62_4, zr_istore_6, zT62_6, zT62_7, zr_istore_7, zcl_i, zcl_r, zcl_l, zcl_n, zv_some, zv_none, Nat.reduceAdd, Nat.reduceMul, Nat.reduceSub, Nat.reduceLT, Nat.reduceLeDiff, Nat.reduceEqDiff, Int.reduceToNat, true_implies, false_implies, implies_true, and_true, true_and, not_true_eq_false, not_false_eq_true, Nat.zero_add, Nat.add_zero, nI_add, nI_ltI, nI_leI, nI_eq, pk_mul, pk_sub, u2_same, u2_row, u2_other, olt_T, olt_F, ole_T, ole_F, oeq_T, oeq_F]
    exact L
end
