/-! simple calls, on -/
section
variable {fi fi' : Nat → Nat → Int32} {fl : Nat → Nat → Int64} {fr : Nat → Nat → Option Nat} {Q : Option Value → Mm → Prop} {w : Nat → Nat} {k : Nat} {M : Mm} {ws : Nat → Nat → Nat} {nn tx : Nat → Nat}
theorem sx_countOf (hf : z_FR fr) (h : z_XS fi ws nn tx) {i : Nat} (hi : i ≤ 4) : TT 124 0 [some (.ref 18), some (.int (nI i))] [] (151, fi, fl, fr) Q = Q (some (.int (nI (a_ct (ws 0) nn i)))) (151, fi, fl, fr) := by
  refine T_exact (fun Q hQ => ?_) Q
  have o18 : z_ok 151 18 10 = true := rfl; have o19 : z_ok 151 19 16 = true := rfl; have o84 : z_ok 151 84 11 = true := rfl
  obtain ⟨r1, r2, r3, r4, r5⟩ := h.1.1.1
  have ln := h.2.2.2.1.2.1
  have : i = 0 ∨ i = 1 ∨ i = 2 ∨ i = 3 ∨ i = 4 := by omega
  rcases this with rfl | rfl | rfl | rfl | rfl
  · have t : z_tab 64 0 3 #[32, 40, 48, 56] (nI 0) = some 32 := by decide +kernel
    simp (disch := first | assumption | rfl | exact zle_0 | exact zle_1 | exact zle_2 | exact zle_3 | exact zle_4 | exact zb_0 | exact zb_1 | exact zb01_B | omega) only [zT124_0, zr_iload_1, zT124_1, zr_tab, zr_or, zr_go, zT124_32, zr_aload_0, zT124_33, zr_gf_0, zf_18_0, zf_22_0, zf_42_0, zf_59_0, zf_96_0, zf_116_0, zT124_36, zr_gf_43, zT124_39, zr_ret0, zT124_40, zT124_41, zT124_44, zr_gf_45, zT124_47, zT124_48, zT124_49, zT124_52, zr_gf_46, zT124_55, zT124_56, zT124_57, zT124_60, zr_gf_49, zT124_63, zT124_64, zT124_65, zr_gf_6, zf_18_6, zT124_68, zr_gf_12, zT124_71, zcl_i, zcl_r, zcl_l, zcl_n, zv_some, zv_none, Nat.reduceAdd, Nat.reduceMul, Nat.reduceSub, Nat.reduceLT, Nat.reduceLeDiff, Nat.reduceEqDiff, Int.reduceToNat, true_implies, false_implies, implies_true, and_true, true_and, not_true_eq_false, not_false_eq_true, Nat.zero_add, Nat.add_zero, nI_add, nI_ltI, nI_leI, nI_eq, pk_mul, pk_sub, u2_same, u2_row, u2_other, t, r1, olt_T, olt_F, ole_T, ole_F, oeq_T, oeq_F]
    exact hQ
  · have t : z_tab 64 0 3 #[32, 40, 48, 56] (nI 1) = some 40 := by decide +kernel
    simp (disch := first | assumption | rfl | exact zle_0 | exact zle_1 | exact zle_2 | exact zle_3 | exact zle_4 | exact zb_0 | exact zb_1 | exact zb01_B | omega) only [zT124_0, zr_iload_1, zT124_1, zr_tab, zr_or, zr_go, zT124_32, zr_aload_0, zT124_33, zr_gf_0, zf_18_0, zf_22_0, zf_42_0, zf_59_0, zf_96_0, zf_116_0, zT124_36, zr_gf_43, zT124_39, zr_ret0, zT124_40, zT124_41, zT124_44, zr_gf_45, zT124_47, zT124_48, zT124_49, zT124_52, zr_gf_46, zT124_55, zT124_56, zT124_57, zT124_60, zr_gf_49, zT124_63, zT124_64, zT124_65, zr_gf_6, zf_18_6, zT124_68, zr_gf_12, zT124_71, zcl_i, zcl_r, zcl_l, zcl_n, zv_some, zv_none, Nat.reduceAdd, Nat.reduceMul, Nat.reduceSub, Nat.reduceLT, Nat.reduceLeDiff, Nat.reduceEqDiff, Int.reduceToNat, true_implies, false_implies, implies_true, and_true, true_and, not_true_eq_false, not_false_eq_true, Nat.zero_add, Nat.add_zero, nI_add, nI_ltI, nI_leI, nI_eq, pk_mul, pk_sub, u2_same, u2_row, u2_other, t, r2, olt_T, olt_F, ole_T, ole_F, oeq_T, oeq_F]
    exact hQ
  · have t : z_tab 64 0 3 #[32, 40, 48, 56] (nI 2) = some 48 := by decide +kernel
    simp (disch := first | assumption | rfl | exact zle_0 | exact zle_1 | exact zle_2 | exact zle_3 | exact zle_4 | exact zb_0 | exact zb_1 | exact zb01_B | omega) only [zT124_0, zr_iload_1, zT124_1, zr_tab, zr_or, zr_go, zT124_32, zr_aload_0, zT124_33, zr_gf_0, zf_18_0, zf_22_0, zf_42_0, zf_59_0, zf_96_0, zf_116_0, zT124_36, zr_gf_43, zT124_39, zr_ret0, zT124_40, zT124_41, zT124_44, zr_gf_45, zT124_47, zT124_48, zT124_49, zT124_52, zr_gf_46, zT124_55, zT124_56, zT124_57, zT124_60, zr_gf_49, zT124_63, zT124_64, zT124_65, zr_gf_6, zf_18_6, zT124_68, zr_gf_12, zT124_71, zcl_i, zcl_r, zcl_l, zcl_n, zv_some, zv_none, Nat.reduceAdd, Nat.reduceMul, Nat.reduceSub, Nat.reduceLT, Nat.reduceLeDiff, Nat.reduceEqDiff, Int.reduceToNat, true_implies, false_implies, implies_true, and_true, true_and, not_true_eq_false, not_false_eq_true, Nat.zero_add, Nat.add_zero, nI_add, nI_ltI, nI_leI, nI_eq, pk_mul, pk_sub, u2_same, u2_row, u2_other, t, r3, olt_T, olt_F, ole_T, ole_F, oeq_T, oeq_F]
    exact hQ
  · have t : z_tab 64 0 3 #[32, 40, 48, 56] (nI 3) = some 56 := by decide +kernel
    simp (disch := first | assumption | rfl | exact zle_0 | exact zle_1 | exact zle_2 | exact zle_3 | exact zle_4 | exact zb_0 | exact zb_1 | exact zb01_B | omega) only [zT124_0, zr_iload_1, zT124_1, zr_tab, zr_or, zr_go, zT124_32, zr_aload_0, zT124_33, zr_gf_0, zf_18_0, zf_22_0, zf_42_0, zf_59_0, zf_96_0, zf_116_0, zT124_36, zr_gf_43, zT124_39, zr_ret0, zT124_40, zT124_41, zT124_44, zr_gf_45, zT124_47, zT124_48, zT124_49, zT124_52, zr_gf_46, zT124_55, zT124_56, zT124_57, zT124_60, zr_gf_49, zT124_63, zT124_64, zT124_65, zr_gf_6, zf_18_6, zT124_68, zr_gf_12, zT124_71, zcl_i, zcl_r, zcl_l, zcl_n, zv_some, zv_none, Nat.reduceAdd, Nat.reduceMul, Nat.reduceSub, Nat.reduceLT, Nat.reduceLeDiff, Nat.reduceEqDiff, Int.reduceToNat, true_implies, false_implies, implies_true, and_true, true_and, not_true_eq_false, not_false_eq_true, Nat.zero_add, Nat.add_zero, nI_add, nI_ltI, nI_leI, nI_eq, pk_mul, pk_sub, u2_same, u2_row, u2_other, t, r5, olt_T, olt_F, ole_T, ole_F, oeq_T, oeq_F]
    exact hQ
  · have t : z_tab 64 0 3 #[32, 40, 48, 56] (nI 4) = some 64 := by decide +kernel
    simp (disch := first | assumption | rfl | exact zle_0 | exact zle_1 | exact zle_2 | exact zle_3 | exact zle_4 | exact zb_0 | exact zb_1 | exact zb01_B | omega) only [zT124_0, zr_iload_1, zT124_1, zr_tab, zr_or, zr_go, zT124_32, zr_aload_0, zT124_33, zr_gf_0, zf_18_0, zf_22_0, zf_42_0, zf_59_0, zf_96_0, zf_116_0, zT124_36, zr_gf_43, zT124_39, zr_ret0, zT124_40, zT124_41, zT124_44, zr_gf_45, zT124_47, zT124_48, zT124_49, zT124_52, zr_gf_46, zT124_55, zT124_56, zT124_57, zT124_60, zr_gf_49, zT124_63, zT124_64, zT124_65, zr_gf_6, zf_18_6, zT124_68, zr_gf_12, zT124_71, zcl_i, zcl_r, zcl_l, zcl_n, zv_some, zv_none, Nat.reduceAdd, Nat.reduceMul, Nat.reduceSub, Nat.reduceLT, Nat.reduceLeDiff, Nat.reduceEqDiff, Int.reduceToNat, true_implies, false_implies, implies_true, and_true, true_and, not_true_eq_false, not_false_eq_true, Nat.zero_add, Nat.add_zero, nI_add, nI_ltI, nI_leI, nI_eq, pk_mul, pk_sub, u2_same, u2_row, u2_other, t, ln, olt_T, olt_F, ole_T, ole_F, oeq_T, oeq_F]
    exact hQ
theorem out2 {x : Int32} {n : Nat} (hn : n < 2 ^ 31) (h : ¬ (0 ≤ x.toInt ∧ x.toInt ≤ n)) : (x < nI 0) = True ∨ ((x < nI 0) = False ∧ (x ≤ nI n) = False) := by
  by_cases c : x.toInt < 0
  · exact Or.inl (eq_true (by rw [Int32.lt_iff_toInt_lt, nI_toInt (by decide)]; omega))
  · exact Or.inr ⟨eq_false (by rw [Int32.lt_iff_toInt_lt, nI_toInt (by decide)]; omega), eq_false (by rw [Int32.le_iff_toInt_le, nI_toInt hn]; omega)⟩
theorem sx_count (hf : z_FR fr) (h : z_XS fi ws nn tx) {x : Int32} (hQ : z_XQ fi fl fr Q (r_count (ws 0) nn x).1 ws (r_count (ws 0) nn x).2 tx) : TT 113 0 [some (.ref 18), some (.int x)] [] (151, fi, fl, fr) Q := by
  have o18 : z_ok 151 18 10 = true := rfl
  have rfs := fun fi Q => sp_refuse (fi := fi) (fl := fl) (fr := fr) (Q := Q) (r := 2) (x := nM 2) (Or.inl rfl)
  unfold r_count at hQ
  by_cases c : 0 ≤ x.toInt ∧ x.toInt ≤ 4
  · rw [if_pos c] at hQ
    obtain ⟨j, j2, rfl, ej⟩ := i3 (n := 4) c
    rw [ej] at hQ
    have ct := fun Q => sx_countOf (fl := fl) (Q := Q) hf h j2
    simp (disch := first | assumption | rfl | exact zle_0 | exact zle_1 | exact zle_2 | exact zle_3 | exact zle_4 | exact zb_0 | exact zb_1 | exact zb01_B | omega) only [zT113_0, zr_iload_1, zT113_1, zr_if_lt, zT113_4, zT113_5, zr_ic_4, zT113_6, zr_icmp_le, zT113_9, zr_aload_0, zT113_10, zr_ic_m2, zT113_12, zT113_14, zr_iv_117, zT113_17, zr_goto, zT113_20, zT113_21, zT113_22, zr_iv_124, zT113_25, zr_ret0, zcl_i, zcl_r, zcl_l, zcl_n, zv_some, zv_none, Nat.reduceAdd, Nat.reduceMul, Nat.reduceSub, Nat.reduceLT, Nat.reduceLeDiff, Nat.reduceEqDiff, Int.reduceToNat, true_implies, false_implies, implies_true, and_true, true_and, not_true_eq_false, not_false_eq_true, Nat.zero_add, Nat.add_zero, nI_add, nI_ltI, nI_leI, nI_eq, pk_mul, pk_sub, u2_same, u2_row, u2_other, ct, olt_T, olt_F, ole_T, ole_F, oeq_T, oeq_F]
    exact z_XQ.id_ h hQ
  · rw [if_neg c] at hQ
    have o := z_XQ.ref (Or.inl rfl) h hQ
    rcases out2 (n := 4) (by decide) c with n1 | ⟨n1, n2⟩
    · simp (disch := first | assumption | rfl | exact zle_0 | exact zle_1 | exact zle_2 | exact zle_3 | exact zle_4 | exact zb_0 | exact zb_1 | exact zb01_B | omega) only [zT113_0, zr_iload_1, zT113_1, zr_if_lt, zT113_4, zT113_5, zr_ic_4, zT113_6, zr_icmp_le, zT113_9, zr_aload_0, zT113_10, zr_ic_m2, zT113_12, zT113_14, zr_iv_117, zT113_17, zr_goto, zT113_20, zT113_21, zT113_22, zr_iv_124, zT113_25, zr_ret0, zcl_i, zcl_r, zcl_l, zcl_n, zv_some, zv_none, Nat.reduceAdd, Nat.reduceMul, Nat.reduceSub, Nat.reduceLT, Nat.reduceLeDiff, Nat.reduceEqDiff, Int.reduceToNat, true_implies, false_implies, implies_true, and_true, true_and, not_true_eq_false, not_false_eq_true, Nat.zero_add, Nat.add_zero, nI_add, nI_ltI, nI_leI, nI_eq, pk_mul, pk_sub, u2_same, u2_row, u2_other, n1, rfs, olt_T, olt_F, ole_T, ole_F, oeq_T, oeq_F]
      exact o
    · simp (disch := first | assumption | rfl | exact zle_0 | exact zle_1 | exact zle_2 | exact zle_3 | exact zle_4 | exact zb_0 | exact zb_1 | exact zb01_B | omega) only [zT113_0, zr_iload_1, zT113_1, zr_if_lt, zT113_4, zT113_5, zr_ic_4, zT113_6, zr_icmp_le, zT113_9, zr_aload_0, zT113_10, zr_ic_m2, zT113_12, zT113_14, zr_iv_117, zT113_17, zr_goto, zT113_20, zT113_21, zT113_22, zr_iv_124, zT113_25, zr_ret0, zcl_i, zcl_r, zcl_l, zcl_n, zv_some, zv_none, Nat.reduceAdd, Nat.reduceMul, Nat.reduceSub, Nat.reduceLT, Nat.reduceLeDiff, Nat.reduceEqDiff, Int.reduceToNat, true_implies, false_implies, implies_true, and_true, true_and, not_true_eq_false, not_false_eq_true, Nat.zero_add, Nat.add_zero, nI_add, nI_ltI, nI_leI, nI_eq, pk_mul, pk_sub, u2_same, u2_row, u2_other, n1, n2, rfs, olt_T, olt_F, ole_T, ole_F, oeq_T, oeq_F]
      exact o
theorem sx_signOf (hf : z_FR fr) (h : z_XS fi ws nn tx) {i : Nat} (hi : i ≤ 2) : TT 123 0 [some (.ref 18), some (.int (nI i))] [] (151, fi, fl, fr) Q = Q (some (.int (nI (a_sg nn i)))) (151, fi, fl, fr) := by
  refine T_exact (fun Q hQ => ?_) Q
  have o18 : z_ok 151 18 10 = true := rfl; have o88 : z_ok 151 88 14 = true := rfl; have o89 : z_ok 151 89 17 = true := rfl; have o91 : z_ok 151 91 17 = true := rfl
  obtain ⟨hA, hB⟩ := h.2.2.1
  have eA := hA.1
  have eB := hB.1
  have z := fun Q => sp_isZero (fl := fl) (fr := fr) (Q := Q) o89 hA
  have : i = 0 ∨ i = 1 ∨ i = 2 := by omega
  rcases this with rfl | rfl | rfl
  · have t : (Op.lookupswitch.offset (#[(0, 28), (1, 47)] : Array (Int × Int)).toList 58 (nI 0).toInt).toNat = 28 := by decide +kernel
    unfold a_sg at hQ
    rw [if_pos rfl] at hQ
    by_cases c : nn 6 = 0
    · rw [if_pos c] at hQ
      rw [decide_eq_true c] at z
      simp (disch := first | assumption | rfl | exact zle_0 | exact zle_1 | exact zle_2 | exact zle_3 | exact zle_4 | exact zb_0 | exact zb_1 | exact zb01_B | omega) only [zT123_0, zr_iload_1, zT123_1, zr_lks, zT123_28, zr_aload_0, zT123_29, zr_gf_7, zr_or, zr_go, zf_18_7, zT123_32, zr_gf_34, zf_88_34, zT123_35, zr_iv_201, zT123_38, zr_if_eq, zT123_41, zr_ic_0, zT123_42, zr_goto, zT123_45, zr_ic_1, zT123_46, zr_ret0, zT123_47, zT123_48, zT123_51, zT123_54, zr_gf_51, zT123_57, zT123_58, zT123_59, zT123_62, zr_gf_35, zf_88_35, zT123_65, zT123_68, zcl_i, zcl_r, zcl_l, zcl_n, zv_some, zv_none, Nat.reduceAdd, Nat.reduceMul, Nat.reduceSub, Nat.reduceLT, Nat.reduceLeDiff, Nat.reduceEqDiff, Int.reduceToNat, true_implies, false_implies, implies_true, and_true, true_and, not_true_eq_false, not_false_eq_true, Nat.zero_add, Nat.add_zero, nI_add, nI_ltI, nI_leI, nI_eq, pk_mul, pk_sub, u2_same, u2_row, u2_other, t, z, zB_eq0, reduceCtorEq, olt_T, olt_F, ole_T, ole_F, oeq_T, oeq_F]
      exact hQ
    · rw [if_neg c] at hQ
      rw [decide_eq_false c] at z
      simp (disch := first | assumption | rfl | exact zle_0 | exact zle_1 | exact zle_2 | exact zle_3 | exact zle_4 | exact zb_0 | exact zb_1 | exact zb01_B | omega) only [zT123_0, zr_iload_1, zT123_1, zr_lks, zT123_28, zr_aload_0, zT123_29, zr_gf_7, zr_or, zr_go, zf_18_7, zT123_32, zr_gf_34, zf_88_34, zT123_35, zr_iv_201, zT123_38, zr_if_eq, zT123_41, zr_ic_0, zT123_42, zr_goto, zT123_45, zr_ic_1, zT123_46, zr_ret0, zT123_47, zT123_48, zT123_51, zT123_54, zr_gf_51, zT123_57, zT123_58, zT123_59, zT123_62, zr_gf_35, zf_88_35, zT123_65, zT123_68, zcl_i, zcl_r, zcl_l, zcl_n, zv_some, zv_none, Nat.reduceAdd, Nat.reduceMul, Nat.reduceSub, Nat.reduceLT, Nat.reduceLeDiff, Nat.reduceEqDiff, Int.reduceToNat, true_implies, false_implies, implies_true, and_true, true_and, not_true_eq_false, not_false_eq_true, Nat.zero_add, Nat.add_zero, nI_add, nI_ltI, nI_leI, nI_eq, pk_mul, pk_sub, u2_same, u2_row, u2_other, t, z, zB_eq0, olt_T, olt_F, ole_T, ole_F, oeq_T, oeq_F]
      exact hQ
  · have t : (Op.lookupswitch.offset (#[(0, 28), (1, 47)] : Array (Int × Int)).toList 58 (nI 1).toInt).toNat = 47 := by decide +kernel
    simp (disch := first | assumption | rfl | exact zle_0 | exact zle_1 | exact zle_2 | exact zle_3 | exact zle_4 | exact zb_0 | exact zb_1 | exact zb01_B | omega) only [zT123_0, zr_iload_1, zT123_1, zr_lks, zT123_28, zr_aload_0, zT123_29, zr_gf_7, zr_or, zr_go, zf_18_7, zT123_32, zr_gf_34, zf_88_34, zT123_35, zr_iv_201, zT123_38, zr_if_eq, zT123_41, zr_ic_0, zT123_42, zr_goto, zT123_45, zr_ic_1, zT123_46, zr_ret0, zT123_47, zT123_48, zT123_51, zT123_54, zr_gf_51, zT123_57, zT123_58, zT123_59, zT123_62, zr_gf_35, zf_88_35, zT123_65, zT123_68, zcl_i, zcl_r, zcl_l, zcl_n, zv_some, zv_none, Nat.reduceAdd, Nat.reduceMul, Nat.reduceSub, Nat.reduceLT, Nat.reduceLeDiff, Nat.reduceEqDiff, Int.reduceToNat, true_implies, false_implies, implies_true, and_true, true_and, not_true_eq_false, not_false_eq_true, Nat.zero_add, Nat.add_zero, nI_add, nI_ltI, nI_leI, nI_eq, pk_mul, pk_sub, u2_same, u2_row, u2_other, t, eA, olt_T, olt_F, ole_T, ole_F, oeq_T, oeq_F]
    exact hQ
  · have t : (Op.lookupswitch.offset (#[(0, 28), (1, 47)] : Array (Int × Int)).toList 58 (nI 2).toInt).toNat = 58 := by decide +kernel
    simp (disch := first | assumption | rfl | exact zle_0 | exact zle_1 | exact zle_2 | exact zle_3 | exact zle_4 | exact zb_0 | exact zb_1 | exact zb01_B | omega) only [zT123_0, zr_iload_1, zT123_1, zr_lks, zT123_28, zr_aload_0, zT123_29, zr_gf_7, zr_or, zr_go, zf_18_7, zT123_32, zr_gf_34, zf_88_34, zT123_35, zr_iv_201, zT123_38, zr_if_eq, zT123_41, zr_ic_0, zT123_42, zr_goto, zT123_45, zr_ic_1, zT123_46, zr_ret0, zT123_47, zT123_48, zT123_51, zT123_54, zr_gf_51, zT123_57, zT123_58, zT123_59, zT123_62, zr_gf_35, zf_88_35, zT123_65, zT123_68, zcl_i, zcl_r, zcl_l, zcl_n, zv_some, zv_none, Nat.reduceAdd, Nat.reduceMul, Nat.reduceSub, Nat.reduceLT, Nat.reduceLeDiff, Nat.reduceEqDiff, Int.reduceToNat, true_implies, false_implies, implies_true, and_true, true_and, not_true_eq_false, not_false_eq_true, Nat.zero_add, Nat.add_zero, nI_add, nI_ltI, nI_leI, nI_eq, pk_mul, pk_sub, u2_same, u2_row, u2_other, t, eB, olt_T, olt_F, ole_T, ole_F, oeq_T, oeq_F]
    exact hQ
theorem sx_sign (hf : z_FR fr) (h : z_XS fi ws nn tx) {x : Int32} (hQ : z_XQ fi fl fr Q (r_sign nn x).1 ws (r_sign nn x).2 tx) : TT 108 0 [some (.ref 18), some (.int x)] [] (151, fi, fl, fr) Q := by
  have o18 : z_ok 151 18 10 = true := rfl
  have rfs := fun fi Q => sp_refuse (fi := fi) (fl := fl) (fr := fr) (Q := Q) (r := 2) (x := nM 2) (Or.inl rfl)
  unfold r_sign at hQ
  by_cases c : 0 ≤ x.toInt ∧ x.toInt ≤ 2
  · rw [if_pos c] at hQ
    obtain ⟨j, j2, rfl, ej⟩ := i3 (n := 2) c
    rw [ej] at hQ
    have ct := fun Q => sx_signOf (fl := fl) (Q := Q) hf h j2
    simp (disch := first | assumption | rfl | exact zle_0 | exact zle_1 | exact zle_2 | exact zle_3 | exact zle_4 | exact zb_0 | exact zb_1 | exact zb01_B | omega) only [zT108_0, zr_iload_1, zT108_1, zr_if_lt, zT108_4, zT108_5, zr_ic_2, zT108_6, zr_icmp_le, zT108_9, zr_aload_0, zT108_10, zr_ic_m2, zT108_12, zT108_14, zr_iv_117, zT108_17, zr_ret0, zT108_18, zT108_19, zT108_20, zr_iv_123, zT108_23, zcl_i, zcl_r, zcl_l, zcl_n, zv_some, zv_none, Nat.reduceAdd, Nat.reduceMul, Nat.reduceSub, Nat.reduceLT, Nat.reduceLeDiff, Nat.reduceEqDiff, Int.reduceToNat, true_implies, false_implies, implies_true, and_true, true_and, not_true_eq_false, not_false_eq_true, Nat.zero_add, Nat.add_zero, nI_add, nI_ltI, nI_leI, nI_eq, pk_mul, pk_sub, u2_same, u2_row, u2_other, ct, olt_T, olt_F, ole_T, ole_F, oeq_T, oeq_F]
    exact z_XQ.id_ h hQ
  · rw [if_neg c] at hQ
    have o := z_XQ.ref (Or.inl rfl) h hQ
    rcases out2 (n := 2) (by decide) c with n1 | ⟨n1, n2⟩
    · simp (disch := first | assumption | rfl | exact zle_0 | exact zle_1 | exact zle_2 | exact zle_3 | exact zle_4 | exact zb_0 | exact zb_1 | exact zb01_B | omega) only [zT108_0, zr_iload_1, zT108_1, zr_if_lt, zT108_4, zT108_5, zr_ic_2, zT108_6, zr_icmp_le, zT108_9, zr_aload_0, zT108_10, zr_ic_m2, zT108_12, zT108_14, zr_iv_117, zT108_17, zr_ret0, zT108_18, zT108_19, zT108_20, zr_iv_123, zT108_23, zcl_i, zcl_r, zcl_l, zcl_n, zv_some, zv_none, Nat.reduceAdd, Nat.reduceMul, Nat.reduceSub, Nat.reduceLT, Nat.reduceLeDiff, Nat.reduceEqDiff, Int.reduceToNat, true_implies, false_implies, implies_true, and_true, true_and, not_true_eq_false, not_false_eq_true, Nat.zero_add, Nat.add_zero, nI_add, nI_ltI, nI_leI, nI_eq, pk_mul, pk_sub, u2_same, u2_row, u2_other, n1, rfs, olt_T, olt_F, ole_T, ole_F, oeq_T, oeq_F]
      exact o
    · simp (disch := first | assumption | rfl | exact zle_0 | exact zle_1 | exact zle_2 | exact zle_3 | exact zle_4 | exact zb_0 | exact zb_1 | exact zb01_B | omega) only [zT108_0, zr_iload_1, zT108_1, zr_if_lt, zT108_4, zT108_5, zr_ic_2, zT108_6, zr_icmp_le, zT108_9, zr_aload_0, zT108_10, zr_ic_m2, zT108_12, zT108_14, zr_iv_117, zT108_17, zr_ret0, zT108_18, zT108_19, zT108_20, zr_iv_123, zT108_23, zcl_i, zcl_r, zcl_l, zcl_n, zv_some, zv_none, Nat.reduceAdd, Nat.reduceMul, Nat.reduceSub, Nat.reduceLT, Nat.reduceLeDiff, Nat.reduceEqDiff, Int.reduceToNat, true_implies, false_implies, implies_true, and_true, true_and, not_true_eq_false, not_false_eq_true, Nat.zero_add, Nat.add_zero, nI_add, nI_ltI, nI_leI, nI_eq, pk_mul, pk_sub, u2_same, u2_row, u2_other, n1, n2, rfs, olt_T, olt_F, ole_T, ole_F, oeq_T, oeq_F]
      exact o
theorem sx_limb (hf : z_FR fr) (h : z_XS fi ws nn tx) {x y : Int32} (hQ : z_XQ fi fl fr Q (r_limb nn x y).1 ws (r_limb nn x y).2 tx) : TT 109 0 [some (.ref 18), some (.int x), some (.int y)] [] (151, fi, fl, fr) Q := by
  have o18 : z_ok 151 18 10 = true := rfl; have o88 : z_ok 151 88 14 = true := rfl; have o89 : z_ok 151 89 17 = true := rfl; have o90 : z_ok 151 90 1 = true := rfl; have o91 : z_ok 151 91 17 = true := rfl; have o92 : z_ok 151 92 1 = true := rfl
  have l90 : z_al 90 = 8 := rfl; have l92 : z_al 92 = 8 := rfl
  have f1 := zf_89_50 hf
  have f2 := zf_91_50 hf
  have rfs := fun fi Q => sp_refuse (fi := fi) (fl := fl) (fr := fr) (Q := Q) (r := 2) (x := nM 2) (Or.inl rfl)
  obtain ⟨hA, hB⟩ := h.2.2.1
  unfold r_limb at hQ
  by_cases c : 0 ≤ x.toInt ∧ x.toInt ≤ 1
  · by_cases c2 : 0 ≤ y.toInt
    · rw [if_pos ⟨c.1, c.2, c2⟩] at hQ
      obtain ⟨j, j2, rfl, ej⟩ := i3 (n := 1) c
      obtain ⟨ey, ly⟩ := nI_ofInt c2
      rw [ej] at hQ
      generalize hy : y.toInt.toNat = b at *
      rw [ey]
      have la := fun Q => sp_limbAt (fl := fl) (Q := Q) (a := 89) o89 o90 l90 f1 hA ly
      have lb := fun Q => sp_limbAt (fl := fl) (Q := Q) (a := 91) o91 o92 l92 f2 hB ly
      have : j = 0 ∨ j = 1 := by omega
      rcases this with rfl | rfl
      · simp (disch := first | assumption | rfl | exact zle_0 | exact zle_1 | exact zle_2 | exact zle_3 | exact zle_4 | exact zb_0 | exact zb_1 | exact zb01_B | omega) only [zT109_0, zr_iload_1, zT109_1, zr_if_lt, zT109_4, zT109_5, zr_ic_1, zT109_6, zr_icmp_gt, zT109_9, zr_iload_2, zT109_10, zr_if_ge, zT109_13, zr_aload_0, zT109_14, zr_ic_m2, zT109_16, zT109_18, zr_iv_117, zT109_21, zr_ret0, zT109_22, zT109_23, zr_if_ne, zT109_26, zT109_27, zr_gf_7, zr_or, zr_go, zf_18_7, zT109_30, zr_gf_34, zf_88_34, zT109_33, zr_goto, zT109_36, zT109_37, zT109_40, zr_gf_35, zf_88_35, zT109_43, zT109_44, zr_iv_203, zT109_47, zcl_i, zcl_r, zcl_l, zcl_n, zv_some, zv_none, Nat.reduceAdd, Nat.reduceMul, Nat.reduceSub, Nat.reduceLT, Nat.reduceLeDiff, Nat.reduceEqDiff, Int.reduceToNat, true_implies, false_implies, implies_true, and_true, true_and, not_true_eq_false, not_false_eq_true, Nat.zero_add, Nat.add_zero, nI_add, nI_ltI, nI_leI, nI_eq, pk_mul, pk_sub, u2_same, u2_row, u2_other, la, olt_T, olt_F, ole_T, ole_F, oeq_T, oeq_F]
        exact z_XQ.id_ h hQ
      · simp (disch := first | assumption | rfl | exact zle_0 | exact zle_1 | exact zle_2 | exact zle_3 | exact zle_4 | exact zb_0 | exact zb_1 | exact zb01_B | omega) only [zT109_0, zr_iload_1, zT109_1, zr_if_lt, zT109_4, zT109_5, zr_ic_1, zT109_6, zr_icmp_gt, zT109_9, zr_iload_2, zT109_10, zr_if_ge, zT109_13, zr_aload_0, zT109_14, zr_ic_m2, zT109_16, zT109_18, zr_iv_117, zT109_21, zr_ret0, zT109_22, zT109_23, zr_if_ne, zT109_26, zT109_27, zr_gf_7, zr_or, zr_go, zf_18_7, zT109_30, zr_gf_34, zf_88_34, zT109_33, zr_goto, zT109_36, zT109_37, zT109_40, zr_gf_35, zf_88_35, zT109_43, zT109_44, zr_iv_203, zT109_47, zcl_i, zcl_r, zcl_l, zcl_n, zv_some, zv_none, Nat.reduceAdd, Nat.reduceMul, Nat.reduceSub, Nat.reduceLT, Nat.reduceLeDiff, Nat.reduceEqDiff, Int.reduceToNat, true_implies, false_implies, implies_true, and_true, true_and, not_true_eq_false, not_false_eq_true, Nat.zero_add, Nat.add_zero, nI_add, nI_ltI, nI_leI, nI_eq, pk_mul, pk_sub, u2_same, u2_row, u2_other, lb, olt_T, olt_F, ole_T, ole_F, oeq_T, oeq_F]
        exact z_XQ.id_ h hQ
    · rw [if_neg (fun q => c2 q.2.2)] at hQ
      have o := z_XQ.ref (Or.inl rfl) h hQ
      obtain ⟨j, j2, rfl, ej⟩ := i3 (n := 1) c
      have n1 : (nI 0 ≤ y) = False := eq_false (by rw [Int32.le_iff_toInt_le, nI_toInt (by decide)]; omega)
      simp (disch := first | assumption | rfl | exact zle_0 | exact zle_1 | exact zle_2 | exact zle_3 | exact zle_4 | exact zb_0 | exact zb_1 | exact zb01_B | omega) only [zT109_0, zr_iload_1, zT109_1, zr_if_lt, zT109_4, zT109_5, zr_ic_1, zT109_6, zr_icmp_gt, zT109_9, zr_iload_2, zT109_10, zr_if_ge, zT109_13, zr_aload_0, zT109_14, zr_ic_m2, zT109_16, zT109_18, zr_iv_117, zT109_21, zr_ret0, zT109_22, zT109_23, zr_if_ne, zT109_26, zT109_27, zr_gf_7, zr_or, zr_go, zf_18_7, zT109_30, zr_gf_34, zf_88_34, zT109_33, zr_goto, zT109_36, zT109_37, zT109_40, zr_gf_35, zf_88_35, zT109_43, zT109_44, zr_iv_203, zT109_47, zcl_i, zcl_r, zcl_l, zcl_n, zv_some, zv_none, Nat.reduceAdd, Nat.reduceMul, Nat.reduceSub, Nat.reduceLT, Nat.reduceLeDiff, Nat.reduceEqDiff, Int.reduceToNat, true_implies, false_implies, implies_true, and_true, true_and, not_true_eq_false, not_false_eq_true, Nat.zero_add, Nat.add_zero, nI_add, nI_ltI, nI_leI, nI_eq, pk_mul, pk_sub, u2_same, u2_row, u2_other, n1, rfs, olt_T, olt_F, ole_T, ole_F, oeq_T, oeq_F]
      exact o
  · rw [if_neg (fun q => c ⟨q.1, q.2.1⟩)] at hQ
    have o := z_XQ.ref (Or.inl rfl) h hQ
    rcases out2 (n := 1) (by decide) c with n1 | ⟨n1, n2⟩
    · simp (disch := first | assumption | rfl | exact zle_0 | exact zle_1 | exact zle_2 | exact zle_3 | exact zle_4 | exact zb_0 | exact zb_1 | exact zb01_B | omega) only [zT109_0, zr_iload_1, zT109_1, zr_if_lt, zT109_4, zT109_5, zr_ic_1, zT109_6, zr_icmp_gt, zT109_9, zr_iload_2, zT109_10, zr_if_ge, zT109_13, zr_aload_0, zT109_14, zr_ic_m2, zT109_16, zT109_18, zr_iv_117, zT109_21, zr_ret0, zT109_22, zT109_23, zr_if_ne, zT109_26, zT109_27, zr_gf_7, zr_or, zr_go, zf_18_7, zT109_30, zr_gf_34, zf_88_34, zT109_33, zr_goto, zT109_36, zT109_37, zT109_40, zr_gf_35, zf_88_35, zT109_43, zT109_44, zr_iv_203, zT109_47, zcl_i, zcl_r, zcl_l, zcl_n, zv_some, zv_none, Nat.reduceAdd, Nat.reduceMul, Nat.reduceSub, Nat.reduceLT, Nat.reduceLeDiff, Nat.reduceEqDiff, Int.reduceToNat, true_implies, false_implies, implies_true, and_true, true_and, not_true_eq_false, not_false_eq_true, Nat.zero_add, Nat.add_zero, nI_add, nI_ltI, nI_leI, nI_eq, pk_mul, pk_sub, u2_same, u2_row, u2_other, n1, rfs, olt_T, olt_F, ole_T, ole_F, oeq_T, oeq_F]
      exact o
    · have n3 : (nI 1 < x) = True := eq_true (by rw [Int32.lt_iff_toInt_lt]; have := of_eq_false n2; rw [Int32.le_iff_toInt_le] at this; omega)
      simp (disch := first | assumption | rfl | exact zle_0 | exact zle_1 | exact zle_2 | exact zle_3 | exact zle_4 | exact zb_0 | exact zb_1 | exact zb01_B | omega) only [zT109_0, zr_iload_1, zT109_1, zr_if_lt, zT109_4, zT109_5, zr_ic_1, zT109_6, zr_icmp_gt, zT109_9, zr_iload_2, zT109_10, zr_if_ge, zT109_13, zr_aload_0, zT109_14, zr_ic_m2, zT109_16, zT109_18, zr_iv_117, zT109_21, zr_ret0, zT109_22, zT109_23, zr_if_ne, zT109_26, zT109_27, zr_gf_7, zr_or, zr_go, zf_18_7, zT109_30, zr_gf_34, zf_88_34, zT109_33, zr_goto, zT109_36, zT109_37, zT109_40, zr_gf_35, zf_88_35, zT109_43, zT109_44, zr_iv_203, zT109_47, zcl_i, zcl_r, zcl_l, zcl_n, zv_some, zv_none, Nat.reduceAdd, Nat.reduceMul, Nat.reduceSub, Nat.reduceLT, Nat.reduceLeDiff, Nat.reduceEqDiff, Int.reduceToNat, true_implies, false_implies, implies_true, and_true, true_and, not_true_eq_false, not_false_eq_true, Nat.zero_add, Nat.add_zero, nI_add, nI_ltI, nI_leI, nI_eq, pk_mul, pk_sub, u2_same, u2_row, u2_other, n1, n2, n3, rfs, olt_T, olt_F, ole_T, ole_F, oeq_T, oeq_F]
      exact o
theorem sx_stateOf {d i what : Nat} (hd : z_Dok fr d) (hr : z_DR fi d w i) (hw : a_WD w i) (hg : a_gone w i < 1000) (hwh : what ≤ 1) : TT 122 0 [some (.ref d), some (.int (nI what))] [] (151, fi, fl, fr) Q = Q (some (.int (nI (a_so w i what)))) (151, fi, fl, fr) := by
  refine T_exact (fun Q hQ => ?_) Q
  have sa := fun Q => sp_stepAfter (fl := fl) (Q := Q) hd hr hw hg
  have mi := fun Q => sp_minutesIn (fl := fl) (Q := Q) hd hr hw hg
  have md := hr.2.1
  have od := hd.1
  unfold a_so at hQ
  have : what = 0 ∨ what = 1 := by omega
  rcases this with rfl | rfl
  · rw [if_pos rfl] at hQ
    simp (disch := first | assumption | rfl | exact zle_0 | exact zle_1 | exact zle_2 | exact zle_3 | exact zle_4 | exact zb_0 | exact zb_1 | exact zb01_B | omega) only [zT122_0, zr_iload_1, zT122_1, zr_if_ne, zT122_4, zr_aload_0, zT122_5, zT122_6, zr_gf_33, zT122_9, zr_iv_158, zT122_12, zr_goto, zT122_15, zT122_16, zT122_17, zT122_20, zr_iv_159, zT122_23, zr_ret0, zcl_i, zcl_r, zcl_l, zcl_n, zv_some, zv_none, Nat.reduceAdd, Nat.reduceMul, Nat.reduceSub, Nat.reduceLT, Nat.reduceLeDiff, Nat.reduceEqDiff, Int.reduceToNat, true_implies, false_implies, implies_true, and_true, true_and, not_true_eq_false, not_false_eq_true, Nat.zero_add, Nat.add_zero, nI_add, nI_ltI, nI_leI, nI_eq, pk_mul, pk_sub, u2_same, u2_row, u2_other, md, sa, olt_T, olt_F, ole_T, ole_F, oeq_T, oeq_F]
    exact hQ
  · rw [if_neg (by decide)] at hQ
    simp (disch := first | assumption | rfl | exact zle_0 | exact zle_1 | exact zle_2 | exact zle_3 | exact zle_4 | exact zb_0 | exact zb_1 | exact zb01_B | omega) only [zT122_0, zr_iload_1, zT122_1, zr_if_ne, zT122_4, zr_aload_0, zT122_5, zT122_6, zr_gf_33, zT122_9, zr_iv_158, zT122_12, zr_goto, zT122_15, zT122_16, zT122_17, zT122_20, zr_iv_159, zT122_23, zr_ret0, zcl_i, zcl_r, zcl_l, zcl_n, zv_some, zv_none, Nat.reduceAdd, Nat.reduceMul, Nat.reduceSub, Nat.reduceLT, Nat.reduceLeDiff, Nat.reduceEqDiff, Int.reduceToNat, true_implies, false_implies, implies_true, and_true, true_and, not_true_eq_false, not_false_eq_true, Nat.zero_add, Nat.add_zero, nI_add, nI_ltI, nI_leI, nI_eq, pk_mul, pk_sub, u2_same, u2_row, u2_other, md, mi, olt_T, olt_F, ole_T, ole_F, oeq_T, oeq_F]
    exact hQ
theorem sx_state (hf : z_FR fr) (h : z_XS fi ws nn tx) (hg : z_G ws nn) {x y : Int32} (hQ : z_XQ fi fl fr Q (r_state (ws 0) nn x y).1 ws (r_state (ws 0) nn x y).2 tx) : TT 107 0 [some (.ref 18), some (.int x), some (.int y)] [] (151, fi, fl, fr) Q := by
  have o18 : z_ok 151 18 10 = true := rfl; have o19 : z_ok 151 19 16 = true := rfl
  have hk := z_Kok_of hf (k := 19) (by decide)
  have hr := h.1.1
  have h13 := hg.1.1.2.2.1
  have hd := fun Q => sp_hasDish (fl := fl) (fr := fr) (Q := Q) (x := x) o19 hr.1.2.1 (show ws 0 13 < 2 ^ 31 by omega)
  have rfs := fun fi Q => sp_refuse (fi := fi) (fl := fl) (fr := fr) (Q := Q) (r := 2) (x := nM 2) (Or.inl rfl)
  unfold r_state at hQ
  by_cases c1 : 0 ≤ x.toInt ∧ x.toInt < ws 0 13
  · rw [decide_eq_true c1] at hd
    by_cases c2 : 0 ≤ y.toInt ∧ y.toInt ≤ 1
    · rw [if_pos ⟨c1.1, c1.2, c2.1, c2.2⟩] at hQ
      obtain ⟨ex, lx⟩ := nI_ofInt c1.1
      obtain ⟨b, b2, rfl, eb⟩ := i3 (n := 1) c2
      rw [eb] at hQ
      generalize hx : x.toInt.toNat = c at *
      have c3 : c < 3 := by omega
      have wd := hg.1.1.2.2.2.1 c c3
      have tl := a_tot_le wd.1
      have da := fun Q => sp_dishAt (fi := fi) (fl := fl) (Q := Q) hk c3
      have so := fun Q => sx_stateOf (fl := fl) (Q := Q) (hk.2.2.2.2 c c3).2 (hr.2.2.1 c c3) wd.1 (by omega) b2
      rw [ex] at hd ⊢
      simp (disch := first | assumption | rfl | exact zle_0 | exact zle_1 | exact zle_2 | exact zle_3 | exact zle_4 | exact zb_0 | exact zb_1 | exact zb01_B | omega) only [zT107_0, zr_aload_0, zT107_1, zr_gf_0, zr_or, zr_go, zf_18_0, zf_22_0, zf_42_0, zf_59_0, zf_96_0, zf_116_0, zT107_4, zr_iload_1, zT107_5, zr_iv_187, zT107_8, zr_if_eq, zT107_11, zr_iload_2, zT107_12, zr_if_lt, zT107_15, zT107_16, zr_ic_1, zT107_17, zr_icmp_le, zT107_20, zT107_21, zr_ic_m2, zT107_23, zT107_25, zr_iv_117, zT107_28, zr_ret0, zT107_29, zT107_30, zT107_33, zT107_34, zr_iv_188, zT107_37, zT107_38, zr_iv_122, zT107_41, zcl_i, zcl_r, zcl_l, zcl_n, zv_some, zv_none, Nat.reduceAdd, Nat.reduceMul, Nat.reduceSub, Nat.reduceLT, Nat.reduceLeDiff, Nat.reduceEqDiff, Int.reduceToNat, true_implies, false_implies, implies_true, and_true, true_and, not_true_eq_false, not_false_eq_true, Nat.zero_add, Nat.add_zero, nI_add, nI_ltI, nI_leI, nI_eq, pk_mul, pk_sub, u2_same, u2_row, u2_other, hd, zB_eq0, reduceCtorEq, da, so, olt_T, olt_F, ole_T, ole_F, oeq_T, oeq_F]
      exact z_XQ.id_ h hQ
    · rw [if_neg (fun q => c2 ⟨q.2.2.1, q.2.2.2⟩)] at hQ
      have o := z_XQ.ref (Or.inl rfl) h hQ
      rcases out2 (n := 1) (by decide) c2 with n1 | ⟨n1, n2⟩
      · simp (disch := first | assumption | rfl | exact zle_0 | exact zle_1 | exact zle_2 | exact zle_3 | exact zle_4 | exact zb_0 | exact zb_1 | exact zb01_B | omega) only [zT107_0, zr_aload_0, zT107_1, zr_gf_0, zr_or, zr_go, zf_18_0, zf_22_0, zf_42_0, zf_59_0, zf_96_0, zf_116_0, zT107_4, zr_iload_1, zT107_5, zr_iv_187, zT107_8, zr_if_eq, zT107_11, zr_iload_2, zT107_12, zr_if_lt, zT107_15, zT107_16, zr_ic_1, zT107_17, zr_icmp_le, zT107_20, zT107_21, zr_ic_m2, zT107_23, zT107_25, zr_iv_117, zT107_28, zr_ret0, zT107_29, zT107_30, zT107_33, zT107_34, zr_iv_188, zT107_37, zT107_38, zr_iv_122, zT107_41, zcl_i, zcl_r, zcl_l, zcl_n, zv_some, zv_none, Nat.reduceAdd, Nat.reduceMul, Nat.reduceSub, Nat.reduceLT, Nat.reduceLeDiff, Nat.reduceEqDiff, Int.reduceToNat, true_implies, false_implies, implies_true, and_true, true_and, not_true_eq_false, not_false_eq_true, Nat.zero_add, Nat.add_zero, nI_add, nI_ltI, nI_leI, nI_eq, pk_mul, pk_sub, u2_same, u2_row, u2_other, hd, zB_eq0, reduceCtorEq, n1, rfs, olt_T, olt_F, ole_T, ole_F, oeq_T, oeq_F]
        exact o
      · simp (disch := first | assumption | rfl | exact zle_0 | exact zle_1 | exact zle_2 | exact zle_3 | exact zle_4 | exact zb_0 | exact zb_1 | exact zb01_B | omega) only [zT107_0, zr_aload_0, zT107_1, zr_gf_0, zr_or, zr_go, zf_18_0, zf_22_0, zf_42_0, zf_59_0, zf_96_0, zf_116_0, zT107_4, zr_iload_1, zT107_5, zr_iv_187, zT107_8, zr_if_eq, zT107_11, zr_iload_2, zT107_12, zr_if_lt, zT107_15, zT107_16, zr_ic_1, zT107_17, zr_icmp_le, zT107_20, zT107_21, zr_ic_m2, zT107_23, zT107_25, zr_iv_117, zT107_28, zr_ret0, zT107_29, zT107_30, zT107_33, zT107_34, zr_iv_188, zT107_37, zT107_38, zr_iv_122, zT107_41, zcl_i, zcl_r, zcl_l, zcl_n, zv_some, zv_none, Nat.reduceAdd, Nat.reduceMul, Nat.reduceSub, Nat.reduceLT, Nat.reduceLeDiff, Nat.reduceEqDiff, Int.reduceToNat, true_implies, false_implies, implies_true, and_true, true_and, not_true_eq_false, not_false_eq_true, Nat.zero_add, Nat.add_zero, nI_add, nI_ltI, nI_leI, nI_eq, pk_mul, pk_sub, u2_same, u2_row, u2_other, hd, zB_eq0, reduceCtorEq, n1, n2, rfs, olt_T, olt_F, ole_T, ole_F, oeq_T, oeq_F]
        exact o
  · rw [decide_eq_false c1] at hd
    rw [if_neg (fun q => c1 ⟨q.1, q.2.1⟩)] at hQ
    have o := z_XQ.ref (Or.inl rfl) h hQ
    simp (disch := first | assumption | rfl | exact zle_0 | exact zle_1 | exact zle_2 | exact zle_3 | exact zle_4 | exact zb_0 | exact zb_1 | exact zb01_B | omega) only [zT107_0, zr_aload_0, zT107_1, zr_gf_0, zr_or, zr_go, zf_18_0, zf_22_0, zf_42_0, zf_59_0, zf_96_0, zf_116_0, zT107_4, zr_iload_1, zT107_5, zr_iv_187, zT107_8, zr_if_eq, zT107_11, zr_iload_2, zT107_12, zr_if_lt, zT107_15, zT107_16, zr_ic_1, zT107_17, zr_icmp_le, zT107_20, zT107_21, zr_ic_m2, zT107_23, zT107_25, zr_iv_117, zT107_28, zr_ret0, zT107_29, zT107_30, zT107_33, zT107_34, zr_iv_188, zT107_37, zT107_38, zr_iv_122, zT107_41, zcl_i, zcl_r, zcl_l, zcl_n, zv_some, zv_none, Nat.reduceAdd, Nat.reduceMul, Nat.reduceSub, Nat.reduceLT, Nat.reduceLeDiff, Nat.reduceEqDiff, Int.reduceToNat, true_implies, false_implies, implies_true, and_true, true_and, not_true_eq_false, not_false_eq_true, Nat.zero_add, Nat.add_zero, nI_add, nI_ltI, nI_leI, nI_eq, pk_mul, pk_sub, u2_same, u2_row, u2_other, hd, zB_eq0, rfs, olt_T, olt_F, ole_T, ole_F, oeq_T, oeq_F]
    exact o
/-- an image more, and one gone back to -/
def us (ws : Nat → Nat → Nat) (i : Nat) (w : Nat → Nat) : Nat → Nat → Nat := fun j => if j = i then w else ws j
def r_image (ws : Nat → Nat → Nat) (nn : Nat → Nat) (x : Int32) : Int32 × (Nat → Nat → Nat) × (Nat → Nat) := if 0 ≤ x.toInt ∧ x.toInt ≤ 1 then (nI 1, us ws (1 + x.toInt.toNat) (ws 0), uh nn x.toInt.toNat 1) else (nM 2, ws, rf nn 2)
def r_from (ws : Nat → Nat → Nat) (nn : Nat → Nat) (x : Int32) : Int32 × (Nat → Nat → Nat) × (Nat → Nat) := if 0 ≤ x.toInt ∧ x.toInt ≤ 1 then (if nn x.toInt.toNat = 1 then (nI 1, uw ws (ws (1 + x.toInt.toNat)), nn) else (nM 3, ws, rf nn 3)) else (nM 2, ws, rf nn 2)
theorem sx_image (hf : z_FR fr) (h : z_XS fi ws nn tx) (hg : z_G ws nn) {x : Int32} (hQ : z_XQ fi fl fr Q (r_image ws nn x).1 (r_image ws nn x).2.1 (r_image ws nn x).2.2 tx) : TT 110 0 [some (.ref 18), some (.int x)] [] (151, fi, fl, fr) Q := by
  have o18 : z_ok 151 18 10 = true := rfl; have o19 : z_ok 151 19 16 = true := rfl; have o59 : z_ok 151 59 5 = true := rfl; have o60 : z_ok 151 60 2 = true := rfl; have o93 : z_ok 151 93 16 = true := rfl; have o113 : z_ok 151 113 16 = true := rfl
  have l59 : z_al 59 = 2 := rfl; have l60 : z_al 60 = 2 := rfl
  have k19 := z_Kok_of hf (k := 19) (by decide)
  have k93 := z_Kok_of hf (k := 93) (by decide)
  have k113 := z_Kok_of hf (k := 113) (by decide)
  have rfs := fun fi Q => sp_refuse (fi := fi) (fl := fl) (fr := fr) (Q := Q) (r := 2) (x := nM 2) (Or.inl rfl)
  have hr := h.1.1
  have h54 := hg.1.1.2.2.2.2.2.1
  have b54 : z_b01 (fi 19 47) = true := by
    rw [hr.1.2.2.2.1]
    have : ws 0 54 = 0 ∨ ws 0 54 = 1 := by omega
    rcases this with e | e <;> rw [e] <;> rfl
  have c93 := fun Q => sp_kitchenCopy (fi := fi) (fl := fl) (Q := Q) k19 k93 (by decide) b54
  have c113 := fun Q => sp_kitchenCopy (fi := fi) (fl := fl) (Q := Q) k19 k113 (by decide) b54
  have K93 := k_copy_K (k := 93) hr (by decide) hg.1.1.1 hg.1.sm hg.1.le
  have K113 := k_copy_K (k := 113) hr (by decide) hg.1.1.1 hg.1.sm hg.1.le
  unfold r_image at hQ
  obtain ⟨hk, hc, hF, ht, hp⟩ := h
  by_cases c : 0 ≤ x.toInt ∧ x.toInt ≤ 1
  · rw [if_pos c] at hQ
    obtain ⟨j, j2, rfl, ej⟩ := i3 (n := 1) c
    rw [ej] at hQ
    dsimp only at hQ
    have : j = 0 ∨ j = 1 := by omega
    rcases this with rfl | rfl
    · simp (disch := first | assumption | rfl | exact zle_0 | exact zle_1 | exact zle_2 | exact zle_3 | exact zle_4 | exact zb_0 | exact zb_1 | exact zb01_B | omega) only [zT110_0, zr_iload_1, zT110_1, zr_if_lt, zT110_4, zT110_5, zr_ic_2, zT110_6, zr_icmp_lt, zT110_9, zr_aload_0, zT110_10, zr_ic_m2, zT110_12, zT110_14, zr_iv_117, zT110_17, zr_ret0, zT110_18, zT110_19, zr_gf_2, zr_or, zr_go, zf_18_2, zf_22_2, zf_42_2, zf_96_2, zf_116_2, zT110_22, zT110_23, zr_aald4, zr_aald5, zT110_24, zT110_25, zr_gf_0, zf_18_0, zf_22_0, zf_42_0, zf_59_0, zf_96_0, zf_116_0, zT110_28, zr_iv_177, zT110_31, zT110_32, zr_gf_3, zf_18_3, zT110_35, zT110_36, zr_ic_1, zT110_37, zr_bast, zT110_38, zT110_39, zcl_i, zcl_r, zcl_l, zcl_n, zv_some, zv_none, Nat.reduceAdd, Nat.reduceMul, Nat.reduceSub, Nat.reduceLT, Nat.reduceLeDiff, Nat.reduceEqDiff, Int.reduceToNat, true_implies, false_implies, implies_true, and_true, true_and, not_true_eq_false, not_false_eq_true, Nat.zero_add, Nat.add_zero, nI_add, nI_ltI, nI_leI, nI_eq, pk_mul, pk_sub, u2_same, u2_row, u2_other, c93, zf_59_0 hf, zf_59_1 hf, olt_T, olt_F, ole_T, ole_F, oeq_T, oeq_F]
      have f : ∀ j, j ≠ 60 → (j < 93 ∨ 113 ≤ j) → u2 (k_copy fi 19 93) 60 0 (nI 1) j = fi j := fun j j1 j2 => by rw [u2_ne j1]; exact k_copy_fr (by omega)
      refine hQ _ ⟨⟨?_, ?_, ?_, ?_, ?_⟩, ?_, ?_, ?_, hp.frame (fun j j1 j2 => f j (by omega) (by omega))⟩ (fun j hj => f j (by omega) (by omega))
      · exact hr.fr (fun j j1 j2 => f j (by omega) (by omega))
      · intro _; exact K93.fr (fun j j1 j2 => u2_ne (by omega))
      · intro e; exact (hk.2.2.1 (by rw [uh_ne (by decide)] at e; exact e)).fr (fun j j1 j2 => f j (by omega) (by omega))
      · rw [u2_same, uh_same]
      · rw [u2_row (by decide), uh_ne (by decide), k_copy_fr (by omega)]; exact hk.2.2.2.2
      · unfold z_XC at *
        rw [f 18 (by decide) (by decide), uh_ne (by decide), uh_ne (by decide), uh_ne (by decide)]
        exact hc
      · have := hF.frame (fi' := u2 (k_copy fi 19 93) 60 0 (nI 1)) (fun j j1 j2 => f j (by omega) (by omega))
        unfold z_XF at *
        rw [uh_ne (by decide), uh_ne (by decide)]
        exact this
      · rw [uh_ne (by decide)]
        exact ht.frame (by rw [f 84 (by decide) (by decide)]) (f 85 (by decide) (by decide))
    · simp (disch := first | assumption | rfl | exact zle_0 | exact zle_1 | exact zle_2 | exact zle_3 | exact zle_4 | exact zb_0 | exact zb_1 | exact zb01_B | omega) only [zT110_0, zr_iload_1, zT110_1, zr_if_lt, zT110_4, zT110_5, zr_ic_2, zT110_6, zr_icmp_lt, zT110_9, zr_aload_0, zT110_10, zr_ic_m2, zT110_12, zT110_14, zr_iv_117, zT110_17, zr_ret0, zT110_18, zT110_19, zr_gf_2, zr_or, zr_go, zf_18_2, zf_22_2, zf_42_2, zf_96_2, zf_116_2, zT110_22, zT110_23, zr_aald4, zr_aald5, zT110_24, zT110_25, zr_gf_0, zf_18_0, zf_22_0, zf_42_0, zf_59_0, zf_96_0, zf_116_0, zT110_28, zr_iv_177, zT110_31, zT110_32, zr_gf_3, zf_18_3, zT110_35, zT110_36, zr_ic_1, zT110_37, zr_bast, zT110_38, zT110_39, zcl_i, zcl_r, zcl_l, zcl_n, zv_some, zv_none, Nat.reduceAdd, Nat.reduceMul, Nat.reduceSub, Nat.reduceLT, Nat.reduceLeDiff, Nat.reduceEqDiff, Int.reduceToNat, true_implies, false_implies, implies_true, and_true, true_and, not_true_eq_false, not_false_eq_true, Nat.zero_add, Nat.add_zero, nI_add, nI_ltI, nI_leI, nI_eq, pk_mul, pk_sub, u2_same, u2_row, u2_other, c113, zf_59_0 hf, zf_59_1 hf, olt_T, olt_F, ole_T, ole_F, oeq_T, oeq_F]
      have f : ∀ j, j ≠ 60 → (j < 113 ∨ 133 ≤ j) → u2 (k_copy fi 19 113) 60 1 (nI 1) j = fi j := fun j j1 j2 => by rw [u2_ne j1]; exact k_copy_fr (by omega)
      refine hQ _ ⟨⟨?_, ?_, ?_, ?_, ?_⟩, ?_, ?_, ?_, hp.frame (fun j j1 j2 => f j (by omega) (by omega))⟩ (fun j hj => f j (by omega) (by omega))
      · exact hr.fr (fun j j1 j2 => f j (by omega) (by omega))
      · intro e; exact (hk.2.1 (by rw [uh_ne (by decide)] at e; exact e)).fr (fun j j1 j2 => f j (by omega) (by omega))
      · intro _; exact K113.fr (fun j j1 j2 => u2_ne (by omega))
      · rw [u2_row (by decide), uh_ne (by decide), k_copy_fr (by omega)]; exact hk.2.2.2.1
      · rw [u2_same, uh_same]
      · unfold z_XC at *
        rw [f 18 (by decide) (by decide), uh_ne (by decide), uh_ne (by decide), uh_ne (by decide)]
        exact hc
      · have := hF.frame (fi' := u2 (k_copy fi 19 113) 60 1 (nI 1)) (fun j j1 j2 => f j (by omega) (by omega))
        unfold z_XF at *
        rw [uh_ne (by decide), uh_ne (by decide)]
        exact this
      · rw [uh_ne (by decide)]
        exact ht.frame (by rw [f 84 (by decide) (by decide)]) (f 85 (by decide) (by decide))
  · rw [if_neg c] at hQ
    have o := z_XQ.ref (Or.inl rfl) ⟨hk, hc, hF, ht, hp⟩ hQ
    rcases out2 (n := 1) (by decide) c with n1 | ⟨n1, n2⟩
    · simp (disch := first | assumption | rfl | exact zle_0 | exact zle_1 | exact zle_2 | exact zle_3 | exact zle_4 | exact zb_0 | exact zb_1 | exact zb01_B | omega) only [zT110_0, zr_iload_1, zT110_1, zr_if_lt, zT110_4, zT110_5, zr_ic_2, zT110_6, zr_icmp_lt, zT110_9, zr_aload_0, zT110_10, zr_ic_m2, zT110_12, zT110_14, zr_iv_117, zT110_17, zr_ret0, zT110_18, zT110_19, zr_gf_2, zr_or, zr_go, zf_18_2, zf_22_2, zf_42_2, zf_96_2, zf_116_2, zT110_22, zT110_23, zr_aald4, zr_aald5, zT110_24, zT110_25, zr_gf_0, zf_18_0, zf_22_0, zf_42_0, zf_59_0, zf_96_0, zf_116_0, zT110_28, zr_iv_177, zT110_31, zT110_32, zr_gf_3, zf_18_3, zT110_35, zT110_36, zr_ic_1, zT110_37, zr_bast, zT110_38, zT110_39, zcl_i, zcl_r, zcl_l, zcl_n, zv_some, zv_none, Nat.reduceAdd, Nat.reduceMul, Nat.reduceSub, Nat.reduceLT, Nat.reduceLeDiff, Nat.reduceEqDiff, Int.reduceToNat, true_implies, false_implies, implies_true, and_true, true_and, not_true_eq_false, not_false_eq_true, Nat.zero_add, Nat.add_zero, nI_add, nI_ltI, nI_leI, nI_eq, pk_mul, pk_sub, u2_same, u2_row, u2_other, n1, rfs, olt_T, olt_F, ole_T, ole_F, oeq_T, oeq_F]
      exact o
    · have n3 : (x < nI 2) = False := eq_false (by rw [Int32.lt_iff_toInt_lt, nI_toInt (by decide)]; have := of_eq_false n2; rw [Int32.le_iff_toInt_le, nI_toInt (by decide)] at this; omega)
      simp (disch := first | assumption | rfl | exact zle_0 | exact zle_1 | exact zle_2 | exact zle_3 | exact zle_4 | exact zb_0 | exact zb_1 | exact zb01_B | omega) only [zT110_0, zr_iload_1, zT110_1, zr_if_lt, zT110_4, zT110_5, zr_ic_2, zT110_6, zr_icmp_lt, zT110_9, zr_aload_0, zT110_10, zr_ic_m2, zT110_12, zT110_14, zr_iv_117, zT110_17, zr_ret0, zT110_18, zT110_19, zr_gf_2, zr_or, zr_go, zf_18_2, zf_22_2, zf_42_2, zf_96_2, zf_116_2, zT110_22, zT110_23, zr_aald4, zr_aald5, zT110_24, zT110_25, zr_gf_0, zf_18_0, zf_22_0, zf_42_0, zf_59_0, zf_96_0, zf_116_0, zT110_28, zr_iv_177, zT110_31, zT110_32, zr_gf_3, zf_18_3, zT110_35, zT110_36, zr_ic_1, zT110_37, zr_bast, zT110_38, zT110_39, zcl_i, zcl_r, zcl_l, zcl_n, zv_some, zv_none, Nat.reduceAdd, Nat.reduceMul, Nat.reduceSub, Nat.reduceLT, Nat.reduceLeDiff, Nat.reduceEqDiff, Int.reduceToNat, true_implies, false_implies, implies_true, and_true, true_and, not_true_eq_false, not_false_eq_true, Nat.zero_add, Nat.add_zero, nI_add, nI_ltI, nI_leI, nI_eq, pk_mul, pk_sub, u2_same, u2_row, u2_other, n1, n2, n3, rfs, olt_T, olt_F, ole_T, ole_F, oeq_T, oeq_F]
      exact o
theorem sx_from (hf : z_FR fr) (h : z_XS fi ws nn tx) (hg : z_G ws nn) {x : Int32} (hQ : z_XQ fi fl fr Q (r_from ws nn x).1 (r_from ws nn x).2.1 (r_from ws nn x).2.2 tx) : TT 111 0 [some (.ref 18), some (.int x)] [] (151, fi, fl, fr) Q := by
  have o18 : z_ok 151 18 10 = true := rfl; have o19 : z_ok 151 19 16 = true := rfl; have o59 : z_ok 151 59 5 = true := rfl; have o60 : z_ok 151 60 2 = true := rfl; have o70 : z_ok 151 70 18 = true := rfl; have o93 : z_ok 151 93 16 = true := rfl; have o113 : z_ok 151 113 16 = true := rfl
  have l59 : z_al 59 = 2 := rfl; have l60 : z_al 60 = 2 := rfl
  have k19 := z_Kok_of hf (k := 19) (by decide)
  have rfs := fun fi Q => sp_refuse (fi := fi) (fl := fl) (fr := fr) (Q := Q) (r := 2) (x := nM 2) (Or.inl rfl)
  have rfn := fun fi Q => sp_refuse (fi := fi) (fl := fl) (fr := fr) (Q := Q) (r := 3) (x := nM 3) (Or.inr (Or.inl rfl))
  unfold r_from at hQ
  have key : ∀ i k, i ≤ 1 → k = 93 + 20 * i → nn i = 1 → z_KR fi k (ws (1 + i)) → a_W (ws (1 + i)) → z_Kok fr k → z_XQ fi fl fr Q (nI 1) (uw ws (ws (1 + i))) nn tx → (∀ Q, TT 177 0 [some (.ref 19), some (.ref k), none] [] (151, u2 fi 70 55 (nI 0), fl, fr) Q = Q none (151, k_copy (u2 fi 70 55 (nI 0)) k 19, fl, fr)) ∧ Q (some (.int (nI 1))) (151, k_copy (u2 fi 70 55 (nI 0)) k 19, fl, fr) := by
    intro i k hi hk e hr hw hkk hQ
    have h54 := hw.1.2.2.2.2.2.1
    have hr' : z_KR (u2 fi 70 55 (nI 0)) k (ws (1 + i)) := hr.fr (fun j j1 j2 => u2_ne (by omega))
    have b54 : z_b01 (u2 fi 70 55 (nI 0) k 47) = true := by
      rw [hr'.1.2.2.2.1]
      have : ws (1 + i) 54 = 0 ∨ ws (1 + i) 54 = 1 := by omega
      rcases this with e | e <;> rw [e] <;> rfl
    refine ⟨fun Q => sp_kitchenCopy (fl := fl) (Q := Q) hkk k19 (by omega) b54, ?_⟩
    have K := k_copy_K (k := 19) hr' (by omega) hw.1.1 hw.sm hw.le
    refine hQ _ (h.kit K (fun j hj => k_copy_fr (by omega))) (fun j hj => ?_)
    rw [k_copy_fr (by omega)]
    exact u2_ne (by omega)
  by_cases c : 0 ≤ x.toInt ∧ x.toInt ≤ 1
  · rw [if_pos c] at hQ
    obtain ⟨j, j2, rfl, ej⟩ := i3 (n := 1) c
    rw [ej] at hQ
    have : j = 0 ∨ j = 1 := by omega
    rcases this with rfl | rfl
    · have e60 := h.1.2.2.2.1
      have n01 := hg.2.1
      by_cases e : nn 0 = 1
      · rw [if_pos e] at hQ
        obtain ⟨c1, c2⟩ := key 0 93 (by decide) rfl e (h.1.2.1 e) (hg.2.2.2.1 e) (z_Kok_of hf (by decide)) hQ
        rw [e] at e60
        simp (disch := first | assumption | rfl | exact zle_0 | exact zle_1 | exact zle_2 | exact zle_3 | exact zle_4 | exact zb_0 | exact zb_1 | exact zb01_B | omega) only [zT111_0, zr_iload_1, zT111_1, zr_if_lt, zT111_4, zT111_5, zr_ic_2, zT111_6, zr_icmp_lt, zT111_9, zr_aload_0, zT111_10, zr_ic_m2, zT111_12, zT111_14, zr_iv_117, zT111_17, zr_ret0, zT111_18, zT111_19, zr_gf_3, zr_or, zr_go, zf_18_3, zT111_22, zT111_23, zr_bald, zT111_24, zr_if_ne, zT111_27, zT111_28, zr_ic_m3, zT111_30, zT111_32, zT111_35, zT111_36, zT111_37, zr_gf_5, zf_18_5, zT111_40, zr_iv_206, zT111_43, zT111_44, zr_gf_0, zf_18_0, zf_22_0, zf_42_0, zf_59_0, zf_96_0, zf_116_0, zT111_47, zT111_48, zr_gf_2, zf_18_2, zf_22_2, zf_42_2, zf_96_2, zf_116_2, zT111_51, zT111_52, zr_aald4, zr_aald5, zT111_53, zr_iv_177, zT111_56, zr_ic_1, zT111_57, zT206_0, zT206_1, zr_ic_0, zT206_2, zr_pf_55, zT206_5, zr_return, zcl_i, zcl_r, zcl_l, zcl_n, zv_some, zv_none, Nat.reduceAdd, Nat.reduceMul, Nat.reduceSub, Nat.reduceLT, Nat.reduceLeDiff, Nat.reduceEqDiff, Int.reduceToNat, true_implies, false_implies, implies_true, and_true, true_and, not_true_eq_false, not_false_eq_true, Nat.zero_add, Nat.add_zero, nI_add, nI_ltI, nI_leI, nI_eq, pk_mul, pk_sub, u2_same, u2_row, u2_other, e60, c1, zf_59_0 hf, zf_59_1 hf, olt_T, olt_F, ole_T, ole_F, oeq_T, oeq_F]
        exact c2
      · rw [if_neg e] at hQ
        have o := z_XQ.ref (Or.inr (Or.inl rfl)) h hQ
        simp (disch := first | assumption | rfl | exact zle_0 | exact zle_1 | exact zle_2 | exact zle_3 | exact zle_4 | exact zb_0 | exact zb_1 | exact zb01_B | omega) only [zT111_0, zr_iload_1, zT111_1, zr_if_lt, zT111_4, zT111_5, zr_ic_2, zT111_6, zr_icmp_lt, zT111_9, zr_aload_0, zT111_10, zr_ic_m2, zT111_12, zT111_14, zr_iv_117, zT111_17, zr_ret0, zT111_18, zT111_19, zr_gf_3, zr_or, zr_go, zf_18_3, zT111_22, zT111_23, zr_bald, zT111_24, zr_if_ne, zT111_27, zT111_28, zr_ic_m3, zT111_30, zT111_32, zT111_35, zT111_36, zT111_37, zr_gf_5, zf_18_5, zT111_40, zr_iv_206, zT111_43, zT111_44, zr_gf_0, zf_18_0, zf_22_0, zf_42_0, zf_59_0, zf_96_0, zf_116_0, zT111_47, zT111_48, zr_gf_2, zf_18_2, zf_22_2, zf_42_2, zf_96_2, zf_116_2, zT111_51, zT111_52, zr_aald4, zr_aald5, zT111_53, zr_iv_177, zT111_56, zr_ic_1, zT111_57, zcl_i, zcl_r, zcl_l, zcl_n, zv_some, zv_none, Nat.reduceAdd, Nat.reduceMul, Nat.reduceSub, Nat.reduceLT, Nat.reduceLeDiff, Nat.reduceEqDiff, Int.reduceToNat, true_implies, false_implies, implies_true, and_true, true_and, not_true_eq_false, not_false_eq_true, Nat.zero_add, Nat.add_zero, nI_add, nI_ltI, nI_leI, nI_eq, pk_mul, pk_sub, u2_same, u2_row, u2_other, e60, rfn, olt_T, olt_F, ole_T, ole_F, oeq_T, oeq_F]
        exact o
    · have e60 := h.1.2.2.2.2
      have n01 := hg.2.2.1
      by_cases e : nn 1 = 1
      · rw [if_pos e] at hQ
        obtain ⟨c1, c2⟩ := key 1 113 (by decide) rfl e (h.1.2.2.1 e) (hg.2.2.2.2.1 e) (z_Kok_of hf (by decide)) hQ
        rw [e] at e60
        simp (disch := first | assumption | rfl | exact zle_0 | exact zle_1 | exact zle_2 | exact zle_3 | exact zle_4 | exact zb_0 | exact zb_1 | exact zb01_B | omega) only [zT111_0, zr_iload_1, zT111_1, zr_if_lt, zT111_4, zT111_5, zr_ic_2, zT111_6, zr_icmp_lt, zT111_9, zr_aload_0, zT111_10, zr_ic_m2, zT111_12, zT111_14, zr_iv_117, zT111_17, zr_ret0, zT111_18, zT111_19, zr_gf_3, zr_or, zr_go, zf_18_3, zT111_22, zT111_23, zr_bald, zT111_24, zr_if_ne, zT111_27, zT111_28, zr_ic_m3, zT111_30, zT111_32, zT111_35, zT111_36, zT111_37, zr_gf_5, zf_18_5, zT111_40, zr_iv_206, zT111_43, zT111_44, zr_gf_0, zf_18_0, zf_22_0, zf_42_0, zf_59_0, zf_96_0, zf_116_0, zT111_47, zT111_48, zr_gf_2, zf_18_2, zf_22_2, zf_42_2, zf_96_2, zf_116_2, zT111_51, zT111_52, zr_aald4, zr_aald5, zT111_53, zr_iv_177, zT111_56, zr_ic_1, zT111_57, zT206_0, zT206_1, zr_ic_0, zT206_2, zr_pf_55, zT206_5, zr_return, zcl_i, zcl_r, zcl_l, zcl_n, zv_some, zv_none, Nat.reduceAdd, Nat.reduceMul, Nat.reduceSub, Nat.reduceLT, Nat.reduceLeDiff, Nat.reduceEqDiff, Int.reduceToNat, true_implies, false_implies, implies_true, and_true, true_and, not_true_eq_false, not_false_eq_true, Nat.zero_add, Nat.add_zero, nI_add, nI_ltI, nI_leI, nI_eq, pk_mul, pk_sub, u2_same, u2_row, u2_other, e60, c1, zf_59_0 hf, zf_59_1 hf, olt_T, olt_F, ole_T, ole_F, oeq_T, oeq_F]
        exact c2
      · rw [if_neg e] at hQ
        have o := z_XQ.ref (Or.inr (Or.inl rfl)) h hQ
        simp (disch := first | assumption | rfl | exact zle_0 | exact zle_1 | exact zle_2 | exact zle_3 | exact zle_4 | exact zb_0 | exact zb_1 | exact zb01_B | omega) only [zT111_0, zr_iload_1, zT111_1, zr_if_lt, zT111_4, zT111_5, zr_ic_2, zT111_6, zr_icmp_lt, zT111_9, zr_aload_0, zT111_10, zr_ic_m2, zT111_12, zT111_14, zr_iv_117, zT111_17, zr_ret0, zT111_18, zT111_19, zr_gf_3, zr_or, zr_go, zf_18_3, zT111_22, zT111_23, zr_bald, zT111_24, zr_if_ne, zT111_27, zT111_28, zr_ic_m3, zT111_30, zT111_32, zT111_35, zT111_36, zT111_37, zr_gf_5, zf_18_5, zT111_40, zr_iv_206, zT111_43, zT111_44, zr_gf_0, zf_18_0, zf_22_0, zf_42_0, zf_59_0, zf_96_0, zf_116_0, zT111_47, zT111_48, zr_gf_2, zf_18_2, zf_22_2, zf_42_2, zf_96_2, zf_116_2, zT111_51, zT111_52, zr_aald4, zr_aald5, zT111_53, zr_iv_177, zT111_56, zr_ic_1, zT111_57, zcl_i, zcl_r, zcl_l, zcl_n, zv_some, zv_none, Nat.reduceAdd, Nat.reduceMul, Nat.reduceSub, Nat.reduceLT, Nat.reduceLeDiff, Nat.reduceEqDiff, Int.reduceToNat, true_implies, false_implies, implies_true, and_true, true_and, not_true_eq_false, not_false_eq_true, Nat.zero_add, Nat.add_zero, nI_add, nI_ltI, nI_leI, nI_eq, pk_mul, pk_sub, u2_same, u2_row, u2_other, e60, rfn, olt_T, olt_F, ole_T, ole_F, oeq_T, oeq_F]
        exact o
  · rw [if_neg c] at hQ
    have o := z_XQ.ref (Or.inl rfl) h hQ
    rcases out2 (n := 1) (by decide) c with n1 | ⟨n1, n2⟩
    · simp (disch := first | assumption | rfl | exact zle_0 | exact zle_1 | exact zle_2 | exact zle_3 | exact zle_4 | exact zb_0 | exact zb_1 | exact zb01_B | omega) only [zT111_0, zr_iload_1, zT111_1, zr_if_lt, zT111_4, zT111_5, zr_ic_2, zT111_6, zr_icmp_lt, zT111_9, zr_aload_0, zT111_10, zr_ic_m2, zT111_12, zT111_14, zr_iv_117, zT111_17, zr_ret0, zT111_18, zT111_19, zr_gf_3, zr_or, zr_go, zf_18_3, zT111_22, zT111_23, zr_bald, zT111_24, zr_if_ne, zT111_27, zT111_28, zr_ic_m3, zT111_30, zT111_32, zT111_35, zT111_36, zT111_37, zr_gf_5, zf_18_5, zT111_40, zr_iv_206, zT111_43, zT111_44, zr_gf_0, zf_18_0, zf_22_0, zf_42_0, zf_59_0, zf_96_0, zf_116_0, zT111_47, zT111_48, zr_gf_2, zf_18_2, zf_22_2, zf_42_2, zf_96_2, zf_116_2, zT111_51, zT111_52, zr_aald4, zr_aald5, zT111_53, zr_iv_177, zT111_56, zr_ic_1, zT111_57, zcl_i, zcl_r, zcl_l, zcl_n, zv_some, zv_none, Nat.reduceAdd, Nat.reduceMul, Nat.reduceSub, Nat.reduceLT, Nat.reduceLeDiff, Nat.reduceEqDiff, Int.reduceToNat, true_implies, false_implies, implies_true, and_true, true_and, not_true_eq_false, not_false_eq_true, Nat.zero_add, Nat.add_zero, nI_add, nI_ltI, nI_leI, nI_eq, pk_mul, pk_sub, u2_same, u2_row, u2_other, n1, rfs, olt_T, olt_F, ole_T, ole_F, oeq_T, oeq_F]
      exact o
    · have n3 : (x < nI 2) = False := eq_false (by rw [Int32.lt_iff_toInt_lt, nI_toInt (by decide)]; have := of_eq_false n2; rw [Int32.le_iff_toInt_le, nI_toInt (by decide)] at this; omega)
      simp (disch := first | assumption | rfl | exact zle_0 | exact zle_1 | exact zle_2 | exact zle_3 | exact zle_4 | exact zb_0 | exact zb_1 | exact zb01_B | omega) only [zT111_0, zr_iload_1, zT111_1, zr_if_lt, zT111_4, zT111_5, zr_ic_2, zT111_6, zr_icmp_lt, zT111_9, zr_aload_0, zT111_10, zr_ic_m2, zT111_12, zT111_14, zr_iv_117, zT111_17, zr_ret0, zT111_18, zT111_19, zr_gf_3, zr_or, zr_go, zf_18_3, zT111_22, zT111_23, zr_bald, zT111_24, zr_if_ne, zT111_27, zT111_28, zr_ic_m3, zT111_30, zT111_32, zT111_35, zT111_36, zT111_37, zr_gf_5, zf_18_5, zT111_40, zr_iv_206, zT111_43, zT111_44, zr_gf_0, zf_18_0, zf_22_0, zf_42_0, zf_59_0, zf_96_0, zf_116_0, zT111_47, zT111_48, zr_gf_2, zf_18_2, zf_22_2, zf_42_2, zf_96_2, zf_116_2, zT111_51, zT111_52, zr_aald4, zr_aald5, zT111_53, zr_iv_177, zT111_56, zr_ic_1, zT111_57, zcl_i, zcl_r, zcl_l, zcl_n, zv_some, zv_none, Nat.reduceAdd, Nat.reduceMul, Nat.reduceSub, Nat.reduceLT, Nat.reduceLeDiff, Nat.reduceEqDiff, Int.reduceToNat, true_implies, false_implies, implies_true, and_true, true_and, not_true_eq_false, not_false_eq_true, Nat.zero_add, Nat.add_zero, nI_add, nI_ltI, nI_leI, nI_eq, pk_mul, pk_sub, u2_same, u2_row, u2_other, n1, n2, n3, rfs, olt_T, olt_F, ole_T, ole_F, oeq_T, oeq_F]
      exact o
end
