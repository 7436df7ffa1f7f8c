/-! telling a step -/
section
variable {fi : Nat → Nat → Int32} {fl : Nat → Nat → Int64} {fr : Nat → Nat → Option Nat} {Q : Option Value → Mm → Prop} {w : Nat → Nat} {k : Nat} {M : Mm}
/-- the arguments of a good step -/
def a_goodStep (n : Nat) (x0 x1 x2 x3 x4 : Int32) : Prop := 0 ≤ x0.toInt ∧ x0.toInt < n ∧ 0 ≤ x1.toInt ∧ x1.toInt ≤ 3 ∧ 0 ≤ x2.toInt ∧ x2.toInt ≤ 3 ∧ 0 < x1.toInt + x2.toInt ∧ 0 ≤ x3.toInt ∧ x3.toInt ≤ x1.toInt + x2.toInt ∧ 1 ≤ x4.toInt ∧ x4.toInt ≤ 5
theorem nI_ofInt {x : Int32} (h : 0 ≤ x.toInt) : x = nI x.toInt.toNat ∧ x.toInt.toNat < 2 ^ 31 := by
  have hn : ¬ x < 0 := by
    rw [Int32.lt_iff_toInt_lt]
    simpa using h
  obtain ⟨j, hj, rfl⟩ := nI_of hn
  rw [nI_toInt hj]
  exact ⟨rfl, hj⟩
theorem sp_step_bad (hk : z_Kok fr k) {n : Nat} (hn : n ≤ 3) (hr : fi k 45 = nI n) {x0 x1 x2 x3 x4 : Int32} (hb : ¬ a_goodStep n x0 x1 x2 x3 x4) : TT 179 0 [some (.ref k), some (.int x0), some (.int x1), some (.int x2), some (.int x3), some (.int x4), none] [] (151, fi, fl, fr) Q = Q (some (.int (nM 2))) (151, fi, fl, fr) := by
  refine T_exact (fun Q hQ => ?_) Q
  have h1 := hk.1
  have hhd := fun Q => sp_hasDish (fl := fl) (fr := fr) (Q := Q) (x := x0) h1 hr (by omega)
  unfold a_goodStep at hb
  by_cases hx : 0 ≤ x1.toInt ∧ x1.toInt ≤ 3 ∧ 0 ≤ x2.toInt ∧ x2.toInt ≤ 3
  · obtain ⟨e1, e1'⟩ := nI_ofInt hx.1
    obtain ⟨e2, e2'⟩ := nI_ofInt hx.2.2.1
    have b1 : x1.toInt.toNat ≤ 3 := by omega
    have b2 : x2.toInt.toNat ≤ 3 := by omega
    have c1 : x1.toInt = (x1.toInt.toNat : Int) := by omega
    have c2 : x2.toInt = (x2.toInt.toNat : Int) := by omega
    rw [c1, c2] at hb
    generalize x1.toInt.toNat = r at *
    generalize x2.toInt.toNat = l at *
    subst e1 e2
    by_cases hd : 0 ≤ x0.toInt ∧ x0.toInt < (n : Int)
    · rw [decide_eq_true hd] at hhd
      simp (disch := first | assumption | rfl | exact zle_0 | exact zle_1 | exact zle_2 | exact zle_3 | exact zle_4 | exact zb_0 | exact zb_1 | exact zb01_B | omega) only [zT179_0, zr_iload_2, zT179_1, zr_if_lt, zT179_4, zT179_5, zr_ic_3, zT179_6, zr_icmp_gt, zT179_9, zr_iload_3, zT179_10, zT179_13, zT179_14, zT179_15, zT179_18, zT179_19, zT179_20, zr_iadd, zT179_21, zr_if_le, zT179_24, zr_ic_1, zT179_25, zr_goto, zT179_28, zr_ic_0, zT179_29, zr_istore_6, zT179_31, zr_aload_0, zT179_32, zr_iload_1, zT179_33, zr_iv_186, zT179_36, zr_if_eq, zT179_39, zr_iload_6, zT179_41, zT179_44, zr_iload_4, zT179_46, zT179_49, zT179_51, zT179_52, zT179_53, zT179_54, zT179_57, zr_iload_5, zT179_59, zT179_60, zr_icmp_lt, zT179_63, zT179_65, zr_ic_5, zT179_66, zr_icmp_le, zT179_69, zr_ic_m2, zT179_71, zr_ret0, zcl_i, zcl_r, zcl_l, zcl_n, zv_some, zv_none, Nat.reduceAdd, Nat.reduceMul, Nat.reduceSub, Nat.reduceLT, Nat.reduceLeDiff, Nat.reduceEqDiff, Int.reduceToNat, true_implies, false_implies, implies_true, and_true, true_and, not_true_eq_false, not_false_eq_true, Nat.zero_add, Nat.add_zero, nI_add, nI_ltI, nI_leI, nI_eq, pk_mul, pk_sub, u2_same, u2_row, u2_other, hhd, zB_eq0, reduceCtorEq, Int32.lt_iff_toInt_lt, Int32.le_iff_toInt_le, nI_toInt, olt_T, olt_F, ole_T, ole_F, oeq_T, oeq_F]
      repeat' first | intro _ | apply And.intro
      all_goals first | exact hQ | (exfalso; omega)
    · rw [decide_eq_false hd] at hhd
      simp (disch := first | assumption | rfl | exact zle_0 | exact zle_1 | exact zle_2 | exact zle_3 | exact zle_4 | exact zb_0 | exact zb_1 | exact zb01_B | omega) only [zT179_0, zr_iload_2, zT179_1, zr_if_lt, zT179_4, zT179_5, zr_ic_3, zT179_6, zr_icmp_gt, zT179_9, zr_iload_3, zT179_10, zT179_13, zT179_14, zT179_15, zT179_18, zT179_19, zT179_20, zr_iadd, zT179_21, zr_if_le, zT179_24, zr_ic_1, zT179_25, zr_goto, zT179_28, zr_ic_0, zT179_29, zr_istore_6, zT179_31, zr_aload_0, zT179_32, zr_iload_1, zT179_33, zr_iv_186, zT179_36, zr_if_eq, zT179_39, zr_iload_6, zT179_41, zT179_44, zr_iload_4, zT179_46, zT179_49, zT179_51, zT179_52, zT179_53, zT179_54, zT179_57, zr_iload_5, zT179_59, zT179_60, zr_icmp_lt, zT179_63, zT179_65, zr_ic_5, zT179_66, zr_icmp_le, zT179_69, zr_ic_m2, zT179_71, zr_ret0, zcl_i, zcl_r, zcl_l, zcl_n, zv_some, zv_none, Nat.reduceAdd, Nat.reduceMul, Nat.reduceSub, Nat.reduceLT, Nat.reduceLeDiff, Nat.reduceEqDiff, Int.reduceToNat, true_implies, false_implies, implies_true, and_true, true_and, not_true_eq_false, not_false_eq_true, Nat.zero_add, Nat.add_zero, nI_add, nI_ltI, nI_leI, nI_eq, pk_mul, pk_sub, u2_same, u2_row, u2_other, hhd, zB_eq0, reduceCtorEq, olt_T, olt_F, ole_T, ole_F, oeq_T, oeq_F]
      repeat' first | intro _ | apply And.intro
      all_goals exact hQ
  · by_cases hd : 0 ≤ x0.toInt ∧ x0.toInt < (n : Int)
    · rw [decide_eq_true hd] at hhd
      simp (disch := first | assumption | rfl | exact zle_0 | exact zle_1 | exact zle_2 | exact zle_3 | exact zle_4 | exact zb_0 | exact zb_1 | exact zb01_B | omega) only [zT179_0, zr_iload_2, zT179_1, zr_if_lt, zT179_4, zT179_5, zr_ic_3, zT179_6, zr_icmp_gt, zT179_9, zr_iload_3, zT179_10, zT179_13, zT179_14, zT179_15, zT179_18, zT179_19, zT179_20, zr_iadd, zT179_21, zr_if_le, zT179_24, zr_ic_1, zT179_25, zr_goto, zT179_28, zr_ic_0, zT179_29, zr_istore_6, zT179_31, zr_aload_0, zT179_32, zr_iload_1, zT179_33, zr_iv_186, zT179_36, zr_if_eq, zT179_39, zr_iload_6, zT179_41, zT179_44, zr_iload_4, zT179_46, zT179_49, zT179_51, zT179_52, zT179_53, zT179_54, zT179_57, zr_iload_5, zT179_59, zT179_60, zr_icmp_lt, zT179_63, zT179_65, zr_ic_5, zT179_66, zr_icmp_le, zT179_69, zr_ic_m2, zT179_71, zr_ret0, zcl_i, zcl_r, zcl_l, zcl_n, zv_some, zv_none, Nat.reduceAdd, Nat.reduceMul, Nat.reduceSub, Nat.reduceLT, Nat.reduceLeDiff, Nat.reduceEqDiff, Int.reduceToNat, true_implies, false_implies, implies_true, and_true, true_and, not_true_eq_false, not_false_eq_true, Nat.zero_add, Nat.add_zero, nI_add, nI_ltI, nI_leI, nI_eq, pk_mul, pk_sub, u2_same, u2_row, u2_other, hhd, zB_eq0, reduceCtorEq, Int32.lt_iff_toInt_lt, Int32.le_iff_toInt_le, nI_toInt, olt_T, olt_F, ole_T, ole_F, oeq_T, oeq_F]
      repeat' first | intro _ | apply And.intro
      all_goals first | exact hQ | (exfalso; omega)
    · rw [decide_eq_false hd] at hhd
      simp (disch := first | assumption | rfl | exact zle_0 | exact zle_1 | exact zle_2 | exact zle_3 | exact zle_4 | exact zb_0 | exact zb_1 | exact zb01_B | omega) only [zT179_0, zr_iload_2, zT179_1, zr_if_lt, zT179_4, zT179_5, zr_ic_3, zT179_6, zr_icmp_gt, zT179_9, zr_iload_3, zT179_10, zT179_13, zT179_14, zT179_15, zT179_18, zT179_19, zT179_20, zr_iadd, zT179_21, zr_if_le, zT179_24, zr_ic_1, zT179_25, zr_goto, zT179_28, zr_ic_0, zT179_29, zr_istore_6, zT179_31, zr_aload_0, zT179_32, zr_iload_1, zT179_33, zr_iv_186, zT179_36, zr_if_eq, zT179_39, zr_iload_6, zT179_41, zT179_44, zr_iload_4, zT179_46, zT179_49, zT179_51, zT179_52, zT179_53, zT179_54, zT179_57, zr_iload_5, zT179_59, zT179_60, zr_icmp_lt, zT179_63, zT179_65, zr_ic_5, zT179_66, zr_icmp_le, zT179_69, zr_ic_m2, zT179_71, zr_ret0, zcl_i, zcl_r, zcl_l, zcl_n, zv_some, zv_none, Nat.reduceAdd, Nat.reduceMul, Nat.reduceSub, Nat.reduceLT, Nat.reduceLeDiff, Nat.reduceEqDiff, Int.reduceToNat, true_implies, false_implies, implies_true, and_true, true_and, not_true_eq_false, not_false_eq_true, Nat.zero_add, Nat.add_zero, nI_add, nI_ltI, nI_leI, nI_eq, pk_mul, pk_sub, u2_same, u2_row, u2_other, hhd, zB_eq0, reduceCtorEq, olt_T, olt_F, ole_T, ole_F, oeq_T, oeq_F]
      repeat' first | intro _ | apply And.intro
      all_goals exact hQ
end
