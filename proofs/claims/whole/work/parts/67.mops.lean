/-! what is told to a row of the model -/
section
variable {fi fi' : Nat → Nat → Int32} {fl fl' : Nat → Nat → Int64} {fr : Nat → Nat → Option Nat} {Q : Option Value → Mm → Prop} {w : Nat → Nat} {k : Nat} {M : Mm} {ws : Nat → Nat → Nat} {nn tx : Nat → Nat}
/-- only the row at r has changed -/
def z_or_ (fi fi' : Nat → Nat → Int32) (r : Nat) : Prop := (∀ j, j ≠ 134 → fi' j = fi j) ∧ ∀ i, i < r ∨ r + 110 ≤ i → fi' 134 i = fi 134 i
theorem z_or_.id_ {r : Nat} : z_or_ fi fi r := ⟨fun _ _ => rfl, fun _ _ => rfl⟩
theorem z_or_.set {r k : Nat} {x : Int32} (h : z_or_ fi fi' r) (h1 : r ≤ k) (h2 : k < r + 110) : z_or_ fi (u2 fi' 134 k x) r := ⟨fun j hj => by rw [u2_ne hj]; exact h.1 j hj, fun i hi => by rw [u2_row (by omega)]; exact h.2 i hi⟩
theorem z_or_.ba {r : Nat} (h : z_or_ fi fi' r) : z_or_ fi (m_ba fi' r) r := ⟨fun j hj => by rw [m_ba_ne hj]; exact h.1 j hj, fun i hi => by rw [m_ba_row hi]; exact h.2 i hi⟩
theorem sm_oCook (hf : z_FR fr) {r : Nat} (hr : r ≤ 330) (h : z_MR fi r w) (hw : a_W w) {x y : Int32} (hQ : ∀ fi', z_MR fi' r (o_cook w x y).2 → z_or_ fi fi' r → Q (some (.int (o_cook w x y).1)) (151, fi', fl, fr)) : TT 11 0 [some (.ref 133), some (.int (nI r)), some (.int x), some (.int y), none] [] (151, fi, fl, fr) Q := by
  have o133 : z_ok 151 133 20 = true := rfl; have o134 : z_ok 151 134 1 = true := rfl
  have l134 : z_al 134 = 440 := rfl
  have h0 := hw.1.1
  have si := fun M Q v lo hi => sm_in (M := M) (Q := Q) (v := v) (lo := lo) (hi := hi)
  have l5 : (lN 5).toInt = 5 := by decide
  have l9 : (lN 9).toInt = 9 := by decide
  have e0 := h 0 (by decide)
  rw [Nat.add_zero] at e0
  have ba := fun fi Q => sm_ba (fi := fi) (fl := fl) (Q := Q) hf hr
  unfold o_cook at hQ
  by_cases cx : 0 ≤ x.toInt ∧ x.toInt ≤ 5
  · by_cases cy : 0 ≤ y.toInt ∧ y.toInt ≤ 9
    · rw [if_pos ⟨cx.1, by omega, cy.1, cy.2⟩] at hQ
      obtain ⟨ex, lx⟩ := nI_ofInt cx.1
      obtain ⟨ey, ly⟩ := nI_ofInt cy.1
      by_cases c6 : w 0 = 6
      · rw [if_pos c6] at hQ
        rw [c6] at e0
        have o := hQ fi h z_or_.id_
        simp (disch := first | assumption | rfl | exact zle_0 | exact zle_1 | exact zle_2 | exact zle_3 | exact zle_4 | exact zb_0 | exact zb_1 | exact zb01_B | omega) only [zT11_0, zr_iload_2, zT11_1, zr_i2l, zT11_2, zr_ldc2, zT11_3, zT11_6, zr_iv_2, zT11_9, zr_if_eq, zT11_12, zr_iload_3, zT11_13, zT11_14, zT11_15, zT11_18, zT11_21, zr_if_ne, zT11_24, zr_ic_m2, zT11_26, zr_ret0, zT11_27, zr_aload_0, zT11_28, zr_gf_71, zr_or, zr_go, zf_133_71, zT11_31, zr_iload_1, zT11_32, zr_ic_0, zT11_33, zr_iadd, zT11_34, zr_iald, zT11_35, zr_istore_4, zT11_37, zr_iload_4, zT11_39, zr_ic_6, zT11_41, zr_icmp_ne, zT11_44, zr_ic_m4, zT11_46, zcl_i, zcl_r, zcl_l, zcl_n, zv_some, zv_none, Nat.reduceAdd, Nat.reduceMul, Nat.reduceSub, Nat.reduceLT, Nat.reduceLeDiff, Nat.reduceEqDiff, Int.reduceToNat, true_implies, false_implies, implies_true, and_true, true_and, not_true_eq_false, not_false_eq_true, Nat.zero_add, Nat.add_zero, nI_add, nI_ltI, nI_leI, nI_eq, pk_mul, pk_sub, u2_same, u2_row, u2_other, si, x64, l0, l5, l9, dcd_T cx, dcd_T cy, zB_eq0, reduceCtorEq, e0, olt_T, olt_F, ole_T, ole_F, oeq_T, oeq_F]
        exact o
      · rw [if_neg c6] at hQ
        dsimp only at hQ
        simp (disch := first | assumption | rfl | exact zle_0 | exact zle_1 | exact zle_2 | exact zle_3 | exact zle_4 | exact zb_0 | exact zb_1 | exact zb01_B | omega) only [zT11_0, zr_iload_2, zT11_1, zr_i2l, zT11_2, zr_ldc2, zT11_3, zT11_6, zr_iv_2, zT11_9, zr_if_eq, zT11_12, zr_iload_3, zT11_13, zT11_14, zT11_15, zT11_18, zT11_21, zr_if_ne, zT11_24, zr_ic_m2, zT11_26, zr_ret0, zT11_27, zr_aload_0, zT11_28, zr_gf_71, zr_or, zr_go, zf_133_71, zT11_31, zr_iload_1, zT11_32, zr_ic_0, zT11_33, zr_iadd, zT11_34, zr_iald, zT11_35, zr_istore_4, zT11_37, zr_iload_4, zT11_39, zr_ic_6, zT11_41, zr_icmp_ne, zT11_44, zr_ic_m4, zT11_46, zT11_47, zT11_48, zT11_51, zT11_52, zr_ic_1, zT11_53, zT11_54, zT11_56, zT11_57, zT11_58, zr_iast, zT11_59, zT11_60, zT11_63, zT11_64, zr_ic_7, zT11_66, zT11_67, zT11_69, zT11_70, zT11_71, zT11_72, zT11_73, zT11_76, zT11_77, zT11_78, zT11_79, zr_dup2, zT11_80, zT11_81, zT11_82, zT11_83, zT11_84, zT11_85, zT11_86, zr_iv_10, zT11_89, zT11_91, zcl_i, zcl_r, zcl_l, zcl_n, zv_some, zv_none, Nat.reduceAdd, Nat.reduceMul, Nat.reduceSub, Nat.reduceLT, Nat.reduceLeDiff, Nat.reduceEqDiff, Int.reduceToNat, true_implies, false_implies, implies_true, and_true, true_and, not_true_eq_false, not_false_eq_true, Nat.zero_add, Nat.add_zero, nI_add, nI_ltI, nI_leI, nI_eq, pk_mul, pk_sub, u2_same, u2_row, u2_other, si, x64, l0, l5, l9, dcd_T cx, dcd_T cy, zB_eq0, reduceCtorEq, e0, ba, olt_T, olt_F, ole_T, ole_F, oeq_T, oeq_F]
        generalize hx : x.toInt.toNat = a at *
        generalize hy : y.toInt.toNat = b at *
        rw [ex, ey]
        refine hQ _ (m_ba_R (((h.set (j := 1 + w 0) (by omega)).set (j := 7 + w 0) (by omega)).set (j := 0) (by omega))) (((((z_or_.id_).set (by omega) (by omega)).set (by omega) (by omega)).set (by omega) (by omega)).ba)
    · rw [if_neg (fun q => cy ⟨q.2.2.1, q.2.2.2⟩)] at hQ
      have o := hQ fi h z_or_.id_
      simp (disch := first | assumption | rfl | exact zle_0 | exact zle_1 | exact zle_2 | exact zle_3 | exact zle_4 | exact zb_0 | exact zb_1 | exact zb01_B | omega) only [zT11_0, zr_iload_2, zT11_1, zr_i2l, zT11_2, zr_ldc2, zT11_3, zT11_6, zr_iv_2, zT11_9, zr_if_eq, zT11_12, zr_iload_3, zT11_13, zT11_14, zT11_15, zT11_18, zT11_21, zr_if_ne, zT11_24, zr_ic_m2, zT11_26, zr_ret0, zcl_i, zcl_r, zcl_l, zcl_n, zv_some, zv_none, Nat.reduceAdd, Nat.reduceMul, Nat.reduceSub, Nat.reduceLT, Nat.reduceLeDiff, Nat.reduceEqDiff, Int.reduceToNat, true_implies, false_implies, implies_true, and_true, true_and, not_true_eq_false, not_false_eq_true, Nat.zero_add, Nat.add_zero, nI_add, nI_ltI, nI_leI, nI_eq, pk_mul, pk_sub, u2_same, u2_row, u2_other, si, x64, l0, l5, l9, dcd_T cx, dcd_F cy, zB_eq0, reduceCtorEq, olt_T, olt_F, ole_T, ole_F, oeq_T, oeq_F]
      exact o
  · rw [if_neg (fun q => cx ⟨q.1, by omega⟩)] at hQ
    have o := hQ fi h z_or_.id_
    simp (disch := first | assumption | rfl | exact zle_0 | exact zle_1 | exact zle_2 | exact zle_3 | exact zle_4 | exact zb_0 | exact zb_1 | exact zb01_B | omega) only [zT11_0, zr_iload_2, zT11_1, zr_i2l, zT11_2, zr_ldc2, zT11_3, zT11_6, zr_iv_2, zT11_9, zr_if_eq, zT11_12, zr_iload_3, zT11_13, zT11_14, zT11_15, zT11_18, zT11_21, zr_if_ne, zT11_24, zr_ic_m2, zT11_26, zr_ret0, zcl_i, zcl_r, zcl_l, zcl_n, zv_some, zv_none, Nat.reduceAdd, Nat.reduceMul, Nat.reduceSub, Nat.reduceLT, Nat.reduceLeDiff, Nat.reduceEqDiff, Int.reduceToNat, true_implies, false_implies, implies_true, and_true, true_and, not_true_eq_false, not_false_eq_true, Nat.zero_add, Nat.add_zero, nI_add, nI_ltI, nI_leI, nI_eq, pk_mul, pk_sub, u2_same, u2_row, u2_other, si, x64, l0, l5, dcd_F cx, zB_eq0, olt_T, olt_F, ole_T, ole_F, oeq_T, oeq_F]
    exact o
theorem sm_oDish (hf : z_FR fr) {r : Nat} (hr : r ≤ 330) (h : z_MR fi r w) (hw : a_W w) (hQ : ∀ fi', z_MR fi' r (o_dish w).2 → z_or_ fi fi' r → Q (some (.int (o_dish w).1)) (151, fi', fl, fr)) : TT 12 0 [some (.ref 133), some (.int (nI r)), none] [] (151, fi, fl, fr) Q := by
  have o133 : z_ok 151 133 20 = true := rfl; have o134 : z_ok 151 134 1 = true := rfl
  have l134 : z_al 134 = 440 := rfl
  have h13 := hw.1.2.2.1
  have e0 := h 13 (by decide)
  have ba := fun fi Q => sm_ba (fi := fi) (fl := fl) (Q := Q) hf hr
  unfold o_dish at hQ
  by_cases c6 : w 13 = 3
  · rw [if_pos c6] at hQ
    rw [c6] at e0
    have o := hQ fi h z_or_.id_
    simp (disch := first | assumption | rfl | exact zle_0 | exact zle_1 | exact zle_2 | exact zle_3 | exact zle_4 | exact zb_0 | exact zb_1 | exact zb01_B | omega) only [zT12_0, zr_aload_0, zT12_1, zr_gf_71, zr_or, zr_go, zf_133_71, zT12_4, zr_iload_1, zT12_5, zr_ic_13, zT12_7, zr_iadd, zT12_8, zr_iald, zT12_9, zr_istore_2, zT12_10, zr_iload_2, zT12_11, zr_ic_3, zT12_12, zr_icmp_ne, zT12_15, zr_ic_m4, zT12_17, zr_ret0, zcl_i, zcl_r, zcl_l, zcl_n, zv_some, zv_none, Nat.reduceAdd, Nat.reduceMul, Nat.reduceSub, Nat.reduceLT, Nat.reduceLeDiff, Nat.reduceEqDiff, Int.reduceToNat, true_implies, false_implies, implies_true, and_true, true_and, not_true_eq_false, not_false_eq_true, Nat.zero_add, Nat.add_zero, nI_add, nI_ltI, nI_leI, nI_eq, pk_mul, pk_sub, u2_same, u2_row, u2_other, e0, olt_T, olt_F, ole_T, ole_F, oeq_T, oeq_F]
    exact o
  · rw [if_neg c6] at hQ
    dsimp only at hQ
    simp (disch := first | assumption | rfl | exact zle_0 | exact zle_1 | exact zle_2 | exact zle_3 | exact zle_4 | exact zb_0 | exact zb_1 | exact zb01_B | omega) only [zT12_0, zr_aload_0, zT12_1, zr_gf_71, zr_or, zr_go, zf_133_71, zT12_4, zr_iload_1, zT12_5, zr_ic_13, zT12_7, zr_iadd, zT12_8, zr_iald, zT12_9, zr_istore_2, zT12_10, zr_iload_2, zT12_11, zr_ic_3, zT12_12, zr_icmp_ne, zT12_15, zr_ic_m4, zT12_17, zr_ret0, zT12_18, zT12_19, zT12_22, zT12_23, zr_ic_14, zT12_25, zT12_26, zT12_27, zT12_28, zr_ic_0, zT12_29, zr_iast, zT12_30, zT12_31, zT12_34, zT12_35, zT12_37, zT12_38, zr_dup2, zT12_39, zT12_40, zr_ic_1, zT12_41, zT12_42, zT12_43, zT12_44, zT12_45, zr_iv_10, zT12_48, zT12_49, zcl_i, zcl_r, zcl_l, zcl_n, zv_some, zv_none, Nat.reduceAdd, Nat.reduceMul, Nat.reduceSub, Nat.reduceLT, Nat.reduceLeDiff, Nat.reduceEqDiff, Int.reduceToNat, true_implies, false_implies, implies_true, and_true, true_and, not_true_eq_false, not_false_eq_true, Nat.zero_add, Nat.add_zero, nI_add, nI_ltI, nI_leI, nI_eq, pk_mul, pk_sub, u2_same, u2_row, u2_other, e0, ba, olt_T, olt_F, ole_T, ole_F, oeq_T, oeq_F]
    exact hQ _ (m_ba_R ((h.set (j := 14 + w 13) (by omega)).set (j := 13) (by omega))) ((((z_or_.id_).set (by omega) (by omega)).set (by omega) (by omega)).ba)
theorem sm_oKnives (hf : z_FR fr) {r : Nat} (hr : r ≤ 330) (h : z_MR fi r w) (hw : a_W w) {x : Int32} (hQ : ∀ fi', z_MR fi' r (o_knives w x).2 → z_or_ fi fi' r → Q (some (.int (o_knives w x).1)) (151, fi', fl, fr)) : TT 14 0 [some (.ref 133), some (.int (nI r)), some (.int x), none] [] (151, fi, fl, fr) Q := by
  have o133 : z_ok 151 133 20 = true := rfl; have o134 : z_ok 151 134 1 = true := rfl
  have l134 : z_al 134 = 440 := rfl
  have si := fun M Q v lo hi => sm_in (M := M) (Q := Q) (v := v) (lo := lo) (hi := hi)
  have l6 : (lN 6).toInt = 6 := by decide
  have e0 := h 53 (by decide)
  have ba := fun fi Q => sm_ba (fi := fi) (fl := fl) (Q := Q) hf hr
  unfold o_knives at hQ
  by_cases cx : 0 ≤ x.toInt ∧ x.toInt ≤ 6
  · rw [if_pos cx] at hQ
    obtain ⟨ex, lx⟩ := nI_ofInt cx.1
    dsimp only at hQ
    simp (disch := first | assumption | rfl | exact zle_0 | exact zle_1 | exact zle_2 | exact zle_3 | exact zle_4 | exact zb_0 | exact zb_1 | exact zb01_B | omega) only [zT14_0, zr_iload_2, zT14_1, zr_i2l, zT14_2, zr_ldc2, zT14_3, zT14_6, zr_iv_2, zT14_9, zr_if_ne, zT14_12, zr_ic_m2, zT14_14, zr_ret0, zT14_15, zr_aload_0, zT14_16, zr_gf_71, zr_or, zr_go, zf_133_71, zT14_19, zr_iload_1, zT14_20, zr_ic_53, zT14_22, zr_iadd, zT14_23, zr_iald, zT14_24, zr_istore_3, zT14_25, zT14_26, zT14_29, zT14_30, zT14_32, zT14_33, zT14_34, zr_iast, zT14_35, zT14_36, zT14_37, zr_iv_10, zT14_40, zr_iload_3, zT14_41, zcl_i, zcl_r, zcl_l, zcl_n, zv_some, zv_none, Nat.reduceAdd, Nat.reduceMul, Nat.reduceSub, Nat.reduceLT, Nat.reduceLeDiff, Nat.reduceEqDiff, Int.reduceToNat, true_implies, false_implies, implies_true, and_true, true_and, not_true_eq_false, not_false_eq_true, Nat.zero_add, Nat.add_zero, nI_add, nI_ltI, nI_leI, nI_eq, pk_mul, pk_sub, u2_same, u2_row, u2_other, si, x64, l0, l6, dcd_T cx, zB_eq0, reduceCtorEq, e0, ba, olt_T, olt_F, ole_T, ole_F, oeq_T, oeq_F]
    generalize hx : x.toInt.toNat = a at *
    rw [ex]
    exact hQ _ (m_ba_R (h.set (j := 53) (by omega))) (((z_or_.id_).set (by omega) (by omega)).ba)
  · rw [if_neg cx] at hQ
    have o := hQ fi h z_or_.id_
    simp (disch := first | assumption | rfl | exact zle_0 | exact zle_1 | exact zle_2 | exact zle_3 | exact zle_4 | exact zb_0 | exact zb_1 | exact zb01_B | omega) only [zT14_0, zr_iload_2, zT14_1, zr_i2l, zT14_2, zr_ldc2, zT14_3, zT14_6, zr_iv_2, zT14_9, zr_if_ne, zT14_12, zr_ic_m2, zT14_14, zr_ret0, zcl_i, zcl_r, zcl_l, zcl_n, zv_some, zv_none, Nat.reduceAdd, Nat.reduceMul, Nat.reduceSub, Nat.reduceLT, Nat.reduceLeDiff, Nat.reduceEqDiff, Int.reduceToNat, true_implies, false_implies, implies_true, and_true, true_and, not_true_eq_false, not_false_eq_true, Nat.zero_add, Nat.add_zero, nI_add, nI_ltI, nI_leI, nI_eq, pk_mul, pk_sub, u2_same, u2_row, u2_other, si, x64, l0, l6, dcd_F cx, zB_eq0, olt_T, olt_F, ole_T, ole_F, oeq_T, oeq_F]
    exact o
theorem sm_oStrike (hf : z_FR fr) {r : Nat} (hr : r ≤ 330) (h : z_MR fi r w) (hw : a_W w) {b : Nat} (hb : b ≤ 1) (hQ : ∀ fi', z_MR fi' r (o_strike w b).2 → z_or_ fi fi' r → Q (some (.int (o_strike w b).1)) (151, fi', fl, fr)) : TT 15 0 [some (.ref 133), some (.int (nI r)), some (.int (nI b)), none] [] (151, fi, fl, fr) Q := by
  have o133 : z_ok 151 133 20 = true := rfl; have o134 : z_ok 151 134 1 = true := rfl
  have l134 : z_al 134 = 440 := rfl
  have h54 := hw.1.2.2.2.2.2.1
  have e0 := h 54 (by decide)
  have ba := fun fi Q => sm_ba (fi := fi) (fl := fl) (Q := Q) hf hr
  unfold o_strike at hQ
  have hb' : b = 0 ∨ b = 1 := by omega
  by_cases c : b = w 54
  · rw [if_pos c] at hQ
    have o := hQ fi h z_or_.id_
    rw [← c] at e0
    rcases hb' with rfl | rfl
    · simp (disch := first | assumption | rfl | exact zle_0 | exact zle_1 | exact zle_2 | exact zle_3 | exact zle_4 | exact zb_0 | exact zb_1 | exact zb01_B | omega) only [zT15_0, zr_iload_2, zT15_1, zr_if_eq, zT15_4, zr_ic_1, zT15_5, zr_goto, zT15_8, zr_ic_0, zT15_9, zr_istore_3, zT15_10, zr_aload_0, zT15_11, zr_gf_71, zr_or, zr_go, zf_133_71, zT15_14, zr_iload_1, zT15_15, zr_ic_54, zT15_17, zr_iadd, zT15_18, zr_iald, zT15_19, zr_iload_3, zT15_20, zr_icmp_ne, zT15_23, zr_ic_m3, zT15_25, zr_ret0, zcl_i, zcl_r, zcl_l, zcl_n, zv_some, zv_none, Nat.reduceAdd, Nat.reduceMul, Nat.reduceSub, Nat.reduceLT, Nat.reduceLeDiff, Nat.reduceEqDiff, Int.reduceToNat, true_implies, false_implies, implies_true, and_true, true_and, not_true_eq_false, not_false_eq_true, Nat.zero_add, Nat.add_zero, nI_add, nI_ltI, nI_leI, nI_eq, pk_mul, pk_sub, u2_same, u2_row, u2_other, e0, olt_T, olt_F, ole_T, ole_F, oeq_T, oeq_F]
      exact o
    · simp (disch := first | assumption | rfl | exact zle_0 | exact zle_1 | exact zle_2 | exact zle_3 | exact zle_4 | exact zb_0 | exact zb_1 | exact zb01_B | omega) only [zT15_0, zr_iload_2, zT15_1, zr_if_eq, zT15_4, zr_ic_1, zT15_5, zr_goto, zT15_8, zr_ic_0, zT15_9, zr_istore_3, zT15_10, zr_aload_0, zT15_11, zr_gf_71, zr_or, zr_go, zf_133_71, zT15_14, zr_iload_1, zT15_15, zr_ic_54, zT15_17, zr_iadd, zT15_18, zr_iald, zT15_19, zr_iload_3, zT15_20, zr_icmp_ne, zT15_23, zr_ic_m3, zT15_25, zr_ret0, zcl_i, zcl_r, zcl_l, zcl_n, zv_some, zv_none, Nat.reduceAdd, Nat.reduceMul, Nat.reduceSub, Nat.reduceLT, Nat.reduceLeDiff, Nat.reduceEqDiff, Int.reduceToNat, true_implies, false_implies, implies_true, and_true, true_and, not_true_eq_false, not_false_eq_true, Nat.zero_add, Nat.add_zero, nI_add, nI_ltI, nI_leI, nI_eq, pk_mul, pk_sub, u2_same, u2_row, u2_other, e0, olt_T, olt_F, ole_T, ole_F, oeq_T, oeq_F]
      exact o
  · rw [if_neg c] at hQ
    dsimp only at hQ
    rcases hb' with rfl | rfl
    · simp (disch := first | assumption | rfl | exact zle_0 | exact zle_1 | exact zle_2 | exact zle_3 | exact zle_4 | exact zb_0 | exact zb_1 | exact zb01_B | omega) only [zT15_0, zr_iload_2, zT15_1, zr_if_eq, zT15_4, zr_ic_1, zT15_5, zr_goto, zT15_8, zr_ic_0, zT15_9, zr_istore_3, zT15_10, zr_aload_0, zT15_11, zr_gf_71, zr_or, zr_go, zf_133_71, zT15_14, zr_iload_1, zT15_15, zr_ic_54, zT15_17, zr_iadd, zT15_18, zr_iald, zT15_19, zr_iload_3, zT15_20, zr_icmp_ne, zT15_23, zr_ic_m3, zT15_25, zr_ret0, zT15_26, zT15_27, zT15_30, zT15_31, zT15_33, zT15_34, zT15_35, zr_iast, zT15_36, zT15_37, zT15_38, zr_iv_10, zT15_41, zT15_42, zcl_i, zcl_r, zcl_l, zcl_n, zv_some, zv_none, Nat.reduceAdd, Nat.reduceMul, Nat.reduceSub, Nat.reduceLT, Nat.reduceLeDiff, Nat.reduceEqDiff, Int.reduceToNat, true_implies, false_implies, implies_true, and_true, true_and, not_true_eq_false, not_false_eq_true, Nat.zero_add, Nat.add_zero, nI_add, nI_ltI, nI_leI, nI_eq, pk_mul, pk_sub, u2_same, u2_row, u2_other, e0, ba, olt_T, olt_F, ole_T, ole_F, oeq_T, oeq_F]
      exact hQ _ (m_ba_R (h.set (j := 54) (by omega))) (((z_or_.id_).set (by omega) (by omega)).ba)
    · simp (disch := first | assumption | rfl | exact zle_0 | exact zle_1 | exact zle_2 | exact zle_3 | exact zle_4 | exact zb_0 | exact zb_1 | exact zb01_B | omega) only [zT15_0, zr_iload_2, zT15_1, zr_if_eq, zT15_4, zr_ic_1, zT15_5, zr_goto, zT15_8, zr_ic_0, zT15_9, zr_istore_3, zT15_10, zr_aload_0, zT15_11, zr_gf_71, zr_or, zr_go, zf_133_71, zT15_14, zr_iload_1, zT15_15, zr_ic_54, zT15_17, zr_iadd, zT15_18, zr_iald, zT15_19, zr_iload_3, zT15_20, zr_icmp_ne, zT15_23, zr_ic_m3, zT15_25, zr_ret0, zT15_26, zT15_27, zT15_30, zT15_31, zT15_33, zT15_34, zT15_35, zr_iast, zT15_36, zT15_37, zT15_38, zr_iv_10, zT15_41, zT15_42, zcl_i, zcl_r, zcl_l, zcl_n, zv_some, zv_none, Nat.reduceAdd, Nat.reduceMul, Nat.reduceSub, Nat.reduceLT, Nat.reduceLeDiff, Nat.reduceEqDiff, Int.reduceToNat, true_implies, false_implies, implies_true, and_true, true_and, not_true_eq_false, not_false_eq_true, Nat.zero_add, Nat.add_zero, nI_add, nI_ltI, nI_leI, nI_eq, pk_mul, pk_sub, u2_same, u2_row, u2_other, e0, ba, olt_T, olt_F, ole_T, ole_F, oeq_T, oeq_F]
      exact hQ _ (m_ba_R (h.set (j := 54) (by omega))) (((z_or_.id_).set (by omega) (by omega)).ba)
end
