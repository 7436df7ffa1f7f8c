/-! telling a step -/
section
variable {fi : Nat → Nat → Int32} {fl : Nat → Nat → Int64} {fr : Nat → Nat → Option Nat} {Q : Option Value → Mm → Prop} {w : Nat → Nat} {k : Nat} {M : Mm}
/-- the arguments of a good step -/
def a_goodStep (n : Nat) (x0 x1 x2 x3 x4 : Int32) : Prop := 0 ≤ x0.toInt ∧ x0.toInt < n ∧ 0 ≤ x1.toInt ∧ x1.toInt ≤ 3 ∧ 0 ≤ x2.toInt ∧ x2.toInt ≤ 3 ∧ 0 < x1.toInt + x2.toInt ∧ 0 ≤ x3.toInt ∧ x3.toInt ≤ x1.toInt + x2.toInt ∧ 1 ≤ x4.toInt ∧ x4.toInt ≤ 5
theorem nI_ofInt {x : Int32} (h : 0 ≤ x.toInt) : x = nI x.toInt.toNat ∧ x.toInt.toNat < 2 ^ 31 := by
  have hn : ¬ x < 0 := by
    rw [Int32.lt_iff_toInt_lt]
    simpa using h
  obtain ⟨j, hj, rfl⟩ := nI_of hn
  rw [nI_toInt hj]
  exact ⟨rfl, hj⟩
theorem sp_step_bad (hk : z_Kok fr k) {n : Nat} (hn : n ≤ 3) (hr : fi k 45 = nI n) {x0 x1 x2 x3 x4 : Int32} (hb : ¬ a_goodStep n x0 x1 x2 x3 x4) : TT 180 0 [some (.ref k), some (.int x0), some (.int x1), some (.int x2), some (.int x3), some (.int x4), none] [] (151, fi, fl, fr) Q = Q (some (.int (nM 2))) (151, fi, fl, fr) := by
  refine T_exact (fun Q hQ => ?_) Q
  have h1 := hk.1
  have hhd := fun Q => sp_hasDish (fl := fl) (fr := fr) (Q := Q) (x := x0) h1 hr (by omega)
  unfold a_goodStep at hb
  by_cases hx : 0 ≤ x1.toInt ∧ x1.toInt ≤ 3 ∧ 0 ≤ x2.toInt ∧ x2.toInt ≤ 3
  · obtain ⟨e1, e1'⟩ := nI_ofInt hx.1
    obtain ⟨e2, e2'⟩ := nI_ofInt hx.2.2.1
    have b1 : x1.toInt.toNat ≤ 3 := by omega
    have b2 : x2.toInt.toNat ≤ 3 := by omega
    have c1 : x1.toInt = (x1.toInt.toNat : Int) := by omega
    have c2 : x2.toInt = (x2.toInt.toNat : Int) := by omega
    rw [c1, c2] at hb
    generalize x1.toInt.toNat = r at *
    generalize x2.toInt.toNat = l at *
    subst e1 e2
    by_cases hd : 0 ≤ x0.toInt ∧ x0.toInt < (n : Int)
    · rw [decide_eq_true hd] at hhd
      simp (disch := first | assumption | rfl | exact zle_0 | exact zle_1 | exact zle_2 | exact zle_3 | exact zle_4 | exact zb_0 | exact zb_1 | exact zb01_B | omega) only [zT180_0, zr_iload_2, zT180_1, zr_if_lt, zT180_4, zT180_5, zr_ic_3, zT180_6, zr_icmp_gt, zT180_9, zr_iload_3, zT180_10, zT180_13, zT180_14, zT180_15, zT180_18, zT180_19, zT180_20, zr_iadd, zT180_21, zr_if_le, zT180_24, zr_ic_1, zT180_25, zr_goto, zT180_28, zr_ic_0, zT180_29, zr_istore_6, zT180_31, zr_aload_0, zT180_32, zr_iload_1, zT180_33, zr_iv_187, zT180_36, zr_if_eq, zT180_39, zr_iload_6, zT180_41, zT180_44, zr_iload_4, zT180_46, zT180_49, zT180_51, zT180_52, zT180_53, zT180_54, zT180_57, zr_iload_5, zT180_59, zT180_60, zr_icmp_lt, zT180_63, zT180_65, zr_ic_5, zT180_66, zr_icmp_le, zT180_69, zr_ic_m2, zT180_71, zr_ret0, zcl_i, zcl_r, zcl_l, zcl_n, zv_some, zv_none, Nat.reduceAdd, Nat.reduceMul, Nat.reduceSub, Nat.reduceLT, Nat.reduceLeDiff, Nat.reduceEqDiff, Int.reduceToNat, true_implies, false_implies, implies_true, and_true, true_and, not_true_eq_false, not_false_eq_true, Nat.zero_add, Nat.add_zero, nI_add, nI_ltI, nI_leI, nI_eq, pk_mul, pk_sub, u2_same, u2_row, u2_other, hhd, zB_eq0, reduceCtorEq, Int32.lt_iff_toInt_lt, Int32.le_iff_toInt_le, nI_toInt, olt_T, olt_F, ole_T, ole_F, oeq_T, oeq_F]
      repeat' first | intro _ | apply And.intro
      all_goals first | exact hQ | (exfalso; omega)
    · rw [decide_eq_false hd] at hhd
      simp (disch := first | assumption | rfl | exact zle_0 | exact zle_1 | exact zle_2 | exact zle_3 | exact zle_4 | exact zb_0 | exact zb_1 | exact zb01_B | omega) only [zT180_0, zr_iload_2, zT180_1, zr_if_lt, zT180_4, zT180_5, zr_ic_3, zT180_6, zr_icmp_gt, zT180_9, zr_iload_3, zT180_10, zT180_13, zT180_14, zT180_15, zT180_18, zT180_19, zT180_20, zr_iadd, zT180_21, zr_if_le, zT180_24, zr_ic_1, zT180_25, zr_goto, zT180_28, zr_ic_0, zT180_29, zr_istore_6, zT180_31, zr_aload_0, zT180_32, zr_iload_1, zT180_33, zr_iv_187, zT180_36, zr_if_eq, zT180_39, zr_iload_6, zT180_41, zT180_44, zr_iload_4, zT180_46, zT180_49, zT180_51, zT180_52, zT180_53, zT180_54, zT180_57, zr_iload_5, zT180_59, zT180_60, zr_icmp_lt, zT180_63, zT180_65, zr_ic_5, zT180_66, zr_icmp_le, zT180_69, zr_ic_m2, zT180_71, zr_ret0, zcl_i, zcl_r, zcl_l, zcl_n, zv_some, zv_none, Nat.reduceAdd, Nat.reduceMul, Nat.reduceSub, Nat.reduceLT, Nat.reduceLeDiff, Nat.reduceEqDiff, Int.reduceToNat, true_implies, false_implies, implies_true, and_true, true_and, not_true_eq_false, not_false_eq_true, Nat.zero_add, Nat.add_zero, nI_add, nI_ltI, nI_leI, nI_eq, pk_mul, pk_sub, u2_same, u2_row, u2_other, hhd, zB_eq0, reduceCtorEq, olt_T, olt_F, ole_T, ole_F, oeq_T, oeq_F]
      repeat' first | intro _ | apply And.intro
      all_goals exact hQ
  · by_cases hd : 0 ≤ x0.toInt ∧ x0.toInt < (n : Int)
    · rw [decide_eq_true hd] at hhd
      simp (disch := first | assumption | rfl | exact zle_0 | exact zle_1 | exact zle_2 | exact zle_3 | exact zle_4 | exact zb_0 | exact zb_1 | exact zb01_B | omega) only [zT180_0, zr_iload_2, zT180_1, zr_if_lt, zT180_4, zT180_5, zr_ic_3, zT180_6, zr_icmp_gt, zT180_9, zr_iload_3, zT180_10, zT180_13, zT180_14, zT180_15, zT180_18, zT180_19, zT180_20, zr_iadd, zT180_21, zr_if_le, zT180_24, zr_ic_1, zT180_25, zr_goto, zT180_28, zr_ic_0, zT180_29, zr_istore_6, zT180_31, zr_aload_0, zT180_32, zr_iload_1, zT180_33, zr_iv_187, zT180_36, zr_if_eq, zT180_39, zr_iload_6, zT180_41, zT180_44, zr_iload_4, zT180_46, zT180_49, zT180_51, zT180_52, zT180_53, zT180_54, zT180_57, zr_iload_5, zT180_59, zT180_60, zr_icmp_lt, zT180_63, zT180_65, zr_ic_5, zT180_66, zr_icmp_le, zT180_69, zr_ic_m2, zT180_71, zr_ret0, zcl_i, zcl_r, zcl_l, zcl_n, zv_some, zv_none, Nat.reduceAdd, Nat.reduceMul, Nat.reduceSub, Nat.reduceLT, Nat.reduceLeDiff, Nat.reduceEqDiff, Int.reduceToNat, true_implies, false_implies, implies_true, and_true, true_and, not_true_eq_false, not_false_eq_true, Nat.zero_add, Nat.add_zero, nI_add, nI_ltI, nI_leI, nI_eq, pk_mul, pk_sub, u2_same, u2_row, u2_other, hhd, zB_eq0, reduceCtorEq, Int32.lt_iff_toInt_lt, Int32.le_iff_toInt_le, nI_toInt, olt_T, olt_F, ole_T, ole_F, oeq_T, oeq_F]
      repeat' first | intro _ | apply And.intro
      all_goals first | exact hQ | (exfalso; omega)
    · rw [decide_eq_false hd] at hhd
      simp (disch := first | assumption | rfl | exact zle_0 | exact zle_1 | exact zle_2 | exact zle_3 | exact zle_4 | exact zb_0 | exact zb_1 | exact zb01_B | omega) only [zT180_0, zr_iload_2, zT180_1, zr_if_lt, zT180_4, zT180_5, zr_ic_3, zT180_6, zr_icmp_gt, zT180_9, zr_iload_3, zT180_10, zT180_13, zT180_14, zT180_15, zT180_18, zT180_19, zT180_20, zr_iadd, zT180_21, zr_if_le, zT180_24, zr_ic_1, zT180_25, zr_goto, zT180_28, zr_ic_0, zT180_29, zr_istore_6, zT180_31, zr_aload_0, zT180_32, zr_iload_1, zT180_33, zr_iv_187, zT180_36, zr_if_eq, zT180_39, zr_iload_6, zT180_41, zT180_44, zr_iload_4, zT180_46, zT180_49, zT180_51, zT180_52, zT180_53, zT180_54, zT180_57, zr_iload_5, zT180_59, zT180_60, zr_icmp_lt, zT180_63, zT180_65, zr_ic_5, zT180_66, zr_icmp_le, zT180_69, zr_ic_m2, zT180_71, zr_ret0, zcl_i, zcl_r, zcl_l, zcl_n, zv_some, zv_none, Nat.reduceAdd, Nat.reduceMul, Nat.reduceSub, Nat.reduceLT, Nat.reduceLeDiff, Nat.reduceEqDiff, Int.reduceToNat, true_implies, false_implies, implies_true, and_true, true_and, not_true_eq_false, not_false_eq_true, Nat.zero_add, Nat.add_zero, nI_add, nI_ltI, nI_leI, nI_eq, pk_mul, pk_sub, u2_same, u2_row, u2_other, hhd, zB_eq0, reduceCtorEq, olt_T, olt_F, ole_T, ole_F, oeq_T, oeq_F]
      repeat' first | intro _ | apply And.intro
      all_goals exact hQ
theorem k_ba_dish {d F : Nat} (hd : d < 3) (hF : F ≠ 33) : k_ba fi k (k + 5 + 5 * d) F = fi (k + 5 + 5 * d) F := by
  unfold k_ba
  have hd3 : d = 0 ∨ d = 1 ∨ d = 2 := by omega
  rcases hd3 with rfl | rfl | rfl
  · rw [u2_other (by omega), u2_other (by omega), u2_other (by omega), show k + 5 + 5 * 0 = k + 5 by omega, u2_row hF]
  · rw [u2_other (by omega), u2_other (by omega), show k + 5 + 5 * 1 = k + 10 by omega, u2_row hF, u2_other (by omega)]
  · rw [u2_other (by omega), show k + 5 + 5 * 2 = k + 15 by omega, u2_row hF, u2_other (by omega), u2_other (by omega)]
theorem sp_step_full (hk : z_Kok fr k) (hr : z_K0 fi k w) {d r l kn mi : Nat} (hw : w 13 ≤ 3) (hd : d < w 13) (h3 : a_sm w d = 3) (b1 : r ≤ 3) (b2 : l ≤ 3) (b3 : 0 < r + l) (b4 : kn ≤ r + l) (b5 : 1 ≤ mi) (b6 : mi ≤ 5) : TT 180 0 [some (.ref k), some (.int (nI d)), some (.int (nI r)), some (.int (nI l)), some (.int (nI kn)), some (.int (nI mi)), none] [] (151, fi, fl, fr) Q = Q (some (.int (nM 4))) (151, fi, fl, fr) := by
  refine T_exact (fun Q hQ => ?_) Q
  have hhd := fun Q => sp_hasDish (fl := fl) (fr := fr) (Q := Q) (x := nI d) hk.1 hr.1.2.1 (by omega)
  rw [decide_eq_true (by rw [nI_toInt (by omega)]; omega)] at hhd
  have r1 := (hr.2.2 d (by omega)).1
  rw [h3] at r1
  obtain ⟨h1, ⟨h2, h3, h4, h5⟩, ⟨l1, l2, l3, l4⟩, ⟨f1, f2, f3, f4⟩, hd'⟩ := hk
  have rd := (hd' d (by omega)).1
  have od := (hd' d (by omega)).2.1
  simp (disch := first | assumption | rfl | exact zle_0 | exact zle_1 | exact zle_2 | exact zle_3 | exact zle_4 | exact zb_0 | exact zb_1 | exact zb01_B | omega) only [zT180_0, zr_iload_2, zT180_1, zr_if_lt, zT180_4, zT180_5, zr_ic_3, zT180_6, zr_icmp_gt, zT180_9, zr_iload_3, zT180_10, zT180_13, zT180_14, zT180_15, zT180_18, zT180_19, zT180_20, zr_iadd, zT180_21, zr_if_le, zT180_24, zr_ic_1, zT180_25, zr_goto, zT180_28, zr_ic_0, zT180_29, zr_istore_6, zT180_31, zr_aload_0, zT180_32, zr_iload_1, zT180_33, zr_iv_187, zT180_36, zr_if_eq, zT180_39, zr_iload_6, zT180_41, zT180_44, zr_iload_4, zT180_46, zT180_49, zT180_51, zT180_52, zT180_53, zT180_54, zT180_57, zr_iload_5, zT180_59, zT180_60, zr_icmp_lt, zT180_63, zT180_65, zr_ic_5, zT180_66, zr_icmp_le, zT180_69, zr_ic_m2, zT180_71, zr_ret0, zT180_72, zT180_73, zr_gf_44, zr_or, zr_go, zf_19_44, zT180_76, zT180_77, zr_aald4, zr_aald5, zT180_78, zr_gf_32, zT180_81, zT180_82, zT180_85, zr_ic_m4, zT180_87, zcl_i, zcl_r, zcl_l, zcl_n, zv_some, zv_none, Nat.reduceAdd, Nat.reduceMul, Nat.reduceSub, Nat.reduceLT, Nat.reduceLeDiff, Nat.reduceEqDiff, Int.reduceToNat, true_implies, false_implies, implies_true, and_true, true_and, not_true_eq_false, not_false_eq_true, Nat.zero_add, Nat.add_zero, nI_add, nI_ltI, nI_leI, nI_eq, pk_mul, pk_sub, u2_same, u2_row, u2_other, hhd, zB_eq0, reduceCtorEq, f3, rd, r1, olt_T, olt_F, ole_T, ole_F, oeq_T, oeq_F]
  exact hQ
theorem k0_step (hr : z_K0 fi k w) {d r l kn mi : Nat} (h0 : w 0 ≤ 6) (hm : ∀ d, d < 3 → a_sm w d ≤ 3) (hd : d < 3) (hs : a_sm w d < 3) :
    z_K0 (u2 (u2 (u2 (u2 (u2 fi (k + 5 + 5 * d + 1) (a_sm w d) (nI r)) (k + 5 + 5 * d + 2) (a_sm w d) (nI l)) (k + 5 + 5 * d + 3) (a_sm w d) (nI kn)) (k + 5 + 5 * d + 4) (a_sm w d) (nI mi)) (k + 5 + 5 * d) 32 (nI (a_sm w d + 1))) k
      (a_set (a_set (a_set (a_set (a_set w (17 + 12 * d + 4 * a_sm w d) r) (17 + 12 * d + 4 * a_sm w d + 1) l) (17 + 12 * d + 4 * a_sm w d + 2) kn) (17 + 12 * d + 4 * a_sm w d + 3) mi) (14 + d) (a_sm w d + 1)) := by
  obtain ⟨⟨h1, h2, h3, h4⟩, h5, h6⟩ := hr
  refine ⟨⟨?_, ?_, ?_, ?_⟩, fun c hc => ?_, fun e he => ?_⟩
  · simp (disch := omega) only [u2_row, u2_other, a_set_ne, h1]
  · simp (disch := omega) only [u2_row, u2_other, a_set_ne, h2]
  · simp (disch := omega) only [u2_row, u2_other, a_set_ne, h3]
  · simp (disch := omega) only [u2_row, u2_other, a_set_ne, h4]
  · simp (disch := omega) only [a_set_ne] at hc
    have := h5 c hc
    simp (disch := omega) only [u2_row, u2_other, a_set_ne]
    exact this
  · obtain ⟨g1, g2⟩ := h6 e he
    have hme := hm e he
    by_cases ed : e = d
    · subst ed
      have es : a_sm (a_set (a_set (a_set (a_set (a_set w (17 + 12 * e + 4 * a_sm w e) r) (17 + 12 * e + 4 * a_sm w e + 1) l) (17 + 12 * e + 4 * a_sm w e + 2) kn) (17 + 12 * e + 4 * a_sm w e + 3) mi) (14 + e) (a_sm w e + 1)) e = a_sm w e + 1 := by
        show a_set _ (14 + e) _ (14 + e) = _
        rw [a_set_same]
      refine ⟨by rw [es, u2_same], fun s hs' => ?_⟩
      rw [es] at hs'
      unfold a_st at *
      by_cases e2 : s = a_sm w e
      · subst e2
        refine ⟨?_, ?_, ?_, ?_⟩
        · simp (disch := omega) only [u2_same, u2_row, u2_other, Nat.add_zero, a_set_ne]; rw [a_set_same]
        · simp (disch := omega) only [u2_same, u2_row, u2_other, a_set_ne]; rw [a_set_same]
        · simp (disch := omega) only [u2_same, u2_row, u2_other, a_set_ne]; rw [a_set_same]
        · simp (disch := omega) only [u2_same, u2_row, u2_other, a_set_ne]; rw [a_set_same]
      · have := g2 s (by omega)
        simp (disch := omega) only [u2_row, u2_other, a_set_ne]
        exact this
    · have es : a_sm (a_set (a_set (a_set (a_set (a_set w (17 + 12 * d + 4 * a_sm w d) r) (17 + 12 * d + 4 * a_sm w d + 1) l) (17 + 12 * d + 4 * a_sm w d + 2) kn) (17 + 12 * d + 4 * a_sm w d + 3) mi) (14 + d) (a_sm w d + 1)) e = a_sm w e := by
        show a_set _ (14 + d) _ (14 + e) = w (14 + e)
        simp (disch := omega) only [a_set_ne]
      refine ⟨?_, fun s hs' => ?_⟩
      · rw [es]
        simp (disch := omega) only [u2_other]
        exact g1
      · rw [es] at hs'
        have := g2 s hs'
        unfold a_st at *
        have hne : 12 * e + 4 * s + 3 < 12 * d + 4 * a_sm w d ∨ 12 * d + 4 * a_sm w d + 3 < 12 * e + 4 * s := by omega
        simp (disch := omega) only [u2_other, a_set_ne]
        exact this
theorem sp_step (hk : z_Kok fr k) (hr : z_K0 fi k w) (h0 : w 0 ≤ 6) (hm : ∀ d, d < 3 → a_sm w d ≤ 3) {d r l kn mi : Nat} (hw : w 13 ≤ 3) (hd : d < w 13) (h3 : a_sm w d < 3) (b1 : r ≤ 3) (b2 : l ≤ 3) (b3 : 0 < r + l) (b4 : kn ≤ r + l) (b5 : 1 ≤ mi) (b6 : mi ≤ 5)
    (hQ : ∀ fi', z_KR fi' k (a_addStep w d r l kn mi) → (∀ j, j < k ∨ k + 20 ≤ j → fi' j = fi j) → Q (some (.int (nI (a_sm w d)))) (151, fi', fl, fr)) :
    TT 180 0 [some (.ref k), some (.int (nI d)), some (.int (nI r)), some (.int (nI l)), some (.int (nI kn)), some (.int (nI mi)), none] [] (151, fi, fl, fr) Q := by
  have hhd := fun Q => sp_hasDish (fl := fl) (fr := fr) (Q := Q) (x := nI d) hk.1 hr.1.2.1 (by omega)
  rw [decide_eq_true (by rw [nI_toInt (by omega)]; omega)] at hhd
  have hba := fun fi Q => sp_beginAnew (fi := fi) (fl := fl) (Q := Q) hk
  have r1 := (hr.2.2 d (by omega)).1
  have hd3 : d < 3 := by omega
  have kb := fun fi => k_ba_dish (fi := fi) (k := k) (F := 32) hd3 (by decide)
  obtain ⟨h1, ⟨h2, h3', h4, h5⟩, ⟨l1, l2, l3, l4⟩, ⟨f1, f2, f3, f4⟩, hd'⟩ := hk
  obtain ⟨rd, od, ⟨o1, o2, o3, o4⟩, ⟨m1, m2, m3, m4⟩, p1, p2, p3, p4⟩ := hd' d hd3
  simp (disch := first | assumption | rfl | exact zle_0 | exact zle_1 | exact zle_2 | exact zle_3 | exact zle_4 | exact zb_0 | exact zb_1 | exact zb01_B | omega) only [zT180_0, zr_iload_2, zT180_1, zr_if_lt, zT180_4, zT180_5, zr_ic_3, zT180_6, zr_icmp_gt, zT180_9, zr_iload_3, zT180_10, zT180_13, zT180_14, zT180_15, zT180_18, zT180_19, zT180_20, zr_iadd, zT180_21, zr_if_le, zT180_24, zr_ic_1, zT180_25, zr_goto, zT180_28, zr_ic_0, zT180_29, zr_istore_6, zT180_31, zr_aload_0, zT180_32, zr_iload_1, zT180_33, zr_iv_187, zT180_36, zr_if_eq, zT180_39, zr_iload_6, zT180_41, zT180_44, zr_iload_4, zT180_46, zT180_49, zT180_51, zT180_52, zT180_53, zT180_54, zT180_57, zr_iload_5, zT180_59, zT180_60, zr_icmp_lt, zT180_63, zT180_65, zr_ic_5, zT180_66, zr_icmp_le, zT180_69, zr_ic_m2, zT180_71, zr_ret0, zT180_72, zT180_73, zr_gf_44, zr_or, zr_go, zf_19_44, zT180_76, zT180_77, zr_aald4, zr_aald5, zT180_78, zr_gf_32, zT180_81, zT180_82, zT180_85, zr_ic_m4, zT180_87, zT180_88, zT180_89, zT180_92, zT180_93, zT180_94, zT180_95, zT180_96, zT180_98, zT180_100, zr_iv_150, zT180_103, zT180_104, zr_iv_183, zT180_107, zT180_108, zT180_111, zT180_112, zT180_113, zT180_116, zT180_117, zr_isub, zT180_118, zT150_0, zT150_1, zT150_4, zT150_5, zr_icmp_ge, zT150_8, zT150_9, zr_gf_28, zT150_12, zT150_13, zT150_16, zT150_17, zr_iast, zT150_18, zT150_19, zr_gf_29, zT150_22, zT150_23, zT150_26, zT150_27, zT150_28, zT150_29, zr_gf_30, zT150_32, zT150_33, zT150_36, zT150_37, zT150_38, zT150_39, zr_gf_31, zT150_42, zT150_43, zT150_46, zT150_48, zT150_49, zT150_50, zr_dup_r, zr_dup_i, zT150_51, zT150_54, zT150_55, zT150_56, zr_pf_32, zT150_59, zr_return, zcl_i, zcl_r, zcl_l, zcl_n, zv_some, zv_none, Nat.reduceAdd, Nat.reduceMul, Nat.reduceSub, Nat.reduceLT, Nat.reduceLeDiff, Nat.reduceEqDiff, Int.reduceToNat, true_implies, false_implies, implies_true, and_true, true_and, not_true_eq_false, not_false_eq_true, Nat.zero_add, Nat.add_zero, nI_add, nI_ltI, nI_leI, nI_eq, pk_mul, pk_sub, u2_same, u2_row, u2_other, hhd, zB_eq0, reduceCtorEq, f3, rd, r1, p1, p2, p3, p4, hba, kb, olt_T, olt_F, ole_T, ole_F, oeq_T, oeq_F]
  refine hQ _ (k_ba_K (k0_step hr h0 hm hd3 h3) ?_ ?_) (fun j hj => ?_)
  · simp (disch := omega) only [a_set_ne]; omega
  · intro e he
    have q := hm e he
    by_cases ed : e = d
    · subst ed
      show a_set _ (14 + e) _ (14 + e) ≤ 3
      rw [a_set_same]; omega
    · show a_set _ (14 + d) _ (14 + e) ≤ 3
      simp (disch := omega) only [a_set_ne]
      exact q
  · rw [k_ba_fr hj]
    simp (disch := omega) only [u2_ne]
end
