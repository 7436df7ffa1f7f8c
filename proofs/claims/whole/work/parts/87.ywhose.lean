/-! the model's whose -/
section
variable {fi fi' : Nat → Nat → Int32} {fl fl' : Nat → Nat → Int64} {fr : Nat → Nat → Option Nat} {Q : Option Value → Mm → Prop} {w : Nat → Nat} {k : Nat} {M : Mm} {ws : Nat → Nat → Nat} {nn tx : Nat → Nat} {n : Nat}
theorem yw_0 (hf : z_FR fr) (hw : a_WF w) (hr : z_MR fi 0 w) {x y : Int32} (hQ : TT 56 83 [some (.ref 133), some (.int x), some (.int y), some (.int (nI 0)), some (.int (nI (w 13)))] [] (151, fi, fl, fr) Q) :
    ∀ m d, d + m = w 13 → TT 56 27 [some (.ref 133), some (.int x), some (.int y), some (.int (nI 0)), some (.int (nI d))] [] (151, fi, fl, fr) Q := by
  have o133 : z_ok 151 133 20 = true := rfl; have o134 : z_ok 151 134 1 = true := rfl
  have l134 : z_al 134 = 440 := rfl
  have h13 := hw.2.2.1
  have e13 := hr.at0 (i := 13) (by decide)
  intro m
  induction m with
  | zero =>
    intro d hd
    obtain rfl : d = w 13 := by omega
    simp (disch := first | assumption | rfl | exact zle_0 | exact zle_1 | exact zle_2 | exact zle_3 | exact zle_4 | exact zb_0 | exact zb_1 | exact zb01_B | omega) only [zT56_27, zr_iload_4, zT56_29, zr_aload_0, zT56_30, zr_gf_71, zr_or, zr_go, zf_133_71, zT56_33, zr_ic_13, zT56_35, zr_iald, zT56_36, zr_icmp_ge, zcl_i, zcl_r, zcl_l, zcl_n, zv_some, zv_none, Nat.reduceAdd, Nat.reduceMul, Nat.reduceSub, Nat.reduceLT, Nat.reduceLeDiff, Nat.reduceEqDiff, Int.reduceToNat, true_implies, false_implies, implies_true, and_true, true_and, not_true_eq_false, not_false_eq_true, Nat.zero_add, Nat.add_zero, nI_add, nI_ltI, nI_leI, nI_eq, pk_mul, pk_sub, u2_same, u2_row, u2_other, e13, olt_T, olt_F, ole_T, ole_F, oeq_T, oeq_F]
    exact hQ
  | succ m ih =>
    intro d hd
    have ih' := ih (d + 1) (by omega)
    simp (disch := first | assumption | rfl | exact zle_0 | exact zle_1 | exact zle_2 | exact zle_3 | exact zle_4 | exact zb_0 | exact zb_1 | exact zb01_B | omega) only [zT56_27, zr_iload_4, zcl_i, zcl_r, zcl_l, zcl_n, zv_some, zv_none, Nat.reduceAdd, Nat.reduceMul, Nat.reduceSub, Nat.reduceLT, Nat.reduceLeDiff, Nat.reduceEqDiff, Int.reduceToNat, true_implies, false_implies, implies_true, and_true, true_and, not_true_eq_false, not_false_eq_true, Nat.zero_add, Nat.add_zero, nI_add, nI_ltI, nI_leI, nI_eq, pk_mul, pk_sub, u2_same, u2_row, u2_other]
    simp (disch := first | assumption | rfl | exact zle_0 | exact zle_1 | exact zle_2 | exact zle_3 | exact zle_4 | exact zb_0 | exact zb_1 | exact zb01_B | omega) only [zT56_29, zr_aload_0, zT56_30, zr_gf_71, zr_or, zr_go, zf_133_71, zT56_33, zr_ic_13, zT56_35, zr_iald, zT56_36, zr_icmp_ge, zT56_39, zr_iload_3, zT56_40, zr_if_eq, zT56_43, zr_iload_1, zT56_44, zr_iload_4, zT56_46, zr_iv_5, zT56_49, zT56_52, zT56_53, zT56_56, zr_ic_55, zT56_58, zT56_60, zr_iadd, zT56_61, zT56_62, zT56_63, zT56_65, zr_iv_39, zT56_68, zr_icmp_eq, zT56_71, zr_ic_1, zT56_72, zr_goto, zT56_75, zr_ic_0, zT56_76, zr_istore_3, zT56_77, zr_iinc_4_1, zT56_80, zcl_i, zcl_r, zcl_l, zcl_n, zv_some, zv_none, Nat.reduceAdd, Nat.reduceMul, Nat.reduceSub, Nat.reduceLT, Nat.reduceLeDiff, Nat.reduceEqDiff, Int.reduceToNat, true_implies, false_implies, implies_true, and_true, true_and, not_true_eq_false, not_false_eq_true, Nat.zero_add, Nat.add_zero, nI_add, nI_ltI, nI_leI, nI_eq, pk_mul, pk_sub, u2_same, u2_row, u2_other, e13, olt_T, olt_F, ole_T, ole_F, oeq_T, oeq_F]
    exact ih'
theorem yw_1 (hf : z_FR fr) (hw : a_WF w) (hr : z_MR fi 0 w) {b : Nat} {y : Int32} (hb : b < 8)
    (hQ : TT 56 83 [some (.ref 133), some (.int (nI b)), some (.int y), some (.int (nI (if a_anyDone w b (w 13) 0 = true then 0 else 1))), some (.int (nI (w 13)))] [] (151, fi, fl, fr) Q) :
    ∀ m d, d + m = w 13 → a_anyDone w b m d = a_anyDone w b (w 13) 0 → TT 56 27 [some (.ref 133), some (.int (nI b)), some (.int y), some (.int (nI 1)), some (.int (nI d))] [] (151, fi, fl, fr) Q := by
  have o133 : z_ok 151 133 20 = true := rfl; have o134 : z_ok 151 134 1 = true := rfl
  have l134 : z_al 134 = 440 := rfl
  have h13 := hw.2.2.1
  have e13 := hr.at0 (i := 13) (by decide)
  intro m
  induction m with
  | zero =>
    intro d hd ha
    obtain rfl : d = w 13 := by omega
    rw [← ha, show a_anyDone w b 0 (w 13) = false from rfl, if_neg (by decide)] at hQ
    simp (disch := first | assumption | rfl | exact zle_0 | exact zle_1 | exact zle_2 | exact zle_3 | exact zle_4 | exact zb_0 | exact zb_1 | exact zb01_B | omega) only [zT56_27, zr_iload_4, zT56_29, zr_aload_0, zT56_30, zr_gf_71, zr_or, zr_go, zf_133_71, zT56_33, zr_ic_13, zT56_35, zr_iald, zT56_36, zr_icmp_ge, zcl_i, zcl_r, zcl_l, zcl_n, zv_some, zv_none, Nat.reduceAdd, Nat.reduceMul, Nat.reduceSub, Nat.reduceLT, Nat.reduceLeDiff, Nat.reduceEqDiff, Int.reduceToNat, true_implies, false_implies, implies_true, and_true, true_and, not_true_eq_false, not_false_eq_true, Nat.zero_add, Nat.add_zero, nI_add, nI_ltI, nI_leI, nI_eq, pk_mul, pk_sub, u2_same, u2_row, u2_other, e13, olt_T, olt_F, ole_T, ole_F, oeq_T, oeq_F]
    exact hQ
  | succ m ih =>
    intro d hd ha
    have d3 : d < 3 := by omega
    have wd := hw.2.2.2.1 d d3
    have hs := fun M Q => sm_has (M := M) (Q := Q) (b := b) (d := d) (by omega) (by omega)
    have to := fun Q => sm_totalOf (fl := fl) (Q := Q) hf hr d3 wd.1
    have eg := hr.at0 (i := 55 + d) (by omega)
    rw [show w (55 + d) = a_gone w d from rfl] at eg
    have tl := a_tot_le wd.1
    have gl := wd.2.2
    rw [show a_anyDone w b (m + 1) d = ((a_bit b d && a_done w d) || a_anyDone w b m (d + 1)) from rfl] at ha
    unfold a_done at ha
    cases hb : a_bit b d
    · rw [hb] at hs
      rw [hb, Bool.false_and, Bool.false_or] at ha
      have ih' := ih (d + 1) (by omega) ha
      simp (disch := first | assumption | rfl | exact zle_0 | exact zle_1 | exact zle_2 | exact zle_3 | exact zle_4 | exact zb_0 | exact zb_1 | exact zb01_B | omega) only [zT56_27, zr_iload_4, zcl_i, zcl_r, zcl_l, zcl_n, zv_some, zv_none, Nat.reduceAdd, Nat.reduceMul, Nat.reduceSub, Nat.reduceLT, Nat.reduceLeDiff, Nat.reduceEqDiff, Int.reduceToNat, true_implies, false_implies, implies_true, and_true, true_and, not_true_eq_false, not_false_eq_true, Nat.zero_add, Nat.add_zero, nI_add, nI_ltI, nI_leI, nI_eq, pk_mul, pk_sub, u2_same, u2_row, u2_other]
      simp (disch := first | assumption | rfl | exact zle_0 | exact zle_1 | exact zle_2 | exact zle_3 | exact zle_4 | exact zb_0 | exact zb_1 | exact zb01_B | omega) only [zT56_29, zr_aload_0, zT56_30, zr_gf_71, zr_or, zr_go, zf_133_71, zT56_33, zr_ic_13, zT56_35, zr_iald, zT56_36, zr_icmp_ge, zT56_39, zr_iload_3, zT56_40, zr_if_eq, zT56_43, zr_iload_1, zT56_44, zr_iload_4, zT56_46, zr_iv_5, zT56_49, zT56_52, zT56_53, zT56_56, zr_ic_55, zT56_58, zT56_60, zr_iadd, zT56_61, zT56_62, zT56_63, zT56_65, zr_iv_39, zT56_68, zr_icmp_eq, zT56_71, zr_ic_1, zT56_72, zr_goto, zT56_75, zr_ic_0, zT56_76, zr_istore_3, zT56_77, zr_iinc_4_1, zT56_80, zcl_i, zcl_r, zcl_l, zcl_n, zv_some, zv_none, Nat.reduceAdd, Nat.reduceMul, Nat.reduceSub, Nat.reduceLT, Nat.reduceLeDiff, Nat.reduceEqDiff, Int.reduceToNat, true_implies, false_implies, implies_true, and_true, true_and, not_true_eq_false, not_false_eq_true, Nat.zero_add, Nat.add_zero, nI_add, nI_ltI, nI_leI, nI_eq, pk_mul, pk_sub, u2_same, u2_row, u2_other, e13, hs, zB_eq0, olt_T, olt_F, ole_T, ole_F, oeq_T, oeq_F]
      exact ih'
    · rw [hb] at hs
      rw [hb, Bool.true_and] at ha
      by_cases c : a_gone w d = a_tot w d
      · rw [decide_eq_true c, Bool.true_or] at ha
        rw [← ha, if_pos rfl] at hQ
        have Z := yw_0 hf hw hr hQ m (d + 1) (by omega)
        rw [c] at eg
        simp (disch := first | assumption | rfl | exact zle_0 | exact zle_1 | exact zle_2 | exact zle_3 | exact zle_4 | exact zb_0 | exact zb_1 | exact zb01_B | omega) only [zT56_27, zr_iload_4, zcl_i, zcl_r, zcl_l, zcl_n, zv_some, zv_none, Nat.reduceAdd, Nat.reduceMul, Nat.reduceSub, Nat.reduceLT, Nat.reduceLeDiff, Nat.reduceEqDiff, Int.reduceToNat, true_implies, false_implies, implies_true, and_true, true_and, not_true_eq_false, not_false_eq_true, Nat.zero_add, Nat.add_zero, nI_add, nI_ltI, nI_leI, nI_eq, pk_mul, pk_sub, u2_same, u2_row, u2_other]
        simp (disch := first | assumption | rfl | exact zle_0 | exact zle_1 | exact zle_2 | exact zle_3 | exact zle_4 | exact zb_0 | exact zb_1 | exact zb01_B | omega) only [zT56_29, zr_aload_0, zT56_30, zr_gf_71, zr_or, zr_go, zf_133_71, zT56_33, zr_ic_13, zT56_35, zr_iald, zT56_36, zr_icmp_ge, zT56_39, zr_iload_3, zT56_40, zr_if_eq, zT56_43, zr_iload_1, zT56_44, zr_iload_4, zT56_46, zr_iv_5, zT56_49, zT56_52, zT56_53, zT56_56, zr_ic_55, zT56_58, zT56_60, zr_iadd, zT56_61, zT56_62, zT56_63, zT56_65, zr_iv_39, zT56_68, zr_icmp_eq, zT56_71, zr_ic_1, zT56_72, zr_goto, zT56_75, zr_ic_0, zT56_76, zr_istore_3, zT56_77, zr_iinc_4_1, zT56_80, zcl_i, zcl_r, zcl_l, zcl_n, zv_some, zv_none, Nat.reduceAdd, Nat.reduceMul, Nat.reduceSub, Nat.reduceLT, Nat.reduceLeDiff, Nat.reduceEqDiff, Int.reduceToNat, true_implies, false_implies, implies_true, and_true, true_and, not_true_eq_false, not_false_eq_true, Nat.zero_add, Nat.add_zero, nI_add, nI_ltI, nI_leI, nI_eq, pk_mul, pk_sub, u2_same, u2_row, u2_other, e13, hs, zB_eq0, reduceCtorEq, to, eg, olt_T, olt_F, ole_T, ole_F, oeq_T, oeq_F]
        exact Z
      · rw [decide_eq_false c, Bool.false_or] at ha
        have ih' := ih (d + 1) (by omega) ha
        simp (disch := first | assumption | rfl | exact zle_0 | exact zle_1 | exact zle_2 | exact zle_3 | exact zle_4 | exact zb_0 | exact zb_1 | exact zb01_B | omega) only [zT56_27, zr_iload_4, zcl_i, zcl_r, zcl_l, zcl_n, zv_some, zv_none, Nat.reduceAdd, Nat.reduceMul, Nat.reduceSub, Nat.reduceLT, Nat.reduceLeDiff, Nat.reduceEqDiff, Int.reduceToNat, true_implies, false_implies, implies_true, and_true, true_and, not_true_eq_false, not_false_eq_true, Nat.zero_add, Nat.add_zero, nI_add, nI_ltI, nI_leI, nI_eq, pk_mul, pk_sub, u2_same, u2_row, u2_other]
        simp (disch := first | assumption | rfl | exact zle_0 | exact zle_1 | exact zle_2 | exact zle_3 | exact zle_4 | exact zb_0 | exact zb_1 | exact zb01_B | omega) only [zT56_29, zr_aload_0, zT56_30, zr_gf_71, zr_or, zr_go, zf_133_71, zT56_33, zr_ic_13, zT56_35, zr_iald, zT56_36, zr_icmp_ge, zT56_39, zr_iload_3, zT56_40, zr_if_eq, zT56_43, zr_iload_1, zT56_44, zr_iload_4, zT56_46, zr_iv_5, zT56_49, zT56_52, zT56_53, zT56_56, zr_ic_55, zT56_58, zT56_60, zr_iadd, zT56_61, zT56_62, zT56_63, zT56_65, zr_iv_39, zT56_68, zr_icmp_eq, zT56_71, zr_ic_1, zT56_72, zr_goto, zT56_75, zr_ic_0, zT56_76, zr_istore_3, zT56_77, zr_iinc_4_1, zT56_80, zcl_i, zcl_r, zcl_l, zcl_n, zv_some, zv_none, Nat.reduceAdd, Nat.reduceMul, Nat.reduceSub, Nat.reduceLT, Nat.reduceLeDiff, Nat.reduceEqDiff, Int.reduceToNat, true_implies, false_implies, implies_true, and_true, true_and, not_true_eq_false, not_false_eq_true, Nat.zero_add, Nat.add_zero, nI_add, nI_ltI, nI_leI, nI_eq, pk_mul, pk_sub, u2_same, u2_row, u2_other, e13, hs, zB_eq0, reduceCtorEq, to, eg, olt_T, olt_F, ole_T, ole_F, oeq_T, oeq_F]
        exact ih'
theorem ym_whose (hf : z_FR fr) (h : z_MS fi fl ws nn tx) (hg : z_G ws nn) {x y : Int32} (hQ : z_MQ fi fr Q (r_whose ws nn x y).1 ws (r_whose ws nn x y).2 tx) : TT 56 0 [some (.ref 133), some (.int x), some (.int y), none, none] [] (151, fi, fl, fr) Q := by
  have o133 : z_ok 151 133 20 = true := rfl; have o134 : z_ok 151 134 1 = true := rfl; have o143 : z_ok 151 143 1 = true := rfl
  have l134 : z_al 134 = 440 := rfl; have l143 : z_al 143 = 18 := rfl
  have te := (sm_tElse (fi := fi) (fl := fl) hf).1
  have si := fun M Q v lo hi => sm_in (M := M) (Q := Q) (v := v) (lo := lo) (hi := hi)
  have h13 := hg.1.1.2.2.1
  have h54 := hg.1.1.2.2.2.2.2.1
  have e54 := h.1.1.at0 (i := 54) (by decide)
  have e13 := h.1.1.at0 (i := 13) (by decide)
  have al := fun Q => sm_allDishes (fl := fl) (Q := Q) hf hg.1.1 h.1.1
  have al8 := all_lt (ws 0) h13
  have ali : (nI (a_all (ws 0))).toInt = ((a_all (ws 0) : Nat) : Int) := nI_toInt (by omega)
  have p1 : 1 ≤ 2 ^ ws 0 13 := Nat.one_le_two_pow
  have pe : ((2 ^ ws 0 13 : Nat) : Int) = (2 : Int) ^ ws 0 13 := by simp
  have ea : a_all (ws 0) + 1 = 2 ^ ws 0 13 := by unfold a_all; omega
  have zt : zB true = nI 1 := rfl
  have zf : zB false = nI 0 := rfl
  unfold r_whose at hQ
  rw [← pe] at hQ
  have bad : z_MQ fi fr Q (nM 10) ws (rf nn 2) tx → TT 56 83 [some (.ref 133), some (.int x), some (.int y), some (.int (nI 0)), some (.int (nI (ws 0 13)))] [] (151, fi, fl, fr) Q := by
    intro hQ
    have o := z_MQ.els (Or.inl rfl) h hQ
    simp (disch := first | assumption | rfl | exact zle_0 | exact zle_1 | exact zle_2 | exact zle_3 | exact zle_4 | exact zb_0 | exact zb_1 | exact zb01_B | omega) only [zT56_83, zr_iload_3, zT56_84, zr_if_ne, zT56_87, zr_aload_0, zT56_88, zr_ic_m10, zT56_90, zr_iv_4, zT56_93, zr_ret0, zcl_i, zcl_r, zcl_l, zcl_n, zv_some, zv_none, Nat.reduceAdd, Nat.reduceMul, Nat.reduceSub, Nat.reduceLT, Nat.reduceLeDiff, Nat.reduceEqDiff, Int.reduceToNat, true_implies, false_implies, implies_true, and_true, true_and, not_true_eq_false, not_false_eq_true, Nat.zero_add, Nat.add_zero, nI_add, nI_ltI, nI_leI, nI_eq, pk_mul, pk_sub, u2_same, u2_row, u2_other, te, olt_T, olt_F, ole_T, ole_F, oeq_T, oeq_F]
    exact o
  by_cases cx : 0 ≤ x.toInt ∧ x.toInt ≤ ((a_all (ws 0) : Nat) : Int)
  · by_cases cy : 0 ≤ y.toInt
    · have n1 : (y < nI 0) = False := eq_false (by rw [Int32.lt_iff_toInt_lt, nI_toInt (by decide)]; omega)
      obtain ⟨ex, lx⟩ := nI_ofInt cx.1
      obtain ⟨ey, ly⟩ := nI_ofInt cy
      have b8 : x.toInt.toNat < 8 := by omega
      have xr : x.toInt < ((2 ^ ws 0 13 : Nat) : Int) := by omega
      have x0 := cx.1
      have cx' := dcd_T cx
      have bl : x.toInt.toNat < 2 ^ ws 0 13 := by omega
      generalize hx : x.toInt.toNat = b at *
      generalize hy : y.toInt.toNat = j at *
      have W := yw_1 (fl := fl) (Q := Q) (b := b) (y := y) hf hg.1.1 h.1.1 b8 (by
        cases c3 : a_anyDone (ws 0) b (ws 0 13) 0
        · rw [if_neg (by decide)]
          rw [if_pos ⟨x0, xr, cy, c3⟩] at hQ
          have nd : ∀ d, d < ws 0 13 → a_bit b d = true → plc (a_S (ws 0)) d < a_tot (ws 0) d := by
            intro d hd hb
            rw [a_S_plc hg.1.1 (by omega)]
            have gl := (hg.1.1.2.2.2.1 d (by omega)).2.2
            rcases Nat.lt_or_ge (a_gone (ws 0) d) (a_tot (ws 0) d) with q | q
            · exact q
            · have : a_anyDone (ws 0) b (ws 0 13) 0 = true := a_anyDone_iff _ _ |>.mpr ⟨d, Nat.zero_le _, by omega, hb, by unfold a_done; exact decide_eq_true (by omega)⟩
              rw [c3] at this
              exact absurd this (by decide)
          have bS := (isSt_box (a_box_S hg.1.1)).1
          have rest : ∀ f1, z_MS f1 fl ws nn tx → z_MH f1 (a_but (ws 0) (ws 0 54) 6) 0 0 6 → z_sr fi f1 → TT 56 115 [some (.ref 133), some (.int (nI b)), some (.int y), some (.int (nI 1)), some (.int (nI (ws 0 13)))] [] (151, f1, fl, fr) Q := by
            intro f1 g1 g2 g3
            have sn := fun Q => sm_stateNow (fl := fl) (Q := Q) hf hg.1.1 g1.1.1
            have mg := fun Q => sm_mayGo (fl := fl) (Q := Q) hf hg.1.1 g1.1.1 (by decide) g2 bS b8 nd
            rw [en_but hg.1.1, show a_enough (ws 0) (a_hands (ws 0) (ws 0 54)) 0 0 (a_keyS (ws 0) (a_S (ws 0)) b) = a_en (ws 0) (ws 0 54) (a_keyS (ws 0) (a_S (ws 0)) b) from rfl] at mg
            cases c4 : a_en (ws 0) (ws 0 54) (a_keyS (ws 0) (a_S (ws 0)) b)
            · rw [c4, if_neg (by decide)] at hQ
              rw [c4] at mg
              have o := hQ f1 fl g1 (fun i hi => g3.2 i (by omega))
              simp (disch := first | assumption | rfl | exact zle_0 | exact zle_1 | exact zle_2 | exact zle_3 | exact zle_4 | exact zb_0 | exact zb_1 | exact zb01_B | omega) only [zT56_115, zr_aload_0, zT56_116, zr_iload_1, zT56_117, zT56_118, zr_iv_42, zT56_121, zr_iv_41, zT56_124, zr_if_ne, zT56_127, zr_ic_m1, zT56_128, zr_ret0, zcl_i, zcl_r, zcl_l, zcl_n, zv_some, zv_none, Nat.reduceAdd, Nat.reduceMul, Nat.reduceSub, Nat.reduceLT, Nat.reduceLeDiff, Nat.reduceEqDiff, Int.reduceToNat, true_implies, false_implies, implies_true, and_true, true_and, not_true_eq_false, not_false_eq_true, Nat.zero_add, Nat.add_zero, nI_add, nI_ltI, nI_leI, nI_eq, pk_mul, pk_sub, u2_same, u2_row, u2_other, sn, mg, zB_eq0, olt_T, olt_F, ole_T, ole_F, oeq_T, oeq_F]
              exact o
            · rw [c4, if_pos rfl] at hQ
              rw [c4] at mg
              simp (disch := first | assumption | rfl | exact zle_0 | exact zle_1 | exact zle_2 | exact zle_3 | exact zle_4 | exact zb_0 | exact zb_1 | exact zb01_B | omega) only [zT56_115, zr_aload_0, zT56_116, zr_iload_1, zT56_117, zT56_118, zr_iv_42, zT56_121, zr_iv_41, zT56_124, zr_if_ne, zT56_127, zr_ic_m1, zT56_128, zr_ret0, zT56_129, zT56_130, zT56_131, zT56_132, zT56_135, zr_iv_55, zcl_i, zcl_r, zcl_l, zcl_n, zv_some, zv_none, Nat.reduceAdd, Nat.reduceMul, Nat.reduceSub, Nat.reduceLT, Nat.reduceLeDiff, Nat.reduceEqDiff, Int.reduceToNat, true_implies, false_implies, implies_true, and_true, true_and, not_true_eq_false, not_false_eq_true, Nat.zero_add, Nat.add_zero, nI_add, nI_ltI, nI_leI, nI_eq, pk_mul, pk_sub, u2_same, u2_row, u2_other, sn, mg, zB_eq0, reduceCtorEq, olt_T, olt_F, ole_T, ole_F, oeq_T, oeq_F]
              refine sm_findWhose hf hg.1.1 g1.1.1 bS b8 nd c4 (fun f2 k1 k2 k3 k4 => ?_)
              have o := fun a hq => (show z_MQ fi fr Q a ws nn tx from hq) f2 fl (g1.sr k4.sr) (fun i hi => (g3.tr k4.sr).2 i (by omega))
              rw [ey]
              generalize a_rowS (ws 0) (a_S (ws 0)) b = R at *
              by_cases c5 : j < R.length
              · have e := (k2 j _ (List.getElem?_eq_getElem c5)).1
                rw [List.getElem?_eq_getElem c5] at hQ
                dsimp only at hQ
                have o' := o _ hQ
                simp (disch := first | assumption | rfl | exact zle_0 | exact zle_1 | exact zle_2 | exact zle_3 | exact zle_4 | exact zb_0 | exact zb_1 | exact zb01_B | omega) only [zT56_138, zr_iload_2, zT56_139, zr_aload_0, zT56_140, zr_gf_90, zT56_143, zr_icmp_ge, zT56_146, zT56_147, zr_gf_89, zr_or, zr_go, zf_133_89, zT56_150, zT56_151, zr_iald, zT56_152, zr_goto, zT56_155, zr_ic_m5, zT56_157, zr_ret0, zcl_i, zcl_r, zcl_l, zcl_n, zv_some, zv_none, Nat.reduceAdd, Nat.reduceMul, Nat.reduceSub, Nat.reduceLT, Nat.reduceLeDiff, Nat.reduceEqDiff, Int.reduceToNat, true_implies, false_implies, implies_true, and_true, true_and, not_true_eq_false, not_false_eq_true, Nat.zero_add, Nat.add_zero, nI_add, nI_ltI, nI_leI, nI_eq, pk_mul, pk_sub, u2_same, u2_row, u2_other, k1, e, olt_T, olt_F, ole_T, ole_F, oeq_T, oeq_F]
                exact o'
              · rw [List.getElem?_eq_none (by omega)] at hQ
                dsimp only at hQ
                have o' := o _ hQ
                simp (disch := first | assumption | rfl | exact zle_0 | exact zle_1 | exact zle_2 | exact zle_3 | exact zle_4 | exact zb_0 | exact zb_1 | exact zb01_B | omega) only [zT56_138, zr_iload_2, zT56_139, zr_aload_0, zT56_140, zr_gf_90, zT56_143, zr_icmp_ge, zT56_146, zT56_147, zr_gf_89, zr_or, zr_go, zf_133_89, zT56_150, zT56_151, zr_iald, zT56_152, zr_goto, zT56_155, zr_ic_m5, zT56_157, zr_ret0, zcl_i, zcl_r, zcl_l, zcl_n, zv_some, zv_none, Nat.reduceAdd, Nat.reduceMul, Nat.reduceSub, Nat.reduceLT, Nat.reduceLeDiff, Nat.reduceEqDiff, Int.reduceToNat, true_implies, false_implies, implies_true, and_true, true_and, not_true_eq_false, not_false_eq_true, Nat.zero_add, Nat.add_zero, nI_add, nI_ltI, nI_leI, nI_eq, pk_mul, pk_sub, u2_same, u2_row, u2_other, k1, olt_T, olt_F, ole_T, ole_F, oeq_T, oeq_F]
                exact o'
          have : ws 0 54 = 0 ∨ ws 0 54 = 1 := by omega
          rcases this with e | e
          · rw [e] at e54 rest
            simp (disch := first | assumption | rfl | exact zle_0 | exact zle_1 | exact zle_2 | exact zle_3 | exact zle_4 | exact zb_0 | exact zb_1 | exact zb01_B | omega) only [zT56_83, zr_iload_3, zT56_84, zr_if_ne, zT56_94, zr_aload_0, zT56_95, zr_ic_m1, zT56_96, zT56_97, zr_gf_71, zr_or, zr_go, zf_133_71, zT56_100, zr_ic_54, zT56_102, zr_iald, zT56_103, zr_ic_1, zT56_104, zr_icmp_ne, zT56_107, zT56_108, zr_goto, zT56_111, zr_ic_0, zT56_112, zr_iv_37, zcl_i, zcl_r, zcl_l, zcl_n, zv_some, zv_none, Nat.reduceAdd, Nat.reduceMul, Nat.reduceSub, Nat.reduceLT, Nat.reduceLeDiff, Nat.reduceEqDiff, Int.reduceToNat, true_implies, false_implies, implies_true, and_true, true_and, not_true_eq_false, not_false_eq_true, Nat.zero_add, Nat.add_zero, nI_add, nI_ltI, nI_leI, nI_eq, pk_mul, pk_sub, u2_same, u2_row, u2_other, e54, olt_T, olt_F, ole_T, ole_F, oeq_T, oeq_F]
            exact ym_gather hf h hg (by decide) hx6 (fun f1 g1 g2 g3 => rest f1 g1 g2 g3)
          · rw [e] at e54 rest
            simp (disch := first | assumption | rfl | exact zle_0 | exact zle_1 | exact zle_2 | exact zle_3 | exact zle_4 | exact zb_0 | exact zb_1 | exact zb01_B | omega) only [zT56_83, zr_iload_3, zT56_84, zr_if_ne, zT56_94, zr_aload_0, zT56_95, zr_ic_m1, zT56_96, zT56_97, zr_gf_71, zr_or, zr_go, zf_133_71, zT56_100, zr_ic_54, zT56_102, zr_iald, zT56_103, zr_ic_1, zT56_104, zr_icmp_ne, zT56_107, zT56_108, zr_goto, zT56_111, zr_ic_0, zT56_112, zr_iv_37, zcl_i, zcl_r, zcl_l, zcl_n, zv_some, zv_none, Nat.reduceAdd, Nat.reduceMul, Nat.reduceSub, Nat.reduceLT, Nat.reduceLeDiff, Nat.reduceEqDiff, Int.reduceToNat, true_implies, false_implies, implies_true, and_true, true_and, not_true_eq_false, not_false_eq_true, Nat.zero_add, Nat.add_zero, nI_add, nI_ltI, nI_leI, nI_eq, pk_mul, pk_sub, u2_same, u2_row, u2_other, e54, olt_T, olt_F, ole_T, ole_F, oeq_T, oeq_F]
            exact ym_gather hf h hg (by decide) hx6 (fun f1 g1 g2 g3 => rest f1 g1 g2 g3)
        · rw [if_pos rfl]
          rw [if_neg (fun q => by have := q.2.2.2; rw [c3] at this; exact absurd this (by decide))] at hQ
          have o := bad hQ
          rw [ex] at o
          exact o) (ws 0 13) 0 (Nat.zero_add _) rfl
      rw [← ex] at W
      simp (disch := first | assumption | rfl | exact zle_0 | exact zle_1 | exact zle_2 | exact zle_3 | exact zle_4 | exact zb_0 | exact zb_1 | exact zb01_B | omega) only [zT56_0, zr_iload_1, zT56_1, zr_i2l, zT56_2, zr_ldc2, zT56_3, zr_aload_0, zT56_4, zr_iv_48, zT56_7, zT56_8, zr_iv_2, zT56_11, zr_if_eq, zT56_14, zr_iload_2, zT56_15, zr_if_lt, zT56_18, zr_ic_1, zT56_19, zr_goto, zT56_22, zr_ic_0, zT56_23, zr_istore_3, zT56_24, zT56_25, zr_istore_4, zcl_i, zcl_r, zcl_l, zcl_n, zv_some, zv_none, Nat.reduceAdd, Nat.reduceMul, Nat.reduceSub, Nat.reduceLT, Nat.reduceLeDiff, Nat.reduceEqDiff, Int.reduceToNat, true_implies, false_implies, implies_true, and_true, true_and, not_true_eq_false, not_false_eq_true, Nat.zero_add, Nat.add_zero, nI_add, nI_ltI, nI_leI, nI_eq, pk_mul, pk_sub, u2_same, u2_row, u2_other, al, si, x64, l0, ali, cx', zt, n1, olt_T, olt_F, ole_T, ole_F, oeq_T, oeq_F]
      exact W
    · have n1 : (y < nI 0) = True := eq_true (by rw [Int32.lt_iff_toInt_lt, nI_toInt (by decide)]; omega)
      rw [if_neg (fun q => cy q.2.2.1)] at hQ
      have W := yw_0 (fl := fl) (Q := Q) hf hg.1.1 h.1.1 (bad hQ) (ws 0 13) 0 (Nat.zero_add _)
      simp (disch := first | assumption | rfl | exact zle_0 | exact zle_1 | exact zle_2 | exact zle_3 | exact zle_4 | exact zb_0 | exact zb_1 | exact zb01_B | omega) only [zT56_0, zr_iload_1, zT56_1, zr_i2l, zT56_2, zr_ldc2, zT56_3, zr_aload_0, zT56_4, zr_iv_48, zT56_7, zT56_8, zr_iv_2, zT56_11, zr_if_eq, zT56_14, zr_iload_2, zT56_15, zr_if_lt, zT56_18, zr_ic_1, zT56_19, zr_goto, zT56_22, zr_ic_0, zT56_23, zr_istore_3, zT56_24, zT56_25, zr_istore_4, zcl_i, zcl_r, zcl_l, zcl_n, zv_some, zv_none, Nat.reduceAdd, Nat.reduceMul, Nat.reduceSub, Nat.reduceLT, Nat.reduceLeDiff, Nat.reduceEqDiff, Int.reduceToNat, true_implies, false_implies, implies_true, and_true, true_and, not_true_eq_false, not_false_eq_true, Nat.zero_add, Nat.add_zero, nI_add, nI_ltI, nI_leI, nI_eq, pk_mul, pk_sub, u2_same, u2_row, u2_other, al, si, x64, l0, ali, dcd_T cx, zt, n1, olt_T, olt_F, ole_T, ole_F, oeq_T, oeq_F]
      exact W
  · rw [if_neg (fun q => cx ⟨q.1, by omega⟩)] at hQ
    have W := yw_0 (fl := fl) (Q := Q) hf hg.1.1 h.1.1 (bad hQ) (ws 0 13) 0 (Nat.zero_add _)
    simp (disch := first | assumption | rfl | exact zle_0 | exact zle_1 | exact zle_2 | exact zle_3 | exact zle_4 | exact zb_0 | exact zb_1 | exact zb01_B | omega) only [zT56_0, zr_iload_1, zT56_1, zr_i2l, zT56_2, zr_ldc2, zT56_3, zr_aload_0, zT56_4, zr_iv_48, zT56_7, zT56_8, zr_iv_2, zT56_11, zr_if_eq, zT56_14, zr_iload_2, zT56_15, zr_if_lt, zT56_18, zr_ic_1, zT56_19, zr_goto, zT56_22, zr_ic_0, zT56_23, zr_istore_3, zT56_24, zT56_25, zr_istore_4, zcl_i, zcl_r, zcl_l, zcl_n, zv_some, zv_none, Nat.reduceAdd, Nat.reduceMul, Nat.reduceSub, Nat.reduceLT, Nat.reduceLeDiff, Nat.reduceEqDiff, Int.reduceToNat, true_implies, false_implies, implies_true, and_true, true_and, not_true_eq_false, not_false_eq_true, Nat.zero_add, Nat.add_zero, nI_add, nI_ltI, nI_leI, nI_eq, pk_mul, pk_sub, u2_same, u2_row, u2_other, al, si, x64, l0, ali, dcd_F cx, zf, olt_T, olt_F, ole_T, ole_F, oeq_T, oeq_F]
    exact W
end
