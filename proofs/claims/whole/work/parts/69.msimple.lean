/-! simple calls of the model, on -/
section
variable {fi fi' : Nat → Nat → Int32} {fl fl' : Nat → Nat → Int64} {fr : Nat → Nat → Option Nat} {Q : Option Value → Mm → Prop} {w : Nat → Nat} {k : Nat} {M : Mm} {ws : Nat → Nat → Nat} {nn tx : Nat → Nat}
theorem sm_handsOf {kd b : Nat} (hk : kd ≤ 5) (hb : b ≤ 1) : TT 23 0 [some (.int (nI kd)), some (.int (nI b))] [] M Q = Q (some (.int (nI (a_kh kd b)))) M := by
  refine T_exact (fun Q hQ => ?_) Q
  obtain ⟨nx, fi, fl, fr⟩ := M
  have hb' : b = 0 ∨ b = 1 := by omega
  have t0 : z_tab 56 1 5 #[36, 38, 41, 43, 53] (nI 0) = some 56 := by decide +kernel
  have t1 : z_tab 56 1 5 #[36, 38, 41, 43, 53] (nI 1) = some 36 := by decide +kernel
  have t2 : z_tab 56 1 5 #[36, 38, 41, 43, 53] (nI 2) = some 38 := by decide +kernel
  have t3 : z_tab 56 1 5 #[36, 38, 41, 43, 53] (nI 3) = some 41 := by decide +kernel
  have t4 : z_tab 56 1 5 #[36, 38, 41, 43, 53] (nI 4) = some 43 := by decide +kernel
  have t5 : z_tab 56 1 5 #[36, 38, 41, 43, 53] (nI 5) = some 53 := by decide +kernel
  have : kd = 0 ∨ kd = 1 ∨ kd = 2 ∨ kd = 3 ∨ kd = 4 ∨ kd = 5 := by omega
  rcases hb' with rfl | rfl <;> rcases this with rfl | rfl | rfl | rfl | rfl | rfl
  all_goals
    simp (disch := first | assumption | rfl | exact zle_0 | exact zle_1 | exact zle_2 | exact zle_3 | exact zle_4 | exact zb_0 | exact zb_1 | exact zb01_B | omega) only [zT23_0, zr_iload_0, zT23_1, zr_tab, zr_or, zr_go, zT23_36, zr_ic_2, zT23_37, zr_ret0, zT23_38, zr_ic_9, zT23_40, zT23_41, zr_ic_3, zT23_42, zT23_43, zr_iload_1, zT23_44, zr_if_eq, zT23_47, zr_ic_0, zT23_48, zr_goto, zT23_51, zr_ic_1, zT23_52, zT23_53, zr_ic_12, zT23_55, zT23_56, zT23_57, zcl_i, zcl_r, zcl_l, zcl_n, zv_some, zv_none, Nat.reduceAdd, Nat.reduceMul, Nat.reduceSub, Nat.reduceLT, Nat.reduceLeDiff, Nat.reduceEqDiff, Int.reduceToNat, true_implies, false_implies, implies_true, and_true, true_and, not_true_eq_false, not_false_eq_true, Nat.zero_add, Nat.add_zero, nI_add, nI_ltI, nI_leI, nI_eq, pk_mul, pk_sub, u2_same, u2_row, u2_other, t0, t1, t2, t3, t4, t5, olt_T, olt_F, ole_T, ole_F, oeq_T, oeq_F]
    exact hQ
theorem sm_handsNow (hf : z_FR fr) (h : z_MR fi 0 w) (hw : a_WF w) {c : Nat} (hc : c < w 0) : TT 24 0 [some (.ref 133), some (.int (nI c))] [] (151, fi, fl, fr) Q = Q (some (.int (nI (a_hands w (w 54) c)))) (151, fi, fl, fr) := by
  refine T_exact (fun Q hQ => ?_) Q
  have o133 : z_ok 151 133 20 = true := rfl; have o134 : z_ok 151 134 1 = true := rfl
  have l134 : z_al 134 = 440 := rfl
  have h0 := hw.1
  have h54 := hw.2.2.2.2.2.1
  have kd := (hw.2.1 c hc).1
  have e54 := h.at0 (i := 54) (by decide)
  have ec := h.at0 (i := 1 + c) (by omega)
  have ho := fun M Q => sm_handsOf (M := M) (Q := Q) kd h54
  unfold a_hands at hQ
  rw [if_pos hc] at hQ
  have : w 54 = 0 ∨ w 54 = 1 := by omega
  rcases this with e | e
  · rw [e] at e54 ho hQ
    simp (disch := first | assumption | rfl | exact zle_0 | exact zle_1 | exact zle_2 | exact zle_3 | exact zle_4 | exact zb_0 | exact zb_1 | exact zb01_B | omega) only [zT24_0, zr_aload_0, zT24_1, zr_gf_71, zr_or, zr_go, zf_133_71, zT24_4, zr_ic_1, zT24_5, zr_iload_1, zT24_6, zr_iadd, zT24_7, zr_iald, zT24_8, zT24_9, zT24_12, zr_ic_54, zT24_14, zT24_15, zT24_16, zr_icmp_ne, zT24_19, zT24_20, zr_goto, zT24_23, zr_ic_0, zT24_24, zr_iv_23, zT24_27, zr_ret0, zcl_i, zcl_r, zcl_l, zcl_n, zv_some, zv_none, Nat.reduceAdd, Nat.reduceMul, Nat.reduceSub, Nat.reduceLT, Nat.reduceLeDiff, Nat.reduceEqDiff, Int.reduceToNat, true_implies, false_implies, implies_true, and_true, true_and, not_true_eq_false, not_false_eq_true, Nat.zero_add, Nat.add_zero, nI_add, nI_ltI, nI_leI, nI_eq, pk_mul, pk_sub, u2_same, u2_row, u2_other, ec, e54, ho, olt_T, olt_F, ole_T, ole_F, oeq_T, oeq_F]
    exact hQ
  · rw [e] at e54 ho hQ
    simp (disch := first | assumption | rfl | exact zle_0 | exact zle_1 | exact zle_2 | exact zle_3 | exact zle_4 | exact zb_0 | exact zb_1 | exact zb01_B | omega) only [zT24_0, zr_aload_0, zT24_1, zr_gf_71, zr_or, zr_go, zf_133_71, zT24_4, zr_ic_1, zT24_5, zr_iload_1, zT24_6, zr_iadd, zT24_7, zr_iald, zT24_8, zT24_9, zT24_12, zr_ic_54, zT24_14, zT24_15, zT24_16, zr_icmp_ne, zT24_19, zT24_20, zr_goto, zT24_23, zr_ic_0, zT24_24, zr_iv_23, zT24_27, zr_ret0, zcl_i, zcl_r, zcl_l, zcl_n, zv_some, zv_none, Nat.reduceAdd, Nat.reduceMul, Nat.reduceSub, Nat.reduceLT, Nat.reduceLeDiff, Nat.reduceEqDiff, Int.reduceToNat, true_implies, false_implies, implies_true, and_true, true_and, not_true_eq_false, not_false_eq_true, Nat.zero_add, Nat.add_zero, nI_add, nI_ltI, nI_leI, nI_eq, pk_mul, pk_sub, u2_same, u2_row, u2_other, ec, e54, ho, olt_T, olt_F, ole_T, ole_F, oeq_T, oeq_F]
    exact hQ
theorem sm_isCook (hf : z_FR fr) (h : z_MR fi 0 w) (h0 : w 0 ≤ 6) {x : Int32} : TT 21 0 [some (.ref 133), some (.int x)] [] (151, fi, fl, fr) Q = Q (some (.int (zB (decide (0 ≤ x.toInt ∧ x.toInt < w 0))))) (151, fi, fl, fr) := by
  refine T_exact (fun Q hQ => ?_) Q
  have o133 : z_ok 151 133 20 = true := rfl; have o134 : z_ok 151 134 1 = true := rfl
  have l134 : z_al 134 = 440 := rfl
  have e0 := h.at0 (i := 0) (by decide)
  have si := fun M Q v lo hi => sm_in (M := M) (Q := Q) (v := v) (lo := lo) (hi := hi)
  have s : (nI (w 0) - nI 1).toInt = (w 0 : Int) - (1 : Nat) := pk_sub_toInt (by omega) (by decide)
  have zt : zB true = nI 1 := rfl
  have zf : zB false = nI 0 := rfl
  by_cases c : 0 ≤ x.toInt ∧ x.toInt ≤ (w 0 : Int) - (1 : Nat)
  · have s2 : (nI (w 0 - 1)).toInt = (w 0 : Int) - (1 : Nat) := by rw [nI_toInt (by omega)]; omega
    rw [decide_eq_true (by omega)] at hQ
    simp (disch := first | assumption | rfl | exact zle_0 | exact zle_1 | exact zle_2 | exact zle_3 | exact zle_4 | exact zb_0 | exact zb_1 | exact zb01_B | omega) only [zT21_0, zr_iload_1, zT21_1, zr_i2l, zT21_2, zr_ldc2, zT21_3, zr_aload_0, zT21_4, zr_gf_71, zr_or, zr_go, zf_133_71, zT21_7, zr_ic_0, zT21_8, zr_iald, zT21_9, zr_ic_1, zT21_10, zr_isub, zT21_11, zT21_12, zr_iv_2, zT21_15, zr_ret1_0, zr_ret1_1, zr_ret1_B, zcl_i, zcl_r, zcl_l, zcl_n, zv_some, zv_none, Nat.reduceAdd, Nat.reduceMul, Nat.reduceSub, Nat.reduceLT, Nat.reduceLeDiff, Nat.reduceEqDiff, Int.reduceToNat, true_implies, false_implies, implies_true, and_true, true_and, not_true_eq_false, not_false_eq_true, Nat.zero_add, Nat.add_zero, nI_add, nI_ltI, nI_leI, nI_eq, pk_mul, pk_sub, u2_same, u2_row, u2_other, e0, si, x64, l0, s, s2, dcd_T c, olt_T, olt_F, ole_T, ole_F, oeq_T, oeq_F]
    exact hQ
  · rw [decide_eq_false (by omega)] at hQ
    simp (disch := first | assumption | rfl | exact zle_0 | exact zle_1 | exact zle_2 | exact zle_3 | exact zle_4 | exact zb_0 | exact zb_1 | exact zb01_B | omega) only [zT21_0, zr_iload_1, zT21_1, zr_i2l, zT21_2, zr_ldc2, zT21_3, zr_aload_0, zT21_4, zr_gf_71, zr_or, zr_go, zf_133_71, zT21_7, zr_ic_0, zT21_8, zr_iald, zT21_9, zr_ic_1, zT21_10, zr_isub, zT21_11, zT21_12, zr_iv_2, zT21_15, zr_ret1_0, zr_ret1_1, zr_ret1_B, zcl_i, zcl_r, zcl_l, zcl_n, zv_some, zv_none, Nat.reduceAdd, Nat.reduceMul, Nat.reduceSub, Nat.reduceLT, Nat.reduceLeDiff, Nat.reduceEqDiff, Int.reduceToNat, true_implies, false_implies, implies_true, and_true, true_and, not_true_eq_false, not_false_eq_true, Nat.zero_add, Nat.add_zero, nI_add, nI_ltI, nI_leI, nI_eq, pk_mul, pk_sub, u2_same, u2_row, u2_other, e0, si, x64, l0, s, dcd_F c, olt_T, olt_F, ole_T, ole_F, oeq_T, oeq_F]
    exact hQ
theorem sm_isDish (hf : z_FR fr) (h : z_MR fi 0 w) (h0 : w 13 ≤ 3) {x : Int32} : TT 22 0 [some (.ref 133), some (.int x)] [] (151, fi, fl, fr) Q = Q (some (.int (zB (decide (0 ≤ x.toInt ∧ x.toInt < w 13))))) (151, fi, fl, fr) := by
  refine T_exact (fun Q hQ => ?_) Q
  have o133 : z_ok 151 133 20 = true := rfl; have o134 : z_ok 151 134 1 = true := rfl
  have l134 : z_al 134 = 440 := rfl
  have e0 := h.at0 (i := 13) (by decide)
  have si := fun M Q v lo hi => sm_in (M := M) (Q := Q) (v := v) (lo := lo) (hi := hi)
  have s : (nI (w 13) - nI 1).toInt = (w 13 : Int) - (1 : Nat) := pk_sub_toInt (by omega) (by decide)
  have zt : zB true = nI 1 := rfl
  have zf : zB false = nI 0 := rfl
  by_cases c : 0 ≤ x.toInt ∧ x.toInt ≤ (w 13 : Int) - (1 : Nat)
  · have s2 : (nI (w 13 - 1)).toInt = (w 13 : Int) - (1 : Nat) := by rw [nI_toInt (by omega)]; omega
    rw [decide_eq_true (by omega)] at hQ
    simp (disch := first | assumption | rfl | exact zle_0 | exact zle_1 | exact zle_2 | exact zle_3 | exact zle_4 | exact zb_0 | exact zb_1 | exact zb01_B | omega) only [zT22_0, zr_iload_1, zT22_1, zr_i2l, zT22_2, zr_ldc2, zT22_3, zr_aload_0, zT22_4, zr_gf_71, zr_or, zr_go, zf_133_71, zT22_7, zr_ic_13, zT22_9, zr_iald, zT22_10, zr_ic_1, zT22_11, zr_isub, zT22_12, zT22_13, zr_iv_2, zT22_16, zr_ret1_0, zr_ret1_1, zr_ret1_B, zcl_i, zcl_r, zcl_l, zcl_n, zv_some, zv_none, Nat.reduceAdd, Nat.reduceMul, Nat.reduceSub, Nat.reduceLT, Nat.reduceLeDiff, Nat.reduceEqDiff, Int.reduceToNat, true_implies, false_implies, implies_true, and_true, true_and, not_true_eq_false, not_false_eq_true, Nat.zero_add, Nat.add_zero, nI_add, nI_ltI, nI_leI, nI_eq, pk_mul, pk_sub, u2_same, u2_row, u2_other, e0, si, x64, l0, s, s2, dcd_T c, olt_T, olt_F, ole_T, ole_F, oeq_T, oeq_F]
    exact hQ
  · rw [decide_eq_false (by omega)] at hQ
    simp (disch := first | assumption | rfl | exact zle_0 | exact zle_1 | exact zle_2 | exact zle_3 | exact zle_4 | exact zb_0 | exact zb_1 | exact zb01_B | omega) only [zT22_0, zr_iload_1, zT22_1, zr_i2l, zT22_2, zr_ldc2, zT22_3, zr_aload_0, zT22_4, zr_gf_71, zr_or, zr_go, zf_133_71, zT22_7, zr_ic_13, zT22_9, zr_iald, zT22_10, zr_ic_1, zT22_11, zr_isub, zT22_12, zT22_13, zr_iv_2, zT22_16, zr_ret1_0, zr_ret1_1, zr_ret1_B, zcl_i, zcl_r, zcl_l, zcl_n, zv_some, zv_none, Nat.reduceAdd, Nat.reduceMul, Nat.reduceSub, Nat.reduceLT, Nat.reduceLeDiff, Nat.reduceEqDiff, Int.reduceToNat, true_implies, false_implies, implies_true, and_true, true_and, not_true_eq_false, not_false_eq_true, Nat.zero_add, Nat.add_zero, nI_add, nI_ltI, nI_leI, nI_eq, pk_mul, pk_sub, u2_same, u2_row, u2_other, e0, si, x64, l0, s, dcd_F c, olt_T, olt_F, ole_T, ole_F, oeq_T, oeq_F]
    exact hQ
theorem kh_bits : ∀ kd, kd < 6 → ∀ b, b < 2 → ∀ y, y < 2 → (a_bit (a_kh kd b) y || a_bit (a_kh kd b) 2) = decide ((if y = 0 then a_kr kd b else a_kl kd b) = 1) := by decide +kernel
theorem kr_01 : ∀ kd, kd < 6 → ∀ b, b < 2 → ∀ y, y < 2 → (if y = 0 then a_kr kd b else a_kl kd b) < 2 := by decide +kernel
theorem ym_hands (hf : z_FR fr) (h : z_MS fi fl ws nn tx) (hg : z_G ws nn) {x y : Int32} (hQ : z_MQ fi fr Q (r_hands (ws 0) nn x y).1 ws (r_hands (ws 0) nn x y).2 tx) : TT 25 0 [some (.ref 133), some (.int x), some (.int y), none] [] (151, fi, fl, fr) Q := by
  have o133 : z_ok 151 133 20 = true := rfl
  have h0 := hg.1.1.1
  have h54 := hg.1.1.2.2.2.2.2.1
  have ic := fun Q => sm_isCook (fl := fl) (Q := Q) (x := x) hf h.1.1 h0
  have si := fun M Q v lo hi => sm_in (M := M) (Q := Q) (v := v) (lo := lo) (hi := hi)
  have l1 : (lN 1).toInt = 1 := by decide
  have td := fun fi a Q => sm_told (fi := fi) (fl := fl) (Q := Q) hf (a := a)
  unfold r_hands at hQ
  by_cases c1 : 0 ≤ x.toInt ∧ x.toInt < ws 0 0
  · rw [decide_eq_true c1] at ic
    by_cases c2 : 0 ≤ y.toInt ∧ y.toInt ≤ 1
    · rw [if_pos ⟨c1.1, c1.2, c2.1, c2.2⟩] at hQ
      obtain ⟨ex, lx⟩ := nI_ofInt c1.1
      obtain ⟨b, b2, rfl, eb⟩ := i3 (n := 1) c2
      have ey0 : ((nI b).toInt = 0) = (b = 0) := by rw [nI_toInt (by omega)]; apply propext; omega
      simp only [ey0] at hQ
      generalize hx : x.toInt.toNat = c at *
      have kd := (hg.1.1.2.1 c (by omega)).1
      have hn := fun Q => sm_handsNow (fl := fl) (Q := Q) hf h.1.1 hg.1.1 (show c < ws 0 0 by omega)
      rw [show a_hands (ws 0) (ws 0 54) c = a_kh (ws 0 (1 + c)) (ws 0 54) by unfold a_hands; rw [if_pos (by omega)]] at hn
      have kl : a_kh (ws 0 (1 + c)) (ws 0 54) < 2 ^ 31 := by unfold a_kh; (repeat' split) <;> decide
      have ha := fun M Q d hd => sm_has (M := M) (Q := Q) (d := d) kl hd
      have kb := kh_bits _ (show ws 0 (1 + c) < 6 by omega) _ (show ws 0 54 < 2 by omega) b (by omega)
      have k01 := kr_01 _ (show ws 0 (1 + c) < 6 by omega) _ (show ws 0 54 < 2 by omega) b (by omega)
      rw [ex] at ic ⊢
      generalize (if b = 0 then a_kr (ws 0 (1 + c)) (ws 0 54) else a_kl (ws 0 (1 + c)) (ws 0 54)) = ans at *
      generalize a_kh (ws 0 (1 + c)) (ws 0 54) = kk at *
      have hb := ha
      cases q1 : a_bit kk b
      · cases q2 : a_bit kk 2
        · rw [q1, q2] at kb
          have : ans = 0 := by have := of_decide_eq_false kb.symm; omega
          rw [this] at hQ
          simp (disch := first | assumption | rfl | exact zle_0 | exact zle_1 | exact zle_2 | exact zle_3 | exact zle_4 | exact zb_0 | exact zb_1 | exact zb01_B | omega) only [zT25_0, zr_aload_0, zT25_1, zr_iload_1, zT25_2, zr_iv_21, zT25_5, zr_if_eq, zT25_8, zr_iload_2, zT25_9, zr_i2l, zT25_10, zr_ldc2, zT25_11, zT25_12, zr_iv_2, zT25_15, zr_if_ne, zT25_18, zT25_19, zr_ic_m2, zT25_21, zr_iv_3, zT25_24, zr_ret0, zT25_25, zT25_26, zT25_27, zr_iv_24, zT25_30, zr_istore_3, zT25_31, zr_iload_3, zT25_32, zT25_33, zr_iv_5, zT25_36, zT25_39, zT25_40, zr_ic_2, zT25_41, zT25_44, zT25_47, zr_ic_1, zT25_48, zr_goto, zT25_51, zr_ic_0, zT25_52, zcl_i, zcl_r, zcl_l, zcl_n, zv_some, zv_none, Nat.reduceAdd, Nat.reduceMul, Nat.reduceSub, Nat.reduceLT, Nat.reduceLeDiff, Nat.reduceEqDiff, Int.reduceToNat, true_implies, false_implies, implies_true, and_true, true_and, not_true_eq_false, not_false_eq_true, Nat.zero_add, Nat.add_zero, nI_add, nI_ltI, nI_leI, nI_eq, pk_mul, pk_sub, u2_same, u2_row, u2_other, ic, si, x64, l0, l1, dcd_T c2, zB_eq0, reduceCtorEq, hn, ha, q1, q2, olt_T, olt_F, ole_T, ole_F, oeq_T, oeq_F]
          exact z_MQ.id_ h hQ
        · rw [q1, q2] at kb
          have : ans = 1 := of_decide_eq_true kb.symm
          rw [this] at hQ
          simp (disch := first | assumption | rfl | exact zle_0 | exact zle_1 | exact zle_2 | exact zle_3 | exact zle_4 | exact zb_0 | exact zb_1 | exact zb01_B | omega) only [zT25_0, zr_aload_0, zT25_1, zr_iload_1, zT25_2, zr_iv_21, zT25_5, zr_if_eq, zT25_8, zr_iload_2, zT25_9, zr_i2l, zT25_10, zr_ldc2, zT25_11, zT25_12, zr_iv_2, zT25_15, zr_if_ne, zT25_18, zT25_19, zr_ic_m2, zT25_21, zr_iv_3, zT25_24, zr_ret0, zT25_25, zT25_26, zT25_27, zr_iv_24, zT25_30, zr_istore_3, zT25_31, zr_iload_3, zT25_32, zT25_33, zr_iv_5, zT25_36, zT25_39, zT25_40, zr_ic_2, zT25_41, zT25_44, zT25_47, zr_ic_1, zT25_48, zr_goto, zT25_51, zr_ic_0, zT25_52, zcl_i, zcl_r, zcl_l, zcl_n, zv_some, zv_none, Nat.reduceAdd, Nat.reduceMul, Nat.reduceSub, Nat.reduceLT, Nat.reduceLeDiff, Nat.reduceEqDiff, Int.reduceToNat, true_implies, false_implies, implies_true, and_true, true_and, not_true_eq_false, not_false_eq_true, Nat.zero_add, Nat.add_zero, nI_add, nI_ltI, nI_leI, nI_eq, pk_mul, pk_sub, u2_same, u2_row, u2_other, ic, si, x64, l0, l1, dcd_T c2, zB_eq0, reduceCtorEq, hn, ha, q1, q2, olt_T, olt_F, ole_T, ole_F, oeq_T, oeq_F]
          exact z_MQ.id_ h hQ
      · rw [q1] at kb
        have : ans = 1 := of_decide_eq_true kb.symm
        rw [this] at hQ
        simp (disch := first | assumption | rfl | exact zle_0 | exact zle_1 | exact zle_2 | exact zle_3 | exact zle_4 | exact zb_0 | exact zb_1 | exact zb01_B | omega) only [zT25_0, zr_aload_0, zT25_1, zr_iload_1, zT25_2, zr_iv_21, zT25_5, zr_if_eq, zT25_8, zr_iload_2, zT25_9, zr_i2l, zT25_10, zr_ldc2, zT25_11, zT25_12, zr_iv_2, zT25_15, zr_if_ne, zT25_18, zT25_19, zr_ic_m2, zT25_21, zr_iv_3, zT25_24, zr_ret0, zT25_25, zT25_26, zT25_27, zr_iv_24, zT25_30, zr_istore_3, zT25_31, zr_iload_3, zT25_32, zT25_33, zr_iv_5, zT25_36, zT25_39, zT25_40, zr_ic_2, zT25_41, zT25_44, zT25_47, zr_ic_1, zT25_48, zr_goto, zT25_51, zr_ic_0, zT25_52, zcl_i, zcl_r, zcl_l, zcl_n, zv_some, zv_none, Nat.reduceAdd, Nat.reduceMul, Nat.reduceSub, Nat.reduceLT, Nat.reduceLeDiff, Nat.reduceEqDiff, Int.reduceToNat, true_implies, false_implies, implies_true, and_true, true_and, not_true_eq_false, not_false_eq_true, Nat.zero_add, Nat.add_zero, nI_add, nI_ltI, nI_leI, nI_eq, pk_mul, pk_sub, u2_same, u2_row, u2_other, ic, si, x64, l0, l1, dcd_T c2, zB_eq0, reduceCtorEq, hn, ha, q1, olt_T, olt_F, ole_T, ole_F, oeq_T, oeq_F]
        exact z_MQ.id_ h hQ
    · rw [if_neg (fun q => c2 ⟨q.2.2.1, q.2.2.2⟩)] at hQ
      have o := z_MQ.ref (Or.inl rfl) h hQ
      simp (disch := first | assumption | rfl | exact zle_0 | exact zle_1 | exact zle_2 | exact zle_3 | exact zle_4 | exact zb_0 | exact zb_1 | exact zb01_B | omega) only [zT25_0, zr_aload_0, zT25_1, zr_iload_1, zT25_2, zr_iv_21, zT25_5, zr_if_eq, zT25_8, zr_iload_2, zT25_9, zr_i2l, zT25_10, zr_ldc2, zT25_11, zT25_12, zr_iv_2, zT25_15, zr_if_ne, zT25_18, zT25_19, zr_ic_m2, zT25_21, zr_iv_3, zT25_24, zr_ret0, zT25_25, zT25_26, zT25_27, zr_iv_24, zT25_30, zr_istore_3, zT25_31, zr_iload_3, zT25_32, zT25_33, zr_iv_5, zT25_36, zT25_39, zT25_40, zr_ic_2, zT25_41, zT25_44, zT25_47, zr_ic_1, zT25_48, zr_goto, zT25_51, zr_ic_0, zT25_52, zcl_i, zcl_r, zcl_l, zcl_n, zv_some, zv_none, Nat.reduceAdd, Nat.reduceMul, Nat.reduceSub, Nat.reduceLT, Nat.reduceLeDiff, Nat.reduceEqDiff, Int.reduceToNat, true_implies, false_implies, implies_true, and_true, true_and, not_true_eq_false, not_false_eq_true, Nat.zero_add, Nat.add_zero, nI_add, nI_ltI, nI_leI, nI_eq, pk_mul, pk_sub, u2_same, u2_row, u2_other, ic, si, x64, l0, l1, dcd_F c2, zB_eq0, reduceCtorEq, td, olt_T, olt_F, ole_T, ole_F, oeq_T, oeq_F]
      exact o
  · rw [decide_eq_false c1] at ic
    rw [if_neg (fun q => c1 ⟨q.1, q.2.1⟩)] at hQ
    have o := z_MQ.ref (Or.inl rfl) h hQ
    simp (disch := first | assumption | rfl | exact zle_0 | exact zle_1 | exact zle_2 | exact zle_3 | exact zle_4 | exact zb_0 | exact zb_1 | exact zb01_B | omega) only [zT25_0, zr_aload_0, zT25_1, zr_iload_1, zT25_2, zr_iv_21, zT25_5, zr_if_eq, zT25_8, zr_iload_2, zT25_9, zr_i2l, zT25_10, zr_ldc2, zT25_11, zT25_12, zr_iv_2, zT25_15, zr_if_ne, zT25_18, zT25_19, zr_ic_m2, zT25_21, zr_iv_3, zT25_24, zr_ret0, zT25_25, zT25_26, zT25_27, zr_iv_24, zT25_30, zr_istore_3, zT25_31, zr_iload_3, zT25_32, zT25_33, zr_iv_5, zT25_36, zT25_39, zT25_40, zr_ic_2, zT25_41, zT25_44, zT25_47, zr_ic_1, zT25_48, zr_goto, zT25_51, zr_ic_0, zT25_52, zcl_i, zcl_r, zcl_l, zcl_n, zv_some, zv_none, Nat.reduceAdd, Nat.reduceMul, Nat.reduceSub, Nat.reduceLT, Nat.reduceLeDiff, Nat.reduceEqDiff, Int.reduceToNat, true_implies, false_implies, implies_true, and_true, true_and, not_true_eq_false, not_false_eq_true, Nat.zero_add, Nat.add_zero, nI_add, nI_ltI, nI_leI, nI_eq, pk_mul, pk_sub, u2_same, u2_row, u2_other, ic, zB_eq0, td, olt_T, olt_F, ole_T, ole_F, oeq_T, oeq_F]
    exact o
theorem ym_status (hf : z_FR fr) (h : z_MS fi fl ws nn tx) {x : Int32} (hQ : z_MQ fi fr Q (r_status nn x).1 ws (r_status nn x).2 tx) : TT 78 0 [some (.ref 133), some (.int x)] [] (151, fi, fl, fr) Q := by
  have o133 : z_ok 151 133 20 = true := rfl; have o137 : z_ok 151 137 1 = true := rfl
  have l137 : z_al 137 = 3 := rfl
  have si := fun M Q v lo hi => sm_in (M := M) (Q := Q) (v := v) (lo := lo) (hi := hi)
  have l2 : (lN 2).toInt = 2 := by decide
  obtain ⟨q3, q4, q5⟩ := h.2.1
  unfold r_status at hQ
  by_cases c : 0 ≤ x.toInt ∧ x.toInt ≤ 2
  · rw [if_pos c] at hQ
    obtain ⟨j, j2, rfl, ej⟩ := i3 (n := 2) c
    rw [ej] at hQ
    have e : fi 137 j = nI (nn (3 + j)) := by
      have : j = 0 ∨ j = 1 ∨ j = 2 := by omega
      rcases this with rfl | rfl | rfl
      · exact q3
      · exact q4
      · exact q5
    simp (disch := first | assumption | rfl | exact zle_0 | exact zle_1 | exact zle_2 | exact zle_3 | exact zle_4 | exact zb_0 | exact zb_1 | exact zb01_B | omega) only [zT78_0, zr_iload_1, zT78_1, zr_i2l, zT78_2, zr_ldc2, zT78_3, zT78_6, zr_iv_2, zT78_9, zr_if_ne, zT78_12, zr_aload_0, zT78_13, zr_gf_75, zr_or, zr_go, zf_133_75, zT78_16, zr_ic_0, zT78_17, zr_dup2, zT78_18, zr_iald, zT78_19, zr_ic_1, zT78_20, zr_iadd, zT78_21, zr_iast, zT78_22, zr_ic_m1, zT78_23, zr_ret0, zT78_24, zT78_25, zT78_28, zT78_29, zT78_30, zcl_i, zcl_r, zcl_l, zcl_n, zv_some, zv_none, Nat.reduceAdd, Nat.reduceMul, Nat.reduceSub, Nat.reduceLT, Nat.reduceLeDiff, Nat.reduceEqDiff, Int.reduceToNat, true_implies, false_implies, implies_true, and_true, true_and, not_true_eq_false, not_false_eq_true, Nat.zero_add, Nat.add_zero, nI_add, nI_ltI, nI_leI, nI_eq, pk_mul, pk_sub, u2_same, u2_row, u2_other, si, x64, l0, l2, dcd_T c, zB_eq0, reduceCtorEq, e, olt_T, olt_F, ole_T, ole_F, oeq_T, oeq_F]
    exact z_MQ.id_ h hQ
  · rw [if_neg c] at hQ
    have m2 : mt fi (nM 2) = u2 fi 137 0 (fi 137 0 + nI 1) := by unfold mt; rw [if_pos rfl]
    have o2 : rf nn 2 = o_note (nM 2) nn := by unfold o_note; rw [if_pos rfl]; rfl
    rw [o2] at hQ
    have o := hQ _ _ (h.mt (nM 2)) (fun j hj => mt_ne (by omega))
    rw [m2] at o
    simp (disch := first | assumption | rfl | exact zle_0 | exact zle_1 | exact zle_2 | exact zle_3 | exact zle_4 | exact zb_0 | exact zb_1 | exact zb01_B | omega) only [zT78_0, zr_iload_1, zT78_1, zr_i2l, zT78_2, zr_ldc2, zT78_3, zT78_6, zr_iv_2, zT78_9, zr_if_ne, zT78_12, zr_aload_0, zT78_13, zr_gf_75, zr_or, zr_go, zf_133_75, zT78_16, zr_ic_0, zT78_17, zr_dup2, zT78_18, zr_iald, zT78_19, zr_ic_1, zT78_20, zr_iadd, zT78_21, zr_iast, zT78_22, zr_ic_m1, zT78_23, zr_ret0, zT78_24, zT78_25, zT78_28, zT78_29, zT78_30, zcl_i, zcl_r, zcl_l, zcl_n, zv_some, zv_none, Nat.reduceAdd, Nat.reduceMul, Nat.reduceSub, Nat.reduceLT, Nat.reduceLeDiff, Nat.reduceEqDiff, Int.reduceToNat, true_implies, false_implies, implies_true, and_true, true_and, not_true_eq_false, not_false_eq_true, Nat.zero_add, Nat.add_zero, nI_add, nI_ltI, nI_leI, nI_eq, pk_mul, pk_sub, u2_same, u2_row, u2_other, si, x64, l0, l2, dcd_F c, zB_eq0, olt_T, olt_F, ole_T, ole_F, oeq_T, oeq_F]
    exact o
theorem ym_countOf (hf : z_FR fr) (h : z_MS fi fl ws nn tx) {i : Nat} (hi : i ≤ 4) : TT 79 0 [some (.ref 133), some (.int (nI i))] [] (151, fi, fl, fr) Q = Q (some (.int (nI (a_ct (ws 0) nn i)))) (151, fi, fl, fr) := by
  refine T_exact (fun Q hQ => ?_) Q
  have o133 : z_ok 151 133 20 = true := rfl; have o134 : z_ok 151 134 1 = true := rfl
  have l134 : z_al 134 = 440 := rfl
  have r := fun i hi => h.1.1.at0 (i := i) hi
  have e0 := r 0 (by decide)
  have e13 := r 13 (by decide)
  have e53 := r 53 (by decide)
  have e58 := r 58 (by decide)
  have ln := h.2.2.1.2.1
  have : i = 0 ∨ i = 1 ∨ i = 2 ∨ i = 3 ∨ i = 4 := by omega
  rcases this with rfl | rfl | rfl | rfl | rfl
  all_goals
    simp (disch := first | assumption | rfl | exact zle_0 | exact zle_1 | exact zle_2 | exact zle_3 | exact zle_4 | exact zb_0 | exact zb_1 | exact zb01_B | omega) only [zT79_0, zr_iload_1, zT79_1, zr_if_ne, zT79_4, zr_aload_0, zT79_5, zr_gf_71, zr_or, zr_go, zf_133_71, zT79_8, zr_ic_0, zT79_9, zr_iald, zT79_10, zr_goto, zT79_13, zT79_14, zr_ic_1, zT79_15, zr_icmp_ne, zT79_18, zT79_19, zT79_22, zr_ic_13, zT79_24, zT79_25, zT79_28, zT79_29, zr_ic_2, zT79_30, zT79_33, zT79_34, zT79_37, zr_ic_53, zT79_39, zT79_40, zT79_43, zT79_44, zr_ic_3, zT79_45, zT79_48, zT79_49, zT79_52, zr_ic_58, zT79_54, zT79_55, zT79_58, zT79_59, zr_gf_74, zT79_62, zr_ret0, zcl_i, zcl_r, zcl_l, zcl_n, zv_some, zv_none, Nat.reduceAdd, Nat.reduceMul, Nat.reduceSub, Nat.reduceLT, Nat.reduceLeDiff, Nat.reduceEqDiff, Int.reduceToNat, true_implies, false_implies, implies_true, and_true, true_and, not_true_eq_false, not_false_eq_true, Nat.zero_add, Nat.add_zero, nI_add, nI_ltI, nI_leI, nI_eq, pk_mul, pk_sub, u2_same, u2_row, u2_other, e0, e13, e53, e58, ln, olt_T, olt_F, ole_T, ole_F, oeq_T, oeq_F]
    exact hQ
theorem ym_count (hf : z_FR fr) (h : z_MS fi fl ws nn tx) {x : Int32} (hQ : z_MQ fi fr Q (r_count (ws 0) nn x).1 ws (r_count (ws 0) nn x).2 tx) : TT 80 0 [some (.ref 133), some (.int x)] [] (151, fi, fl, fr) Q := by
  have o133 : z_ok 151 133 20 = true := rfl
  have si := fun M Q v lo hi => sm_in (M := M) (Q := Q) (v := v) (lo := lo) (hi := hi)
  have l4 : (lN 4).toInt = 4 := by decide
  have td := fun fi a Q => sm_told (fi := fi) (fl := fl) (Q := Q) hf (a := a)
  unfold r_count at hQ
  by_cases c : 0 ≤ x.toInt ∧ x.toInt ≤ 4
  · rw [if_pos c] at hQ
    obtain ⟨j, j2, rfl, ej⟩ := i3 (n := 4) c
    rw [ej] at hQ
    have ct := fun Q => ym_countOf (fl := fl) (Q := Q) hf h j2
    simp (disch := first | assumption | rfl | exact zle_0 | exact zle_1 | exact zle_2 | exact zle_3 | exact zle_4 | exact zb_0 | exact zb_1 | exact zb01_B | omega) only [zT80_0, zr_iload_1, zT80_1, zr_i2l, zT80_2, zr_ldc2, zT80_3, zT80_6, zr_iv_2, zT80_9, zr_if_eq, zT80_12, zr_aload_0, zT80_13, zT80_14, zr_iv_79, zT80_17, zr_goto, zT80_20, zT80_21, zr_ic_m2, zT80_23, zr_iv_3, zT80_26, zr_ret0, zcl_i, zcl_r, zcl_l, zcl_n, zv_some, zv_none, Nat.reduceAdd, Nat.reduceMul, Nat.reduceSub, Nat.reduceLT, Nat.reduceLeDiff, Nat.reduceEqDiff, Int.reduceToNat, true_implies, false_implies, implies_true, and_true, true_and, not_true_eq_false, not_false_eq_true, Nat.zero_add, Nat.add_zero, nI_add, nI_ltI, nI_leI, nI_eq, pk_mul, pk_sub, u2_same, u2_row, u2_other, si, x64, l0, l4, dcd_T c, zB_eq0, reduceCtorEq, ct, olt_T, olt_F, ole_T, ole_F, oeq_T, oeq_F]
    exact z_MQ.id_ h hQ
  · rw [if_neg c] at hQ
    have o := z_MQ.ref (Or.inl rfl) h hQ
    simp (disch := first | assumption | rfl | exact zle_0 | exact zle_1 | exact zle_2 | exact zle_3 | exact zle_4 | exact zb_0 | exact zb_1 | exact zb01_B | omega) only [zT80_0, zr_iload_1, zT80_1, zr_i2l, zT80_2, zr_ldc2, zT80_3, zT80_6, zr_iv_2, zT80_9, zr_if_eq, zT80_12, zr_aload_0, zT80_13, zT80_14, zr_iv_79, zT80_17, zr_goto, zT80_20, zT80_21, zr_ic_m2, zT80_23, zr_iv_3, zT80_26, zr_ret0, zcl_i, zcl_r, zcl_l, zcl_n, zv_some, zv_none, Nat.reduceAdd, Nat.reduceMul, Nat.reduceSub, Nat.reduceLT, Nat.reduceLeDiff, Nat.reduceEqDiff, Int.reduceToNat, true_implies, false_implies, implies_true, and_true, true_and, not_true_eq_false, not_false_eq_true, Nat.zero_add, Nat.add_zero, nI_add, nI_ltI, nI_leI, nI_eq, pk_mul, pk_sub, u2_same, u2_row, u2_other, si, x64, l0, l4, dcd_F c, zB_eq0, td, olt_T, olt_F, ole_T, ole_F, oeq_T, oeq_F]
    exact o
theorem a_len_0 {v : Nat} : (0 < a_len v) = (v ≠ 0) := by
  unfold a_len
  by_cases c : v = 0
  · rw [if_pos c]; exact propext ⟨fun h => absurd h (by decide), fun h => absurd c h⟩
  · rw [if_neg c]; exact propext ⟨fun _ => c, fun _ => Nat.succ_pos _⟩
theorem ym_signOf (hf : z_FR fr) (h : z_MS fi fl ws nn tx) {i : Nat} (hi : i ≤ 2) : TT 73 0 [some (.ref 133), some (.int (nI i))] [] (151, fi, fl, fr) Q = Q (some (.int (nI (a_sg nn i)))) (151, fi, fl, fr) := by
  refine T_exact (fun Q hQ => ?_) Q
  have o133 : z_ok 151 133 20 = true := rfl
  obtain ⟨-, -, -, hA, hB⟩ := h
  have eA := hA.1
  have eB := hB.1
  have A8 := a_len_8 hA.2.1
  have a0 := a_len_0 (v := nn 6)
  have : i = 0 ∨ i = 1 ∨ i = 2 := by omega
  rcases this with rfl | rfl | rfl
  · unfold a_sg at hQ
    rw [if_pos rfl] at hQ
    by_cases c : nn 6 = 0
    · rw [if_pos c] at hQ
      have z : a_len (nn 6) = 0 := by
        rcases Nat.eq_zero_or_pos (a_len (nn 6)) with q | q
        · exact q
        · exact absurd c (Eq.mp a0 q)
      rw [z] at eA
      simp (disch := first | assumption | rfl | exact zle_0 | exact zle_1 | exact zle_2 | exact zle_3 | exact zle_4 | exact zb_0 | exact zb_1 | exact zb01_B | omega) only [zT73_0, zr_iload_1, zT73_1, zr_if_ne, zT73_4, zr_aload_0, zT73_5, zr_gf_97, zT73_8, zr_if_le, zT73_11, zr_ic_1, zT73_12, zr_goto, zT73_15, zr_ic_0, zT73_16, zT73_19, zT73_20, zT73_21, zr_icmp_ne, zT73_24, zT73_25, zT73_28, zT73_31, zT73_32, zr_gf_99, zT73_35, zr_ret0, zcl_i, zcl_r, zcl_l, zcl_n, zv_some, zv_none, Nat.reduceAdd, Nat.reduceMul, Nat.reduceSub, Nat.reduceLT, Nat.reduceLeDiff, Nat.reduceEqDiff, Int.reduceToNat, true_implies, false_implies, implies_true, and_true, true_and, not_true_eq_false, not_false_eq_true, Nat.zero_add, Nat.add_zero, nI_add, nI_ltI, nI_leI, nI_eq, pk_mul, pk_sub, u2_same, u2_row, u2_other, eA, olt_T, olt_F, ole_T, ole_F, oeq_T, oeq_F]
      exact hQ
    · rw [if_neg c] at hQ
      have z : 0 < a_len (nn 6) := by rw [a0]; exact c
      simp (disch := first | assumption | rfl | exact zle_0 | exact zle_1 | exact zle_2 | exact zle_3 | exact zle_4 | exact zb_0 | exact zb_1 | exact zb01_B | omega) only [zT73_0, zr_iload_1, zT73_1, zr_if_ne, zT73_4, zr_aload_0, zT73_5, zr_gf_97, zT73_8, zr_if_le, zT73_11, zr_ic_1, zT73_12, zr_goto, zT73_15, zr_ic_0, zT73_16, zT73_19, zT73_20, zT73_21, zr_icmp_ne, zT73_24, zT73_25, zT73_28, zT73_31, zT73_32, zr_gf_99, zT73_35, zr_ret0, zcl_i, zcl_r, zcl_l, zcl_n, zv_some, zv_none, Nat.reduceAdd, Nat.reduceMul, Nat.reduceSub, Nat.reduceLT, Nat.reduceLeDiff, Nat.reduceEqDiff, Int.reduceToNat, true_implies, false_implies, implies_true, and_true, true_and, not_true_eq_false, not_false_eq_true, Nat.zero_add, Nat.add_zero, nI_add, nI_ltI, nI_leI, nI_eq, pk_mul, pk_sub, u2_same, u2_row, u2_other, eA, olt_T, olt_F, ole_T, ole_F, oeq_T, oeq_F]
      exact hQ
  · simp (disch := first | assumption | rfl | exact zle_0 | exact zle_1 | exact zle_2 | exact zle_3 | exact zle_4 | exact zb_0 | exact zb_1 | exact zb01_B | omega) only [zT73_0, zr_iload_1, zT73_1, zr_if_ne, zT73_4, zr_aload_0, zT73_5, zr_gf_97, zT73_8, zr_if_le, zT73_11, zr_ic_1, zT73_12, zr_goto, zT73_15, zr_ic_0, zT73_16, zT73_19, zT73_20, zT73_21, zr_icmp_ne, zT73_24, zT73_25, zT73_28, zT73_31, zT73_32, zr_gf_99, zT73_35, zr_ret0, zcl_i, zcl_r, zcl_l, zcl_n, zv_some, zv_none, Nat.reduceAdd, Nat.reduceMul, Nat.reduceSub, Nat.reduceLT, Nat.reduceLeDiff, Nat.reduceEqDiff, Int.reduceToNat, true_implies, false_implies, implies_true, and_true, true_and, not_true_eq_false, not_false_eq_true, Nat.zero_add, Nat.add_zero, nI_add, nI_ltI, nI_leI, nI_eq, pk_mul, pk_sub, u2_same, u2_row, u2_other, eA, olt_T, olt_F, ole_T, ole_F, oeq_T, oeq_F]
    exact hQ
  · simp (disch := first | assumption | rfl | exact zle_0 | exact zle_1 | exact zle_2 | exact zle_3 | exact zle_4 | exact zb_0 | exact zb_1 | exact zb01_B | omega) only [zT73_0, zr_iload_1, zT73_1, zr_if_ne, zT73_4, zr_aload_0, zT73_5, zr_gf_97, zT73_8, zr_if_le, zT73_11, zr_ic_1, zT73_12, zr_goto, zT73_15, zr_ic_0, zT73_16, zT73_19, zT73_20, zT73_21, zr_icmp_ne, zT73_24, zT73_25, zT73_28, zT73_31, zT73_32, zr_gf_99, zT73_35, zr_ret0, zcl_i, zcl_r, zcl_l, zcl_n, zv_some, zv_none, Nat.reduceAdd, Nat.reduceMul, Nat.reduceSub, Nat.reduceLT, Nat.reduceLeDiff, Nat.reduceEqDiff, Int.reduceToNat, true_implies, false_implies, implies_true, and_true, true_and, not_true_eq_false, not_false_eq_true, Nat.zero_add, Nat.add_zero, nI_add, nI_ltI, nI_leI, nI_eq, pk_mul, pk_sub, u2_same, u2_row, u2_other, eB, olt_T, olt_F, ole_T, ole_F, oeq_T, oeq_F]
    exact hQ
theorem ym_sign (hf : z_FR fr) (h : z_MS fi fl ws nn tx) {x : Int32} (hQ : z_MQ fi fr Q (r_sign nn x).1 ws (r_sign nn x).2 tx) : TT 74 0 [some (.ref 133), some (.int x)] [] (151, fi, fl, fr) Q := by
  have o133 : z_ok 151 133 20 = true := rfl
  have si := fun M Q v lo hi => sm_in (M := M) (Q := Q) (v := v) (lo := lo) (hi := hi)
  have l2 : (lN 2).toInt = 2 := by decide
  have td := fun fi a Q => sm_told (fi := fi) (fl := fl) (Q := Q) hf (a := a)
  unfold r_sign at hQ
  by_cases c : 0 ≤ x.toInt ∧ x.toInt ≤ 2
  · rw [if_pos c] at hQ
    obtain ⟨j, j2, rfl, ej⟩ := i3 (n := 2) c
    rw [ej] at hQ
    have ct := fun Q => ym_signOf (fl := fl) (Q := Q) hf h j2
    simp (disch := first | assumption | rfl | exact zle_0 | exact zle_1 | exact zle_2 | exact zle_3 | exact zle_4 | exact zb_0 | exact zb_1 | exact zb01_B | omega) only [zT74_0, zr_iload_1, zT74_1, zr_i2l, zT74_2, zr_ldc2, zT74_3, zT74_6, zr_iv_2, zT74_9, zr_if_eq, zT74_12, zr_aload_0, zT74_13, zT74_14, zr_iv_73, zT74_17, zr_goto, zT74_20, zT74_21, zr_ic_m2, zT74_23, zr_iv_3, zT74_26, zr_ret0, zcl_i, zcl_r, zcl_l, zcl_n, zv_some, zv_none, Nat.reduceAdd, Nat.reduceMul, Nat.reduceSub, Nat.reduceLT, Nat.reduceLeDiff, Nat.reduceEqDiff, Int.reduceToNat, true_implies, false_implies, implies_true, and_true, true_and, not_true_eq_false, not_false_eq_true, Nat.zero_add, Nat.add_zero, nI_add, nI_ltI, nI_leI, nI_eq, pk_mul, pk_sub, u2_same, u2_row, u2_other, si, x64, l0, l2, dcd_T c, zB_eq0, reduceCtorEq, ct, olt_T, olt_F, ole_T, ole_F, oeq_T, oeq_F]
    exact z_MQ.id_ h hQ
  · rw [if_neg c] at hQ
    have o := z_MQ.ref (Or.inl rfl) h hQ
    simp (disch := first | assumption | rfl | exact zle_0 | exact zle_1 | exact zle_2 | exact zle_3 | exact zle_4 | exact zb_0 | exact zb_1 | exact zb01_B | omega) only [zT74_0, zr_iload_1, zT74_1, zr_i2l, zT74_2, zr_ldc2, zT74_3, zT74_6, zr_iv_2, zT74_9, zr_if_eq, zT74_12, zr_aload_0, zT74_13, zT74_14, zr_iv_73, zT74_17, zr_goto, zT74_20, zT74_21, zr_ic_m2, zT74_23, zr_iv_3, zT74_26, zr_ret0, zcl_i, zcl_r, zcl_l, zcl_n, zv_some, zv_none, Nat.reduceAdd, Nat.reduceMul, Nat.reduceSub, Nat.reduceLT, Nat.reduceLeDiff, Nat.reduceEqDiff, Int.reduceToNat, true_implies, false_implies, implies_true, and_true, true_and, not_true_eq_false, not_false_eq_true, Nat.zero_add, Nat.add_zero, nI_add, nI_ltI, nI_leI, nI_eq, pk_mul, pk_sub, u2_same, u2_row, u2_other, si, x64, l0, l2, dcd_F c, zB_eq0, td, olt_T, olt_F, ole_T, ole_F, oeq_T, oeq_F]
    exact o
theorem ym_limb (hf : z_FR fr) (h : z_MS fi fl ws nn tx) {x y : Int32} (hQ : z_MQ fi fr Q (r_limb nn x y).1 ws (r_limb nn x y).2 tx) : TT 75 0 [some (.ref 133), some (.int x), some (.int y)] [] (151, fi, fl, fr) Q := by
  have o133 : z_ok 151 133 20 = true := rfl; have o149 : z_ok 151 149 3 = true := rfl; have o150 : z_ok 151 150 3 = true := rfl
  have l149 : z_al 149 = 10 := rfl; have l150 : z_al 150 = 10 := rfl
  have si := fun M Q v lo hi => sm_in (M := M) (Q := Q) (v := v) (lo := lo) (hi := hi)
  have l1 : (lN 1).toInt = 1 := by decide
  have td := fun fi a Q => sm_told (fi := fi) (fl := fl) (Q := Q) hf (a := a)
  obtain ⟨-, -, -, hA, hB⟩ := id h
  have eA := hA.1
  have eB := hB.1
  have A8 := a_len_8 hA.2.1
  have B8 := a_len_8 hB.2.1
  unfold r_limb at hQ
  by_cases c : 0 ≤ x.toInt ∧ x.toInt ≤ 1
  · by_cases c2 : 0 ≤ y.toInt
    · rw [if_pos ⟨c.1, c.2, c2⟩] at hQ
      obtain ⟨j, j2, rfl, ej⟩ := i3 (n := 1) c
      obtain ⟨ey, ly⟩ := nI_ofInt c2
      rw [ej] at hQ
      generalize hy : y.toInt.toNat = b at *
      rw [ey]
      unfold a_lb at hQ
      have : j = 0 ∨ j = 1 := by omega
      rcases this with rfl | rfl
      · by_cases q : b < a_len (nn 6)
        · have d := hA.2.2 b q
          rw [show nn (6 + 0) = nn 6 from rfl, if_pos q] at hQ
          simp (disch := first | assumption | rfl | exact zle_0 | exact zle_1 | exact zle_2 | exact zle_3 | exact zle_4 | exact zb_0 | exact zb_1 | exact zb01_B | omega) only [zT75_0, zr_iload_1, zT75_1, zr_i2l, zT75_2, zr_ldc2, zT75_3, zT75_4, zr_iv_2, zT75_7, zr_if_eq, zT75_10, zr_iload_2, zT75_11, zr_if_ge, zT75_14, zr_aload_0, zT75_15, zr_ic_m2, zT75_17, zr_iv_3, zT75_20, zr_ret0, zT75_21, zT75_22, zT75_23, zr_if_ne, zT75_26, zT75_27, zr_gf_97, zT75_30, zr_goto, zT75_33, zT75_34, zr_gf_99, zT75_37, zr_icmp_lt, zT75_40, zr_ic_m1, zT75_41, zT75_44, zT75_45, zT75_48, zT75_49, zr_gf_96, zr_or, zr_go, zf_133_96, zT75_52, zT75_53, zr_lald, zT75_54, zT75_57, zT75_58, zr_gf_98, zf_133_98, zT75_61, zT75_62, zT75_63, zr_l2i, zT75_64, zcl_i, zcl_r, zcl_l, zcl_n, zv_some, zv_none, Nat.reduceAdd, Nat.reduceMul, Nat.reduceSub, Nat.reduceLT, Nat.reduceLeDiff, Nat.reduceEqDiff, Int.reduceToNat, true_implies, false_implies, implies_true, and_true, true_and, not_true_eq_false, not_false_eq_true, Nat.zero_add, Nat.add_zero, nI_add, nI_ltI, nI_leI, nI_eq, pk_mul, pk_sub, u2_same, u2_row, u2_other, si, x64, l0, l1, dcd_T c, zB_eq0, reduceCtorEq, eA, eB, d, lN_i, olt_T, olt_F, ole_T, ole_F, oeq_T, oeq_F]
          exact z_MQ.id_ h hQ
        · rw [show nn (6 + 0) = nn 6 from rfl, if_neg q] at hQ
          simp (disch := first | assumption | rfl | exact zle_0 | exact zle_1 | exact zle_2 | exact zle_3 | exact zle_4 | exact zb_0 | exact zb_1 | exact zb01_B | omega) only [zT75_0, zr_iload_1, zT75_1, zr_i2l, zT75_2, zr_ldc2, zT75_3, zT75_4, zr_iv_2, zT75_7, zr_if_eq, zT75_10, zr_iload_2, zT75_11, zr_if_ge, zT75_14, zr_aload_0, zT75_15, zr_ic_m2, zT75_17, zr_iv_3, zT75_20, zr_ret0, zT75_21, zT75_22, zT75_23, zr_if_ne, zT75_26, zT75_27, zr_gf_97, zT75_30, zr_goto, zT75_33, zT75_34, zr_gf_99, zT75_37, zr_icmp_lt, zT75_40, zr_ic_m1, zT75_41, zT75_44, zT75_45, zT75_48, zT75_49, zr_gf_96, zr_or, zr_go, zf_133_96, zT75_52, zT75_53, zr_lald, zT75_54, zT75_57, zT75_58, zr_gf_98, zf_133_98, zT75_61, zT75_62, zT75_63, zr_l2i, zT75_64, zcl_i, zcl_r, zcl_l, zcl_n, zv_some, zv_none, Nat.reduceAdd, Nat.reduceMul, Nat.reduceSub, Nat.reduceLT, Nat.reduceLeDiff, Nat.reduceEqDiff, Int.reduceToNat, true_implies, false_implies, implies_true, and_true, true_and, not_true_eq_false, not_false_eq_true, Nat.zero_add, Nat.add_zero, nI_add, nI_ltI, nI_leI, nI_eq, pk_mul, pk_sub, u2_same, u2_row, u2_other, si, x64, l0, l1, dcd_T c, zB_eq0, reduceCtorEq, eA, eB, olt_T, olt_F, ole_T, ole_F, oeq_T, oeq_F]
          exact z_MQ.id_ h hQ
      · by_cases q : b < a_len (nn 7)
        · have d := hB.2.2 b q
          rw [show nn (6 + 1) = nn 7 from rfl, if_pos q] at hQ
          simp (disch := first | assumption | rfl | exact zle_0 | exact zle_1 | exact zle_2 | exact zle_3 | exact zle_4 | exact zb_0 | exact zb_1 | exact zb01_B | omega) only [zT75_0, zr_iload_1, zT75_1, zr_i2l, zT75_2, zr_ldc2, zT75_3, zT75_4, zr_iv_2, zT75_7, zr_if_eq, zT75_10, zr_iload_2, zT75_11, zr_if_ge, zT75_14, zr_aload_0, zT75_15, zr_ic_m2, zT75_17, zr_iv_3, zT75_20, zr_ret0, zT75_21, zT75_22, zT75_23, zr_if_ne, zT75_26, zT75_27, zr_gf_97, zT75_30, zr_goto, zT75_33, zT75_34, zr_gf_99, zT75_37, zr_icmp_lt, zT75_40, zr_ic_m1, zT75_41, zT75_44, zT75_45, zT75_48, zT75_49, zr_gf_96, zr_or, zr_go, zf_133_96, zT75_52, zT75_53, zr_lald, zT75_54, zT75_57, zT75_58, zr_gf_98, zf_133_98, zT75_61, zT75_62, zT75_63, zr_l2i, zT75_64, zcl_i, zcl_r, zcl_l, zcl_n, zv_some, zv_none, Nat.reduceAdd, Nat.reduceMul, Nat.reduceSub, Nat.reduceLT, Nat.reduceLeDiff, Nat.reduceEqDiff, Int.reduceToNat, true_implies, false_implies, implies_true, and_true, true_and, not_true_eq_false, not_false_eq_true, Nat.zero_add, Nat.add_zero, nI_add, nI_ltI, nI_leI, nI_eq, pk_mul, pk_sub, u2_same, u2_row, u2_other, si, x64, l0, l1, dcd_T c, zB_eq0, reduceCtorEq, eA, eB, d, lN_i, olt_T, olt_F, ole_T, ole_F, oeq_T, oeq_F]
          exact z_MQ.id_ h hQ
        · rw [show nn (6 + 1) = nn 7 from rfl, if_neg q] at hQ
          simp (disch := first | assumption | rfl | exact zle_0 | exact zle_1 | exact zle_2 | exact zle_3 | exact zle_4 | exact zb_0 | exact zb_1 | exact zb01_B | omega) only [zT75_0, zr_iload_1, zT75_1, zr_i2l, zT75_2, zr_ldc2, zT75_3, zT75_4, zr_iv_2, zT75_7, zr_if_eq, zT75_10, zr_iload_2, zT75_11, zr_if_ge, zT75_14, zr_aload_0, zT75_15, zr_ic_m2, zT75_17, zr_iv_3, zT75_20, zr_ret0, zT75_21, zT75_22, zT75_23, zr_if_ne, zT75_26, zT75_27, zr_gf_97, zT75_30, zr_goto, zT75_33, zT75_34, zr_gf_99, zT75_37, zr_icmp_lt, zT75_40, zr_ic_m1, zT75_41, zT75_44, zT75_45, zT75_48, zT75_49, zr_gf_96, zr_or, zr_go, zf_133_96, zT75_52, zT75_53, zr_lald, zT75_54, zT75_57, zT75_58, zr_gf_98, zf_133_98, zT75_61, zT75_62, zT75_63, zr_l2i, zT75_64, zcl_i, zcl_r, zcl_l, zcl_n, zv_some, zv_none, Nat.reduceAdd, Nat.reduceMul, Nat.reduceSub, Nat.reduceLT, Nat.reduceLeDiff, Nat.reduceEqDiff, Int.reduceToNat, true_implies, false_implies, implies_true, and_true, true_and, not_true_eq_false, not_false_eq_true, Nat.zero_add, Nat.add_zero, nI_add, nI_ltI, nI_leI, nI_eq, pk_mul, pk_sub, u2_same, u2_row, u2_other, si, x64, l0, l1, dcd_T c, zB_eq0, reduceCtorEq, eA, eB, olt_T, olt_F, ole_T, ole_F, oeq_T, oeq_F]
          exact z_MQ.id_ h hQ
    · rw [if_neg (fun q => c2 q.2.2)] at hQ
      have o := z_MQ.ref (Or.inl rfl) h hQ
      have n1 : (nI 0 ≤ y) = False := eq_false (by rw [Int32.le_iff_toInt_le, nI_toInt (by decide)]; omega)
      simp (disch := first | assumption | rfl | exact zle_0 | exact zle_1 | exact zle_2 | exact zle_3 | exact zle_4 | exact zb_0 | exact zb_1 | exact zb01_B | omega) only [zT75_0, zr_iload_1, zT75_1, zr_i2l, zT75_2, zr_ldc2, zT75_3, zT75_4, zr_iv_2, zT75_7, zr_if_eq, zT75_10, zr_iload_2, zT75_11, zr_if_ge, zT75_14, zr_aload_0, zT75_15, zr_ic_m2, zT75_17, zr_iv_3, zT75_20, zr_ret0, zT75_21, zT75_22, zT75_23, zr_if_ne, zT75_26, zT75_27, zr_gf_97, zT75_30, zr_goto, zT75_33, zT75_34, zr_gf_99, zT75_37, zr_icmp_lt, zT75_40, zr_ic_m1, zT75_41, zT75_44, zT75_45, zT75_48, zT75_49, zr_gf_96, zr_or, zr_go, zf_133_96, zT75_52, zT75_53, zr_lald, zT75_54, zT75_57, zT75_58, zr_gf_98, zf_133_98, zT75_61, zT75_62, zT75_63, zr_l2i, zT75_64, zcl_i, zcl_r, zcl_l, zcl_n, zv_some, zv_none, Nat.reduceAdd, Nat.reduceMul, Nat.reduceSub, Nat.reduceLT, Nat.reduceLeDiff, Nat.reduceEqDiff, Int.reduceToNat, true_implies, false_implies, implies_true, and_true, true_and, not_true_eq_false, not_false_eq_true, Nat.zero_add, Nat.add_zero, nI_add, nI_ltI, nI_leI, nI_eq, pk_mul, pk_sub, u2_same, u2_row, u2_other, si, x64, l0, l1, dcd_T c, zB_eq0, reduceCtorEq, n1, td, olt_T, olt_F, ole_T, ole_F, oeq_T, oeq_F]
      exact o
  · rw [if_neg (fun q => c ⟨q.1, q.2.1⟩)] at hQ
    have o := z_MQ.ref (Or.inl rfl) h hQ
    simp (disch := first | assumption | rfl | exact zle_0 | exact zle_1 | exact zle_2 | exact zle_3 | exact zle_4 | exact zb_0 | exact zb_1 | exact zb01_B | omega) only [zT75_0, zr_iload_1, zT75_1, zr_i2l, zT75_2, zr_ldc2, zT75_3, zT75_4, zr_iv_2, zT75_7, zr_if_eq, zT75_10, zr_iload_2, zT75_11, zr_if_ge, zT75_14, zr_aload_0, zT75_15, zr_ic_m2, zT75_17, zr_iv_3, zT75_20, zr_ret0, zT75_21, zT75_22, zT75_23, zr_if_ne, zT75_26, zT75_27, zr_gf_97, zT75_30, zr_goto, zT75_33, zT75_34, zr_gf_99, zT75_37, zr_icmp_lt, zT75_40, zr_ic_m1, zT75_41, zT75_44, zT75_45, zT75_48, zT75_49, zr_gf_96, zr_or, zr_go, zf_133_96, zT75_52, zT75_53, zr_lald, zT75_54, zT75_57, zT75_58, zr_gf_98, zf_133_98, zT75_61, zT75_62, zT75_63, zr_l2i, zT75_64, zcl_i, zcl_r, zcl_l, zcl_n, zv_some, zv_none, Nat.reduceAdd, Nat.reduceMul, Nat.reduceSub, Nat.reduceLT, Nat.reduceLeDiff, Nat.reduceEqDiff, Int.reduceToNat, true_implies, false_implies, implies_true, and_true, true_and, not_true_eq_false, not_false_eq_true, Nat.zero_add, Nat.add_zero, nI_add, nI_ltI, nI_leI, nI_eq, pk_mul, pk_sub, u2_same, u2_row, u2_other, si, x64, l0, l1, dcd_F c, zB_eq0, td, olt_T, olt_F, ole_T, ole_F, oeq_T, oeq_F]
    exact o
theorem ym_clear (hf : z_FR fr) (h : z_MS fi fl ws nn tx) (hQ : z_MQ fi fr Q (nI (nn 2)) ws (uh nn 2 0) tx) : TT 27 0 [some (.ref 133), none] [] (151, fi, fl, fr) Q := by
  have o133 : z_ok 151 133 20 = true := rfl
  have ln := h.2.2.1.2.1
  simp (disch := first | assumption | rfl | exact zle_0 | exact zle_1 | exact zle_2 | exact zle_3 | exact zle_4 | exact zb_0 | exact zb_1 | exact zb01_B | omega) only [zT27_0, zr_aload_0, zT27_1, zr_gf_74, zT27_4, zr_istore_1, zT27_5, zT27_6, zr_ic_0, zT27_7, zr_pf_74, zT27_10, zr_iload_1, zT27_11, zr_ret0, zcl_i, zcl_r, zcl_l, zcl_n, zv_some, zv_none, Nat.reduceAdd, Nat.reduceMul, Nat.reduceSub, Nat.reduceLT, Nat.reduceLeDiff, Nat.reduceEqDiff, Int.reduceToNat, true_implies, false_implies, implies_true, and_true, true_and, not_true_eq_false, not_false_eq_true, Nat.zero_add, Nat.add_zero, nI_add, nI_ltI, nI_leI, nI_eq, pk_mul, pk_sub, u2_same, u2_row, u2_other, ln, olt_T, olt_F, ole_T, ole_F, oeq_T, oeq_F]
  obtain ⟨hk, hc, ht, hA, hB⟩ := h
  refine hQ _ _ ⟨?_, ?_, ⟨?_, ?_, ?_⟩, ?_, ?_⟩ (fun j hj => u2_ne (by omega))
  · have := hk.frame (fi' := u2 fi 133 74 (nI 0)) (u2_ne (by decide)) (u2_ne (by decide))
    unfold z_MK at *
    rw [uh_ne (by decide), uh_ne (by decide)]
    exact this
  · unfold z_MC at *
    rw [u2_ne (by decide), uh_ne (by decide), uh_ne (by decide), uh_ne (by decide)]
    exact hc
  · rw [uh_same]; decide
  · rw [u2_same, uh_same]
  · rw [uh_same]
    intro i hi
    exact absurd hi (Nat.not_lt_zero _)
  · unfold z_ML at *
    rw [u2_row (by decide), uh_ne (by decide)]
    exact hA
  · unfold z_ML at *
    rw [u2_row (by decide), uh_ne (by decide)]
    exact hB
end
