/-! the model's burns and letGo -/
section
variable {fi fi' : Nat → Nat → Int32} {fl fl' : Nat → Nat → Int64} {fr : Nat → Nat → Option Nat} {Q : Option Value → Mm → Prop} {w : Nat → Nat} {k : Nat} {M : Mm} {ws : Nat → Nat → Nat} {nn tx : Nat → Nat} {n : Nat}
theorem ym_burns (hf : z_FR fr) (h : z_MS fi fl ws nn tx) (hg : z_G ws nn) {x : Int32} (hQ : z_MQ fi fr Q (r_burns ws nn x).1 ws (r_burns ws nn x).2 tx) : TT 65 0 [some (.ref 133), some (.int x), none] [] (151, fi, fl, fr) Q := by
  have o133 : z_ok 151 133 20 = true := rfl
  have td := fun fi a Q => sm_told (fi := fi) (fl := fl) (Q := Q) hf (a := a)
  have si := fun M Q v lo hi => sm_in (M := M) (Q := Q) (v := v) (lo := lo) (hi := hi)
  have l20 : (lN 20).toInt = 20 := by decide
  have n45 : a_nw (ws 0) ≤ 45 ∨ a_nw (ws 0) = 100 := a_FW_45 hg.1.1
  unfold r_burns at hQ
  by_cases c : 0 ≤ x.toInt ∧ x.toInt ≤ 20
  · rw [if_pos c] at hQ
    obtain ⟨j, j2, rfl, ej⟩ := i3 (n := 20) c
    rw [ej] at hQ
    simp (disch := first | assumption | rfl | exact zle_0 | exact zle_1 | exact zle_2 | exact zle_3 | exact zle_4 | exact zb_0 | exact zb_1 | exact zb01_B | omega) only [zT65_0, zr_iload_1, zT65_1, zr_i2l, zT65_2, zr_ldc2, zT65_3, zT65_6, zr_iv_2, zT65_9, zr_if_ne, zT65_12, zr_aload_0, zT65_13, zr_ic_m2, zT65_15, zr_iv_3, zT65_18, zr_ret0, zT65_19, zT65_20, zr_iv_49, zcl_i, zcl_r, zcl_l, zcl_n, zv_some, zv_none, Nat.reduceAdd, Nat.reduceMul, Nat.reduceSub, Nat.reduceLT, Nat.reduceLeDiff, Nat.reduceEqDiff, Int.reduceToNat, true_implies, false_implies, implies_true, and_true, true_and, not_true_eq_false, not_false_eq_true, Nat.zero_add, Nat.add_zero, nI_add, nI_ltI, nI_leI, nI_eq, pk_mul, pk_sub, u2_same, u2_row, u2_other, si, x64, l0, l20, dcd_T c, zB_eq0, reduceCtorEq, olt_T, olt_F, ole_T, ole_F, oeq_T, oeq_F]
    refine ym_findNow hf h hg (fun f1 g1 g2 g3 g4 => ?_)
    by_cases c0 : a_nw (ws 0) = 100
    · rw [if_pos c0] at hQ
      rw [iF_100 c0]
      have o := z_MQ.ref (fi := f1) (Or.inr (Or.inl rfl)) g1 (fun f' l' q1 q2 => hQ f' l' q1 (fun i hi => by rw [q2 i hi, g4.2 i (by omega)]))
      simp (disch := first | assumption | rfl | exact zle_0 | exact zle_1 | exact zle_2 | exact zle_3 | exact zle_4 | exact zb_0 | exact zb_1 | exact zb01_B | omega) only [zT65_23, zr_istore_2, zT65_24, zr_iload_2, zT65_25, zr_ic_m1, zT65_26, zr_icmp_ne, zT65_29, zr_aload_0, zT65_30, zr_ic_m3, zT65_32, zr_iv_3, zT65_35, zr_ret0, zcl_i, zcl_r, zcl_l, zcl_n, zv_some, zv_none, Nat.reduceAdd, Nat.reduceMul, Nat.reduceSub, Nat.reduceLT, Nat.reduceLeDiff, Nat.reduceEqDiff, Int.reduceToNat, true_implies, false_implies, implies_true, and_true, true_and, not_true_eq_false, not_false_eq_true, Nat.zero_add, Nat.add_zero, nI_add, nI_ltI, nI_leI, nI_eq, pk_mul, pk_sub, u2_same, u2_row, u2_other, td, olt_T, olt_F, ole_T, ole_F, oeq_T, oeq_F]
      exact o
    · rw [if_neg c0] at hQ
      rw [iF_n c0]
      dsimp only at hQ
      have c0' : (nI (a_nw (ws 0)) = nM 1) = False := nM_eqI (by decide) (by decide) (by omega)
      simp (disch := first | assumption | rfl | exact zle_0 | exact zle_1 | exact zle_2 | exact zle_3 | exact zle_4 | exact zb_0 | exact zb_1 | exact zb01_B | omega) only [zT65_23, zr_istore_2, zT65_24, zr_iload_2, zT65_25, zr_ic_m1, zT65_26, zr_icmp_ne, zT65_29, zr_aload_0, zT65_30, zr_ic_m3, zT65_32, zr_iv_3, zT65_35, zr_ret0, zT65_36, zT65_37, zT65_38, zT65_39, zr_ic_0, zT65_40, zr_ldc2, zT65_41, zr_iv_64, zcl_i, zcl_r, zcl_l, zcl_n, zv_some, zv_none, Nat.reduceAdd, Nat.reduceMul, Nat.reduceSub, Nat.reduceLT, Nat.reduceLeDiff, Nat.reduceEqDiff, Int.reduceToNat, true_implies, false_implies, implies_true, and_true, true_and, not_true_eq_false, not_false_eq_true, Nat.zero_add, Nat.add_zero, nI_add, nI_ltI, nI_leI, nI_eq, pk_mul, pk_sub, u2_same, u2_row, u2_other, c0', olt_T, olt_F, ole_T, ole_F, oeq_T, oeq_F]
      refine ym_go hf g1 hg g2 c0 (Or.inl ⟨rfl, rfl⟩) (w20 := 0) (sd := 0) (by decide) (by decide) (fun f2 k1 k2 k3 => ?_)
      have e := k3.1
      have s45 := a_shr_le hg.1.1 c0
      have ps : nI 20 - nI j = nI (20 - j) := pk_sub (a := 20) (b := j) j2
      simp (disch := first | assumption | rfl | exact zle_0 | exact zle_1 | exact zle_2 | exact zle_3 | exact zle_4 | exact zb_0 | exact zb_1 | exact zb01_B | omega) only [zT65_44, zr_aload_0, zT65_45, zr_ic_20, zT65_47, zr_iload_1, zT65_48, zr_isub, zT65_49, zT65_51, zT65_52, zr_gf_100, zT65_55, zr_iv_63, zcl_i, zcl_r, zcl_l, zcl_n, zv_some, zv_none, Nat.reduceAdd, Nat.reduceMul, Nat.reduceSub, Nat.reduceLT, Nat.reduceLeDiff, Nat.reduceEqDiff, Int.reduceToNat, true_implies, false_implies, implies_true, and_true, true_and, not_true_eq_false, not_false_eq_true, Nat.zero_add, Nat.add_zero, nI_add, nI_ltI, nI_leI, nI_eq, pk_mul, pk_sub, u2_same, u2_row, u2_other, e, ps, olt_T, olt_F, ole_T, ole_F, oeq_T, oeq_F]
      refine sm_share hf (a := 20 - j) (b := 20) (n := a_shr (ws 0)) (by omega) (by decide) (by decide) (by omega) (fun i hi => ⟨pow_20 (Nat.le_trans (Nat.div_le_self _ _) (by omega)) (by omega), pow_20 (Nat.le_trans (Nat.div_le_self _ _) (by omega)) (by omega)⟩) (fun f3 l3 q1 q2 q3 q4 => ?_)
      simp (disch := first | assumption | rfl | exact zle_0 | exact zle_1 | exact zle_2 | exact zle_3 | exact zle_4 | exact zb_0 | exact zb_1 | exact zb01_B | omega) only [zT65_58, zr_ret0, zcl_i, zcl_r, zcl_l, zcl_n, zv_some, zv_none, Nat.reduceAdd, Nat.reduceMul, Nat.reduceSub, Nat.reduceLT, Nat.reduceLeDiff, Nat.reduceEqDiff, Int.reduceToNat, true_implies, false_implies, implies_true, and_true, true_and, not_true_eq_false, not_false_eq_true, Nat.zero_add, Nat.add_zero, nI_add, nI_ltI, nI_leI, nI_eq, pk_mul, pk_sub, u2_same, u2_row, u2_other, olt_T, olt_F, ole_T, ole_F, oeq_T, oeq_F]
      exact hQ f3 l3 (k1.frac q1 q2 q3 q4) (fun i hi => by rw [q4 i (by omega)]; exact (g4.tr k2).2 i (by omega))
  · rw [if_neg c] at hQ
    have o := z_MQ.ref (Or.inl rfl) h hQ
    simp (disch := first | assumption | rfl | exact zle_0 | exact zle_1 | exact zle_2 | exact zle_3 | exact zle_4 | exact zb_0 | exact zb_1 | exact zb01_B | omega) only [zT65_0, zr_iload_1, zT65_1, zr_i2l, zT65_2, zr_ldc2, zT65_3, zT65_6, zr_iv_2, zT65_9, zr_if_ne, zT65_12, zr_aload_0, zT65_13, zr_ic_m2, zT65_15, zr_iv_3, zT65_18, zr_ret0, zcl_i, zcl_r, zcl_l, zcl_n, zv_some, zv_none, Nat.reduceAdd, Nat.reduceMul, Nat.reduceSub, Nat.reduceLT, Nat.reduceLeDiff, Nat.reduceEqDiff, Int.reduceToNat, true_implies, false_implies, implies_true, and_true, true_and, not_true_eq_false, not_false_eq_true, Nat.zero_add, Nat.add_zero, nI_add, nI_ltI, nI_leI, nI_eq, pk_mul, pk_sub, u2_same, u2_row, u2_other, si, x64, l0, l20, dcd_F c, zB_eq0, td, olt_T, olt_F, ole_T, ole_F, oeq_T, oeq_F]
    exact o
theorem ym_letGo (hf : z_FR fr) (h : z_MS fi fl ws nn tx) (hg : z_G ws nn) {x : Int32} (hQ : z_MQ fi fr Q (r_letGo ws nn x).1 ws (r_letGo ws nn x).2 tx) : TT 67 0 [some (.ref 133), some (.int x), none] [] (151, fi, fl, fr) Q := by
  have o133 : z_ok 151 133 20 = true := rfl
  have td := fun fi a Q => sm_told (fi := fi) (fl := fl) (Q := Q) hf (a := a)
  have ic := fun Q => sm_isCook (fl := fl) (Q := Q) (x := x) hf h.1.1 hg.1.1.1
  have n45 : a_nw (ws 0) ≤ 45 ∨ a_nw (ws 0) = 100 := a_FW_45 hg.1.1
  have h0 := hg.1.1.1
  unfold r_letGo at hQ
  by_cases c : 0 ≤ x.toInt ∧ x.toInt < ws 0 0
  · rw [if_pos c] at hQ
    rw [decide_eq_true c] at ic
    obtain ⟨ex, lx⟩ := nI_ofInt c.1
    have x6 : x.toInt.toNat < 6 := by omega
    generalize hx : x.toInt.toNat = j at *
    rw [ex] at ic ⊢
    simp (disch := first | assumption | rfl | exact zle_0 | exact zle_1 | exact zle_2 | exact zle_3 | exact zle_4 | exact zb_0 | exact zb_1 | exact zb01_B | omega) only [zT67_0, zr_aload_0, zT67_1, zr_iload_1, zT67_2, zr_iv_21, zT67_5, zr_if_ne, zT67_8, zT67_9, zr_ic_m2, zT67_11, zr_iv_3, zT67_14, zr_ret0, zT67_15, zT67_16, zr_iv_49, zcl_i, zcl_r, zcl_l, zcl_n, zv_some, zv_none, Nat.reduceAdd, Nat.reduceMul, Nat.reduceSub, Nat.reduceLT, Nat.reduceLeDiff, Nat.reduceEqDiff, Int.reduceToNat, true_implies, false_implies, implies_true, and_true, true_and, not_true_eq_false, not_false_eq_true, Nat.zero_add, Nat.add_zero, nI_add, nI_ltI, nI_leI, nI_eq, pk_mul, pk_sub, u2_same, u2_row, u2_other, ic, zB_eq0, reduceCtorEq, olt_T, olt_F, ole_T, ole_F, oeq_T, oeq_F]
    refine ym_findNow hf h hg (fun f1 g1 g2 g3 g4 => ?_)
    by_cases c0 : a_nw (ws 0) = 100
    · rw [if_pos c0] at hQ
      rw [iF_100 c0]
      have o := z_MQ.ref (fi := f1) (Or.inr (Or.inl rfl)) g1 (fun f' l' q1 q2 => hQ f' l' q1 (fun i hi => by rw [q2 i hi, g4.2 i (by omega)]))
      simp (disch := first | assumption | rfl | exact zle_0 | exact zle_1 | exact zle_2 | exact zle_3 | exact zle_4 | exact zb_0 | exact zb_1 | exact zb01_B | omega) only [zT67_19, zr_istore_2, zT67_20, zr_iload_2, zT67_21, zr_ic_m1, zT67_22, zr_icmp_ne, zT67_25, zr_aload_0, zT67_26, zr_ic_m3, zT67_28, zr_iv_3, zT67_31, zr_ret0, zcl_i, zcl_r, zcl_l, zcl_n, zv_some, zv_none, Nat.reduceAdd, Nat.reduceMul, Nat.reduceSub, Nat.reduceLT, Nat.reduceLeDiff, Nat.reduceEqDiff, Int.reduceToNat, true_implies, false_implies, implies_true, and_true, true_and, not_true_eq_false, not_false_eq_true, Nat.zero_add, Nat.add_zero, nI_add, nI_ltI, nI_leI, nI_eq, pk_mul, pk_sub, u2_same, u2_row, u2_other, td, olt_T, olt_F, ole_T, ole_F, oeq_T, oeq_F]
      exact o
    · rw [if_neg c0] at hQ
      rw [iF_n c0]
      dsimp only at hQ
      have c0' : (nI (a_nw (ws 0)) = nM 1) = False := nM_eqI (by decide) (by decide) (by omega)
      simp (disch := first | assumption | rfl | exact zle_0 | exact zle_1 | exact zle_2 | exact zle_3 | exact zle_4 | exact zb_0 | exact zb_1 | exact zb01_B | omega) only [zT67_19, zr_istore_2, zT67_20, zr_iload_2, zT67_21, zr_ic_m1, zT67_22, zr_icmp_ne, zT67_25, zr_aload_0, zT67_26, zr_ic_m3, zT67_28, zr_iv_3, zT67_31, zr_ret0, zT67_32, zT67_33, zT67_34, zr_iload_1, zT67_35, zr_ic_0, zT67_36, zr_ldc2, zT67_37, zr_iv_64, zcl_i, zcl_r, zcl_l, zcl_n, zv_some, zv_none, Nat.reduceAdd, Nat.reduceMul, Nat.reduceSub, Nat.reduceLT, Nat.reduceLeDiff, Nat.reduceEqDiff, Int.reduceToNat, true_implies, false_implies, implies_true, and_true, true_and, not_true_eq_false, not_false_eq_true, Nat.zero_add, Nat.add_zero, nI_add, nI_ltI, nI_leI, nI_eq, pk_mul, pk_sub, u2_same, u2_row, u2_other, c0', olt_T, olt_F, ole_T, ole_F, oeq_T, oeq_F]
      refine ym_go hf g1 hg g2 c0 (Or.inr ⟨j, x6, rfl, rfl⟩) (w20 := 0) (sd := 0) (by decide) (by decide) (fun f2 k1 k2 k3 => ?_)
      have e := k3.1
      have e1 := k3.2.1
      rw [show cN (shB (a_tmN (ws 0)) j) (a_nw (ws 0)) 0 = a_shb (ws 0) j from rfl] at e1
      have s45 := a_shr_le hg.1.1 c0
      have b45 := a_shb_le (w := ws 0) (c := j)
      have back : ∀ (f3 : Nat → Nat → Int32), (∀ j, j ≠ 133 → f3 j = f2 j) → ∀ i, i < 133 → f3 i = fi i := fun f3 q4 i hi => by rw [q4 i (by omega)]; exact (g4.tr k2).2 i (by omega)
      by_cases cz : a_shr (ws 0) = 0
      · rw [if_pos cz] at hQ
        rw [cz] at e
        have : a_shb (ws 0) j = 0 := by omega
        rw [this] at e1
        simp (disch := first | assumption | rfl | exact zle_0 | exact zle_1 | exact zle_2 | exact zle_3 | exact zle_4 | exact zb_0 | exact zb_1 | exact zb01_B | omega) only [zT67_40, zr_aload_0, zT67_41, zT67_42, zr_gf_101, zT67_45, zT67_46, zr_gf_100, zT67_49, zr_if_ne, zT67_52, zr_ic_1, zT67_53, zr_goto, zT67_56, zT67_57, zT67_60, zT67_61, zr_iv_63, zcl_i, zcl_r, zcl_l, zcl_n, zv_some, zv_none, Nat.reduceAdd, Nat.reduceMul, Nat.reduceSub, Nat.reduceLT, Nat.reduceLeDiff, Nat.reduceEqDiff, Int.reduceToNat, true_implies, false_implies, implies_true, and_true, true_and, not_true_eq_false, not_false_eq_true, Nat.zero_add, Nat.add_zero, nI_add, nI_ltI, nI_leI, nI_eq, pk_mul, pk_sub, u2_same, u2_row, u2_other, e, e1, olt_T, olt_F, ole_T, ole_F, oeq_T, oeq_F]
        refine sm_share hf (a := 0) (b := 1) (n := 1) (by decide) (by decide) (by decide) (by decide) (fun i hi => ⟨pow_1 (Nat.le_trans (Nat.div_le_self _ _) (by omega)) hi, pow_1 (Nat.le_trans (Nat.div_le_self _ _) (by omega)) hi⟩) (fun f3 l3 q1 q2 q3 q4 => ?_)
        simp (disch := first | assumption | rfl | exact zle_0 | exact zle_1 | exact zle_2 | exact zle_3 | exact zle_4 | exact zb_0 | exact zb_1 | exact zb01_B | omega) only [zT67_64, zr_ret0, zcl_i, zcl_r, zcl_l, zcl_n, zv_some, zv_none, Nat.reduceAdd, Nat.reduceMul, Nat.reduceSub, Nat.reduceLT, Nat.reduceLeDiff, Nat.reduceEqDiff, Int.reduceToNat, true_implies, false_implies, implies_true, and_true, true_and, not_true_eq_false, not_false_eq_true, Nat.zero_add, Nat.add_zero, nI_add, nI_ltI, nI_leI, nI_eq, pk_mul, pk_sub, u2_same, u2_row, u2_other, olt_T, olt_F, ole_T, ole_F, oeq_T, oeq_F]
        exact hQ f3 l3 (k1.frac q1 q2 q3 q4) (back f3 q4)
      · rw [if_neg cz] at hQ
        have nz : (nI (a_shr (ws 0)) = nI 0) = False := by rw [nI_eq (by omega) (by decide)]; exact eq_false cz
        simp (disch := first | assumption | rfl | exact zle_0 | exact zle_1 | exact zle_2 | exact zle_3 | exact zle_4 | exact zb_0 | exact zb_1 | exact zb01_B | omega) only [zT67_40, zr_aload_0, zT67_41, zT67_42, zr_gf_101, zT67_45, zT67_46, zr_gf_100, zT67_49, zr_if_ne, zT67_52, zr_ic_1, zT67_53, zr_goto, zT67_56, zT67_57, zT67_60, zT67_61, zr_iv_63, zcl_i, zcl_r, zcl_l, zcl_n, zv_some, zv_none, Nat.reduceAdd, Nat.reduceMul, Nat.reduceSub, Nat.reduceLT, Nat.reduceLeDiff, Nat.reduceEqDiff, Int.reduceToNat, true_implies, false_implies, implies_true, and_true, true_and, not_true_eq_false, not_false_eq_true, Nat.zero_add, Nat.add_zero, nI_add, nI_ltI, nI_leI, nI_eq, pk_mul, pk_sub, u2_same, u2_row, u2_other, e, e1, nz, olt_T, olt_F, ole_T, ole_F, oeq_T, oeq_F]
        refine sm_share hf (a := a_shb (ws 0) j) (b := a_shr (ws 0)) (n := 1) (by omega) (by omega) (by omega) (by decide) (fun i hi => ⟨pow_1 (Nat.le_trans (Nat.div_le_self _ _) (by omega)) hi, pow_1 (Nat.le_trans (Nat.div_le_self _ _) (by omega)) hi⟩) (fun f3 l3 q1 q2 q3 q4 => ?_)
        simp (disch := first | assumption | rfl | exact zle_0 | exact zle_1 | exact zle_2 | exact zle_3 | exact zle_4 | exact zb_0 | exact zb_1 | exact zb01_B | omega) only [zT67_64, zr_ret0, zcl_i, zcl_r, zcl_l, zcl_n, zv_some, zv_none, Nat.reduceAdd, Nat.reduceMul, Nat.reduceSub, Nat.reduceLT, Nat.reduceLeDiff, Nat.reduceEqDiff, Int.reduceToNat, true_implies, false_implies, implies_true, and_true, true_and, not_true_eq_false, not_false_eq_true, Nat.zero_add, Nat.add_zero, nI_add, nI_ltI, nI_leI, nI_eq, pk_mul, pk_sub, u2_same, u2_row, u2_other, olt_T, olt_F, ole_T, ole_F, oeq_T, oeq_F]
        exact hQ f3 l3 (k1.frac q1 q2 q3 q4) (back f3 q4)
  · rw [if_neg c] at hQ
    rw [decide_eq_false c] at ic
    have o := z_MQ.ref (Or.inl rfl) h hQ
    simp (disch := first | assumption | rfl | exact zle_0 | exact zle_1 | exact zle_2 | exact zle_3 | exact zle_4 | exact zb_0 | exact zb_1 | exact zb01_B | omega) only [zT67_0, zr_aload_0, zT67_1, zr_iload_1, zT67_2, zr_iv_21, zT67_5, zr_if_ne, zT67_8, zT67_9, zr_ic_m2, zT67_11, zr_iv_3, zT67_14, zr_ret0, zcl_i, zcl_r, zcl_l, zcl_n, zv_some, zv_none, Nat.reduceAdd, Nat.reduceMul, Nat.reduceSub, Nat.reduceLT, Nat.reduceLeDiff, Nat.reduceEqDiff, Int.reduceToNat, true_implies, false_implies, implies_true, and_true, true_and, not_true_eq_false, not_false_eq_true, Nat.zero_add, Nat.add_zero, nI_add, nI_ltI, nI_leI, nI_eq, pk_mul, pk_sub, u2_same, u2_row, u2_other, ic, zB_eq0, td, olt_T, olt_F, ole_T, ole_F, oeq_T, oeq_F]
    exact o
end
