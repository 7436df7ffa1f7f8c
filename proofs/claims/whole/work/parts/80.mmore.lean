/-! help, spared, strikeCost, menu of the model -/
section
variable {fi fi' : Nat → Nat → Int32} {fl fl' : Nat → Nat → Int64} {fr : Nat → Nat → Option Nat} {Q : Option Value → Mm → Prop} {w : Nat → Nat} {k : Nat} {M : Mm} {ws : Nat → Nat → Nat} {nn tx : Nat → Nat} {n : Nat}
theorem ym_help (hf : z_FR fr) (h : z_MS fi fl ws nn tx) (hg : z_G ws nn) {x : Int32} (hQ : z_MQ fi fr Q (r_help ws nn x).1 ws (r_help ws nn x).2 tx) : TT 58 0 [some (.ref 133), some (.int x), none, none] [] (151, fi, fl, fr) Q := by
  have o133 : z_ok 151 133 20 = true := rfl
  have te := (sm_tElse (fi := fi) (fl := fl) hf).1
  have si := fun M Q v lo hi => sm_in (M := M) (Q := Q) (v := v) (lo := lo) (hi := hi)
  have l1 : (lN 1).toInt = 1 := by decide
  unfold r_help at hQ
  by_cases c : 0 ≤ x.toInt ∧ x.toInt ≤ 1
  · rw [if_pos c] at hQ
    obtain ⟨j, j2, rfl, ej⟩ := i3 (n := 1) c
    rw [ej] at hQ
    have f1le : a_hlp (ws 0) j ≤ 45 ∨ a_hlp (ws 0) j = 100 := a_FW_45 hg.1.1
    have f0le : a_nw (ws 0) ≤ 45 ∨ a_nw (ws 0) = 100 := a_FW_45 hg.1.1
    simp (disch := first | assumption | rfl | exact zle_0 | exact zle_1 | exact zle_2 | exact zle_3 | exact zle_4 | exact zb_0 | exact zb_1 | exact zb01_B | omega) only [zT58_0, zr_iload_1, zT58_1, zr_i2l, zT58_2, zr_ldc2, zT58_3, zT58_4, zr_iv_2, zT58_7, zr_if_ne, zT58_10, zr_aload_0, zT58_11, zr_ic_m10, zT58_13, zr_iv_4, zT58_16, zr_ret0, zT58_17, zT58_18, zr_iv_49, zcl_i, zcl_r, zcl_l, zcl_n, zv_some, zv_none, Nat.reduceAdd, Nat.reduceMul, Nat.reduceSub, Nat.reduceLT, Nat.reduceLeDiff, Nat.reduceEqDiff, Int.reduceToNat, true_implies, false_implies, implies_true, and_true, true_and, not_true_eq_false, not_false_eq_true, Nat.zero_add, Nat.add_zero, nI_add, nI_ltI, nI_leI, nI_eq, pk_mul, pk_sub, u2_same, u2_row, u2_other, si, x64, l0, l1, dcd_T c, zB_eq0, reduceCtorEq, olt_T, olt_F, ole_T, ole_F, oeq_T, oeq_F]
    refine ym_findNow hf h hg (fun f1 g1 g2 g3 g4 => ?_)
    have fin : ∀ f3, z_MS f3 fl ws nn tx → z_sr fi f3 → TT 58 67 [some (.ref 133), some (.int (nI j)), some (.int (iF (a_nw (ws 0)))), none] [.int (iF (a_hlp (ws 0) j))] (151, f3, fl, fr) Q := by
      intro f3 k1 k2
      have o := hQ f3 fl k1 (fun j hj => k2.2 j (by omega))
      have e1 := iF_ne f1le
      have e0 := iF_ne f0le
      by_cases c1 : a_hlp (ws 0) j = 100
      · rw [if_pos c1] at o
        rw [iF_100 c1]
        simp (disch := first | assumption | rfl | exact zle_0 | exact zle_1 | exact zle_2 | exact zle_3 | exact zle_4 | exact zb_0 | exact zb_1 | exact zb01_B | omega) only [zT58_67, zr_istore_3, zT58_68, zr_iload_3, zT58_69, zr_ic_m1, zT58_70, zr_icmp_ne, zT58_73, zT58_74, zr_goto, zT58_77, zr_iload_2, zT58_78, zT58_79, zT58_82, zr_ic_1000, zT58_85, zT58_88, zT58_89, zT58_90, zr_isub, zT58_91, zr_ret0, zcl_i, zcl_r, zcl_l, zcl_n, zv_some, zv_none, Nat.reduceAdd, Nat.reduceMul, Nat.reduceSub, Nat.reduceLT, Nat.reduceLeDiff, Nat.reduceEqDiff, Int.reduceToNat, true_implies, false_implies, implies_true, and_true, true_and, not_true_eq_false, not_false_eq_true, Nat.zero_add, Nat.add_zero, nI_add, nI_ltI, nI_leI, nI_eq, pk_mul, pk_sub, u2_same, u2_row, u2_other, olt_T, olt_F, ole_T, ole_F, oeq_T, oeq_F]
        exact o
      · rw [if_neg c1] at o
        have v1 := iF_n c1
        have c1' : (nI (a_hlp (ws 0) j) = nM 1) = False := nM_eqI (by decide) (by decide) (by omega)
        by_cases c0 : a_nw (ws 0) = 100
        · rw [if_pos c0] at o
          rw [iF_100 c0, v1]
          rw [pk_sub (show a_hlp (ws 0) j ≤ 1000 by omega)] at o
          simp (disch := first | assumption | rfl | exact zle_0 | exact zle_1 | exact zle_2 | exact zle_3 | exact zle_4 | exact zb_0 | exact zb_1 | exact zb01_B | omega) only [zT58_67, zr_istore_3, zT58_68, zr_iload_3, zT58_69, zr_ic_m1, zT58_70, zr_icmp_ne, zT58_73, zT58_74, zr_goto, zT58_77, zr_iload_2, zT58_78, zT58_79, zT58_82, zr_ic_1000, zT58_85, zT58_88, zT58_89, zT58_90, zr_isub, zT58_91, zr_ret0, zcl_i, zcl_r, zcl_l, zcl_n, zv_some, zv_none, Nat.reduceAdd, Nat.reduceMul, Nat.reduceSub, Nat.reduceLT, Nat.reduceLeDiff, Nat.reduceEqDiff, Int.reduceToNat, true_implies, false_implies, implies_true, and_true, true_and, not_true_eq_false, not_false_eq_true, Nat.zero_add, Nat.add_zero, nI_add, nI_ltI, nI_leI, nI_eq, pk_mul, pk_sub, u2_same, u2_row, u2_other, c1']
          exact o
        · rw [if_neg c0] at o
          have c0' : (nI (a_nw (ws 0)) = nM 1) = False := nM_eqI (by decide) (by decide) (by omega)
          rw [iF_n c0, v1]
          simp (disch := first | assumption | rfl | exact zle_0 | exact zle_1 | exact zle_2 | exact zle_3 | exact zle_4 | exact zb_0 | exact zb_1 | exact zb01_B | omega) only [zT58_67, zr_istore_3, zT58_68, zr_iload_3, zT58_69, zr_ic_m1, zT58_70, zr_icmp_ne, zT58_73, zT58_74, zr_goto, zT58_77, zr_iload_2, zT58_78, zT58_79, zT58_82, zr_ic_1000, zT58_85, zT58_88, zT58_89, zT58_90, zr_isub, zT58_91, zr_ret0, zcl_i, zcl_r, zcl_l, zcl_n, zv_some, zv_none, Nat.reduceAdd, Nat.reduceMul, Nat.reduceSub, Nat.reduceLT, Nat.reduceLeDiff, Nat.reduceEqDiff, Int.reduceToNat, true_implies, false_implies, implies_true, and_true, true_and, not_true_eq_false, not_false_eq_true, Nat.zero_add, Nat.add_zero, nI_add, nI_ltI, nI_leI, nI_eq, pk_mul, pk_sub, u2_same, u2_row, u2_other, c1', c0']
          exact o
    obtain ⟨m1, m2, m3, m4, m5⟩ := g3
    have srch : ∀ er el, er ≤ 1 ∧ el ≤ 1 → er = (if j = 0 then 1 else 0) → el = (if j = 0 then 0 else 1) → ∀ f2, z_MS f2 fl ws nn tx → z_MH f2 (a_but (ws 0) (ws 0 54) 6) er el 6 → z_sr fi f2 → TT 47 0 [some (.ref 133), some (.int (nI (a_all (ws 0)))), none, none] [] (151, f2, fl, fr) (fun v M1 => TT 58 67 [some (.ref 133), some (.int (nI j)), some (.int (iF (a_nw (ws 0)))), none] (v.toList ++ []) M1 Q) := by
      intro er el he e1 e2 f2 k1 k2 k3
      refine ym_search hf k1 hg he k2 (all_lt _ hg.1.1.2.2.1) (fun f3 q1 q2 q3 q4 => ?_)
      have L := fin f3 q1 (k3.tr q4)
      rw [en_but hg.1.1, fs_all hg.1.1, e1, e2]
      exact L
    have z_eq : ∀ f2 : Nat → Nat → Int32, (∀ f, f ≠ 83 → f ≠ 84 → f2 133 f = f1 133 f) → (∀ j, j ≠ 133 → f2 j = f1 j) → z_sr f1 f2 := fun f2 q1 q2 => ⟨⟨q1 _ (by decide) (by decide), q1 _ (by decide) (by decide), q1 _ (by decide) (by decide)⟩, fun j hj => q2 j (by omega)⟩
    have : j = 0 ∨ j = 1 := by omega
    rcases this with rfl | rfl
    · have s2 : z_sr f1 (u2 (u2 f1 133 83 (nI (a_cnt hbr (a_but (ws 0) (ws 0 54) 6) 6 + 0 + 1))) 133 84 (nI (0 + 0))) := z_eq _ (fun f a b => by rw [u2_row b, u2_row a]) (fun j hj => by rw [u2_ne hj, u2_ne hj])
      have k1 := g1.sr s2
      have al := fun Q => sm_allDishes (fl := fl) (Q := Q) hf hg.1.1 k1.1.1
      have L := srch 1 0 (by decide) rfl rfl _ k1 ⟨by simp (disch := decide) only [u2_row]; exact m1, by simp (disch := decide) only [u2_row]; exact m2, by simp (disch := decide) only [u2_row, u2_same, Nat.add_zero], by rw [u2_same], by simp (disch := decide) only [u2_row]; exact m5⟩ (g4.tr s2)
      simp only [Nat.add_zero] at L al m3
      simp (disch := first | assumption | rfl | exact zle_0 | exact zle_1 | exact zle_2 | exact zle_3 | exact zle_4 | exact zb_0 | exact zb_1 | exact zb01_B | omega) only [zT58_21, zr_istore_2, zT58_22, zr_aload_0, zT58_23, zr_dup_r, zr_dup_i, zT58_24, zr_gf_83, zT58_27, zr_iload_1, zT58_28, zr_if_ne, zT58_31, zr_ic_1, zT58_32, zr_goto, zT58_35, zr_ic_0, zT58_36, zr_iadd, zT58_37, zr_pf_83, zT58_40, zT58_41, zT58_42, zr_gf_84, zT58_45, zT58_46, zT58_47, zr_icmp_ne, zT58_50, zT58_51, zT58_54, zT58_55, zT58_56, zr_pf_84, zT58_59, zT58_60, zT58_61, zr_iv_48, zT58_64, zr_iv_47, zcl_i, zcl_r, zcl_l, zcl_n, zv_some, zv_none, Nat.reduceAdd, Nat.reduceMul, Nat.reduceSub, Nat.reduceLT, Nat.reduceLeDiff, Nat.reduceEqDiff, Int.reduceToNat, true_implies, false_implies, implies_true, and_true, true_and, not_true_eq_false, not_false_eq_true, Nat.zero_add, Nat.add_zero, nI_add, nI_ltI, nI_leI, nI_eq, pk_mul, pk_sub, u2_same, u2_row, u2_other, m3, m4, al, olt_T, olt_F, ole_T, ole_F, oeq_T, oeq_F]
      exact L
    · have s2 : z_sr f1 (u2 (u2 f1 133 83 (nI (a_cnt hbr (a_but (ws 0) (ws 0 54) 6) 6 + 0 + 0))) 133 84 (nI (0 + 1))) := z_eq _ (fun f a b => by rw [u2_row b, u2_row a]) (fun j hj => by rw [u2_ne hj, u2_ne hj])
      have k1 := g1.sr s2
      have al := fun Q => sm_allDishes (fl := fl) (Q := Q) hf hg.1.1 k1.1.1
      have L := srch 0 1 (by decide) rfl rfl _ k1 ⟨by simp (disch := decide) only [u2_row]; exact m1, by simp (disch := decide) only [u2_row]; exact m2, by simp (disch := decide) only [u2_row, u2_same, Nat.add_zero], by rw [u2_same], by simp (disch := decide) only [u2_row]; exact m5⟩ (g4.tr s2)
      simp only [Nat.add_zero, Nat.zero_add] at L al m3
      simp (disch := first | assumption | rfl | exact zle_0 | exact zle_1 | exact zle_2 | exact zle_3 | exact zle_4 | exact zb_0 | exact zb_1 | exact zb01_B | omega) only [zT58_21, zr_istore_2, zT58_22, zr_aload_0, zT58_23, zr_dup_r, zr_dup_i, zT58_24, zr_gf_83, zT58_27, zr_iload_1, zT58_28, zr_if_ne, zT58_31, zr_ic_1, zT58_32, zr_goto, zT58_35, zr_ic_0, zT58_36, zr_iadd, zT58_37, zr_pf_83, zT58_40, zT58_41, zT58_42, zr_gf_84, zT58_45, zT58_46, zT58_47, zr_icmp_ne, zT58_50, zT58_51, zT58_54, zT58_55, zT58_56, zr_pf_84, zT58_59, zT58_60, zT58_61, zr_iv_48, zT58_64, zr_iv_47, zcl_i, zcl_r, zcl_l, zcl_n, zv_some, zv_none, Nat.reduceAdd, Nat.reduceMul, Nat.reduceSub, Nat.reduceLT, Nat.reduceLeDiff, Nat.reduceEqDiff, Int.reduceToNat, true_implies, false_implies, implies_true, and_true, true_and, not_true_eq_false, not_false_eq_true, Nat.zero_add, Nat.add_zero, nI_add, nI_ltI, nI_leI, nI_eq, pk_mul, pk_sub, u2_same, u2_row, u2_other, m3, m4, al, olt_T, olt_F, ole_T, ole_F, oeq_T, oeq_F]
      exact L
  · rw [if_neg c] at hQ
    have o := z_MQ.els (Or.inl rfl) h hQ
    simp (disch := first | assumption | rfl | exact zle_0 | exact zle_1 | exact zle_2 | exact zle_3 | exact zle_4 | exact zb_0 | exact zb_1 | exact zb01_B | omega) only [zT58_0, zr_iload_1, zT58_1, zr_i2l, zT58_2, zr_ldc2, zT58_3, zT58_4, zr_iv_2, zT58_7, zr_if_ne, zT58_10, zr_aload_0, zT58_11, zr_ic_m10, zT58_13, zr_iv_4, zT58_16, zr_ret0, zcl_i, zcl_r, zcl_l, zcl_n, zv_some, zv_none, Nat.reduceAdd, Nat.reduceMul, Nat.reduceSub, Nat.reduceLT, Nat.reduceLeDiff, Nat.reduceEqDiff, Int.reduceToNat, true_implies, false_implies, implies_true, and_true, true_and, not_true_eq_false, not_false_eq_true, Nat.zero_add, Nat.add_zero, nI_add, nI_ltI, nI_leI, nI_eq, pk_mul, pk_sub, u2_same, u2_row, u2_other, si, x64, l0, l1, dcd_F c, zB_eq0, te, olt_T, olt_F, ole_T, ole_F, oeq_T, oeq_F]
    exact o
theorem ym_strikeCost (hf : z_FR fr) (h : z_MS fi fl ws nn tx) (hg : z_G ws nn) (hQ : z_MQ fi fr Q (r_strikeCost (ws 0)) ws nn tx) : TT 60 0 [some (.ref 133), none, none] [] (151, fi, fl, fr) Q := by
  have o133 : z_ok 151 133 20 = true := rfl
  have f1le : a_FE (ws 0) (a_hands (ws 0) 1) 0 0 ≤ 45 ∨ a_FE (ws 0) (a_hands (ws 0) 1) 0 0 = 100 := a_FW_45 hg.1.1
  have f0le : a_FE (ws 0) (a_hands (ws 0) 0) 0 0 ≤ 45 ∨ a_FE (ws 0) (a_hands (ws 0) 0) 0 0 = 100 := a_FW_45 hg.1.1
  unfold r_strikeCost at hQ
  simp (disch := first | assumption | rfl | exact zle_0 | exact zle_1 | exact zle_2 | exact zle_3 | exact zle_4 | exact zb_0 | exact zb_1 | exact zb01_B | omega) only [zT60_0, zr_aload_0, zT60_1, zr_ic_m1, zT60_2, zr_ic_1, zT60_3, zr_iv_37, zcl_i, zcl_r, zcl_l, zcl_n, zv_some, zv_none, Nat.reduceAdd, Nat.reduceMul, Nat.reduceSub, Nat.reduceLT, Nat.reduceLeDiff, Nat.reduceEqDiff, Int.reduceToNat, true_implies, false_implies, implies_true, and_true, true_and, not_true_eq_false, not_false_eq_true, Nat.zero_add, Nat.add_zero, nI_add, nI_ltI, nI_leI, nI_eq, pk_mul, pk_sub, u2_same, u2_row, u2_other, olt_T, olt_F, ole_T, ole_F, oeq_T, oeq_F]
  refine ym_gather hf h hg (b := 1) (by decide) hx6 (fun f1 g1 g2 g3 => ?_)
  have al1 := fun Q => sm_allDishes (fl := fl) (Q := Q) hf hg.1.1 g1.1.1
  simp (disch := first | assumption | rfl | exact zle_0 | exact zle_1 | exact zle_2 | exact zle_3 | exact zle_4 | exact zb_0 | exact zb_1 | exact zb01_B | omega) only [zT60_6, zr_aload_0, zT60_7, zT60_8, zr_iv_48, zT60_11, zr_iv_47, zcl_i, zcl_r, zcl_l, zcl_n, zv_some, zv_none, Nat.reduceAdd, Nat.reduceMul, Nat.reduceSub, Nat.reduceLT, Nat.reduceLeDiff, Nat.reduceEqDiff, Int.reduceToNat, true_implies, false_implies, implies_true, and_true, true_and, not_true_eq_false, not_false_eq_true, Nat.zero_add, Nat.add_zero, nI_add, nI_ltI, nI_leI, nI_eq, pk_mul, pk_sub, u2_same, u2_row, u2_other, al1, olt_T, olt_F, ole_T, ole_F, oeq_T, oeq_F]
  refine ym_search hf g1 hg (by decide) g2 (all_lt _ hg.1.1.2.2.1) (fun f2 k1 k2 k3 k4 => ?_)
  rw [en_but hg.1.1, fs_all hg.1.1]
  simp (disch := first | assumption | rfl | exact zle_0 | exact zle_1 | exact zle_2 | exact zle_3 | exact zle_4 | exact zb_0 | exact zb_1 | exact zb01_B | omega) only [zT60_14, zr_istore_1, zT60_15, zr_aload_0, zT60_16, zr_ic_m1, zT60_17, zr_ic_0, zT60_18, zr_iv_37, zcl_i, zcl_r, zcl_l, zcl_n, zv_some, zv_none, Nat.reduceAdd, Nat.reduceMul, Nat.reduceSub, Nat.reduceLT, Nat.reduceLeDiff, Nat.reduceEqDiff, Int.reduceToNat, true_implies, false_implies, implies_true, and_true, true_and, not_true_eq_false, not_false_eq_true, Nat.zero_add, Nat.add_zero, nI_add, nI_ltI, nI_leI, nI_eq, pk_mul, pk_sub, u2_same, u2_row, u2_other, olt_T, olt_F, ole_T, ole_F, oeq_T, oeq_F]
  refine ym_gather hf k1 hg (b := 0) (by decide) hx6 (fun f3 g4 g5 g6 => ?_)
  have al2 := fun Q => sm_allDishes (fl := fl) (Q := Q) hf hg.1.1 g4.1.1
  simp (disch := first | assumption | rfl | exact zle_0 | exact zle_1 | exact zle_2 | exact zle_3 | exact zle_4 | exact zb_0 | exact zb_1 | exact zb01_B | omega) only [zT60_21, zr_aload_0, zT60_22, zT60_23, zr_iv_48, zT60_26, zr_iv_47, zcl_i, zcl_r, zcl_l, zcl_n, zv_some, zv_none, Nat.reduceAdd, Nat.reduceMul, Nat.reduceSub, Nat.reduceLT, Nat.reduceLeDiff, Nat.reduceEqDiff, Int.reduceToNat, true_implies, false_implies, implies_true, and_true, true_and, not_true_eq_false, not_false_eq_true, Nat.zero_add, Nat.add_zero, nI_add, nI_ltI, nI_leI, nI_eq, pk_mul, pk_sub, u2_same, u2_row, u2_other, al2, olt_T, olt_F, ole_T, ole_F, oeq_T, oeq_F]
  refine ym_search hf g4 hg (by decide) g5 (all_lt _ hg.1.1.2.2.1) (fun f4 k5 k6 k7 k8 => ?_)
  rw [en_but hg.1.1, fs_all hg.1.1]
  have s := ((g3.tr k4).tr g6).tr k8
  have o := hQ f4 fl k5 (fun j hj => s.2 j (by omega))
  rw [show a_FW (ws 0) (a_enough (ws 0) (a_hands (ws 0) 1) 0 0) (a_S (ws 0)) = a_FE (ws 0) (a_hands (ws 0) 1) 0 0 from rfl, show a_FW (ws 0) (a_enough (ws 0) (a_hands (ws 0) 0) 0 0) (a_S (ws 0)) = a_FE (ws 0) (a_hands (ws 0) 0) 0 0 from rfl]
  generalize a_FE (ws 0) (a_hands (ws 0) 1) 0 0 = A at *
  generalize a_FE (ws 0) (a_hands (ws 0) 0) 0 0 = B at *
  by_cases cA : A = 100
  · rw [if_pos (Or.inl cA)] at o
    rw [iF_100 cA]
    simp (disch := first | assumption | rfl | exact zle_0 | exact zle_1 | exact zle_2 | exact zle_3 | exact zle_4 | exact zb_0 | exact zb_1 | exact zb01_B | omega) only [zT60_29, zr_istore_2, zT60_30, zr_iload_1, zT60_31, zr_ic_m1, zT60_32, zr_icmp_eq, zT60_35, zr_iload_2, zT60_36, zT60_37, zr_icmp_ne, zT60_40, zT60_41, zr_goto, zT60_44, zT60_45, zT60_46, zr_isub, zT60_47, zr_ret0, zcl_i, zcl_r, zcl_l, zcl_n, zv_some, zv_none, Nat.reduceAdd, Nat.reduceMul, Nat.reduceSub, Nat.reduceLT, Nat.reduceLeDiff, Nat.reduceEqDiff, Int.reduceToNat, true_implies, false_implies, implies_true, and_true, true_and, not_true_eq_false, not_false_eq_true, Nat.zero_add, Nat.add_zero, nI_add, nI_ltI, nI_leI, nI_eq, pk_mul, pk_sub, u2_same, u2_row, u2_other, olt_T, olt_F, ole_T, ole_F, oeq_T, oeq_F]
    exact o
  · have nA : (nI A = nM 1) = False := nM_eqI (by decide) (by decide) (by omega)
    rw [iF_n cA]
    by_cases cB : B = 100
    · rw [if_pos (Or.inr cB)] at o
      rw [iF_100 cB]
      simp (disch := first | assumption | rfl | exact zle_0 | exact zle_1 | exact zle_2 | exact zle_3 | exact zle_4 | exact zb_0 | exact zb_1 | exact zb01_B | omega) only [zT60_29, zr_istore_2, zT60_30, zr_iload_1, zT60_31, zr_ic_m1, zT60_32, zr_icmp_eq, zT60_35, zr_iload_2, zT60_36, zT60_37, zr_icmp_ne, zT60_40, zT60_41, zr_goto, zT60_44, zT60_45, zT60_46, zr_isub, zT60_47, zr_ret0, zcl_i, zcl_r, zcl_l, zcl_n, zv_some, zv_none, Nat.reduceAdd, Nat.reduceMul, Nat.reduceSub, Nat.reduceLT, Nat.reduceLeDiff, Nat.reduceEqDiff, Int.reduceToNat, true_implies, false_implies, implies_true, and_true, true_and, not_true_eq_false, not_false_eq_true, Nat.zero_add, Nat.add_zero, nI_add, nI_ltI, nI_leI, nI_eq, pk_mul, pk_sub, u2_same, u2_row, u2_other, nA, olt_T, olt_F, ole_T, ole_F, oeq_T, oeq_F]
      exact o
    · rw [if_neg (fun q => q.elim cA cB)] at o
      have nB : (nI B = nM 1) = False := nM_eqI (by decide) (by decide) (by omega)
      rw [iF_n cB]
      simp (disch := first | assumption | rfl | exact zle_0 | exact zle_1 | exact zle_2 | exact zle_3 | exact zle_4 | exact zb_0 | exact zb_1 | exact zb01_B | omega) only [zT60_29, zr_istore_2, zT60_30, zr_iload_1, zT60_31, zr_ic_m1, zT60_32, zr_icmp_eq, zT60_35, zr_iload_2, zT60_36, zT60_37, zr_icmp_ne, zT60_40, zT60_41, zr_goto, zT60_44, zT60_45, zT60_46, zr_isub, zT60_47, zr_ret0, zcl_i, zcl_r, zcl_l, zcl_n, zv_some, zv_none, Nat.reduceAdd, Nat.reduceMul, Nat.reduceSub, Nat.reduceLT, Nat.reduceLeDiff, Nat.reduceEqDiff, Int.reduceToNat, true_implies, false_implies, implies_true, and_true, true_and, not_true_eq_false, not_false_eq_true, Nat.zero_add, Nat.add_zero, nI_add, nI_ltI, nI_leI, nI_eq, pk_mul, pk_sub, u2_same, u2_row, u2_other, nA, nB]
      exact o
theorem ym_sp_ (hf : z_FR fr) (hg : z_G ws nn) (hA : a_nw (ws 0) ≠ 100) {fi0 : Nat → Nat → Int32} (hQ : z_MQ fi0 fr Q (nI (msk (fun c => decide (a_away (ws 0) c = a_nw (ws 0))) (ws 0 0))) ws nn tx) :
    ∀ m c, c + m = ws 0 0 → ∀ fi : Nat → Nat → Int32, z_MS fi fl ws nn tx → z_sr fi0 fi →
    TT 59 16 [some (.ref 133), some (.int (nI (a_nw (ws 0)))), some (.int (nI (msk (fun c => decide (a_away (ws 0) c = a_nw (ws 0))) c))), some (.int (nI c))] [] (151, fi, fl, fr) Q := by
  have o133 : z_ok 151 133 20 = true := rfl; have o134 : z_ok 151 134 1 = true := rfl
  have l134 : z_al 134 = 440 := rfl
  have h54 := hg.1.1.2.2.2.2.2.1
  have h0 := hg.1.1.1
  have f0le : a_nw (ws 0) ≤ 45 ∨ a_nw (ws 0) = 100 := a_FW_45 hg.1.1
  intro m
  induction m with
  | zero =>
    intro c hc fi h hfr
    obtain rfl : c = ws 0 0 := by omega
    have e0 := h.1.1.at0 (i := 0) (by decide)
    simp (disch := first | assumption | rfl | exact zle_0 | exact zle_1 | exact zle_2 | exact zle_3 | exact zle_4 | exact zb_0 | exact zb_1 | exact zb01_B | omega) only [zT59_16, zr_iload_3, zT59_17, zr_aload_0, zT59_18, zr_gf_71, zr_or, zr_go, zf_133_71, zT59_21, zr_ic_0, zT59_22, zr_iald, zT59_23, zr_icmp_ge, zT59_75, zr_iload_2, zT59_76, zr_ret0, zcl_i, zcl_r, zcl_l, zcl_n, zv_some, zv_none, Nat.reduceAdd, Nat.reduceMul, Nat.reduceSub, Nat.reduceLT, Nat.reduceLeDiff, Nat.reduceEqDiff, Int.reduceToNat, true_implies, false_implies, implies_true, and_true, true_and, not_true_eq_false, not_false_eq_true, Nat.zero_add, Nat.add_zero, nI_add, nI_ltI, nI_leI, nI_eq, pk_mul, pk_sub, u2_same, u2_row, u2_other, e0, olt_T, olt_F, ole_T, ole_F, oeq_T, oeq_F]
    exact hQ fi fl h (fun j hj => hfr.2 j (by omega))
  | succ m ih =>
    intro c hc fi h hfr
    have e0 := h.1.1.at0 (i := 0) (by decide)
    have e54 := h.1.1.at0 (i := 54) (by decide)
    have c6 : c < 6 := by omega
    have hxc : ∀ d, d < 6 → ((nI d = nI c) = (d = c)) := fun d hd => by rw [nI_eq (by omega) (by omega)]
    have rest : ∀ f1, z_MS f1 fl ws nn tx → z_MH f1 (a_but (ws 0) (ws 0 54) c) 0 0 6 → z_sr fi0 f1 → TT 59 47 [some (.ref 133), some (.int (nI (a_nw (ws 0)))), some (.int (nI (msk (fun c => decide (a_away (ws 0) c = a_nw (ws 0))) c))), some (.int (nI c))] [] (151, f1, fl, fr) Q := by
      intro f1 g1 g2 g3
      have al := fun Q => sm_allDishes (fl := fl) (Q := Q) hf hg.1.1 g1.1.1
      simp (disch := first | assumption | rfl | exact zle_0 | exact zle_1 | exact zle_2 | exact zle_3 | exact zle_4 | exact zb_0 | exact zb_1 | exact zb01_B | omega) only [zT59_47, zr_iload_2, zT59_48, zr_aload_0, zT59_49, zT59_50, zr_iv_48, zT59_53, zr_iv_47, zcl_i, zcl_r, zcl_l, zcl_n, zv_some, zv_none, Nat.reduceAdd, Nat.reduceMul, Nat.reduceSub, Nat.reduceLT, Nat.reduceLeDiff, Nat.reduceEqDiff, Int.reduceToNat, true_implies, false_implies, implies_true, and_true, true_and, not_true_eq_false, not_false_eq_true, Nat.zero_add, Nat.add_zero, nI_add, nI_ltI, nI_leI, nI_eq, pk_mul, pk_sub, u2_same, u2_row, u2_other, al, olt_T, olt_F, ole_T, ole_F, oeq_T, oeq_F]
      refine ym_search hf g1 hg (by decide) g2 (all_lt _ hg.1.1.2.2.1) (fun f2 k1 k2 k3 k4 => ?_)
      rw [en_away c6, fs_all hg.1.1]
      rw [show a_FW (ws 0) (a_enough (ws 0) (uh (a_hands (ws 0) (ws 0 54)) c (h_off (a_hands (ws 0) (ws 0 54) c))) 0 0) (a_S (ws 0)) = a_away (ws 0) c from rfl]
      have ih' := ih (c + 1) (by omega) f2 k1 (g3.tr k4)
      rw [show msk (fun c => decide (a_away (ws 0) c = a_nw (ws 0))) (c + 1) = if decide (a_away (ws 0) c = a_nw (ws 0)) = true then msk (fun c => decide (a_away (ws 0) c = a_nw (ws 0))) c ||| 2 ^ c else msk (fun c => decide (a_away (ws 0) c = a_nw (ws 0))) c from rfl] at ih'
      have fle : a_away (ws 0) c ≤ 45 ∨ a_away (ws 0) c = 100 := a_FW_45 hg.1.1
      have p6 : 2 ^ c < 64 := Nat.pow_lt_pow_right (a := 2) (n := 6) (by decide) c6
      have eqv : (iF (a_away (ws 0) c) = nI (a_nw (ws 0))) = (a_away (ws 0) c = a_nw (ws 0)) := by
        unfold iF
        by_cases q : a_away (ws 0) c = 100
        · rw [if_pos q, nM_eqI' (by decide) (by decide) (by omega)]; exact propext ⟨fun r => r.elim, fun r => hA (by omega)⟩
        · rw [if_neg q, nI_eq (by omega) (by omega)]
      generalize msk (fun c => decide (a_away (ws 0) c = a_nw (ws 0))) c = acc at *
      by_cases q : a_away (ws 0) c = a_nw (ws 0)
      · rw [if_pos (decide_eq_true q)] at ih'
        have e1 : iF (a_away (ws 0) c) = nI (a_nw (ws 0)) := by rw [eqv]; exact q
        rw [e1]
        simp (disch := first | assumption | rfl | exact zle_0 | exact zle_1 | exact zle_2 | exact zle_3 | exact zle_4 | exact zb_0 | exact zb_1 | exact zb01_B | omega) only [zT59_56, zr_iload_1, zT59_57, zr_icmp_ne, zT59_60, zr_ic_1, zT59_61, zr_iload_3, zT59_62, zr_ishl, zT59_63, zr_goto, zT59_66, zr_ic_0, zT59_67, zr_ior, zT59_68, zr_istore_2, zT59_69, zr_iinc_3_1, zT59_72, zcl_i, zcl_r, zcl_l, zcl_n, zv_some, zv_none, Nat.reduceAdd, Nat.reduceMul, Nat.reduceSub, Nat.reduceLT, Nat.reduceLeDiff, Nat.reduceEqDiff, Int.reduceToNat, true_implies, false_implies, implies_true, and_true, true_and, not_true_eq_false, not_false_eq_true, Nat.zero_add, Nat.add_zero, nI_add, nI_ltI, nI_leI, nI_eq, pk_mul, pk_sub, u2_same, u2_row, u2_other, b_shl, b_or, Nat.one_mul, olt_T, olt_F, ole_T, ole_F, oeq_T, oeq_F]
        exact ih'
      · rw [if_neg (by rw [decide_eq_false q]; decide)] at ih'
        have e1 : (iF (a_away (ws 0) c) = nI (a_nw (ws 0))) = False := by rw [eqv]; exact eq_false q
        simp (disch := first | assumption | rfl | exact zle_0 | exact zle_1 | exact zle_2 | exact zle_3 | exact zle_4 | exact zb_0 | exact zb_1 | exact zb01_B | omega) only [zT59_56, zr_iload_1, zT59_57, zr_icmp_ne, zT59_60, zr_ic_1, zT59_61, zr_iload_3, zT59_62, zr_ishl, zT59_63, zr_goto, zT59_66, zr_ic_0, zT59_67, zr_ior, zT59_68, zr_istore_2, zT59_69, zr_iinc_3_1, zT59_72, zcl_i, zcl_r, zcl_l, zcl_n, zv_some, zv_none, Nat.reduceAdd, Nat.reduceMul, Nat.reduceSub, Nat.reduceLT, Nat.reduceLeDiff, Nat.reduceEqDiff, Int.reduceToNat, true_implies, false_implies, implies_true, and_true, true_and, not_true_eq_false, not_false_eq_true, Nat.zero_add, Nat.add_zero, nI_add, nI_ltI, nI_leI, nI_eq, pk_mul, pk_sub, u2_same, u2_row, u2_other, e1, b_or, Nat.or_zero]
        exact ih'
    have : ws 0 54 = 0 ∨ ws 0 54 = 1 := by omega
    rcases this with e | e
    · rw [e] at e54 rest
      simp (disch := first | assumption | rfl | exact zle_0 | exact zle_1 | exact zle_2 | exact zle_3 | exact zle_4 | exact zb_0 | exact zb_1 | exact zb01_B | omega) only [zT59_16, zr_iload_3, zcl_i, zcl_r, zcl_l, zcl_n, zv_some, zv_none, Nat.reduceAdd, Nat.reduceMul, Nat.reduceSub, Nat.reduceLT, Nat.reduceLeDiff, Nat.reduceEqDiff, Int.reduceToNat, true_implies, false_implies, implies_true, and_true, true_and, not_true_eq_false, not_false_eq_true, Nat.zero_add, Nat.add_zero, nI_add, nI_ltI, nI_leI, nI_eq, pk_mul, pk_sub, u2_same, u2_row, u2_other]
      simp (disch := first | assumption | rfl | exact zle_0 | exact zle_1 | exact zle_2 | exact zle_3 | exact zle_4 | exact zb_0 | exact zb_1 | exact zb01_B | omega) only [zT59_17, zr_aload_0, zT59_18, zr_gf_71, zr_or, zr_go, zf_133_71, zT59_21, zr_ic_0, zT59_22, zr_iald, zT59_23, zr_icmp_ge, zT59_26, zT59_27, zr_iload_3, zT59_28, zT59_29, zT59_32, zr_ic_54, zT59_34, zT59_35, zr_ic_1, zT59_36, zr_icmp_ne, zT59_39, zT59_40, zr_goto, zT59_43, zT59_44, zr_iv_37, zcl_i, zcl_r, zcl_l, zcl_n, zv_some, zv_none, Nat.reduceAdd, Nat.reduceMul, Nat.reduceSub, Nat.reduceLT, Nat.reduceLeDiff, Nat.reduceEqDiff, Int.reduceToNat, true_implies, false_implies, implies_true, and_true, true_and, not_true_eq_false, not_false_eq_true, Nat.zero_add, Nat.add_zero, nI_add, nI_ltI, nI_leI, nI_eq, pk_mul, pk_sub, u2_same, u2_row, u2_other, e0, e54, olt_T, olt_F, ole_T, ole_F, oeq_T, oeq_F]
      exact ym_gather hf h hg (by decide) hxc (fun f1 g1 g2 g3 => rest f1 g1 g2 (hfr.tr g3))
    · rw [e] at e54 rest
      simp (disch := first | assumption | rfl | exact zle_0 | exact zle_1 | exact zle_2 | exact zle_3 | exact zle_4 | exact zb_0 | exact zb_1 | exact zb01_B | omega) only [zT59_16, zr_iload_3, zcl_i, zcl_r, zcl_l, zcl_n, zv_some, zv_none, Nat.reduceAdd, Nat.reduceMul, Nat.reduceSub, Nat.reduceLT, Nat.reduceLeDiff, Nat.reduceEqDiff, Int.reduceToNat, true_implies, false_implies, implies_true, and_true, true_and, not_true_eq_false, not_false_eq_true, Nat.zero_add, Nat.add_zero, nI_add, nI_ltI, nI_leI, nI_eq, pk_mul, pk_sub, u2_same, u2_row, u2_other]
      simp (disch := first | assumption | rfl | exact zle_0 | exact zle_1 | exact zle_2 | exact zle_3 | exact zle_4 | exact zb_0 | exact zb_1 | exact zb01_B | omega) only [zT59_17, zr_aload_0, zT59_18, zr_gf_71, zr_or, zr_go, zf_133_71, zT59_21, zr_ic_0, zT59_22, zr_iald, zT59_23, zr_icmp_ge, zT59_26, zT59_27, zr_iload_3, zT59_28, zT59_29, zT59_32, zr_ic_54, zT59_34, zT59_35, zr_ic_1, zT59_36, zr_icmp_ne, zT59_39, zT59_40, zr_goto, zT59_43, zT59_44, zr_iv_37, zcl_i, zcl_r, zcl_l, zcl_n, zv_some, zv_none, Nat.reduceAdd, Nat.reduceMul, Nat.reduceSub, Nat.reduceLT, Nat.reduceLeDiff, Nat.reduceEqDiff, Int.reduceToNat, true_implies, false_implies, implies_true, and_true, true_and, not_true_eq_false, not_false_eq_true, Nat.zero_add, Nat.add_zero, nI_add, nI_ltI, nI_leI, nI_eq, pk_mul, pk_sub, u2_same, u2_row, u2_other, e0, e54, olt_T, olt_F, ole_T, ole_F, oeq_T, oeq_F]
      exact ym_gather hf h hg (by decide) hxc (fun f1 g1 g2 g3 => rest f1 g1 g2 (hfr.tr g3))
theorem ym_spared (hf : z_FR fr) (h : z_MS fi fl ws nn tx) (hg : z_G ws nn) (hQ : z_MQ fi fr Q (r_spared (ws 0)) ws nn tx) : TT 59 0 [some (.ref 133), none, none, none] [] (151, fi, fl, fr) Q := by
  have o133 : z_ok 151 133 20 = true := rfl
  have f0le : a_nw (ws 0) ≤ 45 ∨ a_nw (ws 0) = 100 := a_FW_45 hg.1.1
  unfold r_spared at hQ
  simp (disch := first | assumption | rfl | exact zle_0 | exact zle_1 | exact zle_2 | exact zle_3 | exact zle_4 | exact zb_0 | exact zb_1 | exact zb01_B | omega) only [zT59_0, zr_aload_0, zT59_1, zr_iv_49, zcl_i, zcl_r, zcl_l, zcl_n, zv_some, zv_none, Nat.reduceAdd, Nat.reduceMul, Nat.reduceSub, Nat.reduceLT, Nat.reduceLeDiff, Nat.reduceEqDiff, Int.reduceToNat, true_implies, false_implies, implies_true, and_true, true_and, not_true_eq_false, not_false_eq_true, Nat.zero_add, Nat.add_zero, nI_add, nI_ltI, nI_leI, nI_eq, pk_mul, pk_sub, u2_same, u2_row, u2_other, olt_T, olt_F, ole_T, ole_F, oeq_T, oeq_F]
  refine ym_findNow hf h hg (fun f1 g1 g2 g3 g4 => ?_)
  by_cases c0 : a_nw (ws 0) = 100
  · rw [if_pos c0] at hQ
    rw [iF_100 c0]
    simp (disch := first | assumption | rfl | exact zle_0 | exact zle_1 | exact zle_2 | exact zle_3 | exact zle_4 | exact zb_0 | exact zb_1 | exact zb01_B | omega) only [zT59_4, zr_istore_1, zT59_5, zr_iload_1, zT59_6, zr_ic_m1, zT59_7, zr_icmp_ne, zT59_10, zT59_11, zr_ret0, zcl_i, zcl_r, zcl_l, zcl_n, zv_some, zv_none, Nat.reduceAdd, Nat.reduceMul, Nat.reduceSub, Nat.reduceLT, Nat.reduceLeDiff, Nat.reduceEqDiff, Int.reduceToNat, true_implies, false_implies, implies_true, and_true, true_and, not_true_eq_false, not_false_eq_true, Nat.zero_add, Nat.add_zero, nI_add, nI_ltI, nI_leI, nI_eq, pk_mul, pk_sub, u2_same, u2_row, u2_other, olt_T, olt_F, ole_T, ole_F, oeq_T, oeq_F]
    exact hQ f1 fl g1 (fun j hj => g4.2 j (by omega))
  · rw [if_neg c0] at hQ
    rw [iF_n c0]
    have c0' : (nI (a_nw (ws 0)) = nM 1) = False := nM_eqI (by decide) (by decide) (by omega)
    have L := ym_sp_ (fl := fl) hf hg c0 hQ (ws 0 0) 0 (Nat.zero_add _) f1 g1 g4
    rw [show msk (fun c => decide (a_away (ws 0) c = a_nw (ws 0))) 0 = 0 from rfl] at L
    simp (disch := first | assumption | rfl | exact zle_0 | exact zle_1 | exact zle_2 | exact zle_3 | exact zle_4 | exact zb_0 | exact zb_1 | exact zb01_B | omega) only [zT59_4, zr_istore_1, zT59_5, zr_iload_1, zT59_6, zr_ic_m1, zT59_7, zr_icmp_ne, zT59_10, zT59_11, zr_ret0, zT59_12, zr_ic_0, zT59_13, zr_istore_2, zT59_14, zT59_15, zr_istore_3, zcl_i, zcl_r, zcl_l, zcl_n, zv_some, zv_none, Nat.reduceAdd, Nat.reduceMul, Nat.reduceSub, Nat.reduceLT, Nat.reduceLeDiff, Nat.reduceEqDiff, Int.reduceToNat, true_implies, false_implies, implies_true, and_true, true_and, not_true_eq_false, not_false_eq_true, Nat.zero_add, Nat.add_zero, nI_add, nI_ltI, nI_leI, nI_eq, pk_mul, pk_sub, u2_same, u2_row, u2_other, c0', olt_T, olt_F, ole_T, ole_F, oeq_T, oeq_F]
    exact L
theorem ones_pop : ∀ b, b < 8 → (b &&& 1) + (b / 2 ^ 1 &&& 1) + (b / 2 ^ 2 &&& 1) = pop b := by decide +kernel
theorem sm_ones {b : Nat} (hb : b < 8) : TT 8 0 [some (.int (nI b))] [] M Q = Q (some (.int (nI (pop b)))) M := by
  refine T_exact (fun Q hQ => ?_) Q
  obtain ⟨nx', fi, fl, fr⟩ := M
  rw [← ones_pop b hb] at hQ
  simp (disch := first | assumption | rfl | exact zle_0 | exact zle_1 | exact zle_2 | exact zle_3 | exact zle_4 | exact zb_0 | exact zb_1 | exact zb01_B | omega) only [zT8_0, zr_iload_0, zT8_1, zr_ic_1, zT8_2, zr_iand, zT8_3, zT8_4, zT8_5, zr_ishr, zT8_6, zT8_7, zT8_8, zr_iadd, zT8_9, zT8_10, zr_ic_2, zT8_11, zT8_12, zT8_13, zT8_14, zT8_15, zr_ret0, zcl_i, zcl_r, zcl_l, zcl_n, zv_some, zv_none, Nat.reduceAdd, Nat.reduceMul, Nat.reduceSub, Nat.reduceLT, Nat.reduceLeDiff, Nat.reduceEqDiff, Int.reduceToNat, true_implies, false_implies, implies_true, and_true, true_and, not_true_eq_false, not_false_eq_true, Nat.zero_add, Nat.add_zero, nI_add, nI_ltI, nI_leI, nI_eq, pk_mul, pk_sub, u2_same, u2_row, u2_other, b_and, b_shr, olt_T, olt_F, ole_T, ole_F, oeq_T, oeq_F]
  exact hQ
theorem ym_mn_ (hf : z_FR fr) (hg : z_G ws nn) {x : Nat} (hx : x ≤ 60) {fi0 : Nat → Nat → Int32} :
    ∀ m b, b + m = 2 ^ ws 0 13 → 1 ≤ b → ∀ best, best < 8 → z_MQ fi0 fr Q (nI (a_menu (ws 0) x m b best)) ws nn tx → ∀ fi : Nat → Nat → Int32, z_MS fi fl ws nn tx → z_MH fi (a_but (ws 0) (ws 0 54) 6) 0 0 6 → z_sr fi0 fi → ∀ v4 : Option Value, TT 61 44 [some (.ref 133), some (.int (nI x)), some (.int (nI best)), some (.int (nI b)), v4] [] (151, fi, fl, fr) Q := by
  have o133 : z_ok 151 133 20 = true := rfl
  have h13 := hg.1.1.2.2.1
  have e8 : 2 ^ ws 0 13 ≤ 2 ^ 3 := Nat.pow_le_pow_right (by decide) h13
  have h1 : 1 ≤ 2 ^ ws 0 13 := Nat.one_le_two_pow
  intro m
  induction m with
  | zero =>
    intro b hb b1 best hbest hQ fi h hh hs v4
    obtain rfl : b = 2 ^ ws 0 13 := by omega
    have al := fun Q => sm_allDishes (fl := fl) (Q := Q) hf hg.1.1 h.1.1
    have ea : a_all (ws 0) = 2 ^ ws 0 13 - 1 := rfl
    simp (disch := first | assumption | rfl | exact zle_0 | exact zle_1 | exact zle_2 | exact zle_3 | exact zle_4 | exact zb_0 | exact zb_1 | exact zb01_B | omega) only [zT61_44, zr_iload_3, zT61_45, zr_aload_0, zT61_46, zr_iv_48, zT61_49, zr_icmp_gt, zT61_98, zr_iload_2, zT61_99, zr_ret0, zcl_i, zcl_r, zcl_l, zcl_n, zv_some, zv_none, Nat.reduceAdd, Nat.reduceMul, Nat.reduceSub, Nat.reduceLT, Nat.reduceLeDiff, Nat.reduceEqDiff, Int.reduceToNat, true_implies, false_implies, implies_true, and_true, true_and, not_true_eq_false, not_false_eq_true, Nat.zero_add, Nat.add_zero, nI_add, nI_ltI, nI_leI, nI_eq, pk_mul, pk_sub, u2_same, u2_row, u2_other, al, ea, olt_T, olt_F, ole_T, ole_F, oeq_T, oeq_F]
    exact hQ fi fl h (fun j hj => hs.2 j (by omega))
  | succ m ih =>
    intro b hb b1 best hbest hQ fi h hh hs v4
    have b8 : b < 8 := by omega
    have al := fun Q => sm_allDishes (fl := fl) (Q := Q) hf hg.1.1 h.1.1
    have ea : a_all (ws 0) = 2 ^ ws 0 13 - 1 := rfl
    have o1 := fun M Q => sm_ones (M := M) (Q := Q) b8
    have o2 := fun M Q => sm_ones (M := M) (Q := Q) hbest
    have p1 := pop_lt8 b b8
    have p2 := pop_lt8 best hbest
    rw [show a_menu (ws 0) x (m + 1) b best = a_menu (ws 0) x m (b + 1) (if a_FN (ws 0) (a_fs (ws 0) b) ≠ 100 ∧ a_FN (ws 0) (a_fs (ws 0) b) ≤ x ∧ pop best < pop b then b else best) from rfl] at hQ
    by_cases cC : pop best < pop b
    · simp (disch := first | assumption | rfl | exact zle_0 | exact zle_1 | exact zle_2 | exact zle_3 | exact zle_4 | exact zb_0 | exact zb_1 | exact zb01_B | omega) only [zT61_44, zr_iload_3, zcl_i, zcl_r, zcl_l, zcl_n, zv_some, zv_none, Nat.reduceAdd, Nat.reduceMul, Nat.reduceSub, Nat.reduceLT, Nat.reduceLeDiff, Nat.reduceEqDiff, Int.reduceToNat, true_implies, false_implies, implies_true, and_true, true_and, not_true_eq_false, not_false_eq_true, Nat.zero_add, Nat.add_zero, nI_add, nI_ltI, nI_leI, nI_eq, pk_mul, pk_sub, u2_same, u2_row, u2_other]
      simp (disch := first | assumption | rfl | exact zle_0 | exact zle_1 | exact zle_2 | exact zle_3 | exact zle_4 | exact zb_0 | exact zb_1 | exact zb01_B | omega) only [zT61_45, zr_aload_0, zT61_46, zr_iv_48, zT61_49, zr_icmp_gt, zT61_52, zr_iload_3, zT61_53, zr_iv_8, zT61_56, zr_iload_2, zT61_57, zT61_60, zr_icmp_le, zT61_63, zT61_64, zT61_65, zr_iv_47, zcl_i, zcl_r, zcl_l, zcl_n, zv_some, zv_none, Nat.reduceAdd, Nat.reduceMul, Nat.reduceSub, Nat.reduceLT, Nat.reduceLeDiff, Nat.reduceEqDiff, Int.reduceToNat, true_implies, false_implies, implies_true, and_true, true_and, not_true_eq_false, not_false_eq_true, Nat.zero_add, Nat.add_zero, nI_add, nI_ltI, nI_leI, nI_eq, pk_mul, pk_sub, u2_same, u2_row, u2_other, al, ea, o1, o2, olt_T, olt_F, ole_T, ole_F, oeq_T, oeq_F]
      refine ym_search hf h hg (by decide) hh b8 (fun f2 k1 k2 k3 k4 => ?_)
      rw [en_but hg.1.1]
      rw [show a_FW (ws 0) (a_enough (ws 0) (a_hands (ws 0) (ws 0 54)) 0 0) (a_fs (ws 0) b) = a_FN (ws 0) (a_fs (ws 0) b) from rfl]
      have fle : a_FN (ws 0) (a_fs (ws 0) b) ≤ 45 ∨ a_FN (ws 0) (a_fs (ws 0) b) = 100 := a_FW_le hg.1.1 (a_box_fs hg.1.1 (set := b))
      generalize a_FN (ws 0) (a_fs (ws 0) b) = F at *
      by_cases cA : F = 100
      · rw [if_neg (fun q => q.1 cA)] at hQ
        have o := fun v4 => ih (b + 1) (by omega) (by omega) best hbest hQ f2 k1 k3 (hs.tr k4) v4
        rw [iF_100 cA]
        simp (disch := first | assumption | rfl | exact zle_0 | exact zle_1 | exact zle_2 | exact zle_3 | exact zle_4 | exact zb_0 | exact zb_1 | exact zb01_B | omega) only [zT61_68, zr_goto, zT61_71, zr_ic_m1, zT61_72, zr_istore_4, zT61_74, zr_iload_4, zT61_76, zT61_77, zr_icmp_eq, zT61_80, zT61_82, zr_iload_1, zT61_83, zr_icmp_gt, zT61_86, zr_iload_3, zT61_87, zT61_90, zr_iload_2, zT61_91, zr_istore_2, zT61_92, zr_iinc_3_1, zT61_95, zcl_i, zcl_r, zcl_l, zcl_n, zv_some, zv_none, Nat.reduceAdd, Nat.reduceMul, Nat.reduceSub, Nat.reduceLT, Nat.reduceLeDiff, Nat.reduceEqDiff, Int.reduceToNat, true_implies, false_implies, implies_true, and_true, true_and, not_true_eq_false, not_false_eq_true, Nat.zero_add, Nat.add_zero, nI_add, nI_ltI, nI_leI, nI_eq, pk_mul, pk_sub, u2_same, u2_row, u2_other, olt_T, olt_F, ole_T, ole_F, oeq_T, oeq_F]
        exact o _
      · rw [iF_n cA]
        have nA : (nI F = nM 1) = False := nM_eqI (by decide) (by decide) (by omega)
        by_cases cB : F ≤ x
        · rw [if_pos ⟨cA, cB, cC⟩] at hQ
          have o := fun v4 => ih (b + 1) (by omega) (by omega) b b8 hQ f2 k1 k3 (hs.tr k4) v4
          simp (disch := first | assumption | rfl | exact zle_0 | exact zle_1 | exact zle_2 | exact zle_3 | exact zle_4 | exact zb_0 | exact zb_1 | exact zb01_B | omega) only [zT61_68, zr_goto, zT61_71, zr_ic_m1, zT61_72, zr_istore_4, zT61_74, zr_iload_4, zT61_76, zT61_77, zr_icmp_eq, zT61_80, zT61_82, zr_iload_1, zT61_83, zr_icmp_gt, zT61_86, zr_iload_3, zT61_87, zT61_90, zr_iload_2, zT61_91, zr_istore_2, zT61_92, zr_iinc_3_1, zT61_95, zcl_i, zcl_r, zcl_l, zcl_n, zv_some, zv_none, Nat.reduceAdd, Nat.reduceMul, Nat.reduceSub, Nat.reduceLT, Nat.reduceLeDiff, Nat.reduceEqDiff, Int.reduceToNat, true_implies, false_implies, implies_true, and_true, true_and, not_true_eq_false, not_false_eq_true, Nat.zero_add, Nat.add_zero, nI_add, nI_ltI, nI_leI, nI_eq, pk_mul, pk_sub, u2_same, u2_row, u2_other, nA, olt_T, olt_F, ole_T, ole_F, oeq_T, oeq_F]
          exact o _
        · rw [if_neg (fun q => cB q.2.1)] at hQ
          have o := fun v4 => ih (b + 1) (by omega) (by omega) best hbest hQ f2 k1 k3 (hs.tr k4) v4
          simp (disch := first | assumption | rfl | exact zle_0 | exact zle_1 | exact zle_2 | exact zle_3 | exact zle_4 | exact zb_0 | exact zb_1 | exact zb01_B | omega) only [zT61_68, zr_goto, zT61_71, zr_ic_m1, zT61_72, zr_istore_4, zT61_74, zr_iload_4, zT61_76, zT61_77, zr_icmp_eq, zT61_80, zT61_82, zr_iload_1, zT61_83, zr_icmp_gt, zT61_86, zr_iload_3, zT61_87, zT61_90, zr_iload_2, zT61_91, zr_istore_2, zT61_92, zr_iinc_3_1, zT61_95, zcl_i, zcl_r, zcl_l, zcl_n, zv_some, zv_none, Nat.reduceAdd, Nat.reduceMul, Nat.reduceSub, Nat.reduceLT, Nat.reduceLeDiff, Nat.reduceEqDiff, Int.reduceToNat, true_implies, false_implies, implies_true, and_true, true_and, not_true_eq_false, not_false_eq_true, Nat.zero_add, Nat.add_zero, nI_add, nI_ltI, nI_leI, nI_eq, pk_mul, pk_sub, u2_same, u2_row, u2_other, nA, olt_T, olt_F, ole_T, ole_F, oeq_T, oeq_F]
          exact o _
    · rw [if_neg (fun q => cC q.2.2)] at hQ
      have o := fun v4 => ih (b + 1) (by omega) (by omega) best hbest hQ fi h hh hs v4
      simp (disch := first | assumption | rfl | exact zle_0 | exact zle_1 | exact zle_2 | exact zle_3 | exact zle_4 | exact zb_0 | exact zb_1 | exact zb01_B | omega) only [zT61_44, zr_iload_3, zcl_i, zcl_r, zcl_l, zcl_n, zv_some, zv_none, Nat.reduceAdd, Nat.reduceMul, Nat.reduceSub, Nat.reduceLT, Nat.reduceLeDiff, Nat.reduceEqDiff, Int.reduceToNat, true_implies, false_implies, implies_true, and_true, true_and, not_true_eq_false, not_false_eq_true, Nat.zero_add, Nat.add_zero, nI_add, nI_ltI, nI_leI, nI_eq, pk_mul, pk_sub, u2_same, u2_row, u2_other]
      simp (disch := first | assumption | rfl | exact zle_0 | exact zle_1 | exact zle_2 | exact zle_3 | exact zle_4 | exact zb_0 | exact zb_1 | exact zb01_B | omega) only [zT61_45, zr_aload_0, zT61_46, zr_iv_48, zT61_49, zr_icmp_gt, zT61_52, zr_iload_3, zT61_53, zr_iv_8, zT61_56, zr_iload_2, zT61_57, zT61_60, zr_icmp_le, zT61_71, zr_ic_m1, zT61_72, zr_istore_4, zT61_74, zr_iload_4, zT61_76, zT61_77, zr_icmp_eq, zT61_80, zT61_82, zr_iload_1, zT61_83, zT61_86, zT61_87, zr_goto, zT61_90, zT61_91, zr_istore_2, zT61_92, zr_iinc_3_1, zT61_95, zcl_i, zcl_r, zcl_l, zcl_n, zv_some, zv_none, Nat.reduceAdd, Nat.reduceMul, Nat.reduceSub, Nat.reduceLT, Nat.reduceLeDiff, Nat.reduceEqDiff, Int.reduceToNat, true_implies, false_implies, implies_true, and_true, true_and, not_true_eq_false, not_false_eq_true, Nat.zero_add, Nat.add_zero, nI_add, nI_ltI, nI_leI, nI_eq, pk_mul, pk_sub, u2_same, u2_row, u2_other, al, ea, o1, o2, olt_T, olt_F, ole_T, ole_F, oeq_T, oeq_F]
      exact o _
theorem ym_menu (hf : z_FR fr) (h : z_MS fi fl ws nn tx) (hg : z_G ws nn) {x : Int32} (hQ : z_MQ fi fr Q (r_menu ws nn x).1 ws (r_menu ws nn x).2 tx) : TT 61 0 [some (.ref 133), some (.int x), none, none, none] [] (151, fi, fl, fr) Q := by
  have o133 : z_ok 151 133 20 = true := rfl; have o134 : z_ok 151 134 1 = true := rfl
  have l134 : z_al 134 = 440 := rfl
  have td := fun fi a Q => sm_told (fi := fi) (fl := fl) (Q := Q) hf (a := a)
  have si := fun M Q v lo hi => sm_in (M := M) (Q := Q) (v := v) (lo := lo) (hi := hi)
  have l60 : (lN 60).toInt = 60 := by decide
  have h54 := hg.1.1.2.2.2.2.2.1
  have e54 := h.1.1.at0 (i := 54) (by decide)
  unfold r_menu at hQ
  by_cases c : 0 ≤ x.toInt ∧ x.toInt ≤ 60
  · rw [if_pos c] at hQ
    obtain ⟨j, j2, rfl, ej⟩ := i3 (n := 60) c
    rw [ej] at hQ
    have e1 : 1 ≤ 2 ^ ws 0 13 := Nat.one_le_two_pow
    have rest : ∀ f1, z_MS f1 fl ws nn tx → z_MH f1 (a_but (ws 0) (ws 0 54) 6) 0 0 6 → z_sr fi f1 → TT 61 40 [some (.ref 133), some (.int (nI j)), none, none, none] [] (151, f1, fl, fr) Q := by
      intro f1 g1 g2 g3
      have L := ym_mn_ (fl := fl) (tx := tx) (Q := Q) hf hg j2 (fi0 := fi) (2 ^ ws 0 13 - 1) 1 (by omega) (Nat.le_refl _) 0 (by decide) hQ f1 g1 g2 g3 none
      simp (disch := first | assumption | rfl | exact zle_0 | exact zle_1 | exact zle_2 | exact zle_3 | exact zle_4 | exact zb_0 | exact zb_1 | exact zb01_B | omega) only [zT61_40, zr_ic_0, zT61_41, zr_istore_2, zT61_42, zr_ic_1, zT61_43, zr_istore_3, zcl_i, zcl_r, zcl_l, zcl_n, zv_some, zv_none, Nat.reduceAdd, Nat.reduceMul, Nat.reduceSub, Nat.reduceLT, Nat.reduceLeDiff, Nat.reduceEqDiff, Int.reduceToNat, true_implies, false_implies, implies_true, and_true, true_and, not_true_eq_false, not_false_eq_true, Nat.zero_add, Nat.add_zero, nI_add, nI_ltI, nI_leI, nI_eq, pk_mul, pk_sub, u2_same, u2_row, u2_other, olt_T, olt_F, ole_T, ole_F, oeq_T, oeq_F]
      exact L
    have : ws 0 54 = 0 ∨ ws 0 54 = 1 := by omega
    rcases this with e | e
    · rw [e] at e54 rest
      simp (disch := first | assumption | rfl | exact zle_0 | exact zle_1 | exact zle_2 | exact zle_3 | exact zle_4 | exact zb_0 | exact zb_1 | exact zb01_B | omega) only [zT61_0, zr_iload_1, zT61_1, zr_i2l, zT61_2, zr_ldc2, zT61_3, zT61_6, zr_iv_2, zT61_9, zr_if_ne, zT61_12, zr_aload_0, zT61_13, zr_ic_m2, zT61_15, zr_iv_3, zT61_18, zr_ret0, zT61_19, zT61_20, zr_ic_m1, zT61_21, zT61_22, zr_gf_71, zr_or, zr_go, zf_133_71, zT61_25, zr_ic_54, zT61_27, zr_iald, zT61_28, zr_ic_1, zT61_29, zr_icmp_ne, zT61_32, zT61_33, zr_goto, zT61_36, zr_ic_0, zT61_37, zr_iv_37, zcl_i, zcl_r, zcl_l, zcl_n, zv_some, zv_none, Nat.reduceAdd, Nat.reduceMul, Nat.reduceSub, Nat.reduceLT, Nat.reduceLeDiff, Nat.reduceEqDiff, Int.reduceToNat, true_implies, false_implies, implies_true, and_true, true_and, not_true_eq_false, not_false_eq_true, Nat.zero_add, Nat.add_zero, nI_add, nI_ltI, nI_leI, nI_eq, pk_mul, pk_sub, u2_same, u2_row, u2_other, si, x64, l0, l60, dcd_T c, zB_eq0, reduceCtorEq, e54, olt_T, olt_F, ole_T, ole_F, oeq_T, oeq_F]
      exact ym_gather hf h hg (by decide) hx6 (fun f1 g1 g2 g3 => rest f1 g1 g2 g3)
    · rw [e] at e54 rest
      simp (disch := first | assumption | rfl | exact zle_0 | exact zle_1 | exact zle_2 | exact zle_3 | exact zle_4 | exact zb_0 | exact zb_1 | exact zb01_B | omega) only [zT61_0, zr_iload_1, zT61_1, zr_i2l, zT61_2, zr_ldc2, zT61_3, zT61_6, zr_iv_2, zT61_9, zr_if_ne, zT61_12, zr_aload_0, zT61_13, zr_ic_m2, zT61_15, zr_iv_3, zT61_18, zr_ret0, zT61_19, zT61_20, zr_ic_m1, zT61_21, zT61_22, zr_gf_71, zr_or, zr_go, zf_133_71, zT61_25, zr_ic_54, zT61_27, zr_iald, zT61_28, zr_ic_1, zT61_29, zr_icmp_ne, zT61_32, zT61_33, zr_goto, zT61_36, zr_ic_0, zT61_37, zr_iv_37, zcl_i, zcl_r, zcl_l, zcl_n, zv_some, zv_none, Nat.reduceAdd, Nat.reduceMul, Nat.reduceSub, Nat.reduceLT, Nat.reduceLeDiff, Nat.reduceEqDiff, Int.reduceToNat, true_implies, false_implies, implies_true, and_true, true_and, not_true_eq_false, not_false_eq_true, Nat.zero_add, Nat.add_zero, nI_add, nI_ltI, nI_leI, nI_eq, pk_mul, pk_sub, u2_same, u2_row, u2_other, si, x64, l0, l60, dcd_T c, zB_eq0, reduceCtorEq, e54, olt_T, olt_F, ole_T, ole_F, oeq_T, oeq_F]
      exact ym_gather hf h hg (by decide) hx6 (fun f1 g1 g2 g3 => rest f1 g1 g2 g3)
  · rw [if_neg c] at hQ
    have o := z_MQ.ref (Or.inl rfl) h hQ
    simp (disch := first | assumption | rfl | exact zle_0 | exact zle_1 | exact zle_2 | exact zle_3 | exact zle_4 | exact zb_0 | exact zb_1 | exact zb01_B | omega) only [zT61_0, zr_iload_1, zT61_1, zr_i2l, zT61_2, zr_ldc2, zT61_3, zT61_6, zr_iv_2, zT61_9, zr_if_ne, zT61_12, zr_aload_0, zT61_13, zr_ic_m2, zT61_15, zr_iv_3, zT61_18, zr_ret0, zcl_i, zcl_r, zcl_l, zcl_n, zv_some, zv_none, Nat.reduceAdd, Nat.reduceMul, Nat.reduceSub, Nat.reduceLT, Nat.reduceLeDiff, Nat.reduceEqDiff, Int.reduceToNat, true_implies, false_implies, implies_true, and_true, true_and, not_true_eq_false, not_false_eq_true, Nat.zero_add, Nat.add_zero, nI_add, nI_ltI, nI_leI, nI_eq, pk_mul, pk_sub, u2_same, u2_row, u2_other, si, x64, l0, l60, dcd_F c, zB_eq0, td, olt_T, olt_F, ole_T, ole_F, oeq_T, oeq_F]
    exact o
end
