/-! the model's wages and drawn -/
section
variable {fi fi' : Nat → Nat → Int32} {fl fl' : Nat → Nat → Int64} {fr : Nat → Nat → Option Nat} {Q : Option Value → Mm → Prop} {w : Nat → Nat} {k : Nat} {M : Mm} {ws : Nat → Nat → Nat} {nn tx : Nat → Nat} {n : Nat}
theorem ym_go (hf : z_FR fr) (h : z_MS fi fl ws nn tx) (hg : z_G ws nn) (hp : z_MP fi (ws 0) (a_en (ws 0) (ws 0 54)) (a_all (ws 0))) (hn : a_nw (ws 0) ≠ 100) {g : Nat → Nat} {ci : Int32} (hci : z_who ci (a_tmN (ws 0)) g) {w20 sd : Nat} (hw20 : w20 ≤ 20) (hsd : sd < 2147483648)
    (hQ : ∀ f, z_MS f fl ws nn tx → z_sr fi f → z_GF f (a_shr (ws 0)) (cN g (a_nw (ws 0)) 0) (a_burn (a_tmN (ws 0)) w20 (3 * a_nw (ws 0)) 0 sd) (wgN (ws 0) (a_tmN (ws 0)) (a_nw (ws 0)) 0) → Q none (151, f, fl, fr)) :
    TT 64 0 [some (.ref 133), some (.int (nI (a_nw (ws 0)))), some (.int ci), some (.int (nI w20)), some (.long (lN sd)), none, none, none, none, none, none, none, none, none, none] [] (151, fi, fl, fr) Q :=
  sm_goThrough hf hg.1.1 h.1.1 hp hn hci hw20 hsd (fun f g1 g2 => hQ f (h.sr g1.1) g1.1 g2)
theorem ym_wages (hf : z_FR fr) (h : z_MS fi fl ws nn tx) (hg : z_G ws nn) (hQ : z_MQ fi fr Q (r_wages (ws 0)) ws nn tx) : TT 68 0 [some (.ref 133), none] [] (151, fi, fl, fr) Q := by
  have o133 : z_ok 151 133 20 = true := rfl
  have n45 : a_nw (ws 0) ≤ 45 ∨ a_nw (ws 0) = 100 := a_FW_45 hg.1.1
  unfold r_wages at hQ
  simp (disch := first | assumption | rfl | exact zle_0 | exact zle_1 | exact zle_2 | exact zle_3 | exact zle_4 | exact zb_0 | exact zb_1 | exact zb01_B | omega) only [zT68_0, zr_aload_0, zT68_1, zr_iv_49, zcl_i, zcl_r, zcl_l, zcl_n, zv_some, zv_none, Nat.reduceAdd, Nat.reduceMul, Nat.reduceSub, Nat.reduceLT, Nat.reduceLeDiff, Nat.reduceEqDiff, Int.reduceToNat, true_implies, false_implies, implies_true, and_true, true_and, not_true_eq_false, not_false_eq_true, Nat.zero_add, Nat.add_zero, nI_add, nI_ltI, nI_leI, nI_eq, pk_mul, pk_sub, u2_same, u2_row, u2_other, olt_T, olt_F, ole_T, ole_F, oeq_T, oeq_F]
  refine ym_findNow hf h hg (fun f1 g1 g2 g3 g4 => ?_)
  by_cases c0 : a_nw (ws 0) = 100
  · rw [if_pos c0] at hQ
    rw [iF_100 c0]
    simp (disch := first | assumption | rfl | exact zle_0 | exact zle_1 | exact zle_2 | exact zle_3 | exact zle_4 | exact zb_0 | exact zb_1 | exact zb01_B | omega) only [zT68_4, zr_istore_1, zT68_5, zr_iload_1, zT68_6, zr_ic_m1, zT68_7, zr_icmp_ne, zT68_10, zT68_11, zr_ret0, zcl_i, zcl_r, zcl_l, zcl_n, zv_some, zv_none, Nat.reduceAdd, Nat.reduceMul, Nat.reduceSub, Nat.reduceLT, Nat.reduceLeDiff, Nat.reduceEqDiff, Int.reduceToNat, true_implies, false_implies, implies_true, and_true, true_and, not_true_eq_false, not_false_eq_true, Nat.zero_add, Nat.add_zero, nI_add, nI_ltI, nI_leI, nI_eq, pk_mul, pk_sub, u2_same, u2_row, u2_other, olt_T, olt_F, ole_T, ole_F, oeq_T, oeq_F]
    exact hQ f1 fl g1 (fun j hj => g4.2 j (by omega))
  · rw [if_neg c0] at hQ
    rw [iF_n c0]
    have c0' : (nI (a_nw (ws 0)) = nM 1) = False := nM_eqI (by decide) (by decide) (by omega)
    simp (disch := first | assumption | rfl | exact zle_0 | exact zle_1 | exact zle_2 | exact zle_3 | exact zle_4 | exact zb_0 | exact zb_1 | exact zb01_B | omega) only [zT68_4, zr_istore_1, zT68_5, zr_iload_1, zT68_6, zr_ic_m1, zT68_7, zr_icmp_ne, zT68_10, zT68_11, zr_ret0, zT68_12, zr_aload_0, zT68_13, zT68_14, zT68_15, zr_ic_0, zT68_16, zr_ldc2, zT68_17, zr_iv_64, zcl_i, zcl_r, zcl_l, zcl_n, zv_some, zv_none, Nat.reduceAdd, Nat.reduceMul, Nat.reduceSub, Nat.reduceLT, Nat.reduceLeDiff, Nat.reduceEqDiff, Int.reduceToNat, true_implies, false_implies, implies_true, and_true, true_and, not_true_eq_false, not_false_eq_true, Nat.zero_add, Nat.add_zero, nI_add, nI_ltI, nI_leI, nI_eq, pk_mul, pk_sub, u2_same, u2_row, u2_other, c0', olt_T, olt_F, ole_T, ole_F, oeq_T, oeq_F]
    refine ym_go hf g1 hg g2 c0 (Or.inl ⟨rfl, rfl⟩) (w20 := 0) (sd := 0) (by decide) (by decide) (fun f2 k1 k2 k3 => ?_)
    have e := k3.2.2.2
    simp (disch := first | assumption | rfl | exact zle_0 | exact zle_1 | exact zle_2 | exact zle_3 | exact zle_4 | exact zb_0 | exact zb_1 | exact zb01_B | omega) only [zT68_20, zr_aload_0, zT68_21, zr_gf_102, zT68_24, zr_ret0, zcl_i, zcl_r, zcl_l, zcl_n, zv_some, zv_none, Nat.reduceAdd, Nat.reduceMul, Nat.reduceSub, Nat.reduceLT, Nat.reduceLeDiff, Nat.reduceEqDiff, Int.reduceToNat, true_implies, false_implies, implies_true, and_true, true_and, not_true_eq_false, not_false_eq_true, Nat.zero_add, Nat.add_zero, nI_add, nI_ltI, nI_leI, nI_eq, pk_mul, pk_sub, u2_same, u2_row, u2_other, e, olt_T, olt_F, ole_T, ole_F, oeq_T, oeq_F]
    exact hQ f2 fl k1 (fun j hj => (g4.tr k2).2 j (by omega))
theorem ym_drawn (hf : z_FR fr) (h : z_MS fi fl ws nn tx) (hg : z_G ws nn) {x y : Int32} (hQ : z_MQ fi fr Q (r_drawn ws nn x y).1 ws (r_drawn ws nn x y).2 tx) : TT 66 0 [some (.ref 133), some (.int x), some (.int y), none] [] (151, fi, fl, fr) Q := by
  have o133 : z_ok 151 133 20 = true := rfl
  have te := (sm_tElse (fi := fi) (fl := fl) hf).1
  have si := fun M Q v lo hi => sm_in (M := M) (Q := Q) (v := v) (lo := lo) (hi := hi)
  have l20 : (lN 20).toInt = 20 := by decide
  have l99 : (lN 999999).toInt = 999999 := by decide
  have n45 : a_nw (ws 0) ≤ 45 ∨ a_nw (ws 0) = 100 := a_FW_45 hg.1.1
  unfold r_drawn at hQ
  by_cases c : 0 ≤ x.toInt ∧ x.toInt ≤ 20
  · by_cases c2 : 0 ≤ y.toInt ∧ y.toInt ≤ 999999
    · rw [if_pos ⟨c.1, c.2, c2.1, c2.2⟩] at hQ
      obtain ⟨j, j2, rfl, ej⟩ := i3 (n := 20) c
      obtain ⟨s, s2, rfl, es⟩ := i3 (n := 999999) c2
      rw [ej, es] at hQ
      simp (disch := first | assumption | rfl | exact zle_0 | exact zle_1 | exact zle_2 | exact zle_3 | exact zle_4 | exact zb_0 | exact zb_1 | exact zb01_B | omega) only [zT66_0, zr_iload_1, zT66_1, zr_i2l, zT66_2, zr_ldc2, zT66_3, zT66_6, zr_iv_2, zT66_9, zr_if_eq, zT66_12, zr_iload_2, zT66_13, zT66_14, zT66_15, zT66_18, zT66_21, zr_if_ne, zT66_24, zr_aload_0, zT66_25, zr_ic_m10, zT66_27, zr_iv_4, zT66_30, zr_ret0, zT66_31, zT66_32, zr_iv_49, zcl_i, zcl_r, zcl_l, zcl_n, zv_some, zv_none, Nat.reduceAdd, Nat.reduceMul, Nat.reduceSub, Nat.reduceLT, Nat.reduceLeDiff, Nat.reduceEqDiff, Int.reduceToNat, true_implies, false_implies, implies_true, and_true, true_and, not_true_eq_false, not_false_eq_true, Nat.zero_add, Nat.add_zero, nI_add, nI_ltI, nI_leI, nI_eq, pk_mul, pk_sub, u2_same, u2_row, u2_other, si, x64, l0, l20, l99, dcd_T c, dcd_T c2, zB_eq0, reduceCtorEq, olt_T, olt_F, ole_T, ole_F, oeq_T, oeq_F]
      refine ym_findNow hf h hg (fun f1 g1 g2 g3 g4 => ?_)
      by_cases c0 : a_nw (ws 0) = 100
      · rw [if_pos c0] at hQ
        rw [iF_100 c0]
        have te1 := (sm_tElse (fi := f1) (fl := fl) hf).2
        have o := z_MQ.els (fi := f1) (Or.inr rfl) g1 (fun f' l' q1 q2 => hQ f' l' q1 (fun i hi => by rw [q2 i hi, g4.2 i (by omega)]))
        simp (disch := first | assumption | rfl | exact zle_0 | exact zle_1 | exact zle_2 | exact zle_3 | exact zle_4 | exact zb_0 | exact zb_1 | exact zb01_B | omega) only [zT66_35, zr_istore_3, zT66_36, zr_iload_3, zT66_37, zr_ic_m1, zT66_38, zr_icmp_ne, zT66_41, zr_aload_0, zT66_42, zr_ic_m20, zT66_44, zr_iv_4, zT66_47, zr_ret0, zcl_i, zcl_r, zcl_l, zcl_n, zv_some, zv_none, Nat.reduceAdd, Nat.reduceMul, Nat.reduceSub, Nat.reduceLT, Nat.reduceLeDiff, Nat.reduceEqDiff, Int.reduceToNat, true_implies, false_implies, implies_true, and_true, true_and, not_true_eq_false, not_false_eq_true, Nat.zero_add, Nat.add_zero, nI_add, nI_ltI, nI_leI, nI_eq, pk_mul, pk_sub, u2_same, u2_row, u2_other, te1, olt_T, olt_F, ole_T, ole_F, oeq_T, oeq_F]
        exact o
      · rw [if_neg c0] at hQ
        rw [iF_n c0]
        have c0' : (nI (a_nw (ws 0)) = nM 1) = False := nM_eqI (by decide) (by decide) (by omega)
        have il := nI_l (show s < 2 ^ 31 by omega)
        simp (disch := first | assumption | rfl | exact zle_0 | exact zle_1 | exact zle_2 | exact zle_3 | exact zle_4 | exact zb_0 | exact zb_1 | exact zb01_B | omega) only [zT66_35, zr_istore_3, zT66_36, zr_iload_3, zT66_37, zr_ic_m1, zT66_38, zr_icmp_ne, zT66_41, zr_aload_0, zT66_42, zr_ic_m20, zT66_44, zr_iv_4, zT66_47, zr_ret0, zT66_48, zT66_49, zT66_50, zT66_51, zr_iload_1, zT66_52, zr_iload_2, zT66_53, zr_i2l, zT66_54, zr_iv_64, zcl_i, zcl_r, zcl_l, zcl_n, zv_some, zv_none, Nat.reduceAdd, Nat.reduceMul, Nat.reduceSub, Nat.reduceLT, Nat.reduceLeDiff, Nat.reduceEqDiff, Int.reduceToNat, true_implies, false_implies, implies_true, and_true, true_and, not_true_eq_false, not_false_eq_true, Nat.zero_add, Nat.add_zero, nI_add, nI_ltI, nI_leI, nI_eq, pk_mul, pk_sub, u2_same, u2_row, u2_other, c0', il, olt_T, olt_F, ole_T, ole_F, oeq_T, oeq_F]
        refine ym_go hf g1 hg g2 c0 (Or.inl ⟨rfl, rfl⟩) (w20 := j) (sd := s) j2 (by omega) (fun f2 k1 k2 k3 => ?_)
        have e := k3.2.2.1
        have o := hQ f2 fl k1 (fun i hi => (g4.tr k2).2 i (by omega))
        unfold oI at e
        dsimp only at o
        simp (disch := first | assumption | rfl | exact zle_0 | exact zle_1 | exact zle_2 | exact zle_3 | exact zle_4 | exact zb_0 | exact zb_1 | exact zb01_B | omega) only [zT66_57, zr_aload_0, zT66_58, zr_gf_103, zT66_61, zr_ret0, zcl_i, zcl_r, zcl_l, zcl_n, zv_some, zv_none, Nat.reduceAdd, Nat.reduceMul, Nat.reduceSub, Nat.reduceLT, Nat.reduceLeDiff, Nat.reduceEqDiff, Int.reduceToNat, true_implies, false_implies, implies_true, and_true, true_and, not_true_eq_false, not_false_eq_true, Nat.zero_add, Nat.add_zero, nI_add, nI_ltI, nI_leI, nI_eq, pk_mul, pk_sub, u2_same, u2_row, u2_other, e, olt_T, olt_F, ole_T, ole_F, oeq_T, oeq_F]
        exact o
    · rw [if_neg (fun q => c2 ⟨q.2.2.1, q.2.2.2⟩)] at hQ
      have o := z_MQ.els (Or.inl rfl) h hQ
      simp (disch := first | assumption | rfl | exact zle_0 | exact zle_1 | exact zle_2 | exact zle_3 | exact zle_4 | exact zb_0 | exact zb_1 | exact zb01_B | omega) only [zT66_0, zr_iload_1, zT66_1, zr_i2l, zT66_2, zr_ldc2, zT66_3, zT66_6, zr_iv_2, zT66_9, zr_if_eq, zT66_12, zr_iload_2, zT66_13, zT66_14, zT66_15, zT66_18, zT66_21, zr_if_ne, zT66_24, zr_aload_0, zT66_25, zr_ic_m10, zT66_27, zr_iv_4, zT66_30, zr_ret0, zcl_i, zcl_r, zcl_l, zcl_n, zv_some, zv_none, Nat.reduceAdd, Nat.reduceMul, Nat.reduceSub, Nat.reduceLT, Nat.reduceLeDiff, Nat.reduceEqDiff, Int.reduceToNat, true_implies, false_implies, implies_true, and_true, true_and, not_true_eq_false, not_false_eq_true, Nat.zero_add, Nat.add_zero, nI_add, nI_ltI, nI_leI, nI_eq, pk_mul, pk_sub, u2_same, u2_row, u2_other, si, x64, l0, l20, l99, dcd_T c, dcd_F c2, zB_eq0, reduceCtorEq, te, olt_T, olt_F, ole_T, ole_F, oeq_T, oeq_F]
      exact o
  · rw [if_neg (fun q => c ⟨q.1, q.2.1⟩)] at hQ
    have o := z_MQ.els (Or.inl rfl) h hQ
    simp (disch := first | assumption | rfl | exact zle_0 | exact zle_1 | exact zle_2 | exact zle_3 | exact zle_4 | exact zb_0 | exact zb_1 | exact zb01_B | omega) only [zT66_0, zr_iload_1, zT66_1, zr_i2l, zT66_2, zr_ldc2, zT66_3, zT66_6, zr_iv_2, zT66_9, zr_if_eq, zT66_12, zr_iload_2, zT66_13, zT66_14, zT66_15, zT66_18, zT66_21, zr_if_ne, zT66_24, zr_aload_0, zT66_25, zr_ic_m10, zT66_27, zr_iv_4, zT66_30, zr_ret0, zcl_i, zcl_r, zcl_l, zcl_n, zv_some, zv_none, Nat.reduceAdd, Nat.reduceMul, Nat.reduceSub, Nat.reduceLT, Nat.reduceLeDiff, Nat.reduceEqDiff, Int.reduceToNat, true_implies, false_implies, implies_true, and_true, true_and, not_true_eq_false, not_false_eq_true, Nat.zero_add, Nat.add_zero, nI_add, nI_ltI, nI_leI, nI_eq, pk_mul, pk_sub, u2_same, u2_row, u2_other, si, x64, l0, l20, l99, dcd_F c, zB_eq0, te, olt_T, olt_F, ole_T, ole_F, oeq_T, oeq_F]
    exact o
end
