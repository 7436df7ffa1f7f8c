/-! the model's may, for all states -/
def a_st3 (w : Nat → Nat) (s : Nat) : Bool := decide (plc s 0 ≤ a_tot w 0 ∧ plc s 1 ≤ a_tot w 1 ∧ plc s 2 ≤ a_tot w 2)
theorem a_st3_iff {w : Nat → Nat} {s : Nat} (hs : s < 4096) : (a_st3 w s = true) ↔ isSt w s := by
  unfold a_st3 isSt
  rw [decide_eq_true_iff]
  constructor
  · rintro ⟨h0, h1, h2⟩
    refine ⟨hs, fun d hd => ?_⟩
    have : d = 0 ∨ d = 1 ∨ d = 2 := by omega
    rcases this with rfl | rfl | rfl
    · exact h0
    · exact h1
    · exact h2
  · rintro ⟨-, h⟩
    exact ⟨h 0 (by decide), h 1 (by decide), h 2 (by decide)⟩
def a_mayA (w : Nat → Nat) (en : Nat → Bool) (some_ s : Nat) : Nat := if a_st3 w s then a_may w en some_ s else 0
section
variable {fi fi' : Nat → Nat → Int32} {fl fl' : Nat → Nat → Int64} {fr : Nat → Nat → Option Nat} {Q : Option Value → Mm → Prop} {w : Nat → Nat} {k : Nat} {M : Mm} {ws : Nat → Nat → Nat} {nn tx : Nat → Nat} {n : Nat}
theorem z_MH.frame {hl : Nat → Nat} {er el m : Nat} (h : z_MH fi hl er el m) (h1 : fi' 133 = fi 133) : z_MH fi' hl er el m := by
  unfold z_MH at *
  rw [h1]
  exact h
theorem z_MR.fr1 {r : Nat} (h : z_MR fi r w) (h1 : fi' 134 = fi 134) : z_MR fi' r w := fun i hi => by rw [h1]; exact h i hi
theorem sm_tt_ (hf : z_FR fr) (hw : a_WF w) (hQ : ∀ fi', (∀ d, d < 3 → fi' 142 d = nI (a_tot w d)) → (∀ j, j ≠ 142 → fi' j = fi j) → ∀ v3 v4 v5, TT 46 39 [some (.ref 133), some (.int (nI k)), some (.int (nI 3)), v3, v4, v5] [] (151, fi', fl, fr) Q) :
    ∀ m d, d + m = 3 → ∀ f1, z_MR f1 0 w → (∀ e, e < d → f1 142 e = nI (a_tot w e)) → (∀ j, j ≠ 142 → f1 j = fi j) → ∀ v3 v4 v5, TT 46 2 [some (.ref 133), some (.int (nI k)), some (.int (nI d)), v3, v4, v5] [] (151, f1, fl, fr) Q := by
  have o133 : z_ok 151 133 20 = true := rfl; have o134 : z_ok 151 134 1 = true := rfl; have o142 : z_ok 151 142 1 = true := rfl
  have l134 : z_al 134 = 440 := rfl; have l142 : z_al 142 = 3 := rfl
  have h13 := hw.2.2.1
  intro m
  induction m with
  | zero =>
    intro d hd f1 hr h1 h2 v3 v4 v5
    obtain rfl : d = 3 := by omega
    have o := hQ f1 h1 h2 v3 v4 v5
    simp (disch := first | assumption | rfl | exact zle_0 | exact zle_1 | exact zle_2 | exact zle_3 | exact zle_4 | exact zb_0 | exact zb_1 | exact zb01_B | omega) only [zT46_2, zr_iload_2, zT46_3, zr_ic_3, zT46_4, zr_icmp_ge, zcl_i, zcl_r, zcl_l, zcl_n, zv_some, zv_none, Nat.reduceAdd, Nat.reduceMul, Nat.reduceSub, Nat.reduceLT, Nat.reduceLeDiff, Nat.reduceEqDiff, Int.reduceToNat, true_implies, false_implies, implies_true, and_true, true_and, not_true_eq_false, not_false_eq_true, Nat.zero_add, Nat.add_zero, nI_add, nI_ltI, nI_leI, nI_eq, pk_mul, pk_sub, u2_same, u2_row, u2_other, olt_T, olt_F, ole_T, ole_F, oeq_T, oeq_F]
    exact o
  | succ m ih =>
    intro d hd f1 hr h1 h2 v3 v4 v5
    have d3 : d < 3 := by omega
    have wd := hw.2.2.2.1 d d3
    have e13 := hr.at0 (i := 13) (by decide)
    have to := fun Q => sm_totalOf (fl := fl) (Q := Q) hf hr d3 wd.1
    have nx1 := ih (d + 1) (by omega) (u2 f1 142 d (nI (a_tot w d))) (hr.fr1 (u2_ne (by decide))) (fun e he => by
      by_cases q : e = d
      · subst q; rw [u2_same]
      · rw [u2_row q]; exact h1 e (by omega)) (fun j hj => by rw [u2_ne hj]; exact h2 j hj) v3 v4 v5
    by_cases c : d < w 13
    · simp (disch := first | assumption | rfl | exact zle_0 | exact zle_1 | exact zle_2 | exact zle_3 | exact zle_4 | exact zb_0 | exact zb_1 | exact zb01_B | omega) only [zT46_2, zr_iload_2, zcl_i, zcl_r, zcl_l, zcl_n, zv_some, zv_none, Nat.reduceAdd, Nat.reduceMul, Nat.reduceSub, Nat.reduceLT, Nat.reduceLeDiff, Nat.reduceEqDiff, Int.reduceToNat, true_implies, false_implies, implies_true, and_true, true_and, not_true_eq_false, not_false_eq_true, Nat.zero_add, Nat.add_zero, nI_add, nI_ltI, nI_leI, nI_eq, pk_mul, pk_sub, u2_same, u2_row, u2_other]
      simp (disch := first | assumption | rfl | exact zle_0 | exact zle_1 | exact zle_2 | exact zle_3 | exact zle_4 | exact zb_0 | exact zb_1 | exact zb01_B | omega) only [zT46_3, zr_ic_3, zT46_4, zr_icmp_ge, zT46_7, zr_aload_0, zT46_8, zr_gf_88, zr_or, zr_go, zf_133_88, zT46_11, zr_iload_2, zT46_12, zT46_13, zT46_14, zr_gf_71, zf_133_71, zT46_17, zr_ic_13, zT46_19, zr_iald, zT46_20, zT46_23, zT46_24, zT46_25, zr_iv_39, zT46_28, zr_goto, zT46_31, zr_ic_0, zT46_32, zr_iast, zT46_33, zr_iinc_2_1, zT46_36, zcl_i, zcl_r, zcl_l, zcl_n, zv_some, zv_none, Nat.reduceAdd, Nat.reduceMul, Nat.reduceSub, Nat.reduceLT, Nat.reduceLeDiff, Nat.reduceEqDiff, Int.reduceToNat, true_implies, false_implies, implies_true, and_true, true_and, not_true_eq_false, not_false_eq_true, Nat.zero_add, Nat.add_zero, nI_add, nI_ltI, nI_leI, nI_eq, pk_mul, pk_sub, u2_same, u2_row, u2_other, e13, to, olt_T, olt_F, ole_T, ole_F, oeq_T, oeq_F]
      exact nx1
    · have z : a_tot w d = 0 := by
        have := wd.2.1 (by omega)
        unfold a_tot
        rw [this]
        simp
      rw [z] at nx1
      simp (disch := first | assumption | rfl | exact zle_0 | exact zle_1 | exact zle_2 | exact zle_3 | exact zle_4 | exact zb_0 | exact zb_1 | exact zb01_B | omega) only [zT46_2, zr_iload_2, zcl_i, zcl_r, zcl_l, zcl_n, zv_some, zv_none, Nat.reduceAdd, Nat.reduceMul, Nat.reduceSub, Nat.reduceLT, Nat.reduceLeDiff, Nat.reduceEqDiff, Int.reduceToNat, true_implies, false_implies, implies_true, and_true, true_and, not_true_eq_false, not_false_eq_true, Nat.zero_add, Nat.add_zero, nI_add, nI_ltI, nI_leI, nI_eq, pk_mul, pk_sub, u2_same, u2_row, u2_other]
      simp (disch := first | assumption | rfl | exact zle_0 | exact zle_1 | exact zle_2 | exact zle_3 | exact zle_4 | exact zb_0 | exact zb_1 | exact zb01_B | omega) only [zT46_3, zr_ic_3, zT46_4, zr_icmp_ge, zT46_7, zr_aload_0, zT46_8, zr_gf_88, zr_or, zr_go, zf_133_88, zT46_11, zr_iload_2, zT46_12, zT46_13, zT46_14, zr_gf_71, zf_133_71, zT46_17, zr_ic_13, zT46_19, zr_iald, zT46_20, zT46_23, zT46_24, zT46_25, zr_iv_39, zT46_28, zr_goto, zT46_31, zr_ic_0, zT46_32, zr_iast, zT46_33, zr_iinc_2_1, zT46_36, zcl_i, zcl_r, zcl_l, zcl_n, zv_some, zv_none, Nat.reduceAdd, Nat.reduceMul, Nat.reduceSub, Nat.reduceLT, Nat.reduceLeDiff, Nat.reduceEqDiff, Int.reduceToNat, true_implies, false_implies, implies_true, and_true, true_and, not_true_eq_false, not_false_eq_true, Nat.zero_add, Nat.add_zero, nI_add, nI_ltI, nI_leI, nI_eq, pk_mul, pk_sub, u2_same, u2_row, u2_other, e13, olt_T, olt_F, ole_T, ole_F, oeq_T, oeq_F]
      exact nx1
theorem sm_mu_ (hf : z_FR fr) (hw : a_WF w) (hr : z_MR fi 0 w) {s some_ : Nat} (h8 : some_ < 8) (hs : isSt w s) : ∀ m d, d + m = w 13 → TT 46 82 [some (.ref 133), some (.int (nI some_)), some (.int (nI s)), some (.int (nI (a_lf w some_ s))), some (.int (nI (msk (fun d => a_bit (a_lf w some_ s) d && decide (0 < (a_stp w d (plc s d)).2)) d))), some (.int (nI d))] [] (151, fi, fl, fr) Q = TT 46 143 [some (.ref 133), some (.int (nI some_)), some (.int (nI s)), some (.int (nI (a_lf w some_ s))), some (.int (nI (a_mu w some_ s))), some (.int (nI (w 13)))] [] (151, fi, fl, fr) Q := by
  have o133 : z_ok 151 133 20 = true := rfl; have o134 : z_ok 151 134 1 = true := rfl
  have l134 : z_al 134 = 440 := rfl
  have h13 := hw.2.2.1
  have e13 := hr.at0 (i := 13) (by decide)
  have ll := a_lf_lt (w := w) (s := s) h8
  have s4 := hs.1
  intro m
  induction m with
  | zero =>
    intro d hd
    obtain rfl : d = w 13 := by omega
    simp (disch := first | assumption | rfl | exact zle_0 | exact zle_1 | exact zle_2 | exact zle_3 | exact zle_4 | exact zb_0 | exact zb_1 | exact zb01_B | omega) only [zT46_82, zr_iload_5, zT46_84, zr_aload_0, zT46_85, zr_gf_71, zr_or, zr_go, zf_133_71, zT46_88, zr_ic_13, zT46_90, zr_iald, zT46_91, zr_icmp_ge, zcl_i, zcl_r, zcl_l, zcl_n, zv_some, zv_none, Nat.reduceAdd, Nat.reduceMul, Nat.reduceSub, Nat.reduceLT, Nat.reduceLeDiff, Nat.reduceEqDiff, Int.reduceToNat, true_implies, false_implies, implies_true, and_true, true_and, not_true_eq_false, not_false_eq_true, Nat.zero_add, Nat.add_zero, nI_add, nI_ltI, nI_leI, nI_eq, pk_mul, pk_sub, u2_same, u2_row, u2_other, e13, olt_T, olt_F, ole_T, ole_F, oeq_T, oeq_F]
    rfl
  | succ m ih =>
    intro d hd
    have d3 : d < 3 := by omega
    have wd := (hw.2.2.2.1 d d3).1
    have ih' := ih (d + 1) (by omega)
    have ha := fun M Q => sm_has (M := M) (Q := Q) (b := a_lf w some_ s) (d := d) (by omega) (by omega)
    have so := fun Q => sm_stepOf (fl := fl) (Q := Q) hf hr d3 wd (show plc s d < 1000 by have := plc_lt (s := s) (d := d); omega)
    have l8 := a_stp_lt8 wd (hs.2 d d3)
    have s4' := (a_stp_spec wd (plc s d)).1
    have sm3 := wd.1
    have pe : s / 2 ^ (4 * d) &&& 15 = plc s d := Nat.and_two_pow_sub_one_eq_mod _ 4
    have pw := a_pow2 d3
    rw [show msk (fun d => a_bit (a_lf w some_ s) d && decide (0 < (a_stp w d (plc s d)).2)) (d + 1) = if (a_bit (a_lf w some_ s) d && decide (0 < (a_stp w d (plc s d)).2)) = true then msk (fun d => a_bit (a_lf w some_ s) d && decide (0 < (a_stp w d (plc s d)).2)) d ||| 2 ^ d else msk (fun d => a_bit (a_lf w some_ s) d && decide (0 < (a_stp w d (plc s d)).2)) d from rfl] at ih'
    generalize msk (fun d => a_bit (a_lf w some_ s) d && decide (0 < (a_stp w d (plc s d)).2)) d = acc at *
    generalize a_mu w some_ s = res at *
    generalize a_lf w some_ s = left at *
    generalize (a_stp w d (plc s d)).1 = st at *
    generalize (a_stp w d (plc s d)).2 = sl at *
    have nz := nI_nz (c := 8) (by decide) (by decide)
    have rm := pk_rem (a := 8 * st + sl) (d := 8) (by omega) (by decide) (by decide)
    rw [show (8 * st + sl) % 8 = sl by omega] at rm
    simp (disch := first | assumption | rfl | exact zle_0 | exact zle_1 | exact zle_2 | exact zle_3 | exact zle_4 | exact zb_0 | exact zb_1 | exact zb01_B | omega) only [zT46_82, zr_iload_5, zcl_i, zcl_r, zcl_l, zcl_n, zv_some, zv_none, Nat.reduceAdd, Nat.reduceMul, Nat.reduceSub, Nat.reduceLT, Nat.reduceLeDiff, Nat.reduceEqDiff, Int.reduceToNat, true_implies, false_implies, implies_true, and_true, true_and, not_true_eq_false, not_false_eq_true, Nat.zero_add, Nat.add_zero, nI_add, nI_ltI, nI_leI, nI_eq, pk_mul, pk_sub, u2_same, u2_row, u2_other]
    cases hb : a_bit left d
    · rw [hb, Bool.false_and, if_neg (by decide)] at ih'
      rw [hb] at ha
      simp (disch := first | assumption | rfl | exact zle_0 | exact zle_1 | exact zle_2 | exact zle_3 | exact zle_4 | exact zb_0 | exact zb_1 | exact zb01_B | omega) only [zT46_84, zr_aload_0, zT46_85, zr_gf_71, zr_or, zr_go, zf_133_71, zT46_88, zr_ic_13, zT46_90, zr_iald, zT46_91, zr_icmp_ge, zT46_94, zr_iload_4, zT46_96, zr_iload_3, zT46_97, zr_iload_5, zT46_99, zr_iv_5, zT46_102, zr_if_eq, zT46_105, zT46_106, zT46_108, zr_iload_2, zT46_109, zr_ic_4, zT46_110, zT46_112, zr_imul, zT46_113, zr_ishr, zT46_114, zr_ic_15, zT46_116, zr_iand, zT46_117, zr_iv_40, zT46_120, zr_ic_8, zT46_122, zr_irem, zT46_123, zr_if_le, zT46_126, zr_ic_1, zT46_127, zT46_129, zr_ishl, zT46_130, zr_goto, zT46_133, zr_ic_0, zT46_134, zr_ior, zT46_135, zr_istore_4, zT46_137, zr_iinc_5_1, zT46_140, zcl_i, zcl_r, zcl_l, zcl_n, zv_some, zv_none, Nat.reduceAdd, Nat.reduceMul, Nat.reduceSub, Nat.reduceLT, Nat.reduceLeDiff, Nat.reduceEqDiff, Int.reduceToNat, true_implies, false_implies, implies_true, and_true, true_and, not_true_eq_false, not_false_eq_true, Nat.zero_add, Nat.add_zero, nI_add, nI_ltI, nI_leI, nI_eq, pk_mul, pk_sub, u2_same, u2_row, u2_other, e13, ha, zB_eq0, b_or, Nat.or_zero, ih', olt_T, olt_F, ole_T, ole_F, oeq_T, oeq_F]
    · rw [hb, Bool.true_and] at ih'
      rw [hb] at ha
      by_cases c : 0 < sl
      · rw [if_pos (decide_eq_true c)] at ih'
        simp (disch := first | assumption | rfl | exact zle_0 | exact zle_1 | exact zle_2 | exact zle_3 | exact zle_4 | exact zb_0 | exact zb_1 | exact zb01_B | omega) only [zT46_84, zr_aload_0, zT46_85, zr_gf_71, zr_or, zr_go, zf_133_71, zT46_88, zr_ic_13, zT46_90, zr_iald, zT46_91, zr_icmp_ge, zT46_94, zr_iload_4, zT46_96, zr_iload_3, zT46_97, zr_iload_5, zT46_99, zr_iv_5, zT46_102, zr_if_eq, zT46_105, zT46_106, zT46_108, zr_iload_2, zT46_109, zr_ic_4, zT46_110, zT46_112, zr_imul, zT46_113, zr_ishr, zT46_114, zr_ic_15, zT46_116, zr_iand, zT46_117, zr_iv_40, zT46_120, zr_ic_8, zT46_122, zr_irem, zT46_123, zr_if_le, zT46_126, zr_ic_1, zT46_127, zT46_129, zr_ishl, zT46_130, zr_goto, zT46_133, zr_ic_0, zT46_134, zr_ior, zT46_135, zr_istore_4, zT46_137, zr_iinc_5_1, zT46_140, zcl_i, zcl_r, zcl_l, zcl_n, zv_some, zv_none, Nat.reduceAdd, Nat.reduceMul, Nat.reduceSub, Nat.reduceLT, Nat.reduceLeDiff, Nat.reduceEqDiff, Int.reduceToNat, true_implies, false_implies, implies_true, and_true, true_and, not_true_eq_false, not_false_eq_true, Nat.zero_add, Nat.add_zero, nI_add, nI_ltI, nI_leI, nI_eq, pk_mul, pk_sub, u2_same, u2_row, u2_other, e13, ha, zB_eq0, reduceCtorEq, b_shr, b_and, pe, so, rm, b_shl, Nat.one_mul, b_or, ih', olt_T, olt_F, ole_T, ole_F, oeq_T, oeq_F]
      · rw [if_neg (by rw [decide_eq_false c]; decide)] at ih'
        simp (disch := first | assumption | rfl | exact zle_0 | exact zle_1 | exact zle_2 | exact zle_3 | exact zle_4 | exact zb_0 | exact zb_1 | exact zb01_B | omega) only [zT46_84, zr_aload_0, zT46_85, zr_gf_71, zr_or, zr_go, zf_133_71, zT46_88, zr_ic_13, zT46_90, zr_iald, zT46_91, zr_icmp_ge, zT46_94, zr_iload_4, zT46_96, zr_iload_3, zT46_97, zr_iload_5, zT46_99, zr_iv_5, zT46_102, zr_if_eq, zT46_105, zT46_106, zT46_108, zr_iload_2, zT46_109, zr_ic_4, zT46_110, zT46_112, zr_imul, zT46_113, zr_ishr, zT46_114, zr_ic_15, zT46_116, zr_iand, zT46_117, zr_iv_40, zT46_120, zr_ic_8, zT46_122, zr_irem, zT46_123, zr_if_le, zT46_126, zr_ic_1, zT46_127, zT46_129, zr_ishl, zT46_130, zr_goto, zT46_133, zr_ic_0, zT46_134, zr_ior, zT46_135, zr_istore_4, zT46_137, zr_iinc_5_1, zT46_140, zcl_i, zcl_r, zcl_l, zcl_n, zv_some, zv_none, Nat.reduceAdd, Nat.reduceMul, Nat.reduceSub, Nat.reduceLT, Nat.reduceLeDiff, Nat.reduceEqDiff, Int.reduceToNat, true_implies, false_implies, implies_true, and_true, true_and, not_true_eq_false, not_false_eq_true, Nat.zero_add, Nat.add_zero, nI_add, nI_ltI, nI_leI, nI_eq, pk_mul, pk_sub, u2_same, u2_row, u2_other, e13, ha, zB_eq0, reduceCtorEq, b_shr, b_and, pe, so, rm, b_or, Nat.or_zero, ih', olt_T, olt_F, ole_T, ole_F, oeq_T, oeq_F]
theorem sm_ms_ (hf : z_FR fr) (hw : a_WF w) (hr : z_MR fi 0 w) {hl : Nat → Nat} {er el : Nat} (he : er ≤ 1 ∧ el ≤ 1) (hh : z_MH fi hl er el 6) {s some_ : Nat} (h8 : some_ < 8) (hs : isSt w s) :
    ∀ m set, set + m = 8 → TT 46 146 [some (.ref 133), some (.int (nI some_)), some (.int (nI s)), some (.int (nI (a_lf w some_ s))), some (.int (nI (a_mu w some_ s))), some (.int (nI set))] [] (151, u2 fi 140 s (nI (msk (fun set => a_okS w (a_enough w hl er el) some_ s set) set)), fl, fr) Q = TT 46 205 [some (.ref 133), some (.int (nI some_)), some (.int (nI s)), some (.int (nI (a_lf w some_ s))), some (.int (nI (a_mu w some_ s))), some (.int (nI 8))] [] (151, u2 fi 140 s (nI (a_may w (a_enough w hl er el) some_ s)), fl, fr) Q := by
  have o133 : z_ok 151 133 20 = true := rfl; have o134 : z_ok 151 134 1 = true := rfl; have o140 : z_ok 151 140 1 = true := rfl
  have l134 : z_al 134 = 440 := rfl; have l140 : z_al 140 = 4096 := rfl
  have ll := a_lf_lt (w := w) (s := s) h8
  have ml := a_mu_lt (w := w) (some_ := some_) (s := s) hw.2.2.1
  have s4 := hs.1
  intro m
  induction m with
  | zero =>
    intro set hset
    obtain rfl : set = 8 := by omega
    simp (disch := first | assumption | rfl | exact zle_0 | exact zle_1 | exact zle_2 | exact zle_3 | exact zle_4 | exact zb_0 | exact zb_1 | exact zb01_B | omega) only [zT46_146, zr_iload_5, zT46_148, zr_ic_8, zT46_150, zr_icmp_ge, zcl_i, zcl_r, zcl_l, zcl_n, zv_some, zv_none, Nat.reduceAdd, Nat.reduceMul, Nat.reduceSub, Nat.reduceLT, Nat.reduceLeDiff, Nat.reduceEqDiff, Int.reduceToNat, true_implies, false_implies, implies_true, and_true, true_and, not_true_eq_false, not_false_eq_true, Nat.zero_add, Nat.add_zero, nI_add, nI_ltI, nI_leI, nI_eq, pk_mul, pk_sub, u2_same, u2_row, u2_other, olt_T, olt_F, ole_T, ole_F, oeq_T, oeq_F]
    rfl
  | succ m ih =>
    intro set hset
    have q8 : set < 8 := by omega
    have ih' := ih (set + 1) (by omega)
    have x1 := x_lt8 (y := a_lf w some_ s) q8
    have x2 := x_lt8 (y := set) ml
    have p8 : 2 ^ set < 256 := Nat.pow_lt_pow_right (a := 2) (n := 8) (by decide) q8
    have mg : (∀ d, d < w 13 → a_bit set d = true → plc s d < a_tot w d) → ∀ acc Q, TT 41 0 [some (.ref 133), some (.int (nI set)), some (.int (nI s)), none, none, none, none, none, none, none] [] (151, u2 fi 140 s (nI acc), fl, fr) Q = Q (some (.int (zB (a_enough w hl er el (a_keyS w s set))))) (151, u2 fi 140 s (nI acc), fl, fr) := fun hno acc Q => sm_mayGo (fl := fl) (Q := Q) hf hw (hr.fr1 (u2_ne (by decide))) he (hh.frame (u2_ne (by decide))) s4 q8 hno
    have sub := a_sub8 q8 ll
    have h13 := hw.2.2.1
    rw [show msk (fun set => a_okS w (a_enough w hl er el) some_ s set) (set + 1) = if a_okS w (a_enough w hl er el) some_ s set = true then msk (fun set => a_okS w (a_enough w hl er el) some_ s set) set ||| 2 ^ set else msk (fun set => a_okS w (a_enough w hl er el) some_ s set) set from rfl] at ih'
    rw [show a_okS w (a_enough w hl er el) some_ s set = (decide (set ^^^ (set &&& a_lf w some_ s) = 0) && (decide (a_mu w some_ s ^^^ (a_mu w some_ s &&& set) = 0) && a_enough w hl er el (a_keyS w s set))) from rfl] at ih'
    have hno : set ^^^ (set &&& a_lf w some_ s) = 0 → ∀ d, d < w 13 → a_bit set d = true → plc s d < a_tot w d := by
      intro h0 d hd hb
      have := sub.mp h0 d (by omega) hb
      rw [a_lf_bit (by omega), Bool.and_eq_true_iff] at this
      have ne : plc s d ≠ a_tot w d := by simpa using this.2
      have := hs.2 d (by omega)
      omega
    generalize msk (fun set => a_okS w (a_enough w hl er el) some_ s set) set = acc at *
    generalize a_may w (a_enough w hl er el) some_ s = res at *
    generalize a_mu w some_ s = must at *
    generalize a_lf w some_ s = left at *
    simp (disch := first | assumption | rfl | exact zle_0 | exact zle_1 | exact zle_2 | exact zle_3 | exact zle_4 | exact zb_0 | exact zb_1 | exact zb01_B | omega) only [zT46_146, zr_iload_5, zcl_i, zcl_r, zcl_l, zcl_n, zv_some, zv_none, Nat.reduceAdd, Nat.reduceMul, Nat.reduceSub, Nat.reduceLT, Nat.reduceLeDiff, Nat.reduceEqDiff, Int.reduceToNat, true_implies, false_implies, implies_true, and_true, true_and, not_true_eq_false, not_false_eq_true, Nat.zero_add, Nat.add_zero, nI_add, nI_ltI, nI_leI, nI_eq, pk_mul, pk_sub, u2_same, u2_row, u2_other]
    by_cases c1 : set ^^^ (set &&& left) = 0
    · have mg' := mg (hno c1) acc
      rw [decide_eq_true c1, Bool.true_and] at ih'
      by_cases c2 : must ^^^ (must &&& set) = 0
      · rw [decide_eq_true c2, Bool.true_and] at ih'
        cases c3 : a_enough w hl er el (a_keyS w s set)
        · rw [c3, if_neg (by decide)] at ih'
          rw [c3] at mg'
          simp (disch := first | assumption | rfl | exact zle_0 | exact zle_1 | exact zle_2 | exact zle_3 | exact zle_4 | exact zb_0 | exact zb_1 | exact zb01_B | omega) only [zT46_148, zr_ic_8, zT46_150, zr_icmp_ge, zT46_153, zr_aload_0, zT46_154, zr_gf_86, zr_or, zr_go, zf_133_86, zT46_157, zr_iload_2, zT46_158, zr_dup2, zT46_159, zr_iald, zT46_160, zr_iload_5, zT46_162, zr_iload_3, zT46_163, zr_ic_m1, zT46_164, zr_ixor, zT46_165, zr_iand, zT46_166, zr_if_ne, zT46_169, zr_iload_4, zT46_171, zT46_173, zT46_174, zT46_175, zT46_176, zT46_179, zT46_180, zT46_182, zT46_183, zr_iv_41, zT46_186, zr_if_eq, zT46_189, zr_ic_1, zT46_190, zT46_192, zr_ishl, zT46_193, zr_goto, zT46_196, zr_ic_0, zT46_197, zr_ior, zT46_198, zr_iast, zT46_199, zr_iinc_5_1, zT46_202, zcl_i, zcl_r, zcl_l, zcl_n, zv_some, zv_none, Nat.reduceAdd, Nat.reduceMul, Nat.reduceSub, Nat.reduceLT, Nat.reduceLeDiff, Nat.reduceEqDiff, Int.reduceToNat, true_implies, false_implies, implies_true, and_true, true_and, not_true_eq_false, not_false_eq_true, Nat.zero_add, Nat.add_zero, nI_add, nI_ltI, nI_leI, nI_eq, pk_mul, pk_sub, u2_same, u2_row, u2_other, b_andn, c1, c2, mg', zB_eq0, b_or, Nat.or_zero, u2_u2, ih', olt_T, olt_F, ole_T, ole_F, oeq_T, oeq_F]
        · rw [c3, if_pos rfl] at ih'
          rw [c3] at mg'
          simp (disch := first | assumption | rfl | exact zle_0 | exact zle_1 | exact zle_2 | exact zle_3 | exact zle_4 | exact zb_0 | exact zb_1 | exact zb01_B | omega) only [zT46_148, zr_ic_8, zT46_150, zr_icmp_ge, zT46_153, zr_aload_0, zT46_154, zr_gf_86, zr_or, zr_go, zf_133_86, zT46_157, zr_iload_2, zT46_158, zr_dup2, zT46_159, zr_iald, zT46_160, zr_iload_5, zT46_162, zr_iload_3, zT46_163, zr_ic_m1, zT46_164, zr_ixor, zT46_165, zr_iand, zT46_166, zr_if_ne, zT46_169, zr_iload_4, zT46_171, zT46_173, zT46_174, zT46_175, zT46_176, zT46_179, zT46_180, zT46_182, zT46_183, zr_iv_41, zT46_186, zr_if_eq, zT46_189, zr_ic_1, zT46_190, zT46_192, zr_ishl, zT46_193, zr_goto, zT46_196, zr_ic_0, zT46_197, zr_ior, zT46_198, zr_iast, zT46_199, zr_iinc_5_1, zT46_202, zcl_i, zcl_r, zcl_l, zcl_n, zv_some, zv_none, Nat.reduceAdd, Nat.reduceMul, Nat.reduceSub, Nat.reduceLT, Nat.reduceLeDiff, Nat.reduceEqDiff, Int.reduceToNat, true_implies, false_implies, implies_true, and_true, true_and, not_true_eq_false, not_false_eq_true, Nat.zero_add, Nat.add_zero, nI_add, nI_ltI, nI_leI, nI_eq, pk_mul, pk_sub, u2_same, u2_row, u2_other, b_andn, c1, c2, mg', zB_eq0, reduceCtorEq, b_shl, Nat.one_mul, b_or, u2_u2, ih', olt_T, olt_F, ole_T, ole_F, oeq_T, oeq_F]
      · rw [decide_eq_false c2, Bool.false_and, if_neg (by decide)] at ih'
        simp (disch := first | assumption | rfl | exact zle_0 | exact zle_1 | exact zle_2 | exact zle_3 | exact zle_4 | exact zb_0 | exact zb_1 | exact zb01_B | omega) only [zT46_148, zr_ic_8, zT46_150, zr_icmp_ge, zT46_153, zr_aload_0, zT46_154, zr_gf_86, zr_or, zr_go, zf_133_86, zT46_157, zr_iload_2, zT46_158, zr_dup2, zT46_159, zr_iald, zT46_160, zr_iload_5, zT46_162, zr_iload_3, zT46_163, zr_ic_m1, zT46_164, zr_ixor, zT46_165, zr_iand, zT46_166, zr_if_ne, zT46_169, zr_iload_4, zT46_171, zT46_173, zT46_174, zT46_175, zT46_176, zT46_179, zT46_180, zT46_182, zT46_183, zr_iv_41, zT46_186, zr_if_eq, zT46_189, zr_ic_1, zT46_190, zT46_192, zr_ishl, zT46_193, zr_goto, zT46_196, zr_ic_0, zT46_197, zr_ior, zT46_198, zr_iast, zT46_199, zr_iinc_5_1, zT46_202, zcl_i, zcl_r, zcl_l, zcl_n, zv_some, zv_none, Nat.reduceAdd, Nat.reduceMul, Nat.reduceSub, Nat.reduceLT, Nat.reduceLeDiff, Nat.reduceEqDiff, Int.reduceToNat, true_implies, false_implies, implies_true, and_true, true_and, not_true_eq_false, not_false_eq_true, Nat.zero_add, Nat.add_zero, nI_add, nI_ltI, nI_leI, nI_eq, pk_mul, pk_sub, u2_same, u2_row, u2_other, b_andn, c1, b_or, Nat.or_zero, u2_u2, ih', olt_T, olt_F, ole_T, ole_F, oeq_T, oeq_F]
    · rw [decide_eq_false c1, Bool.false_and, if_neg (by decide)] at ih'
      simp (disch := first | assumption | rfl | exact zle_0 | exact zle_1 | exact zle_2 | exact zle_3 | exact zle_4 | exact zb_0 | exact zb_1 | exact zb01_B | omega) only [zT46_148, zr_ic_8, zT46_150, zr_icmp_ge, zT46_153, zr_aload_0, zT46_154, zr_gf_86, zr_or, zr_go, zf_133_86, zT46_157, zr_iload_2, zT46_158, zr_dup2, zT46_159, zr_iald, zT46_160, zr_iload_5, zT46_162, zr_iload_3, zT46_163, zr_ic_m1, zT46_164, zr_ixor, zT46_165, zr_iand, zT46_166, zr_if_ne, zT46_169, zr_iload_4, zT46_171, zT46_173, zT46_174, zT46_175, zT46_176, zT46_179, zT46_180, zT46_182, zT46_183, zr_iv_41, zT46_186, zr_if_eq, zT46_189, zr_ic_1, zT46_190, zT46_192, zr_ishl, zT46_193, zr_goto, zT46_196, zr_ic_0, zT46_197, zr_ior, zT46_198, zr_iast, zT46_199, zr_iinc_5_1, zT46_202, zcl_i, zcl_r, zcl_l, zcl_n, zv_some, zv_none, Nat.reduceAdd, Nat.reduceMul, Nat.reduceSub, Nat.reduceLT, Nat.reduceLeDiff, Nat.reduceEqDiff, Int.reduceToNat, true_implies, false_implies, implies_true, and_true, true_and, not_true_eq_false, not_false_eq_true, Nat.zero_add, Nat.add_zero, nI_add, nI_ltI, nI_leI, nI_eq, pk_mul, pk_sub, u2_same, u2_row, u2_other, b_andn, b_or, Nat.or_zero, u2_u2, ih', olt_T, olt_F, ole_T, ole_F, oeq_T, oeq_F]
theorem sm_fs_ (hf : z_FR fr) (hw : a_WF w) {hl : Nat → Nat} {er el : Nat} (he : er ≤ 1 ∧ el ≤ 1) {some_ : Nat} (h8 : some_ < 8)
    (hQ : ∀ fi', (∀ s, s < 4096 → fi' 140 s = nI (a_mayA w (a_enough w hl er el) some_ s)) → (∀ j, j ≠ 140 → fi' j = fi j) → Q none (151, fi', fl, fr)) :
    ∀ m s, s + m = 4096 → ∀ f1, z_MR f1 0 w → z_MH f1 hl er el 6 → (∀ d, d < 3 → f1 142 d = nI (a_tot w d)) → (∀ t, t < s → f1 140 t = nI (a_mayA w (a_enough w hl er el) some_ t)) → (∀ j, j ≠ 140 → f1 j = fi j) → ∀ v3 v4 v5, TT 46 41 [some (.ref 133), some (.int (nI some_)), some (.int (nI s)), v3, v4, v5] [] (151, f1, fl, fr) Q := by
  have o133 : z_ok 151 133 20 = true := rfl; have o140 : z_ok 151 140 1 = true := rfl
  have l140 : z_al 140 = 4096 := rfl
  intro m
  induction m with
  | zero =>
    intro s hs f1 hr hh ht h1 h2 v3 v4 v5
    obtain rfl : s = 4096 := by omega
    have o := hQ f1 h1 h2
    simp (disch := first | assumption | rfl | exact zle_0 | exact zle_1 | exact zle_2 | exact zle_3 | exact zle_4 | exact zb_0 | exact zb_1 | exact zb01_B | omega) only [zT46_41, zr_iload_2, zT46_42, zr_ic_4096, zT46_45, zr_icmp_ge, zT46_211, zr_return, zcl_i, zcl_r, zcl_l, zcl_n, zv_some, zv_none, Nat.reduceAdd, Nat.reduceMul, Nat.reduceSub, Nat.reduceLT, Nat.reduceLeDiff, Nat.reduceEqDiff, Int.reduceToNat, true_implies, false_implies, implies_true, and_true, true_and, not_true_eq_false, not_false_eq_true, Nat.zero_add, Nat.add_zero, nI_add, nI_ltI, nI_leI, nI_eq, pk_mul, pk_sub, u2_same, u2_row, u2_other, olt_T, olt_F, ole_T, ole_F, oeq_T, oeq_F]
    exact o
  | succ m ih =>
    intro s hs f1 hr hh ht h1 h2 v3 v4 v5
    have s4 : s < 4096 := by omega
    have hr0 : z_MR (u2 f1 140 s (nI 0)) 0 w := hr.fr1 (u2_ne (by decide))
    have hh0 : z_MH (u2 f1 140 s (nI 0)) hl er el 6 := hh.frame (u2_ne (by decide))
    have ht0 : ∀ d, d < 3 → u2 f1 140 s (nI 0) 142 d = nI (a_tot w d) := fun d hd => by rw [u2_other (by decide)]; exact ht d hd
    have ist := fun Q => sm_isState (fl := fl) (Q := Q) hf ht0 hw s4
    have dn := fun Q => sm_doneIn (fl := fl) (Q := Q) hf ht0 hw s4
    rw [show decide (plc s 0 ≤ a_tot w 0 ∧ plc s 1 ≤ a_tot w 1 ∧ plc s 2 ≤ a_tot w 2) = a_st3 w s from rfl] at ist
    have nx1 : ∀ x, x = a_mayA w (a_enough w hl er el) some_ s → ∀ v3 v4 v5, TT 46 41 [some (.ref 133), some (.int (nI some_)), some (.int (nI (s + 1))), v3, v4, v5] [] (151, u2 f1 140 s (nI x), fl, fr) Q := by
      intro x hx v3 v4 v5
      refine ih (s + 1) (by omega) _ (hr.fr1 (u2_ne (by decide))) (hh.frame (u2_ne (by decide))) (fun d hd => by rw [u2_other (by decide)]; exact ht d hd) (fun t ht' => ?_) (fun j hj => by rw [u2_ne hj]; exact h2 j hj) v3 v4 v5
      by_cases e : t = s
      · subst e; rw [u2_same, hx]
      · rw [u2_row e]; exact h1 t (by omega)
    cases c : a_st3 w s
    · rw [c] at ist
      have o := nx1 0 (by unfold a_mayA; rw [c]; rfl)
      simp (disch := first | assumption | rfl | exact zle_0 | exact zle_1 | exact zle_2 | exact zle_3 | exact zle_4 | exact zb_0 | exact zb_1 | exact zb01_B | omega) only [zT46_41, zr_iload_2, zcl_i, zcl_r, zcl_l, zcl_n, zv_some, zv_none, Nat.reduceAdd, Nat.reduceMul, Nat.reduceSub, Nat.reduceLT, Nat.reduceLeDiff, Nat.reduceEqDiff, Int.reduceToNat, true_implies, false_implies, implies_true, and_true, true_and, not_true_eq_false, not_false_eq_true, Nat.zero_add, Nat.add_zero, nI_add, nI_ltI, nI_leI, nI_eq, pk_mul, pk_sub, u2_same, u2_row, u2_other]
      simp (disch := first | assumption | rfl | exact zle_0 | exact zle_1 | exact zle_2 | exact zle_3 | exact zle_4 | exact zb_0 | exact zb_1 | exact zb01_B | omega) only [zT46_42, zr_ic_4096, zT46_45, zr_icmp_ge, zT46_48, zr_aload_0, zT46_49, zr_gf_86, zr_or, zr_go, zf_133_86, zT46_52, zr_iload_2, zT46_53, zr_ic_0, zT46_54, zr_iast, zT46_55, zT46_56, zT46_57, zr_iv_43, zT46_60, zr_if_ne, zT46_63, zr_goto, zT46_205, zr_iinc_2_1, zT46_208, zcl_i, zcl_r, zcl_l, zcl_n, zv_some, zv_none, Nat.reduceAdd, Nat.reduceMul, Nat.reduceSub, Nat.reduceLT, Nat.reduceLeDiff, Nat.reduceEqDiff, Int.reduceToNat, true_implies, false_implies, implies_true, and_true, true_and, not_true_eq_false, not_false_eq_true, Nat.zero_add, Nat.add_zero, nI_add, nI_ltI, nI_leI, nI_eq, pk_mul, pk_sub, u2_same, u2_row, u2_other, ist, zB_eq0, olt_T, olt_F, ole_T, ole_F, oeq_T, oeq_F]
      exact o _ _ _
    · rw [c] at ist
      have hst := (a_st3_iff s4).mp c
      have o := nx1 (a_may w (a_enough w hl er el) some_ s) (by unfold a_mayA; rw [c]; rfl)
      have ms := sm_ms_ (fl := fl) (Q := Q) hf hw hr he hh h8 hst 8 0 rfl
      have mu := sm_mu_ (fl := fl) (Q := Q) hf hw hr0 h8 hst (w 13) 0 (Nat.zero_add _)
      rw [show msk (fun set => a_okS w (a_enough w hl er el) some_ s set) 0 = 0 from rfl] at ms
      rw [show msk (fun d => a_bit (a_lf w some_ s) d && decide (0 < (a_stp w d (plc s d)).2)) 0 = 0 from rfl] at mu
      have lfe : some_ ^^^ (some_ &&& a_dni w s) = a_lf w some_ s := rfl
      simp (disch := first | assumption | rfl | exact zle_0 | exact zle_1 | exact zle_2 | exact zle_3 | exact zle_4 | exact zb_0 | exact zb_1 | exact zb01_B | omega) only [zT46_41, zr_iload_2, zcl_i, zcl_r, zcl_l, zcl_n, zv_some, zv_none, Nat.reduceAdd, Nat.reduceMul, Nat.reduceSub, Nat.reduceLT, Nat.reduceLeDiff, Nat.reduceEqDiff, Int.reduceToNat, true_implies, false_implies, implies_true, and_true, true_and, not_true_eq_false, not_false_eq_true, Nat.zero_add, Nat.add_zero, nI_add, nI_ltI, nI_leI, nI_eq, pk_mul, pk_sub, u2_same, u2_row, u2_other]
      simp (disch := first | assumption | rfl | exact zle_0 | exact zle_1 | exact zle_2 | exact zle_3 | exact zle_4 | exact zb_0 | exact zb_1 | exact zb01_B | omega) only [zT46_42, zr_ic_4096, zT46_45, zr_icmp_ge, zT46_48, zr_aload_0, zT46_49, zr_gf_86, zr_or, zr_go, zf_133_86, zT46_52, zr_iload_2, zT46_53, zr_ic_0, zT46_54, zr_iast, zT46_55, zT46_56, zT46_57, zr_iv_43, zT46_60, zr_if_ne, zT46_63, zr_goto, zT46_66, zr_iload_1, zT46_67, zT46_68, zT46_69, zr_iv_44, zT46_72, zr_ic_m1, zT46_73, zr_ixor, zT46_74, zr_iand, zT46_75, zr_istore_3, zT46_76, zT46_77, zr_istore_4, zT46_79, zT46_80, zr_istore_5, zcl_i, zcl_r, zcl_l, zcl_n, zv_some, zv_none, Nat.reduceAdd, Nat.reduceMul, Nat.reduceSub, Nat.reduceLT, Nat.reduceLeDiff, Nat.reduceEqDiff, Int.reduceToNat, true_implies, false_implies, implies_true, and_true, true_and, not_true_eq_false, not_false_eq_true, Nat.zero_add, Nat.add_zero, nI_add, nI_ltI, nI_leI, nI_eq, pk_mul, pk_sub, u2_same, u2_row, u2_other, ist, zB_eq0, reduceCtorEq, dn, b_andn, lfe, olt_T, olt_F, ole_T, ole_F, oeq_T, oeq_F]
      rw [mu]
      simp (disch := first | assumption | rfl | exact zle_0 | exact zle_1 | exact zle_2 | exact zle_3 | exact zle_4 | exact zb_0 | exact zb_1 | exact zb01_B | omega) only [zT46_143, zr_ic_0, zT46_144, zr_istore_5, zcl_i, zcl_r, zcl_l, zcl_n, zv_some, zv_none, Nat.reduceAdd, Nat.reduceMul, Nat.reduceSub, Nat.reduceLT, Nat.reduceLeDiff, Nat.reduceEqDiff, Int.reduceToNat, true_implies, false_implies, implies_true, and_true, true_and, not_true_eq_false, not_false_eq_true, Nat.zero_add, Nat.add_zero, nI_add, nI_ltI, nI_leI, nI_eq, pk_mul, pk_sub, u2_same, u2_row, u2_other, olt_T, olt_F, ole_T, ole_F, oeq_T, oeq_F]
      rw [ms]
      simp (disch := first | assumption | rfl | exact zle_0 | exact zle_1 | exact zle_2 | exact zle_3 | exact zle_4 | exact zb_0 | exact zb_1 | exact zb01_B | omega) only [zT46_205, zr_iinc_2_1, zT46_208, zr_goto, zcl_i, zcl_r, zcl_l, zcl_n, zv_some, zv_none, Nat.reduceAdd, Nat.reduceMul, Nat.reduceSub, Nat.reduceLT, Nat.reduceLeDiff, Nat.reduceEqDiff, Int.reduceToNat, true_implies, false_implies, implies_true, and_true, true_and, not_true_eq_false, not_false_eq_true, Nat.zero_add, Nat.add_zero, nI_add, nI_ltI, nI_leI, nI_eq, pk_mul, pk_sub, u2_same, u2_row, u2_other, olt_T, olt_F, ole_T, ole_F, oeq_T, oeq_F]
      exact o _ _ _
theorem sm_findMay (hf : z_FR fr) (hw : a_WF w) (hr : z_MR fi 0 w) {hl : Nat → Nat} {er el : Nat} (he : er ≤ 1 ∧ el ≤ 1) (hh : z_MH fi hl er el 6) {some_ : Nat} (h8 : some_ < 8)
    (hQ : ∀ fi', (∀ d, d < 3 → fi' 142 d = nI (a_tot w d)) → (∀ s, s < 4096 → fi' 140 s = nI (a_mayA w (a_enough w hl er el) some_ s)) → (∀ j, j ≠ 140 → j ≠ 142 → fi' j = fi j) → Q none (151, fi', fl, fr)) :
    TT 46 0 [some (.ref 133), some (.int (nI some_)), none, none, none, none] [] (151, fi, fl, fr) Q := by
  have L := sm_tt_ (fi := fi) (fl := fl) (k := some_) (Q := Q) hf hw (fun f1 g1 g2 v3 v4 v5 => by
    have L2 := sm_fs_ (fi := f1) (fl := fl) (Q := Q) hf hw he h8 (fun f2 k1 k2 => hQ f2 (fun d hd => by rw [k2 142 (by decide)]; exact g1 d hd) k1 (fun j j1 j2 => by rw [k2 j j1]; exact g2 j j2)) 4096 0 rfl f1 (hr.fr1 (g2 134 (by decide))) (hh.frame (g2 133 (by decide))) g1 (fun t ht => absurd ht (Nat.not_lt_zero _)) (fun _ _ => rfl) v3 v4 v5
    simp (disch := first | assumption | rfl | exact zle_0 | exact zle_1 | exact zle_2 | exact zle_3 | exact zle_4 | exact zb_0 | exact zb_1 | exact zb01_B | omega) only [zT46_39, zr_ic_0, zT46_40, zr_istore_2, zcl_i, zcl_r, zcl_l, zcl_n, zv_some, zv_none, Nat.reduceAdd, Nat.reduceMul, Nat.reduceSub, Nat.reduceLT, Nat.reduceLeDiff, Nat.reduceEqDiff, Int.reduceToNat, true_implies, false_implies, implies_true, and_true, true_and, not_true_eq_false, not_false_eq_true, Nat.zero_add, Nat.add_zero, nI_add, nI_ltI, nI_leI, nI_eq, pk_mul, pk_sub, u2_same, u2_row, u2_other, olt_T, olt_F, ole_T, ole_F, oeq_T, oeq_F]
    exact L2) 3 0 rfl fi hr (fun e he => absurd he (Nat.not_lt_zero _)) (fun _ _ => rfl) none none none
  simp (disch := first | assumption | rfl | exact zle_0 | exact zle_1 | exact zle_2 | exact zle_3 | exact zle_4 | exact zb_0 | exact zb_1 | exact zb01_B | omega) only [zT46_0, zr_ic_0, zT46_1, zr_istore_2, zcl_i, zcl_r, zcl_l, zcl_n, zv_some, zv_none, Nat.reduceAdd, Nat.reduceMul, Nat.reduceSub, Nat.reduceLT, Nat.reduceLeDiff, Nat.reduceEqDiff, Int.reduceToNat, true_implies, false_implies, implies_true, and_true, true_and, not_true_eq_false, not_false_eq_true, Nat.zero_add, Nat.add_zero, nI_add, nI_ltI, nI_leI, nI_eq, pk_mul, pk_sub, u2_same, u2_row, u2_other, olt_T, olt_F, ole_T, ole_F, oeq_T, oeq_F]
  exact L
end
