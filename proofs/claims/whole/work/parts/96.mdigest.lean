/-! the model's digest -/
section
variable {fi fi' : Nat → Nat → Int32} {fl fl' : Nat → Nat → Int64} {fr : Nat → Nat → Option Nat} {Q : Option Value → Mm → Prop} {w : Nat → Nat} {k : Nat} {M : Mm} {ws : Nat → Nat → Nat} {nn tx : Nat → Nat} {n : Nat}
theorem z_MS.fh (h : z_MS fi fl ws nn tx) {x : Int64} : z_MS fi (u2 fl 133 104 x) ws nn tx := by
  obtain ⟨hk, hc, ht, hA, hB⟩ := h
  refine ⟨hk, hc, ht, ⟨hA.1, hA.2.1, fun k hk => ?_⟩, ⟨hB.1, hB.2.1, fun k hk => ?_⟩⟩
  · rw [u2_other (by decide)]; exact hA.2.2 k hk
  · rw [u2_other (by decide)]; exact hB.2.2 k hk
theorem sm_mix {h v : Int64} : TT 81 0 [some (.ref 133), some (.long v), none] [] (151, fi, u2 fl 133 104 h, fr) Q = Q none (151, fi, u2 fl 133 104 (lN 31 * h + v), fr) := by
  have o133 : z_ok 151 133 20 = true := rfl
  simp (disch := first | assumption | rfl | exact zle_0 | exact zle_1 | exact zle_2 | exact zle_3 | exact zle_4 | exact zb_0 | exact zb_1 | exact zb01_B | omega) only [zT81_0, zr_aload_0, zT81_1, zr_ldc2, zT81_4, zT81_5, zr_gf_104, zT81_8, zr_lmul, zT81_9, zr_lload_1, zT81_10, zr_ladd, zT81_11, zr_pf_104, zT81_14, zr_return, zcl_i, zcl_r, zcl_l, zcl_n, zv_some, zv_none, Nat.reduceAdd, Nat.reduceMul, Nat.reduceSub, Nat.reduceLT, Nat.reduceLeDiff, Nat.reduceEqDiff, Int.reduceToNat, true_implies, false_implies, implies_true, and_true, true_and, not_true_eq_false, not_false_eq_true, Nat.zero_add, Nat.add_zero, nI_add, nI_ltI, nI_leI, nI_eq, pk_mul, pk_sub, u2_same, u2_row, u2_other, u2_u2, olt_T, olt_F, ole_T, ole_F, oeq_T, oeq_F]
theorem yd_C_ (hf : z_FR fr) (h : z_MS fi fl ws nn tx) (hg : z_G ws nn) : ∀ m i, i + m = 5 → ∀ h0, TT 82 9 [some (.ref 133), some (.int (nI i)), none] [] (151, fi, u2 fl 133 104 h0, fr) Q = TT 82 30 [some (.ref 133), some (.int (nI 5)), none] [] (151, fi, u2 fl 133 104 (a_dC (ws 0) nn m i h0), fr) Q := by
  have o133 : z_ok 151 133 20 = true := rfl
  have mix := fun h v Q => sm_mix (fi := fi) (fl := fl) (fr := fr) (Q := Q) (h := h) (v := v)
  intro m
  induction m with
  | zero =>
    intro i hi h0
    obtain rfl : i = 5 := by omega
    simp (disch := first | assumption | rfl | exact zle_0 | exact zle_1 | exact zle_2 | exact zle_3 | exact zle_4 | exact zb_0 | exact zb_1 | exact zb01_B | omega) only [zT82_9, zr_iload_1, zT82_10, zr_ic_5, zT82_11, zr_icmp_ge, zcl_i, zcl_r, zcl_l, zcl_n, zv_some, zv_none, Nat.reduceAdd, Nat.reduceMul, Nat.reduceSub, Nat.reduceLT, Nat.reduceLeDiff, Nat.reduceEqDiff, Int.reduceToNat, true_implies, false_implies, implies_true, and_true, true_and, not_true_eq_false, not_false_eq_true, Nat.zero_add, Nat.add_zero, nI_add, nI_ltI, nI_leI, nI_eq, pk_mul, pk_sub, u2_same, u2_row, u2_other, olt_T, olt_F, ole_T, ole_F, oeq_T, oeq_F]
    rfl
  | succ m ih =>
    intro i hi h0
    have ih' := ih (i + 1) (by omega)
    have ct := fun h0 Q => ym_countOf (Q := Q) hf (h.fh (x := h0)) (show i ≤ 4 by omega)
    have il := nI_l (a_ct_lt hg (i := i))
    rw [show a_dC (ws 0) nn (m + 1) i h0 = a_dC (ws 0) nn m (i + 1) (lN 31 * h0 + lN (a_ct (ws 0) nn i)) from rfl]
    generalize a_ct (ws 0) nn i = c at *
    simp (disch := first | assumption | rfl | exact zle_0 | exact zle_1 | exact zle_2 | exact zle_3 | exact zle_4 | exact zb_0 | exact zb_1 | exact zb01_B | omega) only [zT82_9, zr_iload_1, zcl_i, zcl_r, zcl_l, zcl_n, zv_some, zv_none, Nat.reduceAdd, Nat.reduceMul, Nat.reduceSub, Nat.reduceLT, Nat.reduceLeDiff, Nat.reduceEqDiff, Int.reduceToNat, true_implies, false_implies, implies_true, and_true, true_and, not_true_eq_false, not_false_eq_true, Nat.zero_add, Nat.add_zero, nI_add, nI_ltI, nI_leI, nI_eq, pk_mul, pk_sub, u2_same, u2_row, u2_other]
    simp (disch := first | assumption | rfl | exact zle_0 | exact zle_1 | exact zle_2 | exact zle_3 | exact zle_4 | exact zb_0 | exact zb_1 | exact zb01_B | omega) only [zT82_10, zr_ic_5, zT82_11, zr_icmp_ge, zT82_14, zr_aload_0, zT82_15, zT82_16, zr_iload_1, zT82_17, zr_iv_79, zT82_20, zr_i2l, zT82_21, zr_iv_81, zT82_24, zr_iinc_1_1, zT82_27, zr_goto, zcl_i, zcl_r, zcl_l, zcl_n, zv_some, zv_none, Nat.reduceAdd, Nat.reduceMul, Nat.reduceSub, Nat.reduceLT, Nat.reduceLeDiff, Nat.reduceEqDiff, Int.reduceToNat, true_implies, false_implies, implies_true, and_true, true_and, not_true_eq_false, not_false_eq_true, Nat.zero_add, Nat.add_zero, nI_add, nI_ltI, nI_leI, nI_eq, pk_mul, pk_sub, u2_same, u2_row, u2_other, ct, il, mix, olt_T, olt_F, ole_T, ole_F, oeq_T, oeq_F]
    exact ih' _
theorem yd_K_ (hf : z_FR fr) (hr : z_MR fi 0 w) (hw : a_WF w) : ∀ m c, c + m = w 0 → ∀ h0, TT 82 44 [some (.ref 133), some (.int (nI c)), none] [] (151, fi, u2 fl 133 104 h0, fr) Q = TT 82 87 [some (.ref 133), some (.int (nI (w 0))), none] [] (151, fi, u2 fl 133 104 (a_digC w m c h0), fr) Q := by
  have o133 : z_ok 151 133 20 = true := rfl; have o134 : z_ok 151 134 1 = true := rfl
  have l134 : z_al 134 = 440 := rfl
  have h0' := hw.1
  have e0 := hr.at0 (i := 0) (by decide)
  have mix := fun h v Q => sm_mix (fi := fi) (fl := fl) (fr := fr) (Q := Q) (h := h) (v := v)
  intro m
  induction m with
  | zero =>
    intro c hc h0
    obtain rfl : c = w 0 := by omega
    simp (disch := first | assumption | rfl | exact zle_0 | exact zle_1 | exact zle_2 | exact zle_3 | exact zle_4 | exact zb_0 | exact zb_1 | exact zb01_B | omega) only [zT82_44, zr_iload_1, zT82_45, zr_aload_0, zT82_46, zr_gf_71, zr_or, zr_go, zf_133_71, zT82_49, zr_ic_0, zT82_50, zr_iald, zT82_51, zr_icmp_ge, zcl_i, zcl_r, zcl_l, zcl_n, zv_some, zv_none, Nat.reduceAdd, Nat.reduceMul, Nat.reduceSub, Nat.reduceLT, Nat.reduceLeDiff, Nat.reduceEqDiff, Int.reduceToNat, true_implies, false_implies, implies_true, and_true, true_and, not_true_eq_false, not_false_eq_true, Nat.zero_add, Nat.add_zero, nI_add, nI_ltI, nI_leI, nI_eq, pk_mul, pk_sub, u2_same, u2_row, u2_other, e0, olt_T, olt_F, ole_T, ole_F, oeq_T, oeq_F]
    rfl
  | succ m ih =>
    intro c hc h0
    have ih' := ih (c + 1) (by omega)
    have kd := hw.2.1 c (by omega)
    have e1 := hr.at0 (i := 1 + c) (by omega)
    have e7 := hr.at0 (i := 7 + c) (by omega)
    have i1 := nI_l (show w (1 + c) < 2 ^ 31 by omega)
    have i7 := nI_l (show w (7 + c) < 2 ^ 31 by omega)
    rw [show a_digC w (m + 1) c h0 = a_digC w m (c + 1) (lN 31 * (lN 31 * h0 + lN (w (1 + c))) + lN (w (7 + c))) from rfl]
    simp (disch := first | assumption | rfl | exact zle_0 | exact zle_1 | exact zle_2 | exact zle_3 | exact zle_4 | exact zb_0 | exact zb_1 | exact zb01_B | omega) only [zT82_44, zr_iload_1, zcl_i, zcl_r, zcl_l, zcl_n, zv_some, zv_none, Nat.reduceAdd, Nat.reduceMul, Nat.reduceSub, Nat.reduceLT, Nat.reduceLeDiff, Nat.reduceEqDiff, Int.reduceToNat, true_implies, false_implies, implies_true, and_true, true_and, not_true_eq_false, not_false_eq_true, Nat.zero_add, Nat.add_zero, nI_add, nI_ltI, nI_leI, nI_eq, pk_mul, pk_sub, u2_same, u2_row, u2_other]
    simp (disch := first | assumption | rfl | exact zle_0 | exact zle_1 | exact zle_2 | exact zle_3 | exact zle_4 | exact zb_0 | exact zb_1 | exact zb01_B | omega) only [zT82_45, zr_aload_0, zT82_46, zr_gf_71, zr_or, zr_go, zf_133_71, zT82_49, zr_ic_0, zT82_50, zr_iald, zT82_51, zr_icmp_ge, zT82_54, zT82_55, zT82_56, zT82_59, zr_ic_1, zT82_60, zr_iload_1, zT82_61, zr_iadd, zT82_62, zT82_63, zr_i2l, zT82_64, zr_iv_81, zT82_67, zT82_68, zT82_69, zT82_72, zr_ic_7, zT82_74, zT82_75, zT82_76, zT82_77, zT82_78, zT82_81, zr_iinc_1_1, zT82_84, zr_goto, zcl_i, zcl_r, zcl_l, zcl_n, zv_some, zv_none, Nat.reduceAdd, Nat.reduceMul, Nat.reduceSub, Nat.reduceLT, Nat.reduceLeDiff, Nat.reduceEqDiff, Int.reduceToNat, true_implies, false_implies, implies_true, and_true, true_and, not_true_eq_false, not_false_eq_true, Nat.zero_add, Nat.add_zero, nI_add, nI_ltI, nI_leI, nI_eq, pk_mul, pk_sub, u2_same, u2_row, u2_other, e0, e1, e7, i1, i7, mix, olt_T, olt_F, ole_T, ole_F, oeq_T, oeq_F]
    exact ih' _
theorem yd_S_ (hf : z_FR fr) (hr : z_MR fi 0 w) {d : Nat} (hd : d < 3) (hw : a_WD w d) : ∀ m s, s + m = a_sm w d → ∀ h0, TT 82 116 [some (.ref 133), some (.int (nI d)), some (.int (nI (4 * s)))] [] (151, fi, u2 fl 133 104 h0, fr) Q = TT 82 156 [some (.ref 133), some (.int (nI d)), some (.int (nI (4 * a_sm w d)))] [] (151, fi, u2 fl 133 104 (a_digS w d m s h0), fr) Q := by
  have o133 : z_ok 151 133 20 = true := rfl; have o134 : z_ok 151 134 1 = true := rfl
  have l134 : z_al 134 = 440 := rfl
  have sm3 := hw.1
  have es := hr.at0 (i := 14 + d) (by omega)
  rw [show w (14 + d) = a_sm w d from rfl] at es
  have mix := fun h v Q => sm_mix (fi := fi) (fl := fl) (fr := fr) (Q := Q) (h := h) (v := v)
  intro m
  induction m with
  | zero =>
    intro s hs h0
    obtain rfl : s = a_sm w d := by omega
    simp (disch := first | assumption | rfl | exact zle_0 | exact zle_1 | exact zle_2 | exact zle_3 | exact zle_4 | exact zb_0 | exact zb_1 | exact zb01_B | omega) only [zT82_116, zr_iload_2, zT82_117, zr_ic_4, zT82_118, zr_aload_0, zT82_119, zr_gf_71, zr_or, zr_go, zf_133_71, zT82_122, zr_ic_14, zT82_124, zr_iload_1, zT82_125, zr_iadd, zT82_126, zr_iald, zT82_127, zr_imul, zT82_128, zr_icmp_ge, zcl_i, zcl_r, zcl_l, zcl_n, zv_some, zv_none, Nat.reduceAdd, Nat.reduceMul, Nat.reduceSub, Nat.reduceLT, Nat.reduceLeDiff, Nat.reduceEqDiff, Int.reduceToNat, true_implies, false_implies, implies_true, and_true, true_and, not_true_eq_false, not_false_eq_true, Nat.zero_add, Nat.add_zero, nI_add, nI_ltI, nI_leI, nI_eq, pk_mul, pk_sub, u2_same, u2_row, u2_other, es, olt_T, olt_F, ole_T, ole_F, oeq_T, oeq_F]
    rfl
  | succ m ih =>
    intro s hs h0
    have ih' := ih (s + 1) (by omega)
    have bnd := hw.2 s (by omega)
    have w0 := hr.at0 (i := 17 + 12 * d + 4 * s) (by omega)
    have w1 := hr.at0 (i := 17 + 12 * d + (4 * s + 1)) (by omega)
    have w2 := hr.at0 (i := 17 + 12 * d + (4 * s + 2)) (by omega)
    have w3 := hr.at0 (i := 17 + 12 * d + (4 * s + 3)) (by omega)
    rw [show w (17 + 12 * d + 4 * s) = a_st w d s 0 from rfl] at w0
    rw [show w (17 + 12 * d + (4 * s + 1)) = a_st w d s 1 from rfl] at w1
    rw [show w (17 + 12 * d + (4 * s + 2)) = a_st w d s 2 from rfl] at w2
    rw [show w (17 + 12 * d + (4 * s + 3)) = a_st w d s 3 from rfl] at w3
    have i0 := nI_l (show a_st w d s 0 < 2 ^ 31 by omega)
    have i1 := nI_l (show a_st w d s 1 < 2 ^ 31 by omega)
    have i2 := nI_l (show a_st w d s 2 < 2 ^ 31 by omega)
    have i3 := nI_l (show a_st w d s 3 < 2 ^ 31 by omega)
    rw [show a_digS w d (m + 1) s h0 = a_digS w d m (s + 1) (lN 31 * (lN 31 * (lN 31 * (lN 31 * h0 + lN (a_st w d s 0)) + lN (a_st w d s 1)) + lN (a_st w d s 2)) + lN (a_st w d s 3)) from rfl]
    rw [show 4 * (s + 1) = 4 * s + 3 + 1 by omega] at ih'
    generalize a_st w d s 0 = x0 at *
    generalize a_st w d s 1 = x1 at *
    generalize a_st w d s 2 = x2 at *
    generalize a_st w d s 3 = x3 at *
    simp (disch := first | assumption | rfl | exact zle_0 | exact zle_1 | exact zle_2 | exact zle_3 | exact zle_4 | exact zb_0 | exact zb_1 | exact zb01_B | omega) only [zT82_116, zr_iload_2, zcl_i, zcl_r, zcl_l, zcl_n, zv_some, zv_none, Nat.reduceAdd, Nat.reduceMul, Nat.reduceSub, Nat.reduceLT, Nat.reduceLeDiff, Nat.reduceEqDiff, Int.reduceToNat, true_implies, false_implies, implies_true, and_true, true_and, not_true_eq_false, not_false_eq_true, Nat.zero_add, Nat.add_zero, nI_add, nI_ltI, nI_leI, nI_eq, pk_mul, pk_sub, u2_same, u2_row, u2_other]
    simp (disch := first | assumption | rfl | exact zle_0 | exact zle_1 | exact zle_2 | exact zle_3 | exact zle_4 | exact zb_0 | exact zb_1 | exact zb01_B | omega) only [zT82_117, zr_ic_4, zT82_118, zr_aload_0, zT82_119, zr_gf_71, zr_or, zr_go, zf_133_71, zT82_122, zr_ic_14, zT82_124, zr_iload_1, zT82_125, zr_iadd, zT82_126, zr_iald, zT82_127, zr_imul, zT82_128, zr_icmp_ge, zT82_131, zT82_132, zT82_133, zT82_136, zr_ic_17, zT82_138, zr_ic_12, zT82_140, zT82_141, zT82_142, zT82_143, zr_iload_2, zT82_144, zT82_145, zT82_146, zr_i2l, zT82_147, zr_iv_81, zT82_150, zr_iinc_2_1, zT82_153, zr_goto, zcl_i, zcl_r, zcl_l, zcl_n, zv_some, zv_none, Nat.reduceAdd, Nat.reduceMul, Nat.reduceSub, Nat.reduceLT, Nat.reduceLeDiff, Nat.reduceEqDiff, Int.reduceToNat, true_implies, false_implies, implies_true, and_true, true_and, not_true_eq_false, not_false_eq_true, Nat.zero_add, Nat.add_zero, nI_add, nI_ltI, nI_leI, nI_eq, pk_mul, pk_sub, u2_same, u2_row, u2_other, es, w0, i0, mix, olt_T, olt_F, ole_T, ole_F, oeq_T, oeq_F]
    simp (disch := first | assumption | rfl | exact zle_0 | exact zle_1 | exact zle_2 | exact zle_3 | exact zle_4 | exact zb_0 | exact zb_1 | exact zb01_B | omega) only [zT82_116, zr_iload_2, zcl_i, zcl_r, zcl_l, zcl_n, zv_some, zv_none, Nat.reduceAdd, Nat.reduceMul, Nat.reduceSub, Nat.reduceLT, Nat.reduceLeDiff, Nat.reduceEqDiff, Int.reduceToNat, true_implies, false_implies, implies_true, and_true, true_and, not_true_eq_false, not_false_eq_true, Nat.zero_add, Nat.add_zero, nI_add, nI_ltI, nI_leI, nI_eq, pk_mul, pk_sub, u2_same, u2_row, u2_other]
    simp (disch := first | assumption | rfl | exact zle_0 | exact zle_1 | exact zle_2 | exact zle_3 | exact zle_4 | exact zb_0 | exact zb_1 | exact zb01_B | omega) only [zT82_117, zr_ic_4, zT82_118, zr_aload_0, zT82_119, zr_gf_71, zr_or, zr_go, zf_133_71, zT82_122, zr_ic_14, zT82_124, zr_iload_1, zT82_125, zr_iadd, zT82_126, zr_iald, zT82_127, zr_imul, zT82_128, zr_icmp_ge, zT82_131, zT82_132, zT82_133, zT82_136, zr_ic_17, zT82_138, zr_ic_12, zT82_140, zT82_141, zT82_142, zT82_143, zr_iload_2, zT82_144, zT82_145, zT82_146, zr_i2l, zT82_147, zr_iv_81, zT82_150, zr_iinc_2_1, zT82_153, zr_goto, zcl_i, zcl_r, zcl_l, zcl_n, zv_some, zv_none, Nat.reduceAdd, Nat.reduceMul, Nat.reduceSub, Nat.reduceLT, Nat.reduceLeDiff, Nat.reduceEqDiff, Int.reduceToNat, true_implies, false_implies, implies_true, and_true, true_and, not_true_eq_false, not_false_eq_true, Nat.zero_add, Nat.add_zero, nI_add, nI_ltI, nI_leI, nI_eq, pk_mul, pk_sub, u2_same, u2_row, u2_other, es, w1, i1, mix, olt_T, olt_F, ole_T, ole_F, oeq_T, oeq_F]
    simp (disch := first | assumption | rfl | exact zle_0 | exact zle_1 | exact zle_2 | exact zle_3 | exact zle_4 | exact zb_0 | exact zb_1 | exact zb01_B | omega) only [zT82_116, zr_iload_2, zcl_i, zcl_r, zcl_l, zcl_n, zv_some, zv_none, Nat.reduceAdd, Nat.reduceMul, Nat.reduceSub, Nat.reduceLT, Nat.reduceLeDiff, Nat.reduceEqDiff, Int.reduceToNat, true_implies, false_implies, implies_true, and_true, true_and, not_true_eq_false, not_false_eq_true, Nat.zero_add, Nat.add_zero, nI_add, nI_ltI, nI_leI, nI_eq, pk_mul, pk_sub, u2_same, u2_row, u2_other]
    simp (disch := first | assumption | rfl | exact zle_0 | exact zle_1 | exact zle_2 | exact zle_3 | exact zle_4 | exact zb_0 | exact zb_1 | exact zb01_B | omega) only [zT82_117, zr_ic_4, zT82_118, zr_aload_0, zT82_119, zr_gf_71, zr_or, zr_go, zf_133_71, zT82_122, zr_ic_14, zT82_124, zr_iload_1, zT82_125, zr_iadd, zT82_126, zr_iald, zT82_127, zr_imul, zT82_128, zr_icmp_ge, zT82_131, zT82_132, zT82_133, zT82_136, zr_ic_17, zT82_138, zr_ic_12, zT82_140, zT82_141, zT82_142, zT82_143, zr_iload_2, zT82_144, zT82_145, zT82_146, zr_i2l, zT82_147, zr_iv_81, zT82_150, zr_iinc_2_1, zT82_153, zr_goto, zcl_i, zcl_r, zcl_l, zcl_n, zv_some, zv_none, Nat.reduceAdd, Nat.reduceMul, Nat.reduceSub, Nat.reduceLT, Nat.reduceLeDiff, Nat.reduceEqDiff, Int.reduceToNat, true_implies, false_implies, implies_true, and_true, true_and, not_true_eq_false, not_false_eq_true, Nat.zero_add, Nat.add_zero, nI_add, nI_ltI, nI_leI, nI_eq, pk_mul, pk_sub, u2_same, u2_row, u2_other, es, w2, i2, mix, olt_T, olt_F, ole_T, ole_F, oeq_T, oeq_F]
    simp (disch := first | assumption | rfl | exact zle_0 | exact zle_1 | exact zle_2 | exact zle_3 | exact zle_4 | exact zb_0 | exact zb_1 | exact zb01_B | omega) only [zT82_116, zr_iload_2, zcl_i, zcl_r, zcl_l, zcl_n, zv_some, zv_none, Nat.reduceAdd, Nat.reduceMul, Nat.reduceSub, Nat.reduceLT, Nat.reduceLeDiff, Nat.reduceEqDiff, Int.reduceToNat, true_implies, false_implies, implies_true, and_true, true_and, not_true_eq_false, not_false_eq_true, Nat.zero_add, Nat.add_zero, nI_add, nI_ltI, nI_leI, nI_eq, pk_mul, pk_sub, u2_same, u2_row, u2_other]
    simp (disch := first | assumption | rfl | exact zle_0 | exact zle_1 | exact zle_2 | exact zle_3 | exact zle_4 | exact zb_0 | exact zb_1 | exact zb01_B | omega) only [zT82_117, zr_ic_4, zT82_118, zr_aload_0, zT82_119, zr_gf_71, zr_or, zr_go, zf_133_71, zT82_122, zr_ic_14, zT82_124, zr_iload_1, zT82_125, zr_iadd, zT82_126, zr_iald, zT82_127, zr_imul, zT82_128, zr_icmp_ge, zT82_131, zT82_132, zT82_133, zT82_136, zr_ic_17, zT82_138, zr_ic_12, zT82_140, zT82_141, zT82_142, zT82_143, zr_iload_2, zT82_144, zT82_145, zT82_146, zr_i2l, zT82_147, zr_iv_81, zT82_150, zr_iinc_2_1, zT82_153, zr_goto, zcl_i, zcl_r, zcl_l, zcl_n, zv_some, zv_none, Nat.reduceAdd, Nat.reduceMul, Nat.reduceSub, Nat.reduceLT, Nat.reduceLeDiff, Nat.reduceEqDiff, Int.reduceToNat, true_implies, false_implies, implies_true, and_true, true_and, not_true_eq_false, not_false_eq_true, Nat.zero_add, Nat.add_zero, nI_add, nI_ltI, nI_leI, nI_eq, pk_mul, pk_sub, u2_same, u2_row, u2_other, es, w3, i3, mix, olt_T, olt_F, ole_T, ole_F, oeq_T, oeq_F]
    exact ih' _
theorem yd_D_ (hf : z_FR fr) (hr : z_MR fi 0 w) (hw : a_WF w) {X : Int64} (hQ : ∀ v2, TT 82 162 [some (.ref 133), some (.int (nI (w 13))), v2] [] (151, fi, u2 fl 133 104 X, fr) Q) :
    ∀ m d, d + m = w 13 → ∀ h0 v2, a_digDs w m d h0 = X → TT 82 89 [some (.ref 133), some (.int (nI d)), v2] [] (151, fi, u2 fl 133 104 h0, fr) Q := by
  have o133 : z_ok 151 133 20 = true := rfl; have o134 : z_ok 151 134 1 = true := rfl
  have l134 : z_al 134 = 440 := rfl
  have h13 := hw.2.2.1
  have e13 := hr.at0 (i := 13) (by decide)
  have mix := fun h v Q => sm_mix (fi := fi) (fl := fl) (fr := fr) (Q := Q) (h := h) (v := v)
  intro m
  induction m with
  | zero =>
    intro d hd h0 v2 hX
    obtain rfl : d = w 13 := by omega
    obtain rfl : h0 = X := hX
    have o := hQ v2
    simp (disch := first | assumption | rfl | exact zle_0 | exact zle_1 | exact zle_2 | exact zle_3 | exact zle_4 | exact zb_0 | exact zb_1 | exact zb01_B | omega) only [zT82_89, zr_iload_1, zT82_90, zr_aload_0, zT82_91, zr_gf_71, zr_or, zr_go, zf_133_71, zT82_94, zr_ic_13, zT82_96, zr_iald, zT82_97, zr_icmp_ge, zcl_i, zcl_r, zcl_l, zcl_n, zv_some, zv_none, Nat.reduceAdd, Nat.reduceMul, Nat.reduceSub, Nat.reduceLT, Nat.reduceLeDiff, Nat.reduceEqDiff, Int.reduceToNat, true_implies, false_implies, implies_true, and_true, true_and, not_true_eq_false, not_false_eq_true, Nat.zero_add, Nat.add_zero, nI_add, nI_ltI, nI_leI, nI_eq, pk_mul, pk_sub, u2_same, u2_row, u2_other, e13, olt_T, olt_F, ole_T, ole_F, oeq_T, oeq_F]
    exact o
  | succ m ih =>
    intro d hd h0 v2 hX
    have d3 : d < 3 := by omega
    have wd := (hw.2.2.2.1 d d3).1
    have sm3 := wd.1
    have es := hr.at0 (i := 14 + d) (by omega)
    rw [show w (14 + d) = a_sm w d from rfl] at es
    have is := nI_l (show a_sm w d < 2 ^ 31 by omega)
    have S := yd_S_ (fl := fl) (Q := Q) hf hr d3 wd (a_sm w d) 0 (Nat.zero_add _) (lN 31 * h0 + lN (a_sm w d))
    rw [show 4 * 0 = 0 from rfl] at S
    have o := ih (d + 1) (by omega) (a_digD w d h0) (some (.int (nI (4 * a_sm w d)))) hX
    rw [show a_digD w d h0 = a_digS w d (a_sm w d) 0 (lN 31 * h0 + lN (a_sm w d)) from rfl] at o
    simp (disch := first | assumption | rfl | exact zle_0 | exact zle_1 | exact zle_2 | exact zle_3 | exact zle_4 | exact zb_0 | exact zb_1 | exact zb01_B | omega) only [zT82_89, zr_iload_1, zcl_i, zcl_r, zcl_l, zcl_n, zv_some, zv_none, Nat.reduceAdd, Nat.reduceMul, Nat.reduceSub, Nat.reduceLT, Nat.reduceLeDiff, Nat.reduceEqDiff, Int.reduceToNat, true_implies, false_implies, implies_true, and_true, true_and, not_true_eq_false, not_false_eq_true, Nat.zero_add, Nat.add_zero, nI_add, nI_ltI, nI_leI, nI_eq, pk_mul, pk_sub, u2_same, u2_row, u2_other]
    simp (disch := first | assumption | rfl | exact zle_0 | exact zle_1 | exact zle_2 | exact zle_3 | exact zle_4 | exact zb_0 | exact zb_1 | exact zb01_B | omega) only [zT82_90, zr_aload_0, zT82_91, zr_gf_71, zr_or, zr_go, zf_133_71, zT82_94, zr_ic_13, zT82_96, zr_iald, zT82_97, zr_icmp_ge, zT82_100, zT82_101, zT82_102, zT82_105, zr_ic_14, zT82_107, zr_iload_1, zT82_108, zr_iadd, zT82_109, zT82_110, zr_i2l, zT82_111, zr_iv_81, zT82_114, zr_ic_0, zT82_115, zr_istore_2, zcl_i, zcl_r, zcl_l, zcl_n, zv_some, zv_none, Nat.reduceAdd, Nat.reduceMul, Nat.reduceSub, Nat.reduceLT, Nat.reduceLeDiff, Nat.reduceEqDiff, Int.reduceToNat, true_implies, false_implies, implies_true, and_true, true_and, not_true_eq_false, not_false_eq_true, Nat.zero_add, Nat.add_zero, nI_add, nI_ltI, nI_leI, nI_eq, pk_mul, pk_sub, u2_same, u2_row, u2_other, e13, es, is, mix, olt_T, olt_F, ole_T, ole_F, oeq_T, oeq_F]
    rw [S]
    simp (disch := first | assumption | rfl | exact zle_0 | exact zle_1 | exact zle_2 | exact zle_3 | exact zle_4 | exact zb_0 | exact zb_1 | exact zb01_B | omega) only [zT82_156, zr_iinc_1_1, zT82_159, zr_goto, zcl_i, zcl_r, zcl_l, zcl_n, zv_some, zv_none, Nat.reduceAdd, Nat.reduceMul, Nat.reduceSub, Nat.reduceLT, Nat.reduceLeDiff, Nat.reduceEqDiff, Int.reduceToNat, true_implies, false_implies, implies_true, and_true, true_and, not_true_eq_false, not_false_eq_true, Nat.zero_add, Nat.add_zero, nI_add, nI_ltI, nI_leI, nI_eq, pk_mul, pk_sub, u2_same, u2_row, u2_other, olt_T, olt_F, ole_T, ole_F, oeq_T, oeq_F]
    exact o
theorem yd_O_ (hf : z_FR fr) (h : z_MS fi fl ws nn tx) (hg : z_G ws nn) {v2 : Option Value} : ∀ m d, d + m = ws 0 13 → ∀ h0, TT 82 164 [some (.ref 133), some (.int (nI d)), v2] [] (151, fi, u2 fl 133 104 h0, fr) Q = TT 82 203 [some (.ref 133), some (.int (nI (ws 0 13))), v2] [] (151, fi, u2 fl 133 104 (a_dS (ws 0) m d h0), fr) Q := by
  have o133 : z_ok 151 133 20 = true := rfl; have o134 : z_ok 151 134 1 = true := rfl
  have l134 : z_al 134 = 440 := rfl
  have h13 := hg.1.1.2.2.1
  have e13 := h.1.1.at0 (i := 13) (by decide)
  have mix := fun h v Q => sm_mix (fi := fi) (fl := fl) (fr := fr) (Q := Q) (h := h) (v := v)
  intro m
  induction m with
  | zero =>
    intro d hd h0
    obtain rfl : d = ws 0 13 := by omega
    simp (disch := first | assumption | rfl | exact zle_0 | exact zle_1 | exact zle_2 | exact zle_3 | exact zle_4 | exact zb_0 | exact zb_1 | exact zb01_B | omega) only [zT82_164, zr_iload_1, zT82_165, zr_aload_0, zT82_166, zr_gf_71, zr_or, zr_go, zf_133_71, zT82_169, zr_ic_13, zT82_171, zr_iald, zT82_172, zr_icmp_ge, zcl_i, zcl_r, zcl_l, zcl_n, zv_some, zv_none, Nat.reduceAdd, Nat.reduceMul, Nat.reduceSub, Nat.reduceLT, Nat.reduceLeDiff, Nat.reduceEqDiff, Int.reduceToNat, true_implies, false_implies, implies_true, and_true, true_and, not_true_eq_false, not_false_eq_true, Nat.zero_add, Nat.add_zero, nI_add, nI_ltI, nI_leI, nI_eq, pk_mul, pk_sub, u2_same, u2_row, u2_other, e13, olt_T, olt_F, ole_T, ole_F, oeq_T, oeq_F]
    rfl
  | succ m ih =>
    intro d hd h0
    have d3 : d < 3 := by omega
    have ih' := ih (d + 1) (by omega)
    have wd := hg.1.1.2.2.2.1 d d3
    have so0 := fun fl Q => ym_stateOf (fi := fi) (fl := fl) (Q := Q) hf h.1.1 d3 wd.1 wd.2.2 (show 0 ≤ 1 by decide)
    have so1 := fun fl Q => ym_stateOf (fi := fi) (fl := fl) (Q := Q) hf h.1.1 d3 wd.1 wd.2.2 (show 1 ≤ 1 by decide)
    have i0 := nI_l (a_so_lt hg (d := d) (i := 0) d3)
    have i1 := nI_l (a_so_lt hg (d := d) (i := 1) d3)
    rw [show a_dS (ws 0) (m + 1) d h0 = a_dS (ws 0) m (d + 1) (lN 31 * (lN 31 * h0 + lN (a_so (ws 0) d 0)) + lN (a_so (ws 0) d 1)) from rfl]
    generalize a_so (ws 0) d 0 = c0 at *
    generalize a_so (ws 0) d 1 = c1 at *
    simp (disch := first | assumption | rfl | exact zle_0 | exact zle_1 | exact zle_2 | exact zle_3 | exact zle_4 | exact zb_0 | exact zb_1 | exact zb01_B | omega) only [zT82_164, zr_iload_1, zcl_i, zcl_r, zcl_l, zcl_n, zv_some, zv_none, Nat.reduceAdd, Nat.reduceMul, Nat.reduceSub, Nat.reduceLT, Nat.reduceLeDiff, Nat.reduceEqDiff, Int.reduceToNat, true_implies, false_implies, implies_true, and_true, true_and, not_true_eq_false, not_false_eq_true, Nat.zero_add, Nat.add_zero, nI_add, nI_ltI, nI_leI, nI_eq, pk_mul, pk_sub, u2_same, u2_row, u2_other]
    simp (disch := first | assumption | rfl | exact zle_0 | exact zle_1 | exact zle_2 | exact zle_3 | exact zle_4 | exact zb_0 | exact zb_1 | exact zb01_B | omega) only [zT82_165, zr_aload_0, zT82_166, zr_gf_71, zr_or, zr_go, zf_133_71, zT82_169, zr_ic_13, zT82_171, zr_iald, zT82_172, zr_icmp_ge, zT82_175, zT82_176, zT82_177, zr_iload_1, zT82_178, zr_ic_0, zT82_179, zr_iv_71, zT82_182, zr_i2l, zT82_183, zr_iv_81, zT82_186, zT82_187, zT82_188, zT82_189, zr_ic_1, zT82_190, zT82_193, zT82_194, zT82_197, zr_iinc_1_1, zT82_200, zr_goto, zcl_i, zcl_r, zcl_l, zcl_n, zv_some, zv_none, Nat.reduceAdd, Nat.reduceMul, Nat.reduceSub, Nat.reduceLT, Nat.reduceLeDiff, Nat.reduceEqDiff, Int.reduceToNat, true_implies, false_implies, implies_true, and_true, true_and, not_true_eq_false, not_false_eq_true, Nat.zero_add, Nat.add_zero, nI_add, nI_ltI, nI_leI, nI_eq, pk_mul, pk_sub, u2_same, u2_row, u2_other, e13, so0, so1, i0, i1, mix, olt_T, olt_F, ole_T, ole_F, oeq_T, oeq_F]
    exact ih' _
theorem yd_G_ (hf : z_FR fr) (h : z_MS fi fl ws nn tx) {v2 : Option Value} : ∀ m i, i + m = 3 → ∀ h0, TT 82 205 [some (.ref 133), some (.int (nI i)), v2] [] (151, fi, u2 fl 133 104 h0, fr) Q = TT 82 226 [some (.ref 133), some (.int (nI 3)), v2] [] (151, fi, u2 fl 133 104 (a_dG nn m i h0), fr) Q := by
  have o133 : z_ok 151 133 20 = true := rfl
  have A8 := a_len_8 h.2.2.2.1.2.1
  have B8 := a_len_8 h.2.2.2.2.2.1
  have mix := fun h v Q => sm_mix (fi := fi) (fl := fl) (fr := fr) (Q := Q) (h := h) (v := v)
  intro m
  induction m with
  | zero =>
    intro i hi h0
    obtain rfl : i = 3 := by omega
    simp (disch := first | assumption | rfl | exact zle_0 | exact zle_1 | exact zle_2 | exact zle_3 | exact zle_4 | exact zb_0 | exact zb_1 | exact zb01_B | omega) only [zT82_205, zr_iload_1, zT82_206, zr_ic_3, zT82_207, zr_icmp_ge, zcl_i, zcl_r, zcl_l, zcl_n, zv_some, zv_none, Nat.reduceAdd, Nat.reduceMul, Nat.reduceSub, Nat.reduceLT, Nat.reduceLeDiff, Nat.reduceEqDiff, Int.reduceToNat, true_implies, false_implies, implies_true, and_true, true_and, not_true_eq_false, not_false_eq_true, Nat.zero_add, Nat.add_zero, nI_add, nI_ltI, nI_leI, nI_eq, pk_mul, pk_sub, u2_same, u2_row, u2_other, olt_T, olt_F, ole_T, ole_F, oeq_T, oeq_F]
    rfl
  | succ m ih =>
    intro i hi h0
    have ih' := ih (i + 1) (by omega)
    have ct := fun h0 Q => ym_signOf (Q := Q) hf (h.fh (x := h0)) (show i ≤ 2 by omega)
    have il := nI_l (show a_sg nn i < 2 ^ 31 by unfold a_sg; (repeat' split) <;> omega)
    rw [show a_dG nn (m + 1) i h0 = a_dG nn m (i + 1) (lN 31 * h0 + lN (a_sg nn i)) from rfl]
    generalize a_sg nn i = c at *
    simp (disch := first | assumption | rfl | exact zle_0 | exact zle_1 | exact zle_2 | exact zle_3 | exact zle_4 | exact zb_0 | exact zb_1 | exact zb01_B | omega) only [zT82_205, zr_iload_1, zcl_i, zcl_r, zcl_l, zcl_n, zv_some, zv_none, Nat.reduceAdd, Nat.reduceMul, Nat.reduceSub, Nat.reduceLT, Nat.reduceLeDiff, Nat.reduceEqDiff, Int.reduceToNat, true_implies, false_implies, implies_true, and_true, true_and, not_true_eq_false, not_false_eq_true, Nat.zero_add, Nat.add_zero, nI_add, nI_ltI, nI_leI, nI_eq, pk_mul, pk_sub, u2_same, u2_row, u2_other]
    simp (disch := first | assumption | rfl | exact zle_0 | exact zle_1 | exact zle_2 | exact zle_3 | exact zle_4 | exact zb_0 | exact zb_1 | exact zb01_B | omega) only [zT82_206, zr_ic_3, zT82_207, zr_icmp_ge, zT82_210, zr_aload_0, zT82_211, zT82_212, zr_iload_1, zT82_213, zr_iv_73, zT82_216, zr_i2l, zT82_217, zr_iv_81, zT82_220, zr_iinc_1_1, zT82_223, zr_goto, zcl_i, zcl_r, zcl_l, zcl_n, zv_some, zv_none, Nat.reduceAdd, Nat.reduceMul, Nat.reduceSub, Nat.reduceLT, Nat.reduceLeDiff, Nat.reduceEqDiff, Int.reduceToNat, true_implies, false_implies, implies_true, and_true, true_and, not_true_eq_false, not_false_eq_true, Nat.zero_add, Nat.add_zero, nI_add, nI_ltI, nI_leI, nI_eq, pk_mul, pk_sub, u2_same, u2_row, u2_other, ct, il, mix, olt_T, olt_F, ole_T, ole_F, oeq_T, oeq_F]
    exact ih' _
theorem yd_A_ (hf : z_FR fr) {v : Nat} (h : z_ML fi fl 97 149 v) {v2 : Option Value} : ∀ m i, i + m = a_len v → ∀ h0, TT 82 228 [some (.ref 133), some (.int (nI i)), v2] [] (151, fi, u2 fl 133 104 h0, fr) Q = TT 82 252 [some (.ref 133), some (.int (nI (a_len v))), v2] [] (151, fi, u2 fl 133 104 (a_digL v m i h0), fr) Q := by
  have o133 : z_ok 151 133 20 = true := rfl; have o149 : z_ok 151 149 3 = true := rfl
  have l149 : z_al 149 = 10 := rfl
  have mix := fun h v Q => sm_mix (fi := fi) (fl := fl) (fr := fr) (Q := Q) (h := h) (v := v)
  obtain ⟨a1, a2, a3⟩ := h
  have A8 := a_len_8 a2
  intro m
  induction m with
  | zero =>
    intro i hi h0
    obtain rfl : i = a_len v := by omega
    simp (disch := first | assumption | rfl | exact zle_0 | exact zle_1 | exact zle_2 | exact zle_3 | exact zle_4 | exact zb_0 | exact zb_1 | exact zb01_B | omega) only [zT82_228, zr_iload_1, zT82_229, zr_aload_0, zT82_230, zr_gf_97, zT82_233, zr_icmp_ge, zcl_i, zcl_r, zcl_l, zcl_n, zv_some, zv_none, Nat.reduceAdd, Nat.reduceMul, Nat.reduceSub, Nat.reduceLT, Nat.reduceLeDiff, Nat.reduceEqDiff, Int.reduceToNat, true_implies, false_implies, implies_true, and_true, true_and, not_true_eq_false, not_false_eq_true, Nat.zero_add, Nat.add_zero, nI_add, nI_ltI, nI_leI, nI_eq, pk_mul, pk_sub, u2_same, u2_row, u2_other, a1, olt_T, olt_F, ole_T, ole_F, oeq_T, oeq_F]
    rfl
  | succ m ih =>
    intro i hi h0
    have ih' := ih (i + 1) (by omega)
    have e := a3 i (by omega)
    rw [show a_digL v (m + 1) i h0 = a_digL v m (i + 1) (lN 31 * h0 + lN (v / LB ^ i % LB)) from rfl]
    generalize v / LB ^ i % LB = c at *
    generalize a_len v = len at *
    simp (disch := first | assumption | rfl | exact zle_0 | exact zle_1 | exact zle_2 | exact zle_3 | exact zle_4 | exact zb_0 | exact zb_1 | exact zb01_B | omega) only [zT82_228, zr_iload_1, zcl_i, zcl_r, zcl_l, zcl_n, zv_some, zv_none, Nat.reduceAdd, Nat.reduceMul, Nat.reduceSub, Nat.reduceLT, Nat.reduceLeDiff, Nat.reduceEqDiff, Int.reduceToNat, true_implies, false_implies, implies_true, and_true, true_and, not_true_eq_false, not_false_eq_true, Nat.zero_add, Nat.add_zero, nI_add, nI_ltI, nI_leI, nI_eq, pk_mul, pk_sub, u2_same, u2_row, u2_other]
    simp (disch := first | assumption | rfl | exact zle_0 | exact zle_1 | exact zle_2 | exact zle_3 | exact zle_4 | exact zb_0 | exact zb_1 | exact zb01_B | omega) only [zT82_229, zr_aload_0, zT82_230, zr_gf_97, zT82_233, zr_icmp_ge, zT82_236, zT82_237, zT82_238, zr_gf_96, zr_or, zr_go, zf_133_96, zT82_241, zr_iload_1, zT82_242, zr_lald, zT82_243, zr_iv_81, zT82_246, zr_iinc_1_1, zT82_249, zr_goto, zcl_i, zcl_r, zcl_l, zcl_n, zv_some, zv_none, Nat.reduceAdd, Nat.reduceMul, Nat.reduceSub, Nat.reduceLT, Nat.reduceLeDiff, Nat.reduceEqDiff, Int.reduceToNat, true_implies, false_implies, implies_true, and_true, true_and, not_true_eq_false, not_false_eq_true, Nat.zero_add, Nat.add_zero, nI_add, nI_ltI, nI_leI, nI_eq, pk_mul, pk_sub, u2_same, u2_row, u2_other, a1, e, mix, olt_T, olt_F, ole_T, ole_F, oeq_T, oeq_F]
    exact ih' _
theorem yd_B_ (hf : z_FR fr) {v : Nat} (h : z_ML fi fl 99 150 v) {v2 : Option Value} : ∀ m i, i + m = a_len v → ∀ h0, TT 82 254 [some (.ref 133), some (.int (nI i)), v2] [] (151, fi, u2 fl 133 104 h0, fr) Q = TT 82 278 [some (.ref 133), some (.int (nI (a_len v))), v2] [] (151, fi, u2 fl 133 104 (a_digL v m i h0), fr) Q := by
  have o133 : z_ok 151 133 20 = true := rfl; have o150 : z_ok 151 150 3 = true := rfl
  have l150 : z_al 150 = 10 := rfl
  have mix := fun h v Q => sm_mix (fi := fi) (fl := fl) (fr := fr) (Q := Q) (h := h) (v := v)
  obtain ⟨a1, a2, a3⟩ := h
  have A8 := a_len_8 a2
  intro m
  induction m with
  | zero =>
    intro i hi h0
    obtain rfl : i = a_len v := by omega
    simp (disch := first | assumption | rfl | exact zle_0 | exact zle_1 | exact zle_2 | exact zle_3 | exact zle_4 | exact zb_0 | exact zb_1 | exact zb01_B | omega) only [zT82_254, zr_iload_1, zT82_255, zr_aload_0, zT82_256, zr_gf_99, zT82_259, zr_icmp_ge, zcl_i, zcl_r, zcl_l, zcl_n, zv_some, zv_none, Nat.reduceAdd, Nat.reduceMul, Nat.reduceSub, Nat.reduceLT, Nat.reduceLeDiff, Nat.reduceEqDiff, Int.reduceToNat, true_implies, false_implies, implies_true, and_true, true_and, not_true_eq_false, not_false_eq_true, Nat.zero_add, Nat.add_zero, nI_add, nI_ltI, nI_leI, nI_eq, pk_mul, pk_sub, u2_same, u2_row, u2_other, a1, olt_T, olt_F, ole_T, ole_F, oeq_T, oeq_F]
    rfl
  | succ m ih =>
    intro i hi h0
    have ih' := ih (i + 1) (by omega)
    have e := a3 i (by omega)
    rw [show a_digL v (m + 1) i h0 = a_digL v m (i + 1) (lN 31 * h0 + lN (v / LB ^ i % LB)) from rfl]
    generalize v / LB ^ i % LB = c at *
    generalize a_len v = len at *
    simp (disch := first | assumption | rfl | exact zle_0 | exact zle_1 | exact zle_2 | exact zle_3 | exact zle_4 | exact zb_0 | exact zb_1 | exact zb01_B | omega) only [zT82_254, zr_iload_1, zcl_i, zcl_r, zcl_l, zcl_n, zv_some, zv_none, Nat.reduceAdd, Nat.reduceMul, Nat.reduceSub, Nat.reduceLT, Nat.reduceLeDiff, Nat.reduceEqDiff, Int.reduceToNat, true_implies, false_implies, implies_true, and_true, true_and, not_true_eq_false, not_false_eq_true, Nat.zero_add, Nat.add_zero, nI_add, nI_ltI, nI_leI, nI_eq, pk_mul, pk_sub, u2_same, u2_row, u2_other]
    simp (disch := first | assumption | rfl | exact zle_0 | exact zle_1 | exact zle_2 | exact zle_3 | exact zle_4 | exact zb_0 | exact zb_1 | exact zb01_B | omega) only [zT82_255, zr_aload_0, zT82_256, zr_gf_99, zT82_259, zr_icmp_ge, zT82_262, zT82_263, zT82_264, zr_gf_98, zr_or, zr_go, zf_133_98, zT82_267, zr_iload_1, zT82_268, zr_lald, zT82_269, zr_iv_81, zT82_272, zr_iinc_1_1, zT82_275, zr_goto, zcl_i, zcl_r, zcl_l, zcl_n, zv_some, zv_none, Nat.reduceAdd, Nat.reduceMul, Nat.reduceSub, Nat.reduceLT, Nat.reduceLeDiff, Nat.reduceEqDiff, Int.reduceToNat, true_implies, false_implies, implies_true, and_true, true_and, not_true_eq_false, not_false_eq_true, Nat.zero_add, Nat.add_zero, nI_add, nI_ltI, nI_leI, nI_eq, pk_mul, pk_sub, u2_same, u2_row, u2_other, a1, e, mix, olt_T, olt_F, ole_T, ole_F, oeq_T, oeq_F]
    exact ih' _
theorem ym_digest (hf : z_FR fr) (h : z_MS fi fl ws nn tx) (hg : z_G ws nn) (hQ : ∀ fl', z_MS fi fl' ws nn tx → Q (some (.long (r_digest (ws 0) nn))) (151, fi, fl', fr)) : TT 82 0 [some (.ref 133), none, none] [] (151, fi, fl, fr) Q := by
  have o133 : z_ok 151 133 20 = true := rfl; have o134 : z_ok 151 134 1 = true := rfl
  have l134 : z_al 134 = 440 := rfl
  have e54 := h.1.1.at0 (i := 54) (by decide)
  have h54 := hg.1.1.2.2.2.2.2.1
  have i54 := nI_l (show ws 0 54 < 2 ^ 31 by omega)
  have mix := fun h v Q => sm_mix (fi := fi) (fl := fl) (fr := fr) (Q := Q) (h := h) (v := v)
  have o := hQ _ (h.fh (x := r_digest (ws 0) nn))
  unfold r_digest a_digK at o
  unfold mx at o
  have C := fun Q => yd_C_ (Q := Q) hf h hg 5 0 rfl
  have K := fun Q => yd_K_ (fl := fl) (Q := Q) hf h.1.1 hg.1.1 (ws 0 0) 0 (Nat.zero_add _)
  have G := fun v2 Q => yd_G_ (Q := Q) (v2 := v2) hf h 3 0 rfl
  have O := fun v2 Q => yd_O_ (Q := Q) (v2 := v2) hf h hg (ws 0 13) 0 (Nat.zero_add _)
  have A := fun v2 Q => yd_A_ (Q := Q) (v2 := v2) hf h.2.2.2.1 (a_len (nn 6)) 0 (Nat.zero_add _)
  have B := fun v2 Q => yd_B_ (Q := Q) (v2 := v2) hf h.2.2.2.2 (a_len (nn 7)) 0 (Nat.zero_add _)
  have D := fun X hQ => yd_D_ (fl := fl) (Q := Q) (X := X) hf h.1.1 hg.1.1 hQ (ws 0 13) 0 (Nat.zero_add _)
  simp (disch := first | assumption | rfl | exact zle_0 | exact zle_1 | exact zle_2 | exact zle_3 | exact zle_4 | exact zb_0 | exact zb_1 | exact zb01_B | omega) only [zT82_0, zr_aload_0, zT82_1, zr_ldc2, zT82_4, zr_pf_104, zT82_7, zr_ic_0, zT82_8, zr_istore_1, zcl_i, zcl_r, zcl_l, zcl_n, zv_some, zv_none, Nat.reduceAdd, Nat.reduceMul, Nat.reduceSub, Nat.reduceLT, Nat.reduceLeDiff, Nat.reduceEqDiff, Int.reduceToNat, true_implies, false_implies, implies_true, and_true, true_and, not_true_eq_false, not_false_eq_true, Nat.zero_add, Nat.add_zero, nI_add, nI_ltI, nI_leI, nI_eq, pk_mul, pk_sub, u2_same, u2_row, u2_other, olt_T, olt_F, ole_T, ole_F, oeq_T, oeq_F]
  rw [C]
  simp (disch := first | assumption | rfl | exact zle_0 | exact zle_1 | exact zle_2 | exact zle_3 | exact zle_4 | exact zb_0 | exact zb_1 | exact zb01_B | omega) only [zT82_30, zr_aload_0, zT82_31, zT82_32, zr_gf_71, zr_or, zr_go, zf_133_71, zT82_35, zr_ic_54, zT82_37, zr_iald, zT82_38, zr_i2l, zT82_39, zr_iv_81, zT82_42, zr_ic_0, zT82_43, zr_istore_1, zcl_i, zcl_r, zcl_l, zcl_n, zv_some, zv_none, Nat.reduceAdd, Nat.reduceMul, Nat.reduceSub, Nat.reduceLT, Nat.reduceLeDiff, Nat.reduceEqDiff, Int.reduceToNat, true_implies, false_implies, implies_true, and_true, true_and, not_true_eq_false, not_false_eq_true, Nat.zero_add, Nat.add_zero, nI_add, nI_ltI, nI_leI, nI_eq, pk_mul, pk_sub, u2_same, u2_row, u2_other, e54, i54, mix, olt_T, olt_F, ole_T, ole_F, oeq_T, oeq_F]
  rw [K]
  simp (disch := first | assumption | rfl | exact zle_0 | exact zle_1 | exact zle_2 | exact zle_3 | exact zle_4 | exact zb_0 | exact zb_1 | exact zb01_B | omega) only [zT82_87, zr_ic_0, zT82_88, zr_istore_1, zcl_i, zcl_r, zcl_l, zcl_n, zv_some, zv_none, Nat.reduceAdd, Nat.reduceMul, Nat.reduceSub, Nat.reduceLT, Nat.reduceLeDiff, Nat.reduceEqDiff, Int.reduceToNat, true_implies, false_implies, implies_true, and_true, true_and, not_true_eq_false, not_false_eq_true, Nat.zero_add, Nat.add_zero, nI_add, nI_ltI, nI_leI, nI_eq, pk_mul, pk_sub, u2_same, u2_row, u2_other, olt_T, olt_F, ole_T, ole_F, oeq_T, oeq_F]
  refine D _ (fun v2 => ?_) _ _ rfl
  simp (disch := first | assumption | rfl | exact zle_0 | exact zle_1 | exact zle_2 | exact zle_3 | exact zle_4 | exact zb_0 | exact zb_1 | exact zb01_B | omega) only [zT82_162, zr_ic_0, zT82_163, zr_istore_1, zcl_i, zcl_r, zcl_l, zcl_n, zv_some, zv_none, Nat.reduceAdd, Nat.reduceMul, Nat.reduceSub, Nat.reduceLT, Nat.reduceLeDiff, Nat.reduceEqDiff, Int.reduceToNat, true_implies, false_implies, implies_true, and_true, true_and, not_true_eq_false, not_false_eq_true, Nat.zero_add, Nat.add_zero, nI_add, nI_ltI, nI_leI, nI_eq, pk_mul, pk_sub, u2_same, u2_row, u2_other, olt_T, olt_F, ole_T, ole_F, oeq_T, oeq_F]
  rw [O]
  simp (disch := first | assumption | rfl | exact zle_0 | exact zle_1 | exact zle_2 | exact zle_3 | exact zle_4 | exact zb_0 | exact zb_1 | exact zb01_B | omega) only [zT82_203, zr_ic_0, zT82_204, zr_istore_1, zcl_i, zcl_r, zcl_l, zcl_n, zv_some, zv_none, Nat.reduceAdd, Nat.reduceMul, Nat.reduceSub, Nat.reduceLT, Nat.reduceLeDiff, Nat.reduceEqDiff, Int.reduceToNat, true_implies, false_implies, implies_true, and_true, true_and, not_true_eq_false, not_false_eq_true, Nat.zero_add, Nat.add_zero, nI_add, nI_ltI, nI_leI, nI_eq, pk_mul, pk_sub, u2_same, u2_row, u2_other, olt_T, olt_F, ole_T, ole_F, oeq_T, oeq_F]
  rw [G]
  simp (disch := first | assumption | rfl | exact zle_0 | exact zle_1 | exact zle_2 | exact zle_3 | exact zle_4 | exact zb_0 | exact zb_1 | exact zb01_B | omega) only [zT82_226, zr_ic_0, zT82_227, zr_istore_1, zcl_i, zcl_r, zcl_l, zcl_n, zv_some, zv_none, Nat.reduceAdd, Nat.reduceMul, Nat.reduceSub, Nat.reduceLT, Nat.reduceLeDiff, Nat.reduceEqDiff, Int.reduceToNat, true_implies, false_implies, implies_true, and_true, true_and, not_true_eq_false, not_false_eq_true, Nat.zero_add, Nat.add_zero, nI_add, nI_ltI, nI_leI, nI_eq, pk_mul, pk_sub, u2_same, u2_row, u2_other, olt_T, olt_F, ole_T, ole_F, oeq_T, oeq_F]
  rw [A]
  simp (disch := first | assumption | rfl | exact zle_0 | exact zle_1 | exact zle_2 | exact zle_3 | exact zle_4 | exact zb_0 | exact zb_1 | exact zb01_B | omega) only [zT82_252, zr_ic_0, zT82_253, zr_istore_1, zcl_i, zcl_r, zcl_l, zcl_n, zv_some, zv_none, Nat.reduceAdd, Nat.reduceMul, Nat.reduceSub, Nat.reduceLT, Nat.reduceLeDiff, Nat.reduceEqDiff, Int.reduceToNat, true_implies, false_implies, implies_true, and_true, true_and, not_true_eq_false, not_false_eq_true, Nat.zero_add, Nat.add_zero, nI_add, nI_ltI, nI_leI, nI_eq, pk_mul, pk_sub, u2_same, u2_row, u2_other, olt_T, olt_F, ole_T, ole_F, oeq_T, oeq_F]
  rw [B]
  simp (disch := first | assumption | rfl | exact zle_0 | exact zle_1 | exact zle_2 | exact zle_3 | exact zle_4 | exact zb_0 | exact zb_1 | exact zb01_B | omega) only [zT82_278, zr_aload_0, zT82_279, zr_gf_104, zT82_282, zr_lret, zcl_i, zcl_r, zcl_l, zcl_n, zv_some, zv_none, Nat.reduceAdd, Nat.reduceMul, Nat.reduceSub, Nat.reduceLT, Nat.reduceLeDiff, Nat.reduceEqDiff, Int.reduceToNat, true_implies, false_implies, implies_true, and_true, true_and, not_true_eq_false, not_false_eq_true, Nat.zero_add, Nat.add_zero, nI_add, nI_ltI, nI_leI, nI_eq, pk_mul, pk_sub, u2_same, u2_row, u2_other, olt_T, olt_F, ole_T, ole_F, oeq_T, oeq_F]
  exact o
end
