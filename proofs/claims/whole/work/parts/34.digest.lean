/-! a kitchen's digest -/
def mx (h : Int64) (n : Nat) : Int64 := lN 31 * h + lN n
def a_digS (w : Nat → Nat) (d : Nat) : Nat → Nat → Int64 → Int64
  | 0, _, h => h
  | n + 1, s, h => a_digS w d n (s + 1) (mx (mx (mx (mx h (a_st w d s 0)) (a_st w d s 1)) (a_st w d s 2)) (a_st w d s 3))
def a_digD (w : Nat → Nat) (d : Nat) (h : Int64) : Int64 := a_digS w d (a_sm w d) 0 (mx h (a_sm w d))
def a_digC (w : Nat → Nat) : Nat → Nat → Int64 → Int64
  | 0, _, h => h
  | n + 1, c, h => a_digC w n (c + 1) (mx (mx h (w (1 + c))) (w (7 + c)))
def a_digDs (w : Nat → Nat) : Nat → Nat → Int64 → Int64
  | 0, _, h => h
  | n + 1, d, h => a_digDs w n (d + 1) (a_digD w d h)
def a_digK (w : Nat → Nat) (h : Int64) : Int64 := a_digDs w (w 13) 0 (a_digC w (w 0) 0 (mx h (w 54)))
section
variable {fi : Nat → Nat → Int32} {fl : Nat → Nat → Int64} {fr : Nat → Nat → Option Nat} {Q : Option Value → Mm → Prop} {w : Nat → Nat} {k : Nat} {M : Mm}
theorem sp_digS {d i : Nat} (hd : z_Dok fr d) (hr : z_DR fi d w i) (hw : a_WD w i) {h0 : Int64} : ∀ n s, s + n = a_sm w i → ∀ h Q, TT 160 15 [some (.ref d), some (.long h0), none, some (.long h), none, some (.int (nI s))] [] (151, fi, fl, fr) Q = Q (some (.long (a_digS w i n s h))) (151, fi, fl, fr) := by
  have hm := hw.1
  have r1 := hr.1
  intro n
  induction n with
  | zero =>
    intro s hs h Q
    refine T_exact (fun Q hQ => ?_) Q
    have h1 := hd.1
    simp (disch := first | assumption | rfl | exact zle_0 | exact zle_1 | exact zle_2 | exact zle_3 | exact zle_4 | exact zb_0 | exact zb_1 | exact zb01_B | omega) only [zT160_0, zr_ldc2, zT160_3, zr_lload_1, zT160_4, zr_lmul, zT160_5, zr_aload_0, zT160_6, zr_gf_32, zT160_9, zr_i2l, zT160_10, zr_ladd, zT160_11, zr_lstore_3, zT160_12, zr_ic_0, zT160_13, zr_istore_5, zT160_15, zr_iload_5, zT160_17, zT160_18, zT160_21, zr_icmp_ge, zT160_24, zT160_27, zr_lload_3, zT160_28, zT160_29, zT160_30, zr_gf_28, zr_or, zr_go, zT160_33, zT160_35, zr_iald, zT160_36, zT160_37, zT160_38, zT160_39, zT160_42, zT160_43, zT160_44, zT160_45, zr_gf_29, zT160_48, zT160_50, zT160_51, zT160_52, zT160_53, zT160_54, zT160_57, zT160_58, zT160_59, zT160_60, zr_gf_30, zT160_63, zT160_65, zT160_66, zT160_67, zT160_68, zT160_69, zT160_72, zT160_73, zT160_74, zT160_75, zr_gf_31, zT160_78, zT160_80, zT160_81, zT160_82, zT160_83, zT160_84, zr_iinc_5_1, zT160_87, zr_goto, zT160_90, zT160_91, zr_lret, zcl_i, zcl_r, zcl_l, zcl_n, zv_some, zv_none, Nat.reduceAdd, Nat.reduceMul, Nat.reduceSub, Nat.reduceLT, Nat.reduceLeDiff, Nat.reduceEqDiff, Int.reduceToNat, true_implies, false_implies, implies_true, and_true, true_and, not_true_eq_false, not_false_eq_true, Nat.zero_add, Nat.add_zero, nI_add, nI_ltI, nI_leI, nI_eq, pk_mul, pk_sub, u2_same, u2_row, u2_other, r1, olt_T, olt_F, ole_T, ole_F, oeq_T, oeq_F]
    exact hQ
  | succ n ih =>
    intro s hs h Q
    refine T_exact (fun Q hQ => ?_) Q
    have q := hr.2.2 s (by omega)
    have b := hw.2 s (by omega)
    have i1 := nI_l (show a_st w i s 0 < 2 ^ 31 by omega)
    have i2 := nI_l (show a_st w i s 1 < 2 ^ 31 by omega)
    have i3 := nI_l (show a_st w i s 2 < 2 ^ 31 by omega)
    have i4 := nI_l (show a_st w i s 3 < 2 ^ 31 by omega)
    have ih' := fun h Q => ih (s + 1) (by omega) h Q
    obtain ⟨h1, ⟨h2, h3, h4, h5⟩, ⟨h6, h7, h8, h9⟩, h10, h11, h12, h13⟩ := hd
    simp (disch := first | assumption | rfl | exact zle_0 | exact zle_1 | exact zle_2 | exact zle_3 | exact zle_4 | exact zb_0 | exact zb_1 | exact zb01_B | omega) only [zT160_15, zr_iload_5, zcl_i, zcl_r, zcl_l, zcl_n, zv_some, zv_none, Nat.reduceAdd, Nat.reduceMul, Nat.reduceSub, Nat.reduceLT, Nat.reduceLeDiff, Nat.reduceEqDiff, Int.reduceToNat, true_implies, false_implies, implies_true, and_true, true_and, not_true_eq_false, not_false_eq_true, Nat.zero_add, Nat.add_zero, nI_add, nI_ltI, nI_leI, nI_eq, pk_mul, pk_sub, u2_same, u2_row, u2_other]
    simp (disch := first | assumption | rfl | exact zle_0 | exact zle_1 | exact zle_2 | exact zle_3 | exact zle_4 | exact zb_0 | exact zb_1 | exact zb01_B | omega) only [zT160_0, zr_ldc2, zT160_3, zr_lload_1, zT160_4, zr_lmul, zT160_5, zr_aload_0, zT160_6, zr_gf_32, zT160_9, zr_i2l, zT160_10, zr_ladd, zT160_11, zr_lstore_3, zT160_12, zr_ic_0, zT160_13, zr_istore_5, zT160_17, zT160_18, zT160_21, zr_icmp_ge, zT160_24, zT160_27, zr_lload_3, zT160_28, zT160_29, zT160_30, zr_gf_28, zr_or, zr_go, zT160_33, zr_iload_5, zT160_35, zr_iald, zT160_36, zT160_37, zT160_38, zT160_39, zT160_42, zT160_43, zT160_44, zT160_45, zr_gf_29, zT160_48, zT160_50, zT160_51, zT160_52, zT160_53, zT160_54, zT160_57, zT160_58, zT160_59, zT160_60, zr_gf_30, zT160_63, zT160_65, zT160_66, zT160_67, zT160_68, zT160_69, zT160_72, zT160_73, zT160_74, zT160_75, zr_gf_31, zT160_78, zT160_80, zT160_81, zT160_82, zT160_83, zT160_84, zr_iinc_5_1, zT160_87, zr_goto, zT160_90, zT160_91, zr_lret, zcl_i, zcl_r, zcl_l, zcl_n, zv_some, zv_none, Nat.reduceAdd, Nat.reduceMul, Nat.reduceSub, Nat.reduceLT, Nat.reduceLeDiff, Nat.reduceEqDiff, Int.reduceToNat, true_implies, false_implies, implies_true, and_true, true_and, not_true_eq_false, not_false_eq_true, Nat.zero_add, Nat.add_zero, nI_add, nI_ltI, nI_leI, nI_eq, pk_mul, pk_sub, u2_same, u2_row, u2_other, r1, q, h10, h11, h12, h13, i1, i2, i3, i4, ih', olt_T, olt_F, ole_T, ole_F, oeq_T, oeq_F]
    exact hQ
theorem sp_digD {d i : Nat} (hd : z_Dok fr d) (hr : z_DR fi d w i) (hw : a_WD w i) {h : Int64} : TT 160 0 [some (.ref d), some (.long h), none, none, none, none] [] (151, fi, fl, fr) Q = Q (some (.long (a_digD w i h))) (151, fi, fl, fr) := by
  refine T_exact (fun Q hQ => ?_) Q
  have hm := hw.1
  have r1 := hr.1
  have h1 := hd.1
  have i1 := nI_l (show a_sm w i < 2 ^ 31 by omega)
  have hs := fun x Q => sp_digS (fl := fl) (h0 := h) hd hr hw (a_sm w i) 0 (by omega) x Q
  simp (disch := first | assumption | rfl | exact zle_0 | exact zle_1 | exact zle_2 | exact zle_3 | exact zle_4 | exact zb_0 | exact zb_1 | exact zb01_B | omega) only [zT160_0, zr_ldc2, zT160_3, zr_lload_1, zT160_4, zr_lmul, zT160_5, zr_aload_0, zT160_6, zr_gf_32, zT160_9, zr_i2l, zT160_10, zr_ladd, zT160_11, zr_lstore_3, zT160_12, zr_ic_0, zT160_13, zr_istore_5, zcl_i, zcl_r, zcl_l, zcl_n, zv_some, zv_none, Nat.reduceAdd, Nat.reduceMul, Nat.reduceSub, Nat.reduceLT, Nat.reduceLeDiff, Nat.reduceEqDiff, Int.reduceToNat, true_implies, false_implies, implies_true, and_true, true_and, not_true_eq_false, not_false_eq_true, Nat.zero_add, Nat.add_zero, nI_add, nI_ltI, nI_leI, nI_eq, pk_mul, pk_sub, u2_same, u2_row, u2_other, r1, i1, hs]
  exact hQ
theorem sp_digDs (hk : z_Kok fr k) (hr : z_KR fi k w) (hw : a_WF w) {h0 : Int64} : ∀ n d, d + n = w 13 → ∀ h Q, TT 198 71 [some (.ref k), some (.long h0), none, some (.long h), none, some (.int (nI d))] [] (151, fi, fl, fr) Q = Q (some (.long (a_digDs w n d h))) (151, fi, fl, fr) := by
  have h13 := hw.2.2.1
  have r1 := hr.1.2.1
  intro n
  induction n with
  | zero =>
    intro d hd h Q
    refine T_exact (fun Q hQ => ?_) Q
    have h1 := hk.1
    simp (disch := first | assumption | rfl | exact zle_0 | exact zle_1 | exact zle_2 | exact zle_3 | exact zle_4 | exact zb_0 | exact zb_1 | exact zb01_B | omega) only [zT198_71, zr_iload_5, zT198_73, zr_aload_0, zT198_74, zr_gf_45, zT198_77, zr_icmp_ge, zT198_80, zT198_81, zr_gf_44, zr_or, zr_go, zf_19_44, zT198_84, zT198_86, zr_aald4, zr_aald5, zT198_87, zr_lload_3, zT198_88, zr_iv_160, zT198_91, zr_lstore_3, zT198_92, zr_iinc_5_1, zT198_95, zr_goto, zT198_98, zT198_99, zr_lret, zcl_i, zcl_r, zcl_l, zcl_n, zv_some, zv_none, Nat.reduceAdd, Nat.reduceMul, Nat.reduceSub, Nat.reduceLT, Nat.reduceLeDiff, Nat.reduceEqDiff, Int.reduceToNat, true_implies, false_implies, implies_true, and_true, true_and, not_true_eq_false, not_false_eq_true, Nat.zero_add, Nat.add_zero, nI_add, nI_ltI, nI_leI, nI_eq, pk_mul, pk_sub, u2_same, u2_row, u2_other, r1, olt_T, olt_F, ole_T, ole_F, oeq_T, oeq_F]
    exact hQ
  | succ n ih =>
    intro d hd h Q
    refine T_exact (fun Q hQ => ?_) Q
    have hd3 : d < 3 := by omega
    have hs := fun Q => sp_digD (fl := fl) (Q := Q) (h := h) (hk.2.2.2.2 d hd3).2 (hr.2.2.1 d hd3) (hw.2.2.2.1 d hd3).1
    have ih' := fun h Q => ih (d + 1) (by omega) h Q
    obtain ⟨h1, ⟨h2, h3, h4, h5⟩, ⟨l1, l2, l3, l4⟩, ⟨f1, f2, f3, f4⟩, hd'⟩ := hk
    have rd := (hd' d hd3).1
    have od := (hd' d hd3).2.1
    simp (disch := first | assumption | rfl | exact zle_0 | exact zle_1 | exact zle_2 | exact zle_3 | exact zle_4 | exact zb_0 | exact zb_1 | exact zb01_B | omega) only [zT198_71, zr_iload_5, zcl_i, zcl_r, zcl_l, zcl_n, zv_some, zv_none, Nat.reduceAdd, Nat.reduceMul, Nat.reduceSub, Nat.reduceLT, Nat.reduceLeDiff, Nat.reduceEqDiff, Int.reduceToNat, true_implies, false_implies, implies_true, and_true, true_and, not_true_eq_false, not_false_eq_true, Nat.zero_add, Nat.add_zero, nI_add, nI_ltI, nI_leI, nI_eq, pk_mul, pk_sub, u2_same, u2_row, u2_other]
    simp (disch := first | assumption | rfl | exact zle_0 | exact zle_1 | exact zle_2 | exact zle_3 | exact zle_4 | exact zb_0 | exact zb_1 | exact zb01_B | omega) only [zT198_0, zr_ldc2, zT198_3, zr_lload_1, zT198_4, zr_lmul, zT198_5, zr_aload_0, zT198_6, zr_gf_47, zT198_9, zr_if_eq, zT198_12, zr_ic_1, zT198_13, zr_goto, zT198_16, zr_ic_0, zT198_17, zr_i2l, zT198_18, zr_ladd, zT198_19, zr_lstore_3, zT198_20, zT198_21, zr_istore_5, zT198_23, zr_iload_5, zT198_25, zT198_26, zr_gf_43, zT198_29, zr_icmp_ge, zT198_32, zT198_35, zr_lload_3, zT198_36, zT198_37, zT198_38, zr_gf_41, zr_or, zr_go, zf_19_41, zT198_41, zT198_43, zr_iald, zT198_44, zT198_45, zT198_46, zT198_47, zT198_50, zT198_51, zT198_52, zT198_53, zr_gf_42, zf_19_42, zT198_56, zT198_58, zT198_59, zT198_60, zT198_61, zT198_62, zr_iinc_5_1, zT198_65, zT198_68, zT198_69, zT198_73, zT198_74, zr_gf_45, zT198_77, zT198_80, zT198_81, zr_gf_44, zf_19_44, zT198_84, zT198_86, zr_aald4, zr_aald5, zT198_87, zT198_88, zr_iv_160, zT198_91, zT198_92, zT198_95, zT198_98, zT198_99, zr_lret, zcl_i, zcl_r, zcl_l, zcl_n, zv_some, zv_none, Nat.reduceAdd, Nat.reduceMul, Nat.reduceSub, Nat.reduceLT, Nat.reduceLeDiff, Nat.reduceEqDiff, Int.reduceToNat, true_implies, false_implies, implies_true, and_true, true_and, not_true_eq_false, not_false_eq_true, Nat.zero_add, Nat.add_zero, nI_add, nI_ltI, nI_leI, nI_eq, pk_mul, pk_sub, u2_same, u2_row, u2_other, r1, f3, rd, hs, ih', olt_T, olt_F, ole_T, ole_F, oeq_T, oeq_F]
    exact hQ
theorem sp_digC (hk : z_Kok fr k) (hr : z_KR fi k w) (hw : a_WF w) {h0 : Int64} : ∀ n c, c + n = w 0 → ∀ h Q, TT 198 23 [some (.ref k), some (.long h0), none, some (.long h), none, some (.int (nI c))] [] (151, fi, fl, fr) Q = Q (some (.long (a_digDs w (w 13) 0 (a_digC w n c h)))) (151, fi, fl, fr) := by
  have h6 := hw.1
  have r1 := hr.1.1
  intro n
  induction n with
  | zero =>
    intro c hc h Q
    refine T_exact (fun Q hQ => ?_) Q
    have hs := fun Q => sp_digDs (fl := fl) (h0 := h0) hk hr hw (w 13) 0 (by omega) h Q
    have h1 := hk.1
    simp (disch := first | assumption | rfl | exact zle_0 | exact zle_1 | exact zle_2 | exact zle_3 | exact zle_4 | exact zb_0 | exact zb_1 | exact zb01_B | omega) only [zT198_23, zr_iload_5, zT198_25, zr_aload_0, zT198_26, zr_gf_43, zT198_29, zr_icmp_ge, zT198_32, zr_ldc2, zT198_35, zr_lload_3, zT198_36, zr_lmul, zT198_37, zT198_38, zr_gf_41, zr_or, zr_go, zf_19_41, zT198_41, zT198_43, zr_iald, zT198_44, zr_i2l, zT198_45, zr_ladd, zT198_46, zr_lstore_3, zT198_47, zT198_50, zT198_51, zT198_52, zT198_53, zr_gf_42, zf_19_42, zT198_56, zT198_58, zT198_59, zT198_60, zT198_61, zT198_62, zr_iinc_5_1, zT198_65, zr_goto, zT198_68, zr_ic_0, zT198_69, zr_istore_5, zcl_i, zcl_r, zcl_l, zcl_n, zv_some, zv_none, Nat.reduceAdd, Nat.reduceMul, Nat.reduceSub, Nat.reduceLT, Nat.reduceLeDiff, Nat.reduceEqDiff, Int.reduceToNat, true_implies, false_implies, implies_true, and_true, true_and, not_true_eq_false, not_false_eq_true, Nat.zero_add, Nat.add_zero, nI_add, nI_ltI, nI_leI, nI_eq, pk_mul, pk_sub, u2_same, u2_row, u2_other, r1, hs, olt_T, olt_F, ole_T, ole_F, oeq_T, oeq_F]
    exact hQ
  | succ n ih =>
    intro c hc h Q
    refine T_exact (fun Q hQ => ?_) Q
    have q := hr.2.1 c (by omega)
    have b := hw.2.1 c (by omega)
    have i1 := nI_l (show w (1 + c) < 2 ^ 31 by omega)
    have i2 := nI_l (show w (7 + c) < 2 ^ 31 by omega)
    have ih' := fun h Q => ih (c + 1) (by omega) h Q
    obtain ⟨h1, ⟨h2, h3, h4, h5⟩, ⟨l1, l2, l3, l4⟩, ⟨f1, f2, f3, f4⟩, hd'⟩ := hk
    simp (disch := first | assumption | rfl | exact zle_0 | exact zle_1 | exact zle_2 | exact zle_3 | exact zle_4 | exact zb_0 | exact zb_1 | exact zb01_B | omega) only [zT198_23, zr_iload_5, zcl_i, zcl_r, zcl_l, zcl_n, zv_some, zv_none, Nat.reduceAdd, Nat.reduceMul, Nat.reduceSub, Nat.reduceLT, Nat.reduceLeDiff, Nat.reduceEqDiff, Int.reduceToNat, true_implies, false_implies, implies_true, and_true, true_and, not_true_eq_false, not_false_eq_true, Nat.zero_add, Nat.add_zero, nI_add, nI_ltI, nI_leI, nI_eq, pk_mul, pk_sub, u2_same, u2_row, u2_other]
    simp (disch := first | assumption | rfl | exact zle_0 | exact zle_1 | exact zle_2 | exact zle_3 | exact zle_4 | exact zb_0 | exact zb_1 | exact zb01_B | omega) only [zT198_0, zr_ldc2, zT198_3, zr_lload_1, zT198_4, zr_lmul, zT198_5, zr_aload_0, zT198_6, zr_gf_47, zT198_9, zr_if_eq, zT198_12, zr_ic_1, zT198_13, zr_goto, zT198_16, zr_ic_0, zT198_17, zr_i2l, zT198_18, zr_ladd, zT198_19, zr_lstore_3, zT198_20, zT198_21, zr_istore_5, zT198_25, zT198_26, zr_gf_43, zT198_29, zr_icmp_ge, zT198_32, zT198_35, zr_lload_3, zT198_36, zT198_37, zT198_38, zr_gf_41, zr_or, zr_go, zf_19_41, zT198_41, zr_iload_5, zT198_43, zr_iald, zT198_44, zT198_45, zT198_46, zT198_47, zT198_50, zT198_51, zT198_52, zT198_53, zr_gf_42, zf_19_42, zT198_56, zT198_58, zT198_59, zT198_60, zT198_61, zT198_62, zr_iinc_5_1, zT198_65, zT198_68, zT198_69, zT198_71, zT198_73, zT198_74, zr_gf_45, zT198_77, zT198_80, zT198_81, zr_gf_44, zf_19_44, zT198_84, zT198_86, zr_aald4, zr_aald5, zT198_87, zT198_88, zr_iv_160, zT198_91, zT198_92, zT198_95, zT198_98, zT198_99, zr_lret, zcl_i, zcl_r, zcl_l, zcl_n, zv_some, zv_none, Nat.reduceAdd, Nat.reduceMul, Nat.reduceSub, Nat.reduceLT, Nat.reduceLeDiff, Nat.reduceEqDiff, Int.reduceToNat, true_implies, false_implies, implies_true, and_true, true_and, not_true_eq_false, not_false_eq_true, Nat.zero_add, Nat.add_zero, nI_add, nI_ltI, nI_leI, nI_eq, pk_mul, pk_sub, u2_same, u2_row, u2_other, r1, f1, f2, q, i1, i2, ih', olt_T, olt_F, ole_T, ole_F, oeq_T, oeq_F]
    exact hQ
theorem sp_digK (hk : z_Kok fr k) (hr : z_KR fi k w) (hw : a_WF w) {h : Int64} : TT 198 0 [some (.ref k), some (.long h), none, none, none, none] [] (151, fi, fl, fr) Q = Q (some (.long (a_digK w h))) (151, fi, fl, fr) := by
  refine T_exact (fun Q hQ => ?_) Q
  have h1 := hk.1
  have r1 := hr.1.2.2.2.1
  have h54 := hw.2.2.2.2.2.1
  have i0 := nI_l (show 0 < 2 ^ 31 by omega)
  have i1 := nI_l (show 1 < 2 ^ 31 by omega)
  have hs := fun x Q => sp_digC (fl := fl) (h0 := h) hk hr hw (w 0) 0 (by omega) x Q
  unfold a_digK at hQ
  have hb : w 54 = 0 ∨ w 54 = 1 := by omega
  rcases hb with e | e <;> rw [e] at r1 hQ
  · simp (disch := first | assumption | rfl | exact zle_0 | exact zle_1 | exact zle_2 | exact zle_3 | exact zle_4 | exact zb_0 | exact zb_1 | exact zb01_B | omega) only [zT198_0, zr_ldc2, zT198_3, zr_lload_1, zT198_4, zr_lmul, zT198_5, zr_aload_0, zT198_6, zr_gf_47, zT198_9, zr_if_eq, zT198_12, zr_ic_1, zT198_13, zr_goto, zT198_16, zr_ic_0, zT198_17, zr_i2l, zT198_18, zr_ladd, zT198_19, zr_lstore_3, zT198_20, zT198_21, zr_istore_5, zcl_i, zcl_r, zcl_l, zcl_n, zv_some, zv_none, Nat.reduceAdd, Nat.reduceMul, Nat.reduceSub, Nat.reduceLT, Nat.reduceLeDiff, Nat.reduceEqDiff, Int.reduceToNat, true_implies, false_implies, implies_true, and_true, true_and, not_true_eq_false, not_false_eq_true, Nat.zero_add, Nat.add_zero, nI_add, nI_ltI, nI_leI, nI_eq, pk_mul, pk_sub, u2_same, u2_row, u2_other, r1, i0, i1, hs, olt_T, olt_F, ole_T, ole_F, oeq_T, oeq_F]
    exact hQ
  · simp (disch := first | assumption | rfl | exact zle_0 | exact zle_1 | exact zle_2 | exact zle_3 | exact zle_4 | exact zb_0 | exact zb_1 | exact zb01_B | omega) only [zT198_0, zr_ldc2, zT198_3, zr_lload_1, zT198_4, zr_lmul, zT198_5, zr_aload_0, zT198_6, zr_gf_47, zT198_9, zr_if_eq, zT198_12, zr_ic_1, zT198_13, zr_goto, zT198_16, zr_ic_0, zT198_17, zr_i2l, zT198_18, zr_ladd, zT198_19, zr_lstore_3, zT198_20, zT198_21, zr_istore_5, zcl_i, zcl_r, zcl_l, zcl_n, zv_some, zv_none, Nat.reduceAdd, Nat.reduceMul, Nat.reduceSub, Nat.reduceLT, Nat.reduceLeDiff, Nat.reduceEqDiff, Int.reduceToNat, true_implies, false_implies, implies_true, and_true, true_and, not_true_eq_false, not_false_eq_true, Nat.zero_add, Nat.add_zero, nI_add, nI_ltI, nI_leI, nI_eq, pk_mul, pk_sub, u2_same, u2_row, u2_other, r1, i0, i1, hs, olt_T, olt_F, ole_T, ole_F, oeq_T, oeq_F]
    exact hQ
end
