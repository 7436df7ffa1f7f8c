/-! the call digest -/
def a_dC (w nn : Nat → Nat) : Nat → Nat → Int64 → Int64
  | 0, _, h => h
  | m + 1, i, h => a_dC w nn m (i + 1) (mx h (a_ct w nn i))
def a_dS (w : Nat → Nat) : Nat → Nat → Int64 → Int64
  | 0, _, h => h
  | m + 1, d, h => a_dS w m (d + 1) (mx (mx h (a_so w d 0)) (a_so w d 1))
def a_dG (nn : Nat → Nat) : Nat → Nat → Int64 → Int64
  | 0, _, h => h
  | m + 1, i, h => a_dG nn m (i + 1) (mx h (a_sg nn i))
def r_digest (w nn : Nat → Nat) : Int64 := a_digL (nn 7) (a_len (nn 7)) 0 (a_digL (nn 6) (a_len (nn 6)) 0 (a_dG nn 3 0 (a_dS w (w 13) 0 (a_digK w (a_dC w nn 5 0 (lN 709))))))
section
variable {fi fi' : Nat → Nat → Int32} {fl : Nat → Nat → Int64} {fr : Nat → Nat → Option Nat} {Q : Option Value → Mm → Prop} {w : Nat → Nat} {k : Nat} {M : Mm} {ws : Nat → Nat → Nat} {nn tx : Nat → Nat}
theorem a_ct_lt (hg : z_G ws nn) {i : Nat} : a_ct (ws 0) nn i < 2 ^ 31 := by
  have h0 := hg.1.1.1
  have h13 := hg.1.1.2.2.1
  have h53 := hg.1.1.2.2.2.2.1
  have h58 := hg.1.le
  have h2 := hg.2.2.2.2.2
  unfold a_ct
  repeat' split
  all_goals omega
theorem a_so_lt (hg : z_G ws nn) {d i : Nat} (hd : d < 3) : a_so (ws 0) d i < 2 ^ 31 := by
  have wd := hg.1.1.2.2.2.1 d hd
  have sp := a_stp_spec wd.1 (a_gone (ws 0) d)
  have tl := a_tot_le wd.1
  have := wd.1.1
  unfold a_so
  split <;> omega
theorem sx_dC_ (hf : z_FR fr) (h : z_XS fi ws nn tx) (hg : z_G ws nn) : ∀ m i, i + m = 5 → ∀ h0 (v4 : Option Value), TT 114 6 [some (.ref 18), some (.long h0), none, some (.int (nI i)), v4] [] (151, fi, fl, fr) Q = TT 114 30 [some (.ref 18), some (.long (a_dC (ws 0) nn m i h0)), none, some (.int (nI 5)), v4] [] (151, fi, fl, fr) Q := by
  have o18 : z_ok 151 18 10 = true := rfl
  intro m
  induction m with
  | zero =>
    intro i hi h0 v4
    obtain rfl : i = 5 := by omega
    simp (disch := first | assumption | rfl | exact zle_0 | exact zle_1 | exact zle_2 | exact zle_3 | exact zle_4 | exact zb_0 | exact zb_1 | exact zb01_B | omega) only [zT114_6, zr_iload_3, zT114_7, zr_ic_4, zT114_8, zr_icmp_gt, zcl_i, zcl_r, zcl_l, zcl_n, zv_some, zv_none, Nat.reduceAdd, Nat.reduceMul, Nat.reduceSub, Nat.reduceLT, Nat.reduceLeDiff, Nat.reduceEqDiff, Int.reduceToNat, true_implies, false_implies, implies_true, and_true, true_and, not_true_eq_false, not_false_eq_true, Nat.zero_add, Nat.add_zero, nI_add, nI_ltI, nI_leI, nI_eq, pk_mul, pk_sub, u2_same, u2_row, u2_other, olt_T, olt_F, ole_T, ole_F, oeq_T, oeq_F]
    rfl
  | succ m ih =>
    intro i hi h0 v4
    have ih' := ih (i + 1) (by omega)
    have ct := fun Q => sx_countOf (fl := fl) (Q := Q) hf h (show i ≤ 4 by omega)
    have il := nI_l (a_ct_lt hg (i := i))
    rw [show a_dC (ws 0) nn (m + 1) i h0 = a_dC (ws 0) nn m (i + 1) (lN 31 * h0 + lN (a_ct (ws 0) nn i)) from rfl]
    generalize a_ct (ws 0) nn i = c at *
    simp (disch := first | assumption | rfl | exact zle_0 | exact zle_1 | exact zle_2 | exact zle_3 | exact zle_4 | exact zb_0 | exact zb_1 | exact zb01_B | omega) only [zT114_6, zr_iload_3, zcl_i, zcl_r, zcl_l, zcl_n, zv_some, zv_none, Nat.reduceAdd, Nat.reduceMul, Nat.reduceSub, Nat.reduceLT, Nat.reduceLeDiff, Nat.reduceEqDiff, Int.reduceToNat, true_implies, false_implies, implies_true, and_true, true_and, not_true_eq_false, not_false_eq_true, Nat.zero_add, Nat.add_zero, nI_add, nI_ltI, nI_leI, nI_eq, pk_mul, pk_sub, u2_same, u2_row, u2_other]
    simp (disch := first | assumption | rfl | exact zle_0 | exact zle_1 | exact zle_2 | exact zle_3 | exact zle_4 | exact zb_0 | exact zb_1 | exact zb01_B | omega) only [zT114_7, zr_ic_4, zT114_8, zr_icmp_gt, zT114_11, zr_ldc2, zT114_14, zr_lload_1, zT114_15, zr_lmul, zT114_16, zr_aload_0, zT114_17, zr_iload_3, zT114_18, zr_iv_124, zT114_21, zr_i2l, zT114_22, zr_ladd, zT114_23, zr_lstore_1, zT114_24, zr_iinc_3_1, zT114_27, zr_goto, zcl_i, zcl_r, zcl_l, zcl_n, zv_some, zv_none, Nat.reduceAdd, Nat.reduceMul, Nat.reduceSub, Nat.reduceLT, Nat.reduceLeDiff, Nat.reduceEqDiff, Int.reduceToNat, true_implies, false_implies, implies_true, and_true, true_and, not_true_eq_false, not_false_eq_true, Nat.zero_add, Nat.add_zero, nI_add, nI_ltI, nI_leI, nI_eq, pk_mul, pk_sub, u2_same, u2_row, u2_other, ct, il, olt_T, olt_F, ole_T, ole_F, oeq_T, oeq_F]
    exact ih' _ _
theorem sx_dS_ (hf : z_FR fr) (h : z_XS fi ws nn tx) (hg : z_G ws nn) : ∀ m d, d + m = ws 0 13 → ∀ h0 (v4 : Option Value), (∀ v4, TT 114 96 [some (.ref 18), some (.long (a_dS (ws 0) m d h0)), none, some (.int (nI (ws 0 13))), v4] [] (151, fi, fl, fr) Q) → TT 114 41 [some (.ref 18), some (.long h0), none, some (.int (nI d)), v4] [] (151, fi, fl, fr) Q := by
  have o18 : z_ok 151 18 10 = true := rfl; have o19 : z_ok 151 19 16 = true := rfl
  have hk := z_Kok_of hf (k := 19) (by decide)
  have hr := h.1.1
  have h13 := hg.1.1.2.2.1
  have c13 := hr.1.2.1
  intro m
  induction m with
  | zero =>
    intro d hd h0 v4 hQ
    obtain rfl : d = ws 0 13 := by omega
    have o := hQ v4
    simp (disch := first | assumption | rfl | exact zle_0 | exact zle_1 | exact zle_2 | exact zle_3 | exact zle_4 | exact zb_0 | exact zb_1 | exact zb01_B | omega) only [zT114_41, zr_iload_3, zT114_42, zr_aload_0, zT114_43, zr_gf_0, zr_or, zr_go, zf_18_0, zf_22_0, zf_42_0, zf_59_0, zf_96_0, zf_116_0, zT114_46, zr_gf_45, zT114_49, zr_icmp_ge, zcl_i, zcl_r, zcl_l, zcl_n, zv_some, zv_none, Nat.reduceAdd, Nat.reduceMul, Nat.reduceSub, Nat.reduceLT, Nat.reduceLeDiff, Nat.reduceEqDiff, Int.reduceToNat, true_implies, false_implies, implies_true, and_true, true_and, not_true_eq_false, not_false_eq_true, Nat.zero_add, Nat.add_zero, nI_add, nI_ltI, nI_leI, nI_eq, pk_mul, pk_sub, u2_same, u2_row, u2_other, c13, olt_T, olt_F, ole_T, ole_F, oeq_T, oeq_F]
    exact o
  | succ m ih =>
    intro d hd h0 v4 hQ
    have d3 : d < 3 := by omega
    have wd := hg.1.1.2.2.2.1 d d3
    have tl := a_tot_le wd.1
    have da := fun Q => sp_dishAt (fi := fi) (fl := fl) (Q := Q) hk d3
    have so0 := fun Q => sx_stateOf (fl := fl) (Q := Q) (hk.2.2.2.2 d d3).2 (hr.2.2.1 d d3) wd.1 (by omega) (show 0 ≤ 1 by decide)
    have so1 := fun Q => sx_stateOf (fl := fl) (Q := Q) (hk.2.2.2.2 d d3).2 (hr.2.2.1 d d3) wd.1 (by omega) (show 1 ≤ 1 by decide)
    have i0 := nI_l (a_so_lt hg (d := d) (i := 0) d3)
    have i1 := nI_l (a_so_lt hg (d := d) (i := 1) d3)
    have ih' := fun v4 => ih (d + 1) (by omega) (lN 31 * (lN 31 * h0 + lN (a_so (ws 0) d 0)) + lN (a_so (ws 0) d 1)) v4 hQ
    generalize a_so (ws 0) d 0 = c0 at *
    generalize a_so (ws 0) d 1 = c1 at *
    simp (disch := first | assumption | rfl | exact zle_0 | exact zle_1 | exact zle_2 | exact zle_3 | exact zle_4 | exact zb_0 | exact zb_1 | exact zb01_B | omega) only [zT114_41, zr_iload_3, zcl_i, zcl_r, zcl_l, zcl_n, zv_some, zv_none, Nat.reduceAdd, Nat.reduceMul, Nat.reduceSub, Nat.reduceLT, Nat.reduceLeDiff, Nat.reduceEqDiff, Int.reduceToNat, true_implies, false_implies, implies_true, and_true, true_and, not_true_eq_false, not_false_eq_true, Nat.zero_add, Nat.add_zero, nI_add, nI_ltI, nI_leI, nI_eq, pk_mul, pk_sub, u2_same, u2_row, u2_other]
    simp (disch := first | assumption | rfl | exact zle_0 | exact zle_1 | exact zle_2 | exact zle_3 | exact zle_4 | exact zb_0 | exact zb_1 | exact zb01_B | omega) only [zT114_42, zr_aload_0, zT114_43, zr_gf_0, zr_or, zr_go, zf_18_0, zf_22_0, zf_42_0, zf_59_0, zf_96_0, zf_116_0, zT114_46, zr_gf_45, zT114_49, zr_icmp_ge, zT114_52, zT114_53, zT114_56, zr_iload_3, zT114_57, zr_iv_188, zT114_60, zr_astore_4, zT114_62, zr_ldc2, zT114_65, zr_lload_1, zT114_66, zr_lmul, zT114_67, zr_aload_4, zT114_69, zr_ic_0, zT114_70, zr_iv_122, zT114_73, zr_i2l, zT114_74, zr_ladd, zT114_75, zr_lstore_1, zT114_76, zT114_79, zT114_80, zT114_81, zT114_83, zr_ic_1, zT114_84, zT114_87, zT114_88, zT114_89, zT114_90, zr_iinc_3_1, zT114_93, zr_goto, zcl_i, zcl_r, zcl_l, zcl_n, zv_some, zv_none, Nat.reduceAdd, Nat.reduceMul, Nat.reduceSub, Nat.reduceLT, Nat.reduceLeDiff, Nat.reduceEqDiff, Int.reduceToNat, true_implies, false_implies, implies_true, and_true, true_and, not_true_eq_false, not_false_eq_true, Nat.zero_add, Nat.add_zero, nI_add, nI_ltI, nI_leI, nI_eq, pk_mul, pk_sub, u2_same, u2_row, u2_other, c13, da, so0, so1, i0, i1, olt_T, olt_F, ole_T, ole_F, oeq_T, oeq_F]
    exact ih' _
theorem sx_dG_ (hf : z_FR fr) (h : z_XS fi ws nn tx) : ∀ m i, i + m = 3 → ∀ h0 (v4 : Option Value), TT 114 98 [some (.ref 18), some (.long h0), none, some (.int (nI i)), v4] [] (151, fi, fl, fr) Q = TT 114 122 [some (.ref 18), some (.long (a_dG nn m i h0)), none, some (.int (nI 3)), v4] [] (151, fi, fl, fr) Q := by
  have o18 : z_ok 151 18 10 = true := rfl
  have A8 := a_len_8 h.2.2.1.1.2.1
  have B8 := a_len_8 h.2.2.1.2.2.1
  intro m
  induction m with
  | zero =>
    intro i hi h0 v4
    obtain rfl : i = 3 := by omega
    simp (disch := first | assumption | rfl | exact zle_0 | exact zle_1 | exact zle_2 | exact zle_3 | exact zle_4 | exact zb_0 | exact zb_1 | exact zb01_B | omega) only [zT114_98, zr_iload_3, zT114_99, zr_ic_2, zT114_100, zr_icmp_gt, zcl_i, zcl_r, zcl_l, zcl_n, zv_some, zv_none, Nat.reduceAdd, Nat.reduceMul, Nat.reduceSub, Nat.reduceLT, Nat.reduceLeDiff, Nat.reduceEqDiff, Int.reduceToNat, true_implies, false_implies, implies_true, and_true, true_and, not_true_eq_false, not_false_eq_true, Nat.zero_add, Nat.add_zero, nI_add, nI_ltI, nI_leI, nI_eq, pk_mul, pk_sub, u2_same, u2_row, u2_other, olt_T, olt_F, ole_T, ole_F, oeq_T, oeq_F]
    rfl
  | succ m ih =>
    intro i hi h0 v4
    have ih' := ih (i + 1) (by omega)
    have ct := fun Q => sx_signOf (fl := fl) (Q := Q) hf h (show i ≤ 2 by omega)
    have il := nI_l (show a_sg nn i < 2 ^ 31 by unfold a_sg; (repeat' split) <;> omega)
    rw [show a_dG nn (m + 1) i h0 = a_dG nn m (i + 1) (lN 31 * h0 + lN (a_sg nn i)) from rfl]
    generalize a_sg nn i = c at *
    simp (disch := first | assumption | rfl | exact zle_0 | exact zle_1 | exact zle_2 | exact zle_3 | exact zle_4 | exact zb_0 | exact zb_1 | exact zb01_B | omega) only [zT114_98, zr_iload_3, zcl_i, zcl_r, zcl_l, zcl_n, zv_some, zv_none, Nat.reduceAdd, Nat.reduceMul, Nat.reduceSub, Nat.reduceLT, Nat.reduceLeDiff, Nat.reduceEqDiff, Int.reduceToNat, true_implies, false_implies, implies_true, and_true, true_and, not_true_eq_false, not_false_eq_true, Nat.zero_add, Nat.add_zero, nI_add, nI_ltI, nI_leI, nI_eq, pk_mul, pk_sub, u2_same, u2_row, u2_other]
    simp (disch := first | assumption | rfl | exact zle_0 | exact zle_1 | exact zle_2 | exact zle_3 | exact zle_4 | exact zb_0 | exact zb_1 | exact zb01_B | omega) only [zT114_99, zr_ic_2, zT114_100, zr_icmp_gt, zT114_103, zr_ldc2, zT114_106, zr_lload_1, zT114_107, zr_lmul, zT114_108, zr_aload_0, zT114_109, zr_iload_3, zT114_110, zr_iv_123, zT114_113, zr_i2l, zT114_114, zr_ladd, zT114_115, zr_lstore_1, zT114_116, zr_iinc_3_1, zT114_119, zr_goto, zcl_i, zcl_r, zcl_l, zcl_n, zv_some, zv_none, Nat.reduceAdd, Nat.reduceMul, Nat.reduceSub, Nat.reduceLT, Nat.reduceLeDiff, Nat.reduceEqDiff, Int.reduceToNat, true_implies, false_implies, implies_true, and_true, true_and, not_true_eq_false, not_false_eq_true, Nat.zero_add, Nat.add_zero, nI_add, nI_ltI, nI_leI, nI_eq, pk_mul, pk_sub, u2_same, u2_row, u2_other, ct, il, olt_T, olt_F, ole_T, ole_F, oeq_T, oeq_F]
    exact ih' _ _
theorem sx_digest (hf : z_FR fr) (h : z_XS fi ws nn tx) (hg : z_G ws nn) (hQ : Q (some (.long (r_digest (ws 0) nn))) (151, fi, fl, fr)) : TT 114 0 [some (.ref 18), none, none, none, none] [] (151, fi, fl, fr) Q := by
  have o18 : z_ok 151 18 10 = true := rfl; have o19 : z_ok 151 19 16 = true := rfl; have o88 : z_ok 151 88 14 = true := rfl; have o89 : z_ok 151 89 17 = true := rfl; have o90 : z_ok 151 90 1 = true := rfl; have o91 : z_ok 151 91 17 = true := rfl; have o92 : z_ok 151 92 1 = true := rfl
  have l90 : z_al 90 = 8 := rfl; have l92 : z_al 92 = 8 := rfl
  have f1 := zf_89_50 hf
  have f2 := zf_91_50 hf
  have hk := z_Kok_of hf (k := 19) (by decide)
  have d1 := fun h0 v4 => sx_dC_ (fl := fl) (Q := Q) hf h hg 5 0 rfl h0 v4
  have dk := fun h0 Q => sp_digK (fl := fl) (Q := Q) (h := h0) hk h.1.1 hg.1.1
  have dG := fun h0 v4 => sx_dG_ (fl := fl) (Q := Q) hf h 3 0 rfl h0 v4
  have lA := fun h0 Q => sp_digL (fl := fl) (Q := Q) (a := 89) o89 o90 l90 f1 h.2.2.1.1 (h0 := h0)
  have lB := fun h0 Q => sp_digL (fl := fl) (Q := Q) (a := 91) o91 o92 l92 f2 h.2.2.1.2 (h0 := h0)
  unfold r_digest at hQ
  simp (disch := first | assumption | rfl | exact zle_0 | exact zle_1 | exact zle_2 | exact zle_3 | exact zle_4 | exact zb_0 | exact zb_1 | exact zb01_B | omega) only [zT114_0, zr_ldc2, zT114_3, zr_lstore_1, zT114_4, zr_ic_0, zT114_5, zr_istore_3, zcl_i, zcl_r, zcl_l, zcl_n, zv_some, zv_none, Nat.reduceAdd, Nat.reduceMul, Nat.reduceSub, Nat.reduceLT, Nat.reduceLeDiff, Nat.reduceEqDiff, Int.reduceToNat, true_implies, false_implies, implies_true, and_true, true_and, not_true_eq_false, not_false_eq_true, Nat.zero_add, Nat.add_zero, nI_add, nI_ltI, nI_leI, nI_eq, pk_mul, pk_sub, u2_same, u2_row, u2_other, d1, olt_T, olt_F, ole_T, ole_F, oeq_T, oeq_F]
  simp (disch := first | assumption | rfl | exact zle_0 | exact zle_1 | exact zle_2 | exact zle_3 | exact zle_4 | exact zb_0 | exact zb_1 | exact zb01_B | omega) only [zT114_30, zr_aload_0, zT114_31, zr_gf_0, zr_or, zr_go, zf_18_0, zf_22_0, zf_42_0, zf_59_0, zf_96_0, zf_116_0, zT114_34, zr_lload_1, zT114_35, zr_iv_198, zT114_38, zr_lstore_1, zT114_39, zr_ic_0, zT114_40, zr_istore_3, zcl_i, zcl_r, zcl_l, zcl_n, zv_some, zv_none, Nat.reduceAdd, Nat.reduceMul, Nat.reduceSub, Nat.reduceLT, Nat.reduceLeDiff, Nat.reduceEqDiff, Int.reduceToNat, true_implies, false_implies, implies_true, and_true, true_and, not_true_eq_false, not_false_eq_true, Nat.zero_add, Nat.add_zero, nI_add, nI_ltI, nI_leI, nI_eq, pk_mul, pk_sub, u2_same, u2_row, u2_other, dk, olt_T, olt_F, ole_T, ole_F, oeq_T, oeq_F]
  refine sx_dS_ hf h hg (ws 0 13) 0 (Nat.zero_add _) _ _ (fun v4 => ?_)
  simp (disch := first | assumption | rfl | exact zle_0 | exact zle_1 | exact zle_2 | exact zle_3 | exact zle_4 | exact zb_0 | exact zb_1 | exact zb01_B | omega) only [zT114_96, zr_ic_0, zT114_97, zr_istore_3, zcl_i, zcl_r, zcl_l, zcl_n, zv_some, zv_none, Nat.reduceAdd, Nat.reduceMul, Nat.reduceSub, Nat.reduceLT, Nat.reduceLeDiff, Nat.reduceEqDiff, Int.reduceToNat, true_implies, false_implies, implies_true, and_true, true_and, not_true_eq_false, not_false_eq_true, Nat.zero_add, Nat.add_zero, nI_add, nI_ltI, nI_leI, nI_eq, pk_mul, pk_sub, u2_same, u2_row, u2_other, dG, olt_T, olt_F, ole_T, ole_F, oeq_T, oeq_F]
  simp (disch := first | assumption | rfl | exact zle_0 | exact zle_1 | exact zle_2 | exact zle_3 | exact zle_4 | exact zb_0 | exact zb_1 | exact zb01_B | omega) only [zT114_122, zr_aload_0, zT114_123, zr_gf_7, zr_or, zr_go, zf_18_7, zT114_126, zr_gf_35, zf_88_35, zT114_129, zT114_130, zT114_133, zr_gf_34, zf_88_34, zT114_136, zr_lload_1, zT114_137, zr_iv_204, zT114_140, zT114_143, zr_lret, zcl_i, zcl_r, zcl_l, zcl_n, zv_some, zv_none, Nat.reduceAdd, Nat.reduceMul, Nat.reduceSub, Nat.reduceLT, Nat.reduceLeDiff, Nat.reduceEqDiff, Int.reduceToNat, true_implies, false_implies, implies_true, and_true, true_and, not_true_eq_false, not_false_eq_true, Nat.zero_add, Nat.add_zero, nI_add, nI_ltI, nI_leI, nI_eq, pk_mul, pk_sub, u2_same, u2_row, u2_other, lA, lB, olt_T, olt_F, ole_T, ole_F, oeq_T, oeq_F]
  exact hQ
end
