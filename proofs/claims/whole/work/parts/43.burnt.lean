/-! which burns first by a seed; wages; a minute more in the row -/
/-- over k places from place p on, by a seed x -/
def a_burn (tm : Nat → Nat) (w20 : Nat) : Nat → Nat → Nat → Option Nat
  | 0, _, _ => none
  | k + 1, p, x => if shd tm p then (if (x * 1103515245 + 12345) % 2147483648 / 65536 % 20 < w20 then some (10 * (p / 3) + p % 3) else a_burn tm w20 k (p + 1) ((x * 1103515245 + 12345) % 2147483648)) else a_burn tm w20 k (p + 1) x
def a_wg (w : Nat → Nat) (at_ : Nat) : Nat → Nat → Nat
  | 0, _ => 0
  | m + 1, c => (if a_bit at_ c then w (7 + c) else 0) + a_wg w at_ m (c + 1)
def wgN (w : Nat → Nat) (tm : Nat → Nat) : Nat → Nat → Nat
  | 0, _ => 0
  | m + 1, i => a_wg w (tm (3 * i) ||| tm (3 * i + 1) ||| tm (3 * i + 2)) (w 0) 0 + wgN w tm m (i + 1)
section
variable {fi : Nat → Nat → Int32} {fl : Nat → Nat → Int64} {fr : Nat → Nat → Option Nat} {Q : Option Value → Mm → Prop} {w : Nat → Nat} {k : Nat} {M : Mm} {tm : Nat → Nat} {n : Nat}
theorem lg_cmpN {a b : Nat} (ha : a < 2 ^ 63) (hb : b < 2 ^ 63) : lg_cmp (lN a) (lN b) = if b < a then nI 1 else if a = b then nI 0 else nM 1 := by
  unfold lg_cmp
  have e1 : (lN a > lN b) = (b < a) := propext (pk_lLT hb ha)
  have e2 : (lN a = lN b) = (a = b) := propext (pk_lEQ ha hb)
  simp only [e1, e2]
  rfl
theorem sp_burn_ (hf : z_FR fr) (h : z_RW fi n tm) {w20 sd : Nat} (hw : w20 ≤ 20) : ∀ m p, p + m = 3 * n → ∀ i e, p = 3 * i + e → e < 3 → i < n → ∀ x, x < 2147483648 → ∀ Q, TT 236 18 [some (.ref 71), some (.int (nI w20)), some (.int (nI sd)), some (.long (lN x)), none, some (.int (nI i)), some (.int (nI e))] [] (151, fi, fl, fr) Q = Q (some (.int (match a_burn tm w20 m p x with | some r => nI r | none => nM 1))) (151, fi, fl, fr) := by
  have o71 : z_ok 151 71 19 = true := rfl; have o73 : z_ok 151 73 1 = true := rfl
  have hn := h.2.1
  have h45 := h.1
  intro m
  induction m with
  | zero => intro p hp i e hpe he hi; omega
  | succ m ih =>
    intro p hp i e hpe he hi x hx Q
    refine T_exact (fun Q hQ => ?_) Q
    have sh := fun Q => sp_isShared (fl := fl) (Q := Q) hf h hi he
    have p3 : p / 3 = i := by omega
    have p4 : p % 3 = e := by omega
    have nx : ∀ y, y < 2147483648 → ∀ Q, TT 236 73 [some (.ref 71), some (.int (nI w20)), some (.int (nI sd)), some (.long (lN y)), none, some (.int (nI i)), some (.int (nI e))] [] (151, fi, fl, fr) Q = Q (some (.int (match a_burn tm w20 m (p + 1) y with | some r => nI r | none => nM 1))) (151, fi, fl, fr) := by
      intro y hy Q
      by_cases e2 : e = 2
      · by_cases ie : i + 1 = n
        · have m0 : m = 0 := by omega
          subst m0
          simp (disch := first | assumption | rfl | exact zle_0 | exact zle_1 | exact zle_2 | exact zle_3 | exact zle_4 | exact zb_0 | exact zb_1 | exact zb01_B | omega) only [zT236_73, zr_iinc_6_1, zT236_76, zr_goto, zT236_79, zr_iinc_5_1, zT236_82, zT236_85, zr_ic_m1, zT236_86, zr_ret0, zT236_6, zr_iload_5, zT236_8, zr_aload_0, zT236_9, zr_gf_70, zT236_12, zr_icmp_ge, zT236_18, zr_iload_6, zT236_20, zr_ic_3, zT236_21, zcl_i, zcl_r, zcl_l, zcl_n, zv_some, zv_none, Nat.reduceAdd, Nat.reduceMul, Nat.reduceSub, Nat.reduceLT, Nat.reduceLeDiff, Nat.reduceEqDiff, Int.reduceToNat, true_implies, false_implies, implies_true, and_true, true_and, not_true_eq_false, not_false_eq_true, Nat.zero_add, Nat.add_zero, nI_add, nI_ltI, nI_leI, nI_eq, pk_mul, pk_sub, u2_same, u2_row, u2_other, hn, olt_T, olt_F, ole_T, ole_F, oeq_T, oeq_F]
          rfl
        · have ih' := fun Q => ih (p + 1) (by omega) (i + 1) 0 (by omega) (by decide) (by omega) y hy Q
          simp (disch := first | assumption | rfl | exact zle_0 | exact zle_1 | exact zle_2 | exact zle_3 | exact zle_4 | exact zb_0 | exact zb_1 | exact zb01_B | omega) only [zT236_73, zr_iinc_6_1, zT236_76, zr_goto, zcl_i, zcl_r, zcl_l, zcl_n, zv_some, zv_none, Nat.reduceAdd, Nat.reduceMul, Nat.reduceSub, Nat.reduceLT, Nat.reduceLeDiff, Nat.reduceEqDiff, Int.reduceToNat, true_implies, false_implies, implies_true, and_true, true_and, not_true_eq_false, not_false_eq_true, Nat.zero_add, Nat.add_zero, nI_add, nI_ltI, nI_leI, nI_eq, pk_mul, pk_sub, u2_same, u2_row, u2_other]
          simp (disch := first | assumption | rfl | exact zle_0 | exact zle_1 | exact zle_2 | exact zle_3 | exact zle_4 | exact zb_0 | exact zb_1 | exact zb01_B | omega) only [zT236_18, zr_iload_6, zT236_20, zr_ic_3, zT236_21, zr_icmp_ge, zT236_79, zr_iinc_5_1, zT236_82, zr_goto, zT236_6, zr_iload_5, zT236_8, zr_aload_0, zT236_9, zr_gf_70, zT236_12, zcl_i, zcl_r, zcl_l, zcl_n, zv_some, zv_none, Nat.reduceAdd, Nat.reduceMul, Nat.reduceSub, Nat.reduceLT, Nat.reduceLeDiff, Nat.reduceEqDiff, Int.reduceToNat, true_implies, false_implies, implies_true, and_true, true_and, not_true_eq_false, not_false_eq_true, Nat.zero_add, Nat.add_zero, nI_add, nI_ltI, nI_leI, nI_eq, pk_mul, pk_sub, u2_same, u2_row, u2_other, hn, olt_T, olt_F, ole_T, ole_F, oeq_T, oeq_F]
          simp (disch := first | assumption | rfl | exact zle_0 | exact zle_1 | exact zle_2 | exact zle_3 | exact zle_4 | exact zb_0 | exact zb_1 | exact zb01_B | omega) only [zT236_15, zr_ic_0, zT236_16, zr_istore_6, zcl_i, zcl_r, zcl_l, zcl_n, zv_some, zv_none, Nat.reduceAdd, Nat.reduceMul, Nat.reduceSub, Nat.reduceLT, Nat.reduceLeDiff, Nat.reduceEqDiff, Int.reduceToNat, true_implies, false_implies, implies_true, and_true, true_and, not_true_eq_false, not_false_eq_true, Nat.zero_add, Nat.add_zero, nI_add, nI_ltI, nI_leI, nI_eq, pk_mul, pk_sub, u2_same, u2_row, u2_other, olt_T, olt_F, ole_T, ole_F, oeq_T, oeq_F]
          exact ih' Q
      · have ih' := fun Q => ih (p + 1) (by omega) i (e + 1) (by omega) (by omega) hi y hy Q
        simp (disch := first | assumption | rfl | exact zle_0 | exact zle_1 | exact zle_2 | exact zle_3 | exact zle_4 | exact zb_0 | exact zb_1 | exact zb01_B | omega) only [zT236_73, zr_iinc_6_1, zT236_76, zr_goto, zcl_i, zcl_r, zcl_l, zcl_n, zv_some, zv_none, Nat.reduceAdd, Nat.reduceMul, Nat.reduceSub, Nat.reduceLT, Nat.reduceLeDiff, Nat.reduceEqDiff, Int.reduceToNat, true_implies, false_implies, implies_true, and_true, true_and, not_true_eq_false, not_false_eq_true, Nat.zero_add, Nat.add_zero, nI_add, nI_ltI, nI_leI, nI_eq, pk_mul, pk_sub, u2_same, u2_row, u2_other]
        exact ih' Q
    unfold a_burn at hQ
    simp (disch := first | assumption | rfl | exact zle_0 | exact zle_1 | exact zle_2 | exact zle_3 | exact zle_4 | exact zb_0 | exact zb_1 | exact zb01_B | omega) only [zT236_18, zr_iload_6, zcl_i, zcl_r, zcl_l, zcl_n, zv_some, zv_none, Nat.reduceAdd, Nat.reduceMul, Nat.reduceSub, Nat.reduceLT, Nat.reduceLeDiff, Nat.reduceEqDiff, Int.reduceToNat, true_implies, false_implies, implies_true, and_true, true_and, not_true_eq_false, not_false_eq_true, Nat.zero_add, Nat.add_zero, nI_add, nI_ltI, nI_leI, nI_eq, pk_mul, pk_sub, u2_same, u2_row, u2_other]
    rw [hpe] at hQ
    cases hs : shd tm (3 * i + e)
    · rw [hs, if_neg (by decide), ← hpe] at hQ
      rw [hs] at sh
      have nx' := nx x hx
      simp (disch := first | assumption | rfl | exact zle_0 | exact zle_1 | exact zle_2 | exact zle_3 | exact zle_4 | exact zb_0 | exact zb_1 | exact zb01_B | omega) only [zT236_20, zr_ic_3, zT236_21, zr_icmp_ge, zT236_24, zr_aload_0, zT236_25, zr_iload_5, zT236_27, zr_iload_6, zT236_29, zr_iv_233, zT236_32, zr_if_eq, zT236_35, zr_lload_3, zT236_36, zr_ldc2, zT236_39, zr_lmul, zT236_40, zT236_43, zr_ladd, zT236_44, zT236_47, zr_lrem, zT236_48, zr_lstore_3, zT236_49, zT236_50, zT236_53, zr_ldiv, zT236_54, zT236_57, zT236_58, zr_iload_1, zT236_59, zr_i2l, zT236_60, zr_lcmp, zT236_61, zr_if_ge, zT236_64, zr_ic_10, zT236_66, zT236_68, zr_imul, zT236_69, zcl_i, zcl_r, zcl_l, zcl_n, zv_some, zv_none, Nat.reduceAdd, Nat.reduceMul, Nat.reduceSub, Nat.reduceLT, Nat.reduceLeDiff, Nat.reduceEqDiff, Int.reduceToNat, true_implies, false_implies, implies_true, and_true, true_and, not_true_eq_false, not_false_eq_true, Nat.zero_add, Nat.add_zero, nI_add, nI_ltI, nI_leI, nI_eq, pk_mul, pk_sub, u2_same, u2_row, u2_other, sh, zB_eq0, nx', olt_T, olt_F, ole_T, ole_F, oeq_T, oeq_F]
      exact hQ
    · rw [hs, if_pos rfl, ← hpe, p3, p4] at hQ
      rw [hs] at sh
      have yl : (x * 1103515245 + 12345) % 2147483648 < 2147483648 := Nat.mod_lt _ (by decide)
      have nx' := nx _ yl
      have r1 := pk_lRem (a := x * 1103515245 + 12345) (b := 2147483648) (by omega) (by decide) (by decide)
      generalize hy : (x * 1103515245 + 12345) % 2147483648 = y at *
      have r2 := pk_lDiv (a := y) (b := 65536) (by omega) (by decide) (by decide)
      have r3 := pk_lRem (a := y / 65536) (b := 20) (by omega) (by decide) (by decide)
      have iw := nI_l (show w20 < 2 ^ 31 by omega)
      have nz1 := lN_nz (k := 2147483648) (by decide) (by decide)
      have nz2 := lN_nz (k := 65536) (by decide) (by decide)
      have nz3 := lN_nz (k := 20) (by decide) (by decide)
      have ml : y / 65536 % 20 < 20 := Nat.mod_lt _ (by decide)
      have cmp := lg_cmpN (a := y / 65536 % 20) (b := w20) (by omega) (by omega)
      by_cases lt : y / 65536 % 20 < w20
      · rw [if_pos lt] at hQ
        rw [if_neg (by omega), if_neg (by omega)] at cmp
        have nl := nM_neg (k := 1) (by decide) (by decide)
        have nl' : (nI 0 ≤ nM 1) = False := by
          refine eq_false ?_
          rw [Int32.le_iff_toInt_le, nM_toInt (by decide), nI_toInt (by decide)]
          omega
        simp (disch := first | assumption | rfl | exact zle_0 | exact zle_1 | exact zle_2 | exact zle_3 | exact zle_4 | exact zb_0 | exact zb_1 | exact zb01_B | omega) only [zT236_20, zr_ic_3, zT236_21, zr_icmp_ge, zT236_24, zr_aload_0, zT236_25, zr_iload_5, zT236_27, zr_iload_6, zT236_29, zr_iv_233, zT236_32, zr_if_eq, zT236_35, zr_lload_3, zT236_36, zr_ldc2, zT236_39, zr_lmul, zT236_40, zT236_43, zr_ladd, zT236_44, zT236_47, zr_lrem, zT236_48, zr_lstore_3, zT236_49, zT236_50, zT236_53, zr_ldiv, zT236_54, zT236_57, zT236_58, zr_iload_1, zT236_59, zr_i2l, zT236_60, zr_lcmp, zT236_61, zr_if_ge, zT236_64, zr_ic_10, zT236_66, zT236_68, zr_imul, zT236_69, zT236_71, zr_iadd, zT236_72, zr_ret0, zcl_i, zcl_r, zcl_l, zcl_n, zv_some, zv_none, Nat.reduceAdd, Nat.reduceMul, Nat.reduceSub, Nat.reduceLT, Nat.reduceLeDiff, Nat.reduceEqDiff, Int.reduceToNat, true_implies, false_implies, implies_true, and_true, true_and, not_true_eq_false, not_false_eq_true, Nat.zero_add, Nat.add_zero, nI_add, nI_ltI, nI_leI, nI_eq, pk_mul, pk_sub, u2_same, u2_row, u2_other, sh, zB_eq0, reduceCtorEq, lN_mul, lN_add, r1, r2, r3, iw, cmp, nl', olt_T, olt_F, ole_T, ole_F, oeq_T, oeq_F]
        exact hQ
      · rw [if_neg lt] at hQ
        by_cases eq : y / 65536 % 20 = w20
        · rw [if_neg (by omega), if_pos eq] at cmp
          simp (disch := first | assumption | rfl | exact zle_0 | exact zle_1 | exact zle_2 | exact zle_3 | exact zle_4 | exact zb_0 | exact zb_1 | exact zb01_B | omega) only [zT236_20, zr_ic_3, zT236_21, zr_icmp_ge, zT236_24, zr_aload_0, zT236_25, zr_iload_5, zT236_27, zr_iload_6, zT236_29, zr_iv_233, zT236_32, zr_if_eq, zT236_35, zr_lload_3, zT236_36, zr_ldc2, zT236_39, zr_lmul, zT236_40, zT236_43, zr_ladd, zT236_44, zT236_47, zr_lrem, zT236_48, zr_lstore_3, zT236_49, zT236_50, zT236_53, zr_ldiv, zT236_54, zT236_57, zT236_58, zr_iload_1, zT236_59, zr_i2l, zT236_60, zr_lcmp, zT236_61, zr_if_ge, zT236_64, zr_ic_10, zT236_66, zT236_68, zr_imul, zT236_69, zcl_i, zcl_r, zcl_l, zcl_n, zv_some, zv_none, Nat.reduceAdd, Nat.reduceMul, Nat.reduceSub, Nat.reduceLT, Nat.reduceLeDiff, Nat.reduceEqDiff, Int.reduceToNat, true_implies, false_implies, implies_true, and_true, true_and, not_true_eq_false, not_false_eq_true, Nat.zero_add, Nat.add_zero, nI_add, nI_ltI, nI_leI, nI_eq, pk_mul, pk_sub, u2_same, u2_row, u2_other, sh, zB_eq0, reduceCtorEq, lN_mul, lN_add, r1, r2, r3, iw, cmp, nx', olt_T, olt_F, ole_T, ole_F, oeq_T, oeq_F]
          exact hQ
        · rw [if_pos (by omega)] at cmp
          simp (disch := first | assumption | rfl | exact zle_0 | exact zle_1 | exact zle_2 | exact zle_3 | exact zle_4 | exact zb_0 | exact zb_1 | exact zb01_B | omega) only [zT236_20, zr_ic_3, zT236_21, zr_icmp_ge, zT236_24, zr_aload_0, zT236_25, zr_iload_5, zT236_27, zr_iload_6, zT236_29, zr_iv_233, zT236_32, zr_if_eq, zT236_35, zr_lload_3, zT236_36, zr_ldc2, zT236_39, zr_lmul, zT236_40, zT236_43, zr_ladd, zT236_44, zT236_47, zr_lrem, zT236_48, zr_lstore_3, zT236_49, zT236_50, zT236_53, zr_ldiv, zT236_54, zT236_57, zT236_58, zr_iload_1, zT236_59, zr_i2l, zT236_60, zr_lcmp, zT236_61, zr_if_ge, zT236_64, zr_ic_10, zT236_66, zT236_68, zr_imul, zT236_69, zcl_i, zcl_r, zcl_l, zcl_n, zv_some, zv_none, Nat.reduceAdd, Nat.reduceMul, Nat.reduceSub, Nat.reduceLT, Nat.reduceLeDiff, Nat.reduceEqDiff, Int.reduceToNat, true_implies, false_implies, implies_true, and_true, true_and, not_true_eq_false, not_false_eq_true, Nat.zero_add, Nat.add_zero, nI_add, nI_ltI, nI_leI, nI_eq, pk_mul, pk_sub, u2_same, u2_row, u2_other, sh, zB_eq0, reduceCtorEq, lN_mul, lN_add, r1, r2, r3, iw, cmp, nx', olt_T, olt_F, ole_T, ole_F, oeq_T, oeq_F]
          exact hQ
theorem sp_firstBurnt (hf : z_FR fr) (h : z_RW fi n tm) {w20 sd : Nat} (hw : w20 ≤ 20) (hs : sd < 2147483648) : TT 236 0 [some (.ref 71), some (.int (nI w20)), some (.int (nI sd)), none, none, none, none] [] (151, fi, fl, fr) Q = Q (some (.int (match a_burn tm w20 (3 * n) 0 sd with | some r => nI r | none => nM 1))) (151, fi, fl, fr) := by
  have o71 : z_ok 151 71 19 = true := rfl; have o73 : z_ok 151 73 1 = true := rfl
  have hn := h.2.1
  have h45 := h.1
  have il := nI_l (show sd < 2 ^ 31 by omega)
  by_cases n0 : n = 0
  · subst n0
    simp (disch := first | assumption | rfl | exact zle_0 | exact zle_1 | exact zle_2 | exact zle_3 | exact zle_4 | exact zb_0 | exact zb_1 | exact zb01_B | omega) only [zT236_0, zr_iload_2, zT236_1, zr_i2l, zT236_2, zr_lstore_3, zT236_3, zr_ic_0, zT236_4, zr_istore_5, zT236_6, zr_iload_5, zT236_8, zr_aload_0, zT236_9, zr_gf_70, zT236_12, zr_icmp_ge, zT236_85, zr_ic_m1, zT236_86, zr_ret0, zcl_i, zcl_r, zcl_l, zcl_n, zv_some, zv_none, Nat.reduceAdd, Nat.reduceMul, Nat.reduceSub, Nat.reduceLT, Nat.reduceLeDiff, Nat.reduceEqDiff, Int.reduceToNat, true_implies, false_implies, implies_true, and_true, true_and, not_true_eq_false, not_false_eq_true, Nat.zero_add, Nat.add_zero, nI_add, nI_ltI, nI_leI, nI_eq, pk_mul, pk_sub, u2_same, u2_row, u2_other, il, hn, olt_T, olt_F, ole_T, ole_F, oeq_T, oeq_F]
    rfl
  · have s := fun Q => sp_burn_ (fl := fl) (sd := sd) hf h hw (3 * n) 0 (Nat.zero_add _) 0 0 rfl (by decide) (by omega) sd hs Q
    simp (disch := first | assumption | rfl | exact zle_0 | exact zle_1 | exact zle_2 | exact zle_3 | exact zle_4 | exact zb_0 | exact zb_1 | exact zb01_B | omega) only [zT236_0, zr_iload_2, zT236_1, zr_i2l, zT236_2, zr_lstore_3, zT236_3, zr_ic_0, zT236_4, zr_istore_5, zcl_i, zcl_r, zcl_l, zcl_n, zv_some, zv_none, Nat.reduceAdd, Nat.reduceMul, Nat.reduceSub, Nat.reduceLT, Nat.reduceLeDiff, Nat.reduceEqDiff, Int.reduceToNat, true_implies, false_implies, implies_true, and_true, true_and, not_true_eq_false, not_false_eq_true, Nat.zero_add, Nat.add_zero, nI_add, nI_ltI, nI_leI, nI_eq, pk_mul, pk_sub, u2_same, u2_row, u2_other, il]
    simp (disch := first | assumption | rfl | exact zle_0 | exact zle_1 | exact zle_2 | exact zle_3 | exact zle_4 | exact zb_0 | exact zb_1 | exact zb01_B | omega) only [zT236_6, zr_iload_5, zT236_8, zr_aload_0, zT236_9, zr_gf_70, zT236_12, zr_icmp_ge, zT236_15, zr_ic_0, zT236_16, zr_istore_6, zcl_i, zcl_r, zcl_l, zcl_n, zv_some, zv_none, Nat.reduceAdd, Nat.reduceMul, Nat.reduceSub, Nat.reduceLT, Nat.reduceLeDiff, Nat.reduceEqDiff, Int.reduceToNat, true_implies, false_implies, implies_true, and_true, true_and, not_true_eq_false, not_false_eq_true, Nat.zero_add, Nat.add_zero, nI_add, nI_ltI, nI_leI, nI_eq, pk_mul, pk_sub, u2_same, u2_row, u2_other, hn, olt_T, olt_F, ole_T, ole_F, oeq_T, oeq_F]
    exact s Q
theorem or_lt64 {a b : Nat} (ha : a < 64) (hb : b < 64) : a ||| b < 64 := Nat.or_lt_two_pow (n := 6) ha hb
theorem sp_wg3 (hf : z_FR fr) (hr : z_K0 fi 19 w) (h0 : w 0 ≤ 6) {at_ i : Nat} (ha : at_ < 64) : ∀ m c, c + m = w 0 → ∀ acc, TT 237 37 [some (.ref 71), some (.ref 19), some (.int (nI acc)), some (.int (nI i)), some (.int (nI at_)), some (.int (nI c))] [] (151, fi, fl, fr) Q = TT 237 75 [some (.ref 71), some (.ref 19), some (.int (nI (acc + a_wg w at_ m c))), some (.int (nI i)), some (.int (nI at_)), some (.int (nI (w 0)))] [] (151, fi, fl, fr) Q := by
  have hk := z_Kok_of hf (k := 19) (by decide)
  have o19 : z_ok 151 19 16 = true := rfl
  have hc0 := hr.1.1
  intro m
  induction m with
  | zero =>
    intro c hc acc
    obtain rfl : c = w 0 := by omega
    simp (disch := first | assumption | rfl | exact zle_0 | exact zle_1 | exact zle_2 | exact zle_3 | exact zle_4 | exact zb_0 | exact zb_1 | exact zb01_B | omega) only [zT237_37, zr_iload_5, zT237_39, zr_aload_1, zT237_40, zr_gf_43, zT237_43, zr_icmp_ge, zcl_i, zcl_r, zcl_l, zcl_n, zv_some, zv_none, Nat.reduceAdd, Nat.reduceMul, Nat.reduceSub, Nat.reduceLT, Nat.reduceLeDiff, Nat.reduceEqDiff, Int.reduceToNat, true_implies, false_implies, implies_true, and_true, true_and, not_true_eq_false, not_false_eq_true, Nat.zero_add, Nat.add_zero, nI_add, nI_ltI, nI_leI, nI_eq, pk_mul, pk_sub, u2_same, u2_row, u2_other, hc0, olt_T, olt_F, ole_T, ole_F, oeq_T, oeq_F]
    rfl
  | succ m ih =>
    intro c hc acc
    have ih' := ih (c + 1) (by omega)
    have bi := fun M Q => sp_isIn (M := M) (Q := Q) (b := at_) (d := c) (by omega) (by omega)
    have wg := fun Q => sp_wageOf (fl := fl) (Q := Q) hk hr h0 (show c < w 0 by omega)
    have r : a_wg w at_ (m + 1) c = (if a_bit at_ c then w (7 + c) else 0) + a_wg w at_ m (c + 1) := rfl
    rw [r, ← Nat.add_assoc]
    clear r
    simp (disch := first | assumption | rfl | exact zle_0 | exact zle_1 | exact zle_2 | exact zle_3 | exact zle_4 | exact zb_0 | exact zb_1 | exact zb01_B | omega) only [zT237_37, zr_iload_5, zcl_i, zcl_r, zcl_l, zcl_n, zv_some, zv_none, Nat.reduceAdd, Nat.reduceMul, Nat.reduceSub, Nat.reduceLT, Nat.reduceLeDiff, Nat.reduceEqDiff, Int.reduceToNat, true_implies, false_implies, implies_true, and_true, true_and, not_true_eq_false, not_false_eq_true, Nat.zero_add, Nat.add_zero, nI_add, nI_ltI, nI_leI, nI_eq, pk_mul, pk_sub, u2_same, u2_row, u2_other]
    cases hb : a_bit at_ c
    · rw [hb] at bi
      simp (disch := first | assumption | rfl | exact zle_0 | exact zle_1 | exact zle_2 | exact zle_3 | exact zle_4 | exact zb_0 | exact zb_1 | exact zb01_B | omega) only [zT237_39, zr_aload_1, zT237_40, zr_gf_43, zT237_43, zr_icmp_ge, zT237_46, zr_iload_2, zT237_47, zr_iload_4, zT237_49, zr_iload_5, zT237_51, zr_iv_119, zT237_54, zr_if_eq, zT237_57, zT237_58, zT237_60, zr_iv_186, zT237_63, zr_goto, zT237_66, zr_ic_0, zT237_67, zr_iadd, zT237_68, zr_istore_2, zT237_69, zr_iinc_5_1, zT237_72, zcl_i, zcl_r, zcl_l, zcl_n, zv_some, zv_none, Nat.reduceAdd, Nat.reduceMul, Nat.reduceSub, Nat.reduceLT, Nat.reduceLeDiff, Nat.reduceEqDiff, Int.reduceToNat, true_implies, false_implies, implies_true, and_true, true_and, not_true_eq_false, not_false_eq_true, Nat.zero_add, Nat.add_zero, nI_add, nI_ltI, nI_leI, nI_eq, pk_mul, pk_sub, u2_same, u2_row, u2_other, hc0, bi, zB_eq0, ih', if_false, Bool.false_eq_true, olt_T, olt_F, ole_T, ole_F, oeq_T, oeq_F]
    · rw [hb] at bi
      simp (disch := first | assumption | rfl | exact zle_0 | exact zle_1 | exact zle_2 | exact zle_3 | exact zle_4 | exact zb_0 | exact zb_1 | exact zb01_B | omega) only [zT237_39, zr_aload_1, zT237_40, zr_gf_43, zT237_43, zr_icmp_ge, zT237_46, zr_iload_2, zT237_47, zr_iload_4, zT237_49, zr_iload_5, zT237_51, zr_iv_119, zT237_54, zr_if_eq, zT237_57, zT237_58, zT237_60, zr_iv_186, zT237_63, zr_goto, zT237_66, zr_ic_0, zT237_67, zr_iadd, zT237_68, zr_istore_2, zT237_69, zr_iinc_5_1, zT237_72, zcl_i, zcl_r, zcl_l, zcl_n, zv_some, zv_none, Nat.reduceAdd, Nat.reduceMul, Nat.reduceSub, Nat.reduceLT, Nat.reduceLeDiff, Nat.reduceEqDiff, Int.reduceToNat, true_implies, false_implies, implies_true, and_true, true_and, not_true_eq_false, not_false_eq_true, Nat.zero_add, Nat.add_zero, nI_add, nI_ltI, nI_leI, nI_eq, pk_mul, pk_sub, u2_same, u2_row, u2_other, hc0, bi, wg, zB_eq0, ih', if_true, reduceCtorEq, olt_T, olt_F, ole_T, ole_F, oeq_T, oeq_F]
theorem sp_wgN (hf : z_FR fr) (hr : z_K0 fi 19 w) (h0 : w 0 ≤ 6) (h : z_RW fi n tm) : ∀ m i, i + m = n → ∀ acc (v4 v5 : Option Value), TT 237 4 [some (.ref 71), some (.ref 19), some (.int (nI acc)), some (.int (nI i)), v4, v5] [] (151, fi, fl, fr) Q = Q (some (.int (nI (acc + wgN w tm m i)))) (151, fi, fl, fr) := by
  have o19 : z_ok 151 19 16 = true := rfl; have o71 : z_ok 151 71 19 = true := rfl; have o73 : z_ok 151 73 1 = true := rfl
  have hn := h.2.1
  have h45 := h.1
  intro m
  induction m with
  | zero =>
    intro i he acc v4 v5
    obtain rfl : i = n := by omega
    simp (disch := first | assumption | rfl | exact zle_0 | exact zle_1 | exact zle_2 | exact zle_3 | exact zle_4 | exact zb_0 | exact zb_1 | exact zb01_B | omega) only [zT237_4, zr_iload_3, zT237_5, zr_aload_0, zT237_6, zr_gf_70, zT237_9, zr_icmp_ge, zT237_81, zr_iload_2, zT237_82, zr_ret0, zcl_i, zcl_r, zcl_l, zcl_n, zv_some, zv_none, Nat.reduceAdd, Nat.reduceMul, Nat.reduceSub, Nat.reduceLT, Nat.reduceLeDiff, Nat.reduceEqDiff, Int.reduceToNat, true_implies, false_implies, implies_true, and_true, true_and, not_true_eq_false, not_false_eq_true, Nat.zero_add, Nat.add_zero, nI_add, nI_ltI, nI_leI, nI_eq, pk_mul, pk_sub, u2_same, u2_row, u2_other, hn, olt_T, olt_F, ole_T, ole_F, oeq_T, oeq_F]
    rfl
  | succ m ih =>
    intro i he acc v4 v5
    have hi : i < n := by omega
    have ih' := ih (i + 1) (by omega)
    have t0 := fun Q => sp_teamAt (fl := fl) (Q := Q) hf h hi (show 0 < 3 by decide)
    have t1 := fun Q => sp_teamAt (fl := fl) (Q := Q) hf h hi (show 1 < 3 by decide)
    have t2 := fun Q => sp_teamAt (fl := fl) (Q := Q) hf h hi (show 2 < 3 by decide)
    have b0 := (h.2.2 (3 * i) (by omega)).1
    have b1 := (h.2.2 (3 * i + 1) (by omega)).1
    have b2 := (h.2.2 (3 * i + 2) (by omega)).1
    have s3 := sp_wg3 (fl := fl) (Q := Q) (i := i) hf hr h0 (or_lt64 (or_lt64 b0 b1) b2) (w 0) 0 (Nat.zero_add _)
    have r : wgN w tm (m + 1) i = a_wg w (tm (3 * i) ||| tm (3 * i + 1) ||| tm (3 * i + 2)) (w 0) 0 + wgN w tm m (i + 1) := rfl
    rw [r, ← Nat.add_assoc]
    clear r
    simp only [Nat.add_zero] at t0
    simp (disch := first | assumption | rfl | exact zle_0 | exact zle_1 | exact zle_2 | exact zle_3 | exact zle_4 | exact zb_0 | exact zb_1 | exact zb01_B | omega) only [zT237_4, zr_iload_3, zcl_i, zcl_r, zcl_l, zcl_n, zv_some, zv_none, Nat.reduceAdd, Nat.reduceMul, Nat.reduceSub, Nat.reduceLT, Nat.reduceLeDiff, Nat.reduceEqDiff, Int.reduceToNat, true_implies, false_implies, implies_true, and_true, true_and, not_true_eq_false, not_false_eq_true, Nat.zero_add, Nat.add_zero, nI_add, nI_ltI, nI_leI, nI_eq, pk_mul, pk_sub, u2_same, u2_row, u2_other]
    simp (disch := first | assumption | rfl | exact zle_0 | exact zle_1 | exact zle_2 | exact zle_3 | exact zle_4 | exact zb_0 | exact zb_1 | exact zb01_B | omega) only [zT237_5, zr_aload_0, zT237_6, zr_gf_70, zT237_9, zr_icmp_ge, zT237_12, zT237_13, zr_iload_3, zT237_14, zr_ic_0, zT237_15, zr_iv_232, zT237_18, zT237_19, zT237_20, zr_ic_1, zT237_21, zT237_24, zr_ior, zT237_25, zT237_26, zT237_27, zr_ic_2, zT237_28, zT237_31, zT237_32, zr_istore_4, zT237_34, zT237_35, zr_istore_5, zT237_75, zr_iinc_3_1, zT237_78, zr_goto, zcl_i, zcl_r, zcl_l, zcl_n, zv_some, zv_none, Nat.reduceAdd, Nat.reduceMul, Nat.reduceSub, Nat.reduceLT, Nat.reduceLeDiff, Nat.reduceEqDiff, Int.reduceToNat, true_implies, false_implies, implies_true, and_true, true_and, not_true_eq_false, not_false_eq_true, Nat.zero_add, Nat.add_zero, nI_add, nI_ltI, nI_leI, nI_eq, pk_mul, pk_sub, u2_same, u2_row, u2_other, hn, t0, t1, t2, b_or, s3, ih', olt_T, olt_F, ole_T, ole_F, oeq_T, oeq_F]
theorem sp_sumOfWages (hf : z_FR fr) (hr : z_K0 fi 19 w) (h0 : w 0 ≤ 6) (h : z_RW fi n tm) : TT 237 0 [some (.ref 71), some (.ref 19), none, none, none, none] [] (151, fi, fl, fr) Q = Q (some (.int (nI (wgN w tm n 0)))) (151, fi, fl, fr) := by
  have s := sp_wgN (fl := fl) (Q := Q) hf hr h0 h n 0 (Nat.zero_add _)
  simp (disch := first | assumption | rfl | exact zle_0 | exact zle_1 | exact zle_2 | exact zle_3 | exact zle_4 | exact zb_0 | exact zb_1 | exact zb01_B | omega) only [zT237_0, zr_ic_0, zT237_1, zr_istore_2, zT237_2, zT237_3, zr_istore_3, zcl_i, zcl_r, zcl_l, zcl_n, zv_some, zv_none, Nat.reduceAdd, Nat.reduceMul, Nat.reduceSub, Nat.reduceLT, Nat.reduceLeDiff, Nat.reduceEqDiff, Int.reduceToNat, true_implies, false_implies, implies_true, and_true, true_and, not_true_eq_false, not_false_eq_true, Nat.zero_add, Nat.add_zero, nI_add, nI_ltI, nI_leI, nI_eq, pk_mul, pk_sub, u2_same, u2_row, u2_other, s]
/-- a minute more -/
theorem sp_addRow (hf : z_FR fr) {R : List (Nat × Nat)} {set : Nat} (hR : z_Row fi R) (hn : n < 45) (hm : fi 71 70 = nI n)
    (hQ : ∀ fi', fi' 71 70 = nI (n + 1) → fi' 72 n = nI set → (∀ i, i ≠ n → fi' 72 i = fi 72 i) → (∀ e, e < 3 → fi' 73 (3 * n + e) = nI (t_of e R)) → (∀ p, p < 3 * n → fi' 73 p = fi 73 p) → (∀ j, j < 71 ∨ 73 < j → fi' j = fi j) → Q none (151, fi', fl, fr)) :
    TT 230 0 [some (.ref 71), some (.int (nI set)), some (.ref 61), none] [] (151, fi, fl, fr) Q := by
  have o61 : z_ok 151 61 12 = true := rfl; have o71 : z_ok 151 71 19 = true := rfl; have o72 : z_ok 151 72 1 = true := rfl; have o73 : z_ok 151 73 1 = true := rfl
  have l72 : z_al 72 = 45 := rfl; have l73 : z_al 73 = 135 := rfl
  have em : n * 3 = 3 * n := Nat.mul_comm _ _
  have tO := fun (fi : Nat → Nat → Int32) Q d (hd : d < 3) => sp_teamOf (fi := fi) (fl := fl) (Q := Q) hf hd
  have t0 := fun (fi : Nat → Nat → Int32) Q => tO fi Q 0 (by decide)
  have t1 := fun (fi : Nat → Nat → Int32) Q => tO fi Q 1 (by decide)
  have t2 := fun (fi : Nat → Nat → Int32) Q => tO fi Q 2 (by decide)
  obtain ⟨-, -, -, -, h69⟩ := hR
  have q0 := h69 0 (by decide)
  have q1 := h69 1 (by decide)
  have q2 := h69 2 (by decide)
  simp (disch := first | assumption | rfl | exact zle_0 | exact zle_1 | exact zle_2 | exact zle_3 | exact zle_4 | exact zb_0 | exact zb_1 | exact zb01_B | omega) only [zT230_0, zr_aload_0, zT230_1, zr_gf_70, zT230_4, zr_ic_45, zT230_6, zr_icmp_ge, zT230_9, zT230_10, zr_gf_68, zr_or, zr_go, zf_71_68, zT230_13, zT230_14, zT230_17, zr_iload_1, zT230_18, zr_iast, zT230_19, zr_ic_0, zT230_20, zr_istore_3, zT230_21, zr_iload_3, zT230_22, zr_ic_3, zT230_23, zT230_26, zT230_27, zr_gf_69, zf_71_69, zT230_30, zT230_31, zT230_34, zT230_35, zr_imul, zT230_36, zT230_37, zr_iadd, zT230_38, zr_aload_2, zT230_39, zT230_40, zr_iv_148, zT230_43, zT230_44, zr_iinc_3_1, zT230_47, zr_goto, zT230_50, zT230_51, zr_dup_r, zr_dup_i, zT230_52, zT230_55, zr_ic_1, zT230_56, zT230_57, zr_pf_70, zT230_60, zr_return, zcl_i, zcl_r, zcl_l, zcl_n, zv_some, zv_none, Nat.reduceAdd, Nat.reduceMul, Nat.reduceSub, Nat.reduceLT, Nat.reduceLeDiff, Nat.reduceEqDiff, Int.reduceToNat, true_implies, false_implies, implies_true, and_true, true_and, not_true_eq_false, not_false_eq_true, Nat.zero_add, Nat.add_zero, nI_add, nI_ltI, nI_leI, nI_eq, pk_mul, pk_sub, u2_same, u2_row, u2_other, hm, em, t0, t1, t2, q0, q1, q2, olt_T, olt_F, ole_T, ole_F, oeq_T, oeq_F]
  refine hQ _ ?_ ?_ (fun i hi => ?_) (fun e he => ?_) (fun p hp => ?_) (fun j hj => ?_)
  · simp (disch := omega) only [u2_same]
  · simp (disch := omega) only [u2_same, u2_other]
  · simp (disch := omega) only [u2_row, u2_other]
  · have : e = 0 ∨ e = 1 ∨ e = 2 := by omega
    rcases this with rfl | rfl | rfl <;> simp (disch := omega) only [u2_same, u2_row, u2_other, Nat.add_zero]
  · simp (disch := omega) only [u2_row, u2_other]
  · simp (disch := omega) only [u2_ne]
theorem sp_setAt (hf : z_FR fr) (hm : fi 71 70 = nI n) (hn : n ≤ 45) {i : Nat} (hi : i < 2 ^ 31) : TT 231 0 [some (.ref 71), some (.int (nI i))] [] (151, fi, fl, fr) Q = Q (some (.int (if i < n then fi 72 i else nM 5))) (151, fi, fl, fr) := by
  refine T_exact (fun Q hQ => ?_) Q
  have o71 : z_ok 151 71 19 = true := rfl; have o72 : z_ok 151 72 1 = true := rfl
  have l72 : z_al 72 = 45 := rfl
  by_cases h : i < n
  · rw [if_pos h] at hQ
    simp (disch := first | assumption | rfl | exact zle_0 | exact zle_1 | exact zle_2 | exact zle_3 | exact zle_4 | exact zb_0 | exact zb_1 | exact zb01_B | omega) only [zT231_0, zr_iload_1, zT231_1, zr_if_lt, zT231_4, zT231_5, zr_aload_0, zT231_6, zr_gf_70, zT231_9, zr_icmp_ge, zT231_12, zT231_13, zr_ic_45, zT231_15, zT231_18, zT231_19, zr_gf_68, zr_or, zr_go, zf_71_68, zT231_22, zT231_23, zr_iald, zT231_24, zr_goto, zT231_27, zr_ic_m5, zT231_29, zr_ret0, zcl_i, zcl_r, zcl_l, zcl_n, zv_some, zv_none, Nat.reduceAdd, Nat.reduceMul, Nat.reduceSub, Nat.reduceLT, Nat.reduceLeDiff, Nat.reduceEqDiff, Int.reduceToNat, true_implies, false_implies, implies_true, and_true, true_and, not_true_eq_false, not_false_eq_true, Nat.zero_add, Nat.add_zero, nI_add, nI_ltI, nI_leI, nI_eq, pk_mul, pk_sub, u2_same, u2_row, u2_other, hm, olt_T, olt_F, ole_T, ole_F, oeq_T, oeq_F]
    exact hQ
  · rw [if_neg h] at hQ
    simp (disch := first | assumption | rfl | exact zle_0 | exact zle_1 | exact zle_2 | exact zle_3 | exact zle_4 | exact zb_0 | exact zb_1 | exact zb01_B | omega) only [zT231_0, zr_iload_1, zT231_1, zr_if_lt, zT231_4, zT231_5, zr_aload_0, zT231_6, zr_gf_70, zT231_9, zr_icmp_ge, zT231_12, zT231_13, zr_ic_45, zT231_15, zT231_18, zT231_19, zr_gf_68, zr_or, zr_go, zf_71_68, zT231_22, zT231_23, zr_iald, zT231_24, zr_goto, zT231_27, zr_ic_m5, zT231_29, zr_ret0, zcl_i, zcl_r, zcl_l, zcl_n, zv_some, zv_none, Nat.reduceAdd, Nat.reduceMul, Nat.reduceSub, Nat.reduceLT, Nat.reduceLeDiff, Nat.reduceEqDiff, Int.reduceToNat, true_implies, false_implies, implies_true, and_true, true_and, not_true_eq_false, not_false_eq_true, Nat.zero_add, Nat.add_zero, nI_add, nI_ltI, nI_leI, nI_eq, pk_mul, pk_sub, u2_same, u2_row, u2_other, hm, olt_T, olt_F, ole_T, ole_F, oeq_T, oeq_F]
    exact hQ
end
