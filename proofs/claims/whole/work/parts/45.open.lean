/-! the planner's open sets -/
section
variable {fi : Nat → Nat → Int32} {fl : Nat → Nat → Int64} {fr : Nat → Nat → Option Nat} {Q : Option Value → Mm → Prop} {w : Nat → Nat} {k : Nat} {M : Mm}
theorem sp_cb_ (hf : z_FR fr) (hw : a_WF w) {hl : Nat → Nat} {th : Nat → Bool} {er el : Nat} (he : er ≤ 1 ∧ el ≤ 1) :
    ∀ m key, key + m = 64 → ∀ (fi : Nat → Nat → Int32) (v2 v3 : Option Value), z_KR fi 19 w → z_CR fi hl th er el 6 → (∀ q, q < key → fi 78 q = zB (a_enough w hl er el q)) →
    (∀ fi', (∀ q, q < 64 → fi' 78 q = zB (a_enough w hl er el q)) → (∀ j, j ≠ 61 → j ≠ 67 → j ≠ 78 → fi' j = fi j) → TT 211 28 [some (.ref 70), some (.int (nI 64)), v2, v3] [] (151, fi', fl, fr) Q) →
    TT 211 2 [some (.ref 70), some (.int (nI key)), v2, v3] [] (151, fi, fl, fr) Q := by
  have o61 : z_ok 151 61 12 = true := rfl; have o70 : z_ok 151 70 18 = true := rfl; have o78 : z_ok 151 78 2 = true := rfl
  have l78 : z_al 78 = 64 := rfl
  intro m
  induction m with
  | zero =>
    intro key hk fi v2 v3 hr hc hI hQ
    obtain rfl : key = 64 := by omega
    have := hQ fi hI (fun _ _ _ _ => rfl)
    simp (disch := first | assumption | rfl | exact zle_0 | exact zle_1 | exact zle_2 | exact zle_3 | exact zle_4 | exact zb_0 | exact zb_1 | exact zb01_B | omega) only [zT211_2, zr_iload_1, zT211_3, zr_ic_64, zT211_5, zr_icmp_ge, zcl_i, zcl_r, zcl_l, zcl_n, zv_some, zv_none, Nat.reduceAdd, Nat.reduceMul, Nat.reduceSub, Nat.reduceLT, Nat.reduceLeDiff, Nat.reduceEqDiff, Int.reduceToNat, true_implies, false_implies, implies_true, and_true, true_and, not_true_eq_false, not_false_eq_true, Nat.zero_add, Nat.add_zero, nI_add, nI_ltI, nI_leI, nI_eq, pk_mul, pk_sub, u2_same, u2_row, u2_other, olt_T, olt_F, ole_T, ole_F, oeq_T, oeq_F]
    exact this
  | succ m ih =>
    intro key hk fi v2 v3 hr hc hI hQ
    simp (disch := first | assumption | rfl | exact zle_0 | exact zle_1 | exact zle_2 | exact zle_3 | exact zle_4 | exact zb_0 | exact zb_1 | exact zb01_B | omega) only [zT211_2, zr_iload_1, zcl_i, zcl_r, zcl_l, zcl_n, zv_some, zv_none, Nat.reduceAdd, Nat.reduceMul, Nat.reduceSub, Nat.reduceLT, Nat.reduceLeDiff, Nat.reduceEqDiff, Int.reduceToNat, true_implies, false_implies, implies_true, and_true, true_and, not_true_eq_false, not_false_eq_true, Nat.zero_add, Nat.add_zero, nI_add, nI_ltI, nI_leI, nI_eq, pk_mul, pk_sub, u2_same, u2_row, u2_other]
    simp (disch := first | assumption | rfl | exact zle_0 | exact zle_1 | exact zle_2 | exact zle_3 | exact zle_4 | exact zb_0 | exact zb_1 | exact zb01_B | omega) only [zT211_3, zr_ic_64, zT211_5, zr_icmp_ge, zT211_8, zr_aload_0, zT211_9, zr_gf_61, zr_or, zr_go, zf_70_61, zT211_12, zr_iload_1, zT211_13, zT211_14, zr_gf_53, zf_70_53, zT211_17, zT211_18, zr_iv_142, zcl_i, zcl_r, zcl_l, zcl_n, zv_some, zv_none, Nat.reduceAdd, Nat.reduceMul, Nat.reduceSub, Nat.reduceLT, Nat.reduceLeDiff, Nat.reduceEqDiff, Int.reduceToNat, true_implies, false_implies, implies_true, and_true, true_and, not_true_eq_false, not_false_eq_true, Nat.zero_add, Nat.add_zero, nI_add, nI_ltI, nI_leI, nI_eq, pk_mul, pk_sub, u2_same, u2_row, u2_other, olt_T, olt_F, ole_T, ole_F, oeq_T, oeq_F]
    refine sp_isEnough hf hw (by omega) hr hc he (fun f1 h1 h2 => ?_)
    simp (disch := first | assumption | rfl | exact zle_0 | exact zle_1 | exact zle_2 | exact zle_3 | exact zle_4 | exact zb_0 | exact zb_1 | exact zb01_B | omega) only [zT211_21, zr_bast, zT211_22, zr_iinc_1_1, zT211_25, zr_goto, zcl_i, zcl_r, zcl_l, zcl_n, zv_some, zv_none, Nat.reduceAdd, Nat.reduceMul, Nat.reduceSub, Nat.reduceLT, Nat.reduceLeDiff, Nat.reduceEqDiff, Int.reduceToNat, true_implies, false_implies, implies_true, and_true, true_and, not_true_eq_false, not_false_eq_true, Nat.zero_add, Nat.add_zero, nI_add, nI_ltI, nI_leI, nI_eq, pk_mul, pk_sub, u2_same, u2_row, u2_other, olt_T, olt_F, ole_T, ole_F, oeq_T, oeq_F]
    refine ih (key + 1) (by omega) _ v2 v3 (hr.fr (fun j j1 j2 => ?_)) (hc.frame (fun j j1 j2 => ?_)) (fun q hq => ?_) (fun f2 g1 g2 => hQ f2 g1 (fun j j1 j2 j3 => ?_))
    · simp (disch := omega) only [u2_ne]; exact h1 j (by omega) (by omega)
    · simp (disch := omega) only [u2_ne]; exact h1 j (by omega) (by omega)
    · by_cases e : q = key
      · subst e; rw [u2_same]
      · rw [u2_row e, h1 78 (by decide) (by decide)]; exact hI q (by omega)
    · rw [g2 j j1 j2 j3]; simp (disch := omega) only [u2_ne]; exact h1 j j2 j1
theorem sp_os3 (hf : z_FR fr) {en : Nat → Bool} {key : Nat} (hk : key < 64) (hcb : ∀ q, q < 64 → fi 78 q = zB (en q)) :
    ∀ m set, set + m = 8 → ∀ Q, TT 211 40 [some (.ref 70), some (.int (nI key)), some (.int (nI (msk (fun set => a_hs key set 3 0 && en (key ||| (z_stT 4).getD set 0)) set))), some (.int (nI set))] [] (151, fi, fl, fr) Q = TT 211 81 [some (.ref 70), some (.int (nI key)), some (.int (nI (a_open en key))), some (.int (nI 8))] [] (151, fi, fl, fr) Q := by
  have o70 : z_ok 151 70 18 = true := rfl; have o78 : z_ok 151 78 2 = true := rfl
  have l78 : z_al 78 = 64 := rfl
  intro m
  induction m with
  | zero =>
    intro set hs Q
    obtain rfl : set = 8 := by omega
    simp (disch := first | assumption | rfl | exact zle_0 | exact zle_1 | exact zle_2 | exact zle_3 | exact zle_4 | exact zb_0 | exact zb_1 | exact zb01_B | omega) only [zT211_40, zr_iload_3, zT211_41, zr_ic_8, zT211_43, zr_icmp_ge, zcl_i, zcl_r, zcl_l, zcl_n, zv_some, zv_none, Nat.reduceAdd, Nat.reduceMul, Nat.reduceSub, Nat.reduceLT, Nat.reduceLeDiff, Nat.reduceEqDiff, Int.reduceToNat, true_implies, false_implies, implies_true, and_true, true_and, not_true_eq_false, not_false_eq_true, Nat.zero_add, Nat.add_zero, nI_add, nI_ltI, nI_leI, nI_eq, pk_mul, pk_sub, u2_same, u2_row, u2_other, olt_T, olt_F, ole_T, ole_F, oeq_T, oeq_F]
    rfl
  | succ m ih =>
    intro set hs Q
    have s8 : set < 8 := by omega
    have ih' := ih (set + 1) (by omega)
    have hst := fun M Q => sp_hasSteps (M := M) (Q := Q) hk s8
    have ol : key ||| (z_stT 4).getD set 0 < 64 := or_lt64 hk (a_out_lt set s8)
    have cb := hcb _ ol
    have p8 : 2 ^ set < 256 := Nat.pow_lt_pow_right (a := 2) (n := 8) (by decide) s8
    rw [show msk (fun set => a_hs key set 3 0 && en (key ||| (z_stT 4).getD set 0)) (set + 1) = if (a_hs key set 3 0 && en (key ||| (z_stT 4).getD set 0)) = true then msk (fun set => a_hs key set 3 0 && en (key ||| (z_stT 4).getD set 0)) set ||| 2 ^ set else msk (fun set => a_hs key set 3 0 && en (key ||| (z_stT 4).getD set 0)) set from rfl] at ih'
    generalize msk (fun set => a_hs key set 3 0 && en (key ||| (z_stT 4).getD set 0)) set = acc at *
    generalize ha : a_open en key = res at *
    generalize hv : (z_stT 4).getD set 0 = ov at *
    simp (disch := first | assumption | rfl | exact zle_0 | exact zle_1 | exact zle_2 | exact zle_3 | exact zle_4 | exact zb_0 | exact zb_1 | exact zb01_B | omega) only [zT211_40, zr_iload_3, zcl_i, zcl_r, zcl_l, zcl_n, zv_some, zv_none, Nat.reduceAdd, Nat.reduceMul, Nat.reduceSub, Nat.reduceLT, Nat.reduceLeDiff, Nat.reduceEqDiff, Int.reduceToNat, true_implies, false_implies, implies_true, and_true, true_and, not_true_eq_false, not_false_eq_true, Nat.zero_add, Nat.add_zero, nI_add, nI_ltI, nI_leI, nI_eq, pk_mul, pk_sub, u2_same, u2_row, u2_other]
    cases h1 : a_hs key set 3 0
    · rw [h1, Bool.false_and, if_neg (by decide)] at ih'
      rw [h1] at hst
      simp (disch := first | assumption | rfl | exact zle_0 | exact zle_1 | exact zle_2 | exact zle_3 | exact zle_4 | exact zb_0 | exact zb_1 | exact zb01_B | omega) only [zT211_41, zr_ic_8, zT211_43, zr_icmp_ge, zT211_46, zr_iload_1, zT211_47, zr_iload_3, zT211_48, zr_iv_212, zT211_51, zr_if_eq, zT211_54, zr_aload_0, zT211_55, zr_gf_61, zr_or, zr_go, zf_70_61, zT211_58, zT211_59, zr_ldc, zs_4, zT211_62, zT211_63, zr_iald, zT211_64, zr_ior, zT211_65, zr_bald, zT211_66, zT211_69, zr_iload_2, zT211_70, zr_ic_1, zT211_71, zT211_72, zr_ishl, zT211_73, zT211_74, zr_istore_2, zT211_75, zr_iinc_3_1, zT211_78, zr_goto, zcl_i, zcl_r, zcl_l, zcl_n, zv_some, zv_none, Nat.reduceAdd, Nat.reduceMul, Nat.reduceSub, Nat.reduceLT, Nat.reduceLeDiff, Nat.reduceEqDiff, Int.reduceToNat, true_implies, false_implies, implies_true, and_true, true_and, not_true_eq_false, not_false_eq_true, Nat.zero_add, Nat.add_zero, nI_add, nI_ltI, nI_leI, nI_eq, pk_mul, pk_sub, u2_same, u2_row, u2_other, hst, zB_eq0, ih', olt_T, olt_F, ole_T, ole_F, oeq_T, oeq_F]
    · rw [h1, Bool.true_and] at ih'
      rw [h1] at hst
      cases h2 : en (key ||| ov)
      · rw [h2, if_neg (by decide)] at ih'
        rw [h2] at cb
        simp (disch := first | assumption | rfl | exact zle_0 | exact zle_1 | exact zle_2 | exact zle_3 | exact zle_4 | exact zb_0 | exact zb_1 | exact zb01_B | omega) only [zT211_41, zr_ic_8, zT211_43, zr_icmp_ge, zT211_46, zr_iload_1, zT211_47, zr_iload_3, zT211_48, zr_iv_212, zT211_51, zr_if_eq, zT211_54, zr_aload_0, zT211_55, zr_gf_61, zr_or, zr_go, zf_70_61, zT211_58, zT211_59, zr_ldc, zs_4, zT211_62, zT211_63, zr_iald, zT211_64, zr_ior, zT211_65, zr_bald, zT211_66, zT211_69, zr_iload_2, zT211_70, zr_ic_1, zT211_71, zT211_72, zr_ishl, zT211_73, zT211_74, zr_istore_2, zT211_75, zr_iinc_3_1, zT211_78, zr_goto, zcl_i, zcl_r, zcl_l, zcl_n, zv_some, zv_none, Nat.reduceAdd, Nat.reduceMul, Nat.reduceSub, Nat.reduceLT, Nat.reduceLeDiff, Nat.reduceEqDiff, Int.reduceToNat, true_implies, false_implies, implies_true, and_true, true_and, not_true_eq_false, not_false_eq_true, Nat.zero_add, Nat.add_zero, nI_add, nI_ltI, nI_leI, nI_eq, pk_mul, pk_sub, u2_same, u2_row, u2_other, hst, zB_eq0, reduceCtorEq, hv, b_or, cb, ih', olt_T, olt_F, ole_T, ole_F, oeq_T, oeq_F]
      · rw [h2, if_pos rfl] at ih'
        rw [h2] at cb
        simp (disch := first | assumption | rfl | exact zle_0 | exact zle_1 | exact zle_2 | exact zle_3 | exact zle_4 | exact zb_0 | exact zb_1 | exact zb01_B | omega) only [zT211_41, zr_ic_8, zT211_43, zr_icmp_ge, zT211_46, zr_iload_1, zT211_47, zr_iload_3, zT211_48, zr_iv_212, zT211_51, zr_if_eq, zT211_54, zr_aload_0, zT211_55, zr_gf_61, zr_or, zr_go, zf_70_61, zT211_58, zT211_59, zr_ldc, zs_4, zT211_62, zT211_63, zr_iald, zT211_64, zr_ior, zT211_65, zr_bald, zT211_66, zT211_69, zr_iload_2, zT211_70, zr_ic_1, zT211_71, zT211_72, zr_ishl, zT211_73, zT211_74, zr_istore_2, zT211_75, zr_iinc_3_1, zT211_78, zr_goto, zcl_i, zcl_r, zcl_l, zcl_n, zv_some, zv_none, Nat.reduceAdd, Nat.reduceMul, Nat.reduceSub, Nat.reduceLT, Nat.reduceLeDiff, Nat.reduceEqDiff, Int.reduceToNat, true_implies, false_implies, implies_true, and_true, true_and, not_true_eq_false, not_false_eq_true, Nat.zero_add, Nat.add_zero, nI_add, nI_ltI, nI_leI, nI_eq, pk_mul, pk_sub, u2_same, u2_row, u2_other, hst, zB_eq0, reduceCtorEq, hv, b_or, b_shl, Nat.one_mul, cb, ih', olt_T, olt_F, ole_T, ole_F, oeq_T, oeq_F]
theorem sp_os_ (hf : z_FR fr) {en : Nat → Bool} :
    ∀ m key, key + m = 64 → ∀ (fi : Nat → Nat → Int32) (v2 v3 : Option Value), (∀ q, q < 64 → fi 78 q = zB (en q)) → (∀ q, q < key → fi 79 q = nI (a_open en q)) →
    (∀ fi', (∀ q, q < 64 → fi' 79 q = nI (a_open en q)) → (∀ j, j ≠ 79 → fi' j = fi j) → Q none (151, fi', fl, fr)) →
    TT 211 30 [some (.ref 70), some (.int (nI key)), v2, v3] [] (151, fi, fl, fr) Q := by
  have o61 : z_ok 151 61 12 = true := rfl; have o70 : z_ok 151 70 18 = true := rfl; have o78 : z_ok 151 78 2 = true := rfl; have o79 : z_ok 151 79 1 = true := rfl
  have l78 : z_al 78 = 64 := rfl; have l79 : z_al 79 = 64 := rfl
  intro m
  induction m with
  | zero =>
    intro key hk fi v2 v3 hcb hI hQ
    obtain rfl : key = 64 := by omega
    simp (disch := first | assumption | rfl | exact zle_0 | exact zle_1 | exact zle_2 | exact zle_3 | exact zle_4 | exact zb_0 | exact zb_1 | exact zb01_B | omega) only [zT211_30, zr_iload_1, zT211_31, zr_ic_64, zT211_33, zr_icmp_ge, zT211_94, zr_return, zcl_i, zcl_r, zcl_l, zcl_n, zv_some, zv_none, Nat.reduceAdd, Nat.reduceMul, Nat.reduceSub, Nat.reduceLT, Nat.reduceLeDiff, Nat.reduceEqDiff, Int.reduceToNat, true_implies, false_implies, implies_true, and_true, true_and, not_true_eq_false, not_false_eq_true, Nat.zero_add, Nat.add_zero, nI_add, nI_ltI, nI_leI, nI_eq, pk_mul, pk_sub, u2_same, u2_row, u2_other, olt_T, olt_F, ole_T, ole_F, oeq_T, oeq_F]
    exact hQ fi hI (fun _ _ => rfl)
  | succ m ih =>
    intro key hk fi v2 v3 hcb hI hQ
    have os := fun Q => sp_os3 (fl := fl) (en := en) hf (show key < 64 by omega) hcb 8 0 rfl Q
    rw [show msk (fun set => a_hs key set 3 0 && en (key ||| (z_stT 4).getD set 0)) 0 = 0 from rfl] at os
    simp (disch := first | assumption | rfl | exact zle_0 | exact zle_1 | exact zle_2 | exact zle_3 | exact zle_4 | exact zb_0 | exact zb_1 | exact zb01_B | omega) only [zT211_30, zr_iload_1, zcl_i, zcl_r, zcl_l, zcl_n, zv_some, zv_none, Nat.reduceAdd, Nat.reduceMul, Nat.reduceSub, Nat.reduceLT, Nat.reduceLeDiff, Nat.reduceEqDiff, Int.reduceToNat, true_implies, false_implies, implies_true, and_true, true_and, not_true_eq_false, not_false_eq_true, Nat.zero_add, Nat.add_zero, nI_add, nI_ltI, nI_leI, nI_eq, pk_mul, pk_sub, u2_same, u2_row, u2_other]
    simp (disch := first | assumption | rfl | exact zle_0 | exact zle_1 | exact zle_2 | exact zle_3 | exact zle_4 | exact zb_0 | exact zb_1 | exact zb01_B | omega) only [zT211_31, zr_ic_64, zT211_33, zr_icmp_ge, zT211_36, zr_ic_0, zT211_37, zr_istore_2, zT211_38, zT211_39, zr_istore_3, zT211_81, zr_aload_0, zT211_82, zr_gf_62, zr_or, zr_go, zf_70_62, zT211_85, zr_iload_1, zT211_86, zr_iload_2, zT211_87, zr_iast, zT211_88, zr_iinc_1_1, zT211_91, zr_goto, zcl_i, zcl_r, zcl_l, zcl_n, zv_some, zv_none, Nat.reduceAdd, Nat.reduceMul, Nat.reduceSub, Nat.reduceLT, Nat.reduceLeDiff, Nat.reduceEqDiff, Int.reduceToNat, true_implies, false_implies, implies_true, and_true, true_and, not_true_eq_false, not_false_eq_true, Nat.zero_add, Nat.add_zero, nI_add, nI_ltI, nI_leI, nI_eq, pk_mul, pk_sub, u2_same, u2_row, u2_other, os, olt_T, olt_F, ole_T, ole_F, oeq_T, oeq_F]
    refine ih (key + 1) (by omega) _ _ _ (fun q hq => by rw [u2_other (by decide)]; exact hcb q hq) (fun q hq => ?_) (fun f2 g1 g2 => hQ f2 g1 (fun j j1 => ?_))
    · by_cases e : q = key
      · subst e; rw [u2_same]
      · rw [u2_row e]; exact hI q (by omega)
    · rw [g2 j j1]; simp (disch := omega) only [u2_ne]
theorem sp_layOpen (hf : z_FR fr) (hw : a_WF w) {hl : Nat → Nat} {th : Nat → Bool} {er el : Nat} (he : er ≤ 1 ∧ el ≤ 1) (hr : z_KR fi 19 w) (hc : z_CR fi hl th er el 6)
    (hQ : ∀ fi', (∀ q, q < 64 → fi' 79 q = nI (a_open (a_enough w hl er el) q)) → (∀ j, j ≠ 61 → j ≠ 67 → j ≠ 78 → j ≠ 79 → fi' j = fi j) → Q none (151, fi', fl, fr)) :
    TT 211 0 [some (.ref 70), none, none, none] [] (151, fi, fl, fr) Q := by
  simp (disch := first | assumption | rfl | exact zle_0 | exact zle_1 | exact zle_2 | exact zle_3 | exact zle_4 | exact zb_0 | exact zb_1 | exact zb01_B | omega) only [zT211_0, zr_ic_0, zT211_1, zr_istore_1, zcl_i, zcl_r, zcl_l, zcl_n, zv_some, zv_none, Nat.reduceAdd, Nat.reduceMul, Nat.reduceSub, Nat.reduceLT, Nat.reduceLeDiff, Nat.reduceEqDiff, Int.reduceToNat, true_implies, false_implies, implies_true, and_true, true_and, not_true_eq_false, not_false_eq_true, Nat.zero_add, Nat.add_zero, nI_add, nI_ltI, nI_leI, nI_eq, pk_mul, pk_sub, u2_same, u2_row, u2_other, olt_T, olt_F, ole_T, ole_F, oeq_T, oeq_F]
  refine sp_cb_ hf hw he 64 0 rfl fi _ _ hr hc (fun q hq => absurd hq (Nat.not_lt_zero _)) (fun f1 g1 g2 => ?_)
  simp (disch := first | assumption | rfl | exact zle_0 | exact zle_1 | exact zle_2 | exact zle_3 | exact zle_4 | exact zb_0 | exact zb_1 | exact zb01_B | omega) only [zT211_28, zr_ic_0, zT211_29, zr_istore_1, zcl_i, zcl_r, zcl_l, zcl_n, zv_some, zv_none, Nat.reduceAdd, Nat.reduceMul, Nat.reduceSub, Nat.reduceLT, Nat.reduceLeDiff, Nat.reduceEqDiff, Int.reduceToNat, true_implies, false_implies, implies_true, and_true, true_and, not_true_eq_false, not_false_eq_true, Nat.zero_add, Nat.add_zero, nI_add, nI_ltI, nI_leI, nI_eq, pk_mul, pk_sub, u2_same, u2_row, u2_other, olt_T, olt_F, ole_T, ole_F, oeq_T, oeq_F]
  refine sp_os_ hf 64 0 rfl f1 _ _ g1 (fun q hq => absurd hq (Nat.not_lt_zero _)) (fun f2 k1 k2 => hQ f2 k1 (fun j j1 j2 j3 j4 => ?_))
  rw [k2 j j4, g2 j j1 j2 j3]
end
