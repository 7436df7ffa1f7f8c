/-! the calls whose, cooked -/
section
variable {fi fi' : Nat → Nat → Int32} {fl : Nat → Nat → Int64} {fr : Nat → Nat → Option Nat} {Q : Option Value → Mm → Prop} {w : Nat → Nat} {k : Nat} {M : Mm} {ws : Nat → Nat → Nat} {nn tx : Nat → Nat}
theorem sx_canGoOn (hf : z_FR fr) (hw : a_WF w) (hr : z_KR fi 19 w) {b : Nat} (hb : b < 2 ^ w 13)
    (hQ : ∀ fi', z_CR fi' (a_hands w (w 54)) (a_thumb w) 0 0 6 → (∀ j, j < 61 ∨ 67 < j → fi' j = fi j) → Q (some (.int (zB (a_en w (w 54) (a_keyOf w b (w 13) 0 63))))) (151, fi', fl, fr)) :
    TT 118 0 [some (.ref 18), some (.int (nI b))] [] (151, fi, fl, fr) Q := by
  have o18 : z_ok 151 18 10 = true := rfl; have o19 : z_ok 151 19 16 = true := rfl; have o61 : z_ok 151 61 12 = true := rfl
  have hk := z_Kok_of hf (k := 19) (by decide)
  have h13 := hw.2.2.1
  have e8 : 2 ^ w 13 ≤ 2 ^ 3 := Nat.pow_le_pow_right (by decide) h13
  have h54 := hw.2.2.2.2.2.1
  have st := hr.1.2.2.2.1
  have cnk : ∀ c, c < w 0 → w (1 + c) ≤ 5 := fun c hc => (hw.2.1 c hc).1
  have zt : zB true = nI 1 := rfl
  have zf : zB false = nI 0 := rfl
  simp (disch := first | assumption | rfl | exact zle_0 | exact zle_1 | exact zle_2 | exact zle_3 | exact zle_4 | exact zb_0 | exact zb_1 | exact zb01_B | omega) only [zT118_0, zr_aload_0, zT118_1, zr_gf_4, zr_or, zr_go, zf_18_4, zT118_4, zT118_5, zr_gf_0, zf_18_0, zf_22_0, zf_42_0, zf_59_0, zf_96_0, zf_116_0, zT118_8, zr_gf_47, zT118_11, zr_iv_138, zcl_i, zcl_r, zcl_l, zcl_n, zv_some, zv_none, Nat.reduceAdd, Nat.reduceMul, Nat.reduceSub, Nat.reduceLT, Nat.reduceLeDiff, Nat.reduceEqDiff, Int.reduceToNat, true_implies, false_implies, implies_true, and_true, true_and, not_true_eq_false, not_false_eq_true, Nat.zero_add, Nat.add_zero, nI_add, nI_ltI, nI_leI, nI_eq, pk_mul, pk_sub, u2_same, u2_row, u2_other, st, olt_T, olt_F, ole_T, ole_F, oeq_T, oeq_F]
  refine sp_gather hf h54 hw.1 cnk hr.k0 (fun f1 h1 h2 => ?_)
  have hr1 : z_KR f1 19 w := hr.fr (fun j j1 j2 => h2 j (by omega))
  have ko := fun Q => sp_keyOf (fl := fl) (Q := Q) hk hr1 hw (b := b) (by omega)
  have kl := (a_keyOf_at hw (b := b) (j := 0) (by decide) (w 13) 0 63 (by decide) (by omega)).1
  simp (disch := first | assumption | rfl | exact zle_0 | exact zle_1 | exact zle_2 | exact zle_3 | exact zle_4 | exact zb_0 | exact zb_1 | exact zb01_B | omega) only [zT118_14, zr_aload_0, zT118_15, zr_gf_4, zr_or, zr_go, zf_18_4, zT118_18, zT118_19, zr_gf_0, zf_18_0, zf_22_0, zf_42_0, zf_59_0, zf_96_0, zf_116_0, zT118_22, zr_iload_1, zT118_23, zr_iv_194, zT118_26, zr_iv_142, zcl_i, zcl_r, zcl_l, zcl_n, zv_some, zv_none, Nat.reduceAdd, Nat.reduceMul, Nat.reduceSub, Nat.reduceLT, Nat.reduceLeDiff, Nat.reduceEqDiff, Int.reduceToNat, true_implies, false_implies, implies_true, and_true, true_and, not_true_eq_false, not_false_eq_true, Nat.zero_add, Nat.add_zero, nI_add, nI_ltI, nI_leI, nI_eq, pk_mul, pk_sub, u2_same, u2_row, u2_other, ko, olt_T, olt_F, ole_T, ole_F, oeq_T, oeq_F]
  refine sp_isEnough hf hw kl hr1 h1 (by decide) (fun f2 h3 h4 => ?_)
  have o := hQ f2 (h1.frame (fun j j1 j2 => h3 j (by omega) (by omega))) (fun j hj => by rw [h3 j (by omega) (by omega), h2 j (by omega)])
  rw [show a_enough w (a_hands w (w 54)) 0 0 (a_keyOf w b (w 13) 0 63) = a_en w (w 54) (a_keyOf w b (w 13) 0 63) from rfl]
  generalize a_en w (w 54) (a_keyOf w b (w 13) 0 63) = e at *
  cases e
  · simp (disch := first | assumption | rfl | exact zle_0 | exact zle_1 | exact zle_2 | exact zle_3 | exact zle_4 | exact zb_0 | exact zb_1 | exact zb01_B | omega) only [zT118_29, zr_ret1_0, zr_ret1_1, zr_ret1_B, zcl_i, zcl_r, zcl_l, zcl_n, zv_some, zv_none, Nat.reduceAdd, Nat.reduceMul, Nat.reduceSub, Nat.reduceLT, Nat.reduceLeDiff, Nat.reduceEqDiff, Int.reduceToNat, true_implies, false_implies, implies_true, and_true, true_and, not_true_eq_false, not_false_eq_true, Nat.zero_add, Nat.add_zero, nI_add, nI_ltI, nI_leI, nI_eq, pk_mul, pk_sub, u2_same, u2_row, u2_other, olt_T, olt_F, ole_T, ole_F, oeq_T, oeq_F]
    exact o
  · simp (disch := first | assumption | rfl | exact zle_0 | exact zle_1 | exact zle_2 | exact zle_3 | exact zle_4 | exact zb_0 | exact zb_1 | exact zb01_B | omega) only [zT118_29, zr_ret1_0, zr_ret1_1, zr_ret1_B, zcl_i, zcl_r, zcl_l, zcl_n, zv_some, zv_none, Nat.reduceAdd, Nat.reduceMul, Nat.reduceSub, Nat.reduceLT, Nat.reduceLeDiff, Nat.reduceEqDiff, Int.reduceToNat, true_implies, false_implies, implies_true, and_true, true_and, not_true_eq_false, not_false_eq_true, Nat.zero_add, Nat.add_zero, nI_add, nI_ltI, nI_leI, nI_eq, pk_mul, pk_sub, u2_same, u2_row, u2_other, olt_T, olt_F, ole_T, ole_F, oeq_T, oeq_F]
    exact o
theorem sx_whose (hf : z_FR fr) (h : z_XS fi ws nn tx) (hg : z_G ws nn) {x y : Int32} (hQ : z_XQ fi fl fr Q (r_whose ws nn x y).1 ws (r_whose ws nn x y).2 tx) : TT 95 0 [some (.ref 18), some (.int x), some (.int y)] [] (151, fi, fl, fr) Q := by
  have o18 : z_ok 151 18 10 = true := rfl; have o19 : z_ok 151 19 16 = true := rfl; have o61 : z_ok 151 61 12 = true := rfl
  have hk := z_Kok_of hf (k := 19) (by decide)
  have hr := h.1.1
  have h13 := hg.1.1.2.2.1
  have e8 : 2 ^ ws 0 13 ≤ 2 ^ 3 := Nat.pow_le_pow_right (by decide) h13
  have hd := fun Q => sp_hasDishes (fl := fl) (fr := fr) (Q := Q) (x := x) o19 hr.1.2.1 h13
  have rfs := fun fi Q => sp_refuse (fi := fi) (fl := fl) (fr := fr) (Q := Q) (r := 2) (x := nM 10) (Or.inl rfl)
  unfold r_whose at hQ
  by_cases c1 : 0 ≤ y.toInt
  · have n1 : (y < nI 0) = False := eq_false (by rw [Int32.lt_iff_toInt_lt, nI_toInt (by decide)]; omega)
    by_cases c2 : 0 ≤ x.toInt ∧ x.toInt < 2 ^ ws 0 13
    · rw [decide_eq_true c2] at hd
      obtain ⟨ex, lx⟩ := nI_ofInt c2.1
      obtain ⟨ey, ly⟩ := nI_ofInt c1
      have lb : x.toInt.toNat < 2 ^ ws 0 13 := by
        have := c2.2
        have e : ((2 ^ ws 0 13 : Nat) : Int) = (2 : Int) ^ ws 0 13 := by simp
        omega
      generalize hx : x.toInt.toNat = b at *
      generalize hy : y.toInt.toNat = j at *
      have ad := fun Q => sp_anyDone (fl := fl) (Q := Q) hk hr hg.1.1 (b := b) (by omega)
      rw [ex] at hd c2 hQ ⊢
      rw [ey] at n1 c1 hQ ⊢
      cases c3 : a_anyDone (ws 0) b (ws 0 13) 0
      · rw [c3] at ad
        rw [if_pos ⟨c2.1, c2.2, c1, c3⟩] at hQ
        simp (disch := first | assumption | rfl | exact zle_0 | exact zle_1 | exact zle_2 | exact zle_3 | exact zle_4 | exact zb_0 | exact zb_1 | exact zb01_B | omega) only [zT95_0, zr_iload_2, zT95_1, zr_if_lt, zT95_4, zr_aload_0, zT95_5, zr_gf_0, zr_or, zr_go, zf_18_0, zf_22_0, zf_42_0, zf_59_0, zf_96_0, zf_116_0, zT95_8, zr_iload_1, zT95_9, zr_iv_190, zT95_12, zr_if_eq, zT95_15, zT95_16, zT95_19, zT95_20, zr_iv_191, zT95_23, zT95_26, zT95_27, zr_ic_m2, zT95_29, zr_ic_m10, zT95_31, zr_iv_117, zT95_34, zr_ret0, zT95_35, zT95_36, zT95_37, zr_iv_118, zcl_i, zcl_r, zcl_l, zcl_n, zv_some, zv_none, Nat.reduceAdd, Nat.reduceMul, Nat.reduceSub, Nat.reduceLT, Nat.reduceLeDiff, Nat.reduceEqDiff, Int.reduceToNat, true_implies, false_implies, implies_true, and_true, true_and, not_true_eq_false, not_false_eq_true, Nat.zero_add, Nat.add_zero, nI_add, nI_ltI, nI_leI, nI_eq, pk_mul, pk_sub, u2_same, u2_row, u2_other, n1, hd, ad, zB_eq0, reduceCtorEq, olt_T, olt_F, ole_T, ole_F, oeq_T, oeq_F]
        refine sx_canGoOn hf hg.1.1 hr lb (fun f1 h1 h2 => ?_)
        have same := a_key_same hg.1.1 lb c3
        have een : a_en (ws 0) (ws 0 54) (a_keyOf (ws 0) b (ws 0 13) 0 63) = a_en (ws 0) (ws 0 54) (a_keyS (ws 0) (a_S (ws 0)) b) := a_enough_congr same
        have hs1 : z_XS f1 ws nn tx := h.same (fun j hj => h2 j (by omega)) (h.2.2.2.2.frame (fun j j1 j2 => h2 j (by omega)))
        have back : ∀ a f2, z_XQ fi fl fr Q a ws nn tx → (∀ j, j < 61 ∨ 69 < j → f2 j = f1 j) → Q (some (.int a)) (151, f2, fl, fr) := by
          intro a f2 hq hf2
          refine hq f2 (hs1.same (fun j hj => hf2 j (by omega)) (hs1.2.2.2.2.frame (fun j j1 j2 => hf2 j (by omega)))) (fun j hj => ?_)
          rw [hf2 j (by omega), h2 j (by omega)]
        cases c4 : a_en (ws 0) (ws 0 54) (a_keyS (ws 0) (a_S (ws 0)) b)
        · rw [c4, if_neg (by decide)] at hQ
          rw [een, c4]
          simp (disch := first | assumption | rfl | exact zle_0 | exact zle_1 | exact zle_2 | exact zle_3 | exact zle_4 | exact zb_0 | exact zb_1 | exact zb01_B | omega) only [zT95_40, zr_if_ne, zT95_43, zr_ic_m1, zT95_44, zr_ret0, zcl_i, zcl_r, zcl_l, zcl_n, zv_some, zv_none, Nat.reduceAdd, Nat.reduceMul, Nat.reduceSub, Nat.reduceLT, Nat.reduceLeDiff, Nat.reduceEqDiff, Int.reduceToNat, true_implies, false_implies, implies_true, and_true, true_and, not_true_eq_false, not_false_eq_true, Nat.zero_add, Nat.add_zero, nI_add, nI_ltI, nI_leI, nI_eq, pk_mul, pk_sub, u2_same, u2_row, u2_other, zB_eq0, olt_T, olt_F, ole_T, ole_F, oeq_T, oeq_F]
          exact back _ f1 hQ (fun _ _ => rfl)
        · rw [c4, if_pos rfl] at hQ
          rw [een, c4]
          have hr1 : z_KR f1 19 (ws 0) := hs1.1.1
          have ko := fun Q => sp_keyOf (fl := fl) (Q := Q) hk hr1 hg.1.1 (b := b) (by omega)
          have kl := (a_keyOf_at hg.1.1 (b := b) (j := 0) (by decide) (ws 0 13) 0 63 (by decide) (by omega)).1
          simp (disch := first | assumption | rfl | exact zle_0 | exact zle_1 | exact zle_2 | exact zle_3 | exact zle_4 | exact zb_0 | exact zb_1 | exact zb01_B | omega) only [zT95_40, zr_if_ne, zT95_43, zr_ic_m1, zT95_44, zr_ret0, zT95_45, zr_aload_0, zT95_46, zr_gf_4, zr_or, zr_go, zf_18_4, zT95_49, zT95_50, zr_gf_0, zf_18_0, zf_22_0, zf_42_0, zf_59_0, zf_96_0, zf_116_0, zT95_53, zr_iload_1, zT95_54, zr_iv_194, zT95_57, zr_iv_144, zcl_i, zcl_r, zcl_l, zcl_n, zv_some, zv_none, Nat.reduceAdd, Nat.reduceMul, Nat.reduceSub, Nat.reduceLT, Nat.reduceLeDiff, Nat.reduceEqDiff, Int.reduceToNat, true_implies, false_implies, implies_true, and_true, true_and, not_true_eq_false, not_false_eq_true, Nat.zero_add, Nat.add_zero, nI_add, nI_ltI, nI_leI, nI_eq, pk_mul, pk_sub, u2_same, u2_row, u2_other, zB_eq0, reduceCtorEq, ko, olt_T, olt_F, ole_T, ole_F, oeq_T, oeq_F]
          refine sp_lineUp hf hg.1.1 kl hr1 h1 (fun c _ => a_ok c) (een.trans c4) (fun f2 g1 g2 => ?_)
          rw [l_all_congr same, show a_line (l_all (ws 0) (a_keyS (ws 0) (a_S (ws 0)) b) 3 0) (a_hands (ws 0) (ws 0 54)) = a_rowS (ws 0) (a_S (ws 0)) b from rfl] at g1
          obtain ⟨r18, -, rl, r68, -⟩ := g1
          generalize a_rowS (ws 0) (a_S (ws 0)) b = R at *
          by_cases c5 : j < R.length
          · have ir := fun Q => sp_inRow (fi := f2) (fl := fl) (Q := Q) hf r18 rl c5
            have e68 := r68 j _ (List.getElem?_eq_getElem c5)
            rw [List.getElem?_eq_getElem c5] at hQ
            simp (disch := first | assumption | rfl | exact zle_0 | exact zle_1 | exact zle_2 | exact zle_3 | exact zle_4 | exact zb_0 | exact zb_1 | exact zb01_B | omega) only [zT95_60, zr_aload_0, zT95_61, zr_gf_4, zr_or, zr_go, zf_18_4, zT95_64, zr_iload_2, zT95_65, zr_iv_147, zT95_68, zr_ret0, zcl_i, zcl_r, zcl_l, zcl_n, zv_some, zv_none, Nat.reduceAdd, Nat.reduceMul, Nat.reduceSub, Nat.reduceLT, Nat.reduceLeDiff, Nat.reduceEqDiff, Int.reduceToNat, true_implies, false_implies, implies_true, and_true, true_and, not_true_eq_false, not_false_eq_true, Nat.zero_add, Nat.add_zero, nI_add, nI_ltI, nI_leI, nI_eq, pk_mul, pk_sub, u2_same, u2_row, u2_other, ir, e68, olt_T, olt_F, ole_T, ole_F, oeq_T, oeq_F]
            exact back _ f2 hQ g2
          · have ir := fun Q => sp_inRow_few (fi := f2) (fl := fl) (Q := Q) hf r18 rl (show R.length ≤ j by omega) ly
            rw [List.getElem?_eq_none (by omega)] at hQ
            simp (disch := first | assumption | rfl | exact zle_0 | exact zle_1 | exact zle_2 | exact zle_3 | exact zle_4 | exact zb_0 | exact zb_1 | exact zb01_B | omega) only [zT95_60, zr_aload_0, zT95_61, zr_gf_4, zr_or, zr_go, zf_18_4, zT95_64, zr_iload_2, zT95_65, zr_iv_147, zT95_68, zr_ret0, zcl_i, zcl_r, zcl_l, zcl_n, zv_some, zv_none, Nat.reduceAdd, Nat.reduceMul, Nat.reduceSub, Nat.reduceLT, Nat.reduceLeDiff, Nat.reduceEqDiff, Int.reduceToNat, true_implies, false_implies, implies_true, and_true, true_and, not_true_eq_false, not_false_eq_true, Nat.zero_add, Nat.add_zero, nI_add, nI_ltI, nI_leI, nI_eq, pk_mul, pk_sub, u2_same, u2_row, u2_other, ir, olt_T, olt_F, ole_T, ole_F, oeq_T, oeq_F]
            exact back _ f2 hQ g2
      · rw [c3] at ad
        rw [if_neg (fun q => by rw [c3] at q; exact absurd q.2.2.2 (by decide))] at hQ
        have o := z_XQ.ref (Or.inl rfl) h hQ
        simp (disch := first | assumption | rfl | exact zle_0 | exact zle_1 | exact zle_2 | exact zle_3 | exact zle_4 | exact zb_0 | exact zb_1 | exact zb01_B | omega) only [zT95_0, zr_iload_2, zT95_1, zr_if_lt, zT95_4, zr_aload_0, zT95_5, zr_gf_0, zr_or, zr_go, zf_18_0, zf_22_0, zf_42_0, zf_59_0, zf_96_0, zf_116_0, zT95_8, zr_iload_1, zT95_9, zr_iv_190, zT95_12, zr_if_eq, zT95_15, zT95_16, zT95_19, zT95_20, zr_iv_191, zT95_23, zT95_26, zT95_27, zr_ic_m2, zT95_29, zr_ic_m10, zT95_31, zr_iv_117, zT95_34, zr_ret0, zcl_i, zcl_r, zcl_l, zcl_n, zv_some, zv_none, Nat.reduceAdd, Nat.reduceMul, Nat.reduceSub, Nat.reduceLT, Nat.reduceLeDiff, Nat.reduceEqDiff, Int.reduceToNat, true_implies, false_implies, implies_true, and_true, true_and, not_true_eq_false, not_false_eq_true, Nat.zero_add, Nat.add_zero, nI_add, nI_ltI, nI_leI, nI_eq, pk_mul, pk_sub, u2_same, u2_row, u2_other, n1, hd, ad, zB_eq0, reduceCtorEq, rfs, olt_T, olt_F, ole_T, ole_F, oeq_T, oeq_F]
        exact o
    · rw [decide_eq_false c2] at hd
      rw [if_neg (fun q => c2 ⟨q.1, q.2.1⟩)] at hQ
      have o := z_XQ.ref (Or.inl rfl) h hQ
      simp (disch := first | assumption | rfl | exact zle_0 | exact zle_1 | exact zle_2 | exact zle_3 | exact zle_4 | exact zb_0 | exact zb_1 | exact zb01_B | omega) only [zT95_0, zr_iload_2, zT95_1, zr_if_lt, zT95_4, zr_aload_0, zT95_5, zr_gf_0, zr_or, zr_go, zf_18_0, zf_22_0, zf_42_0, zf_59_0, zf_96_0, zf_116_0, zT95_8, zr_iload_1, zT95_9, zr_iv_190, zT95_12, zr_if_eq, zT95_15, zT95_16, zT95_19, zT95_20, zr_iv_191, zT95_23, zT95_26, zT95_27, zr_ic_m2, zT95_29, zr_ic_m10, zT95_31, zr_iv_117, zT95_34, zr_ret0, zcl_i, zcl_r, zcl_l, zcl_n, zv_some, zv_none, Nat.reduceAdd, Nat.reduceMul, Nat.reduceSub, Nat.reduceLT, Nat.reduceLeDiff, Nat.reduceEqDiff, Int.reduceToNat, true_implies, false_implies, implies_true, and_true, true_and, not_true_eq_false, not_false_eq_true, Nat.zero_add, Nat.add_zero, nI_add, nI_ltI, nI_leI, nI_eq, pk_mul, pk_sub, u2_same, u2_row, u2_other, n1, hd, zB_eq0, rfs, olt_T, olt_F, ole_T, ole_F, oeq_T, oeq_F]
      exact o
  · have n1 : (y < nI 0) = True := eq_true (by rw [Int32.lt_iff_toInt_lt, nI_toInt (by decide)]; omega)
    rw [if_neg (fun q => c1 q.2.2.1)] at hQ
    have o := z_XQ.ref (Or.inl rfl) h hQ
    simp (disch := first | assumption | rfl | exact zle_0 | exact zle_1 | exact zle_2 | exact zle_3 | exact zle_4 | exact zb_0 | exact zb_1 | exact zb01_B | omega) only [zT95_0, zr_iload_2, zT95_1, zr_if_lt, zT95_4, zr_aload_0, zT95_5, zr_gf_0, zr_or, zr_go, zf_18_0, zf_22_0, zf_42_0, zf_59_0, zf_96_0, zf_116_0, zT95_8, zr_iload_1, zT95_9, zr_iv_190, zT95_12, zr_if_eq, zT95_15, zT95_16, zT95_19, zT95_20, zr_iv_191, zT95_23, zT95_26, zT95_27, zr_ic_m2, zT95_29, zr_ic_m10, zT95_31, zr_iv_117, zT95_34, zr_ret0, zcl_i, zcl_r, zcl_l, zcl_n, zv_some, zv_none, Nat.reduceAdd, Nat.reduceMul, Nat.reduceSub, Nat.reduceLT, Nat.reduceLeDiff, Nat.reduceEqDiff, Int.reduceToNat, true_implies, false_implies, implies_true, and_true, true_and, not_true_eq_false, not_false_eq_true, Nat.zero_add, Nat.add_zero, nI_add, nI_ltI, nI_leI, nI_eq, pk_mul, pk_sub, u2_same, u2_row, u2_other, n1, rfs, olt_T, olt_F, ole_T, ole_F, oeq_T, oeq_F]
    exact o
theorem sx_cooked (hf : z_FR fr) (h : z_XS fi ws nn tx) (hg : z_G ws nn) {x : Int32} (hQ : z_XQ fi fl fr Q (r_cooked ws nn x).1 (r_cooked ws nn x).2.1 (r_cooked ws nn x).2.2 tx) : TT 105 0 [some (.ref 18), some (.int x)] [] (151, fi, fl, fr) Q := by
  have o18 : z_ok 151 18 10 = true := rfl; have o19 : z_ok 151 19 16 = true := rfl; have o70 : z_ok 151 70 18 = true := rfl
  have hk := z_Kok_of hf (k := 19) (by decide)
  have hr := h.1.1
  have h13 := hg.1.1.2.2.1
  have e8 : 2 ^ ws 0 13 ≤ 2 ^ 3 := Nat.pow_le_pow_right (by decide) h13
  have hd := fun Q => sp_hasDishes (fl := fl) (fr := fr) (Q := Q) (x := x) o19 hr.1.2.1 h13
  have rfs := fun fi Q => sp_refuse (fi := fi) (fl := fl) (fr := fr) (Q := Q) (r := 2) (x := nM 2) (Or.inl rfl)
  have rfn := fun fi Q => sp_refuse (fi := fi) (fl := fl) (fr := fr) (Q := Q) (r := 3) (x := nM 3) (Or.inr (Or.inl rfl))
  unfold r_cooked at hQ
  by_cases c0 : x = nI 0
  · subst c0
    rw [if_neg (by rw [nI_toInt (by decide)]; omega)] at hQ
    have o := z_XQ.ref (Or.inl rfl) h hQ
    simp (disch := first | assumption | rfl | exact zle_0 | exact zle_1 | exact zle_2 | exact zle_3 | exact zle_4 | exact zb_0 | exact zb_1 | exact zb01_B | omega) only [zT105_0, zr_iload_1, zT105_1, zr_if_eq, zT105_4, zr_aload_0, zT105_5, zr_gf_0, zr_or, zr_go, zf_18_0, zf_22_0, zf_42_0, zf_59_0, zf_96_0, zf_116_0, zT105_8, zT105_9, zr_iv_190, zT105_12, zr_if_ne, zT105_15, zT105_16, zr_ic_m2, zT105_18, zT105_20, zr_iv_117, zT105_23, zr_ret0, zcl_i, zcl_r, zcl_l, zcl_n, zv_some, zv_none, Nat.reduceAdd, Nat.reduceMul, Nat.reduceSub, Nat.reduceLT, Nat.reduceLeDiff, Nat.reduceEqDiff, Int.reduceToNat, true_implies, false_implies, implies_true, and_true, true_and, not_true_eq_false, not_false_eq_true, Nat.zero_add, Nat.add_zero, nI_add, nI_ltI, nI_leI, nI_eq, pk_mul, pk_sub, u2_same, u2_row, u2_other, rfs, olt_T, olt_F, ole_T, ole_F, oeq_T, oeq_F]
    exact o
  · have nz : (x = nI 0) = False := eq_false c0
    by_cases c2 : 0 ≤ x.toInt ∧ x.toInt < 2 ^ ws 0 13
    · rw [decide_eq_true c2] at hd
      obtain ⟨ex, lx⟩ := nI_ofInt c2.1
      have x0 : x.toInt.toNat ≠ 0 := fun q => c0 (by rw [ex, q])
      have lb : x.toInt.toNat < 2 ^ ws 0 13 := by
        have := c2.2
        have e : ((2 ^ ws 0 13 : Nat) : Int) = (2 : Int) ^ ws 0 13 := by simp
        omega
      rw [if_pos ⟨by omega, c2.2⟩] at hQ
      generalize hx : x.toInt.toNat = b at *
      have ad := fun Q => sp_anyDone (fl := fl) (Q := Q) hk hr hg.1.1 (b := b) (by omega)
      have bg := fun Q => sp_begun (fl := fl) (Q := Q) hk hr hg.1.1
      have bg8 := a_begun_lt (w := ws 0) (ws 0 13) 0 0 (by decide) (by omega)
      have gi := a_go_iff hg.1.1 lb
      have sub := a_sub8 bg8 (show b < 8 by omega)
      rw [ex] at hd nz ⊢
      have xl : a_begun (ws 0) (ws 0 13) 0 0 ^^^ (a_begun (ws 0) (ws 0 13) 0 0 &&& b) < 2 ^ 3 := Nat.xor_lt_two_pow bg8 (Nat.lt_of_le_of_lt Nat.and_le_left bg8)
      have no : a_mvN (ws 0) (a_S (ws 0)) b ≠ true → ∀ f1, z_XS f1 ws nn tx → (∀ j, j < 61 ∨ 67 < j → f1 j = fi j) → Q (some (.int (nM 3))) (151, nt f1 (nM 3), fl, fr) := by
        intro hne f1 hs1 hf1
        rw [if_neg hne] at hQ
        exact z_XQ.ref (fi := f1) (Or.inr (Or.inl rfl)) hs1 (fun f' q1 q2 => hQ f' q1 (fun j hj => by rw [q2 j hj, hf1 j (by omega)]))
      cases c3 : a_anyDone (ws 0) b (ws 0 13) 0
      · rw [c3] at ad
        by_cases c4 : a_begun (ws 0) (ws 0 13) 0 0 ^^^ (a_begun (ws 0) (ws 0 13) 0 0 &&& b) = 0
        · simp (disch := first | assumption | rfl | exact zle_0 | exact zle_1 | exact zle_2 | exact zle_3 | exact zle_4 | exact zb_0 | exact zb_1 | exact zb01_B | omega) only [zT105_0, zr_iload_1, zT105_1, zr_if_eq, zT105_4, zr_aload_0, zT105_5, zr_gf_0, zr_or, zr_go, zf_18_0, zf_22_0, zf_42_0, zf_59_0, zf_96_0, zf_116_0, zT105_8, zT105_9, zr_iv_190, zT105_12, zr_if_ne, zT105_15, zT105_16, zr_ic_m2, zT105_18, zT105_20, zr_iv_117, zT105_23, zr_ret0, zT105_24, zT105_25, zT105_28, zT105_29, zr_iv_191, zT105_32, zT105_35, zT105_36, zT105_39, zr_iv_193, zT105_42, zT105_43, zr_ic_m1, zT105_44, zr_ixor, zT105_45, zr_iand, zT105_46, zT105_49, zT105_50, zT105_51, zr_iv_118, zcl_i, zcl_r, zcl_l, zcl_n, zv_some, zv_none, Nat.reduceAdd, Nat.reduceMul, Nat.reduceSub, Nat.reduceLT, Nat.reduceLeDiff, Nat.reduceEqDiff, Int.reduceToNat, true_implies, false_implies, implies_true, and_true, true_and, not_true_eq_false, not_false_eq_true, Nat.zero_add, Nat.add_zero, nI_add, nI_ltI, nI_leI, nI_eq, pk_mul, pk_sub, u2_same, u2_row, u2_other, nz, hd, ad, bg, zB_eq0, reduceCtorEq, b_andn, c4, olt_T, olt_F, ole_T, ole_F, oeq_T, oeq_F]
          refine sx_canGoOn hf hg.1.1 hr lb (fun f1 h1 h2 => ?_)
          have same := a_key_same hg.1.1 lb c3
          have een : a_en (ws 0) (ws 0 54) (a_keyOf (ws 0) b (ws 0 13) 0 63) = a_en (ws 0) (ws 0 54) (a_keyS (ws 0) (a_S (ws 0)) b) := a_enough_congr same
          have hs1 : z_XS f1 ws nn tx := h.same (fun j hj => h2 j (by omega)) (h.2.2.2.2.frame (fun j j1 j2 => h2 j (by omega)))
          rw [een]
          cases c5 : a_en (ws 0) (ws 0 54) (a_keyS (ws 0) (a_S (ws 0)) b)
          · have o := no (fun q => by have := (gi.mp q).2.2; rw [c5] at this; exact absurd this (by decide)) f1 hs1 h2
            simp (disch := first | assumption | rfl | exact zle_0 | exact zle_1 | exact zle_2 | exact zle_3 | exact zle_4 | exact zb_0 | exact zb_1 | exact zb01_B | omega) only [zT105_54, zr_if_ne, zT105_57, zr_aload_0, zT105_58, zr_ic_m3, zT105_60, zT105_62, zr_iv_117, zT105_65, zr_ret0, zcl_i, zcl_r, zcl_l, zcl_n, zv_some, zv_none, Nat.reduceAdd, Nat.reduceMul, Nat.reduceSub, Nat.reduceLT, Nat.reduceLeDiff, Nat.reduceEqDiff, Int.reduceToNat, true_implies, false_implies, implies_true, and_true, true_and, not_true_eq_false, not_false_eq_true, Nat.zero_add, Nat.add_zero, nI_add, nI_ltI, nI_leI, nI_eq, pk_mul, pk_sub, u2_same, u2_row, u2_other, zB_eq0, rfn, olt_T, olt_F, ole_T, ole_F, oeq_T, oeq_F]
            exact o
          · have yes := gi.mpr ⟨c3, sub.mp c4, c5⟩
            rw [if_pos yes] at hQ
            dsimp only at hQ
            have hr1 : z_KR (u2 f1 70 55 (nI 0)) 19 (ws 0) := hs1.1.1.fr (fun j j1 j2 => u2_ne (by omega))
            have hWn := a_on_W hg.1 (by omega) lb yes
            have l58 : ws 0 58 < 45 := by
              have := hWn.le
              have e58 : a_on (ws 0) b 58 = ws 0 58 + 1 := by
                unfold a_on
                rw [if_neg (by omega), if_pos rfl]
              omega
            have go := fun Q => sp_goOn (fl := fl) (Q := Q) hk hr1 h13 l58 (b := b) (by omega)
            have K := k_on_K hr1 hg.1.1.1 h13 l58 hg.1.sm (b := b)
            have fr0 : ∀ j, j < 19 ∨ 39 ≤ j → k_on (u2 f1 70 55 (nI 0)) 19 b (ws 0 58) (ws 0 13) j = u2 f1 70 55 (nI 0) j := by
              intro j hj
              funext f
              unfold k_on
              rw [k_bring_ne _ _ _ _ _ (Or.inl (fun d d1 d2 => by omega)), u2_other (by omega), u2_other (by omega)]
            have dc := fun Q => sp_doneCount (fl := fl) (Q := Q) hk K hWn.1
            rw [a_on_lo (show 13 < 55 by decide)] at dc
            simp (disch := first | assumption | rfl | exact zle_0 | exact zle_1 | exact zle_2 | exact zle_3 | exact zle_4 | exact zb_0 | exact zb_1 | exact zb01_B | omega) only [zT105_54, zr_if_ne, zT105_57, zr_aload_0, zT105_58, zr_ic_m3, zT105_60, zT105_62, zr_iv_117, zT105_65, zr_ret0, zT105_66, zT105_67, zr_gf_5, zr_or, zr_go, zf_18_5, zT105_70, zr_iv_206, zT105_73, zT105_74, zr_gf_0, zf_18_0, zf_22_0, zf_42_0, zf_59_0, zf_96_0, zf_116_0, zT105_77, zr_iload_1, zT105_78, zr_iv_195, zT105_81, zT105_82, zT105_85, zr_iv_192, zT105_88, zT206_0, zT206_1, zr_ic_0, zT206_2, zr_pf_55, zT206_5, zr_return, zcl_i, zcl_r, zcl_l, zcl_n, zv_some, zv_none, Nat.reduceAdd, Nat.reduceMul, Nat.reduceSub, Nat.reduceLT, Nat.reduceLeDiff, Nat.reduceEqDiff, Int.reduceToNat, true_implies, false_implies, implies_true, and_true, true_and, not_true_eq_false, not_false_eq_true, Nat.zero_add, Nat.add_zero, nI_add, nI_ltI, nI_leI, nI_eq, pk_mul, pk_sub, u2_same, u2_row, u2_other, zB_eq0, reduceCtorEq, go, dc, olt_T, olt_F, ole_T, ole_F, oeq_T, oeq_F]
            exact hQ _ (hs1.kit K fr0) (fun j hj => by rw [fr0 j (by omega), u2_ne (by omega), h2 j (by omega)])
        · have o := no (fun q => c4 (sub.mpr (gi.mp q).2.1)) fi h (fun _ _ => rfl)
          have xn : (nI (a_begun (ws 0) (ws 0 13) 0 0 ^^^ (a_begun (ws 0) (ws 0 13) 0 0 &&& b)) = nI 0) = False := by
            rw [nI_eq (by omega) (by decide)]; exact eq_false c4
          simp (disch := first | assumption | rfl | exact zle_0 | exact zle_1 | exact zle_2 | exact zle_3 | exact zle_4 | exact zb_0 | exact zb_1 | exact zb01_B | omega) only [zT105_0, zr_iload_1, zT105_1, zr_if_eq, zT105_4, zr_aload_0, zT105_5, zr_gf_0, zr_or, zr_go, zf_18_0, zf_22_0, zf_42_0, zf_59_0, zf_96_0, zf_116_0, zT105_8, zT105_9, zr_iv_190, zT105_12, zr_if_ne, zT105_15, zT105_16, zr_ic_m2, zT105_18, zT105_20, zr_iv_117, zT105_23, zr_ret0, zT105_24, zT105_25, zT105_28, zT105_29, zr_iv_191, zT105_32, zT105_35, zT105_36, zT105_39, zr_iv_193, zT105_42, zT105_43, zr_ic_m1, zT105_44, zr_ixor, zT105_45, zr_iand, zT105_46, zT105_49, zT105_50, zT105_51, zr_iv_118, zT105_54, zT105_57, zT105_58, zr_ic_m3, zT105_60, zT105_62, zT105_65, zcl_i, zcl_r, zcl_l, zcl_n, zv_some, zv_none, Nat.reduceAdd, Nat.reduceMul, Nat.reduceSub, Nat.reduceLT, Nat.reduceLeDiff, Nat.reduceEqDiff, Int.reduceToNat, true_implies, false_implies, implies_true, and_true, true_and, not_true_eq_false, not_false_eq_true, Nat.zero_add, Nat.add_zero, nI_add, nI_ltI, nI_leI, nI_eq, pk_mul, pk_sub, u2_same, u2_row, u2_other, nz, hd, ad, bg, zB_eq0, reduceCtorEq, b_andn, xn, rfn, olt_T, olt_F, ole_T, ole_F, oeq_T, oeq_F]
          exact o
      · rw [c3] at ad
        have o := no (fun q => by have := (gi.mp q).1; rw [c3] at this; exact absurd this (by decide)) fi h (fun _ _ => rfl)
        simp (disch := first | assumption | rfl | exact zle_0 | exact zle_1 | exact zle_2 | exact zle_3 | exact zle_4 | exact zb_0 | exact zb_1 | exact zb01_B | omega) only [zT105_0, zr_iload_1, zT105_1, zr_if_eq, zT105_4, zr_aload_0, zT105_5, zr_gf_0, zr_or, zr_go, zf_18_0, zf_22_0, zf_42_0, zf_59_0, zf_96_0, zf_116_0, zT105_8, zT105_9, zr_iv_190, zT105_12, zr_if_ne, zT105_15, zT105_16, zr_ic_m2, zT105_18, zT105_20, zr_iv_117, zT105_23, zr_ret0, zT105_24, zT105_25, zT105_28, zT105_29, zr_iv_191, zT105_32, zT105_35, zT105_36, zT105_39, zr_iv_193, zT105_42, zT105_43, zr_ic_m1, zT105_44, zr_ixor, zT105_45, zr_iand, zT105_46, zT105_49, zT105_50, zT105_51, zr_iv_118, zT105_54, zT105_57, zT105_58, zr_ic_m3, zT105_60, zT105_62, zT105_65, zcl_i, zcl_r, zcl_l, zcl_n, zv_some, zv_none, Nat.reduceAdd, Nat.reduceMul, Nat.reduceSub, Nat.reduceLT, Nat.reduceLeDiff, Nat.reduceEqDiff, Int.reduceToNat, true_implies, false_implies, implies_true, and_true, true_and, not_true_eq_false, not_false_eq_true, Nat.zero_add, Nat.add_zero, nI_add, nI_ltI, nI_leI, nI_eq, pk_mul, pk_sub, u2_same, u2_row, u2_other, nz, hd, ad, zB_eq0, reduceCtorEq, rfn, olt_T, olt_F, ole_T, ole_F, oeq_T, oeq_F]
        exact o
    · rw [decide_eq_false c2] at hd
      rw [if_neg (fun q => c2 ⟨by omega, q.2⟩)] at hQ
      have o := z_XQ.ref (Or.inl rfl) h hQ
      simp (disch := first | assumption | rfl | exact zle_0 | exact zle_1 | exact zle_2 | exact zle_3 | exact zle_4 | exact zb_0 | exact zb_1 | exact zb01_B | omega) only [zT105_0, zr_iload_1, zT105_1, zr_if_eq, zT105_4, zr_aload_0, zT105_5, zr_gf_0, zr_or, zr_go, zf_18_0, zf_22_0, zf_42_0, zf_59_0, zf_96_0, zf_116_0, zT105_8, zT105_9, zr_iv_190, zT105_12, zr_if_ne, zT105_15, zT105_16, zr_ic_m2, zT105_18, zT105_20, zr_iv_117, zT105_23, zr_ret0, zcl_i, zcl_r, zcl_l, zcl_n, zv_some, zv_none, Nat.reduceAdd, Nat.reduceMul, Nat.reduceSub, Nat.reduceLT, Nat.reduceLeDiff, Nat.reduceEqDiff, Int.reduceToNat, true_implies, false_implies, implies_true, and_true, true_and, not_true_eq_false, not_false_eq_true, Nat.zero_add, Nat.add_zero, nI_add, nI_ltI, nI_leI, nI_eq, pk_mul, pk_sub, u2_same, u2_row, u2_other, nz, hd, zB_eq0, rfs, olt_T, olt_F, ole_T, ole_F, oeq_T, oeq_F]
      exact o
end
