/-! the calls about the plan -/
def a_FE (w : Nat → Nat) (hl : Nat → Nat) (er el : Nat) : Nat := a_FW w (a_enough w hl er el) (a_S w)
def a_nw (w : Nat → Nat) : Nat := a_FN w (a_S w)
def r_row (ws : Nat → Nat → Nat) (nn : Nat → Nat) (x : Int32) : Int32 × (Nat → Nat) := if 0 ≤ x.toInt then (if a_nw (ws 0) ≠ 100 ∧ x.toInt.toNat < a_nw (ws 0) then nI (a_qN (ws 0) x.toInt.toNat) else nM 5, nn) else (nM 10, rf nn 2)
def r_cold (ws : Nat → Nat → Nat) (nn : Nat → Nat) (x : Int32) : Int32 × (Nat → Nat) := if 0 ≤ x.toInt ∧ x.toInt ≤ 60 then (if a_C (ws 0) x.toInt.toNat (a_S (ws 0)) < 1000000 then nI (a_C (ws 0) x.toInt.toNat (a_S (ws 0))) else nM 1, nn) else (nM 2, rf nn 2)
def a_hlp (w : Nat → Nat) (x : Nat) : Nat := a_FE w (a_hands w (w 54)) (if x = 0 then 1 else 0) (if x = 0 then 0 else 1)
def r_help (ws : Nat → Nat → Nat) (nn : Nat → Nat) (x : Int32) : Int32 × (Nat → Nat) := if 0 ≤ x.toInt ∧ x.toInt ≤ 1 then (if a_hlp (ws 0) x.toInt.toNat = 100 then nM 1 else nI (if a_nw (ws 0) = 100 then 1000 else a_nw (ws 0)) - nI (a_hlp (ws 0) x.toInt.toNat), nn) else (nM 10, rf nn 2)
def a_away (w : Nat → Nat) (c : Nat) : Nat := a_FE w (uh (a_hands w (w 54)) c (h_off (a_hands w (w 54) c))) 0 0
def r_spared (w : Nat → Nat) : Int32 := if a_nw w = 100 then nM 1 else nI (msk (fun c => decide (a_away w c = a_nw w)) (w 0))
def r_strikeCost (w : Nat → Nat) : Int32 := if a_FE w (a_hands w 1) 0 0 = 100 ∨ a_FE w (a_hands w 0) 0 0 = 100 then nM 1 else nI (a_FE w (a_hands w 1) 0 0) - nI (a_FE w (a_hands w 0) 0 0)
def a_menu (w : Nat → Nat) (m : Nat) : Nat → Nat → Nat → Nat
  | 0, _, best => best
  | k + 1, b, best => a_menu w m k (b + 1) (if a_FN w (a_fs w b) ≠ 100 ∧ a_FN w (a_fs w b) ≤ m ∧ pop best < pop b then b else best)
def r_menu (ws : Nat → Nat → Nat) (nn : Nat → Nat) (x : Int32) : Int32 × (Nat → Nat) := if 0 ≤ x.toInt ∧ x.toInt ≤ 60 then (nI (a_menu (ws 0) x.toInt.toNat (2 ^ ws 0 13 - 1) 1 0), nn) else (nM 2, rf nn 2)
section
variable {fi fi' : Nat → Nat → Int32} {fl : Nat → Nat → Int64} {fr : Nat → Nat → Option Nat} {Q : Option Value → Mm → Prop} {w : Nat → Nat} {k : Nat} {M : Mm} {ws : Nat → Nat → Nat} {nn tx : Nat → Nat}
theorem a_FW_45 (hw : a_WF w) {en : Nat → Bool} : a_FW w en (a_S w) ≤ 45 ∨ a_FW w en (a_S w) = 100 := a_FW_le hw (a_box_S hw)
theorem sx_plan (hf : z_FR fr) (h : z_XS fi ws nn tx) (hg : z_G ws nn)
    (hQ : ∀ fi', z_XS fi' ws nn tx → z_Plan fi' (ws 0) → (∀ j, j < 61 ∨ 82 < j → fi' j = fi j) → Q (some (.int (iF (a_nw (ws 0))))) (151, fi', fl, fr)) :
    TT 207 0 [some (.ref 70)] [] (151, fi, fl, fr) Q := by
  obtain ⟨kn, h1, h2⟩ := h.2.2.2.2
  refine sp_plan hf hg.1.1 h.1.1 h1 h2 (fun f1 g1 g2 g3 => hQ f1 (h.same (fun j hj => g3 j (by omega)) ⟨true, g2, fun _ => g1⟩) g1 g3)
theorem sx_fewest (hf : z_FR fr) (h : z_XS fi ws nn tx) (hg : z_G ws nn) {hl : Nat → Nat} {th : Nat → Bool} {er el : Nat} (he : er ≤ 1 ∧ el ≤ 1) (hc : z_CR fi hl th er el 6)
    (hQ : ∀ fi', z_XS fi' ws nn tx → (∀ j, j < 61 ∨ 82 < j → fi' j = fi j) → Q (some (.int (iF (a_FE (ws 0) hl er el)))) (151, fi', fl, fr)) :
    TT 208 0 [some (.ref 70)] [] (151, fi, fl, fr) Q :=
  sp_fewest hf hg.1.1 he h.1.1 hc (fun f1 g1 g2 => hQ f1 (h.same (fun j hj => g2 j (by omega)) ⟨false, g1, fun e => absurd e (by decide)⟩) g2)
theorem sx_gather (hf : z_FR fr) (h : z_XS fi ws nn tx) (hg : z_G ws nn) {b : Nat} (hb : b ≤ 1)
    (hQ : ∀ fi', z_XS fi' ws nn tx → z_CR fi' (a_hands (ws 0) b) (a_thumb (ws 0)) 0 0 6 → (∀ j, j < 62 ∨ 66 < j → fi' j = fi j) → Q none (151, fi', fl, fr)) :
    TT 138 0 [some (.ref 61), some (.int (nI b)), none, none] [] (151, fi, fl, fr) Q :=
  sp_gather hf hb hg.1.1.1 (fun c hc => (hg.1.1.2.1 c hc).1) h.1.1.k0 (fun f1 g1 g2 => hQ f1 (h.same (fun j hj => g2 j (by omega)) (h.2.2.2.2.frame (fun j j1 j2 => g2 j (by omega)))) g1 g2)
theorem sx_soonest (hf : z_FR fr) (h : z_XS fi ws nn tx) (hg : z_G ws nn) (hQ : z_XQ fi fl fr Q (iF (a_nw (ws 0))) ws nn tx) : TT 93 0 [some (.ref 18)] [] (151, fi, fl, fr) Q := by
  have o18 : z_ok 151 18 10 = true := rfl; have o70 : z_ok 151 70 18 = true := rfl
  simp (disch := first | assumption | rfl | exact zle_0 | exact zle_1 | exact zle_2 | exact zle_3 | exact zle_4 | exact zb_0 | exact zb_1 | exact zb01_B | omega) only [zT93_0, zr_aload_0, zT93_1, zr_gf_5, zr_or, zr_go, zf_18_5, zT93_4, zr_iv_207, zcl_i, zcl_r, zcl_l, zcl_n, zv_some, zv_none, Nat.reduceAdd, Nat.reduceMul, Nat.reduceSub, Nat.reduceLT, Nat.reduceLeDiff, Nat.reduceEqDiff, Int.reduceToNat, true_implies, false_implies, implies_true, and_true, true_and, not_true_eq_false, not_false_eq_true, Nat.zero_add, Nat.add_zero, nI_add, nI_ltI, nI_leI, nI_eq, pk_mul, pk_sub, u2_same, u2_row, u2_other, olt_T, olt_F, ole_T, ole_F, oeq_T, oeq_F]
  refine sx_plan hf h hg (fun f1 g1 g2 g3 => ?_)
  simp (disch := first | assumption | rfl | exact zle_0 | exact zle_1 | exact zle_2 | exact zle_3 | exact zle_4 | exact zb_0 | exact zb_1 | exact zb01_B | omega) only [zT93_7, zr_ret0, zcl_i, zcl_r, zcl_l, zcl_n, zv_some, zv_none, Nat.reduceAdd, Nat.reduceMul, Nat.reduceSub, Nat.reduceLT, Nat.reduceLeDiff, Nat.reduceEqDiff, Int.reduceToNat, true_implies, false_implies, implies_true, and_true, true_and, not_true_eq_false, not_false_eq_true, Nat.zero_add, Nat.add_zero, nI_add, nI_ltI, nI_leI, nI_eq, pk_mul, pk_sub, u2_same, u2_row, u2_other, olt_T, olt_F, ole_T, ole_F, oeq_T, oeq_F]
  exact hQ f1 g1 (fun j hj => g3 j (by omega))
theorem sx_row (hf : z_FR fr) (h : z_XS fi ws nn tx) (hg : z_G ws nn) {x : Int32} (hQ : z_XQ fi fl fr Q (r_row ws nn x).1 ws (r_row ws nn x).2 tx) : TT 94 0 [some (.ref 18), some (.int x)] [] (151, fi, fl, fr) Q := by
  have o18 : z_ok 151 18 10 = true := rfl; have o70 : z_ok 151 70 18 = true := rfl; have o71 : z_ok 151 71 19 = true := rfl
  have rfs := fun fi Q => sp_refuse (fi := fi) (fl := fl) (fr := fr) (Q := Q) (r := 2) (x := nM 10) (Or.inl rfl)
  unfold r_row at hQ
  by_cases c : 0 ≤ x.toInt
  · rw [if_pos c] at hQ
    have n1 : (nI 0 ≤ x) = True := eq_true (by rw [Int32.le_iff_toInt_le, nI_toInt (by decide)]; omega)
    obtain ⟨ex, lx⟩ := nI_ofInt c
    simp (disch := first | assumption | rfl | exact zle_0 | exact zle_1 | exact zle_2 | exact zle_3 | exact zle_4 | exact zb_0 | exact zb_1 | exact zb01_B | omega) only [zT94_0, zr_iload_1, zT94_1, zr_if_ge, zT94_4, zr_aload_0, zT94_5, zr_ic_m2, zT94_7, zr_ic_m10, zT94_9, zr_iv_117, zT94_12, zr_ret0, zT94_13, zT94_14, zr_gf_5, zr_or, zr_go, zf_18_5, zT94_17, zr_iv_207, zcl_i, zcl_r, zcl_l, zcl_n, zv_some, zv_none, Nat.reduceAdd, Nat.reduceMul, Nat.reduceSub, Nat.reduceLT, Nat.reduceLeDiff, Nat.reduceEqDiff, Int.reduceToNat, true_implies, false_implies, implies_true, and_true, true_and, not_true_eq_false, not_false_eq_true, Nat.zero_add, Nat.add_zero, nI_add, nI_ltI, nI_leI, nI_eq, pk_mul, pk_sub, u2_same, u2_row, u2_other, n1, olt_T, olt_F, ole_T, ole_F, oeq_T, oeq_F]
    refine sx_plan hf h hg (fun f1 g1 g2 g3 => ?_)
    obtain ⟨-, -, rw1, rw2⟩ := g2
    have sa := fun Q => sp_setAt (fl := fl) (Q := Q) hf rw1.2.1 rw1.1 lx
    rw [show a_FN (ws 0) (a_S (ws 0)) = a_nw (ws 0) from rfl] at sa rw2
    rw [← ex] at sa
    simp (disch := first | assumption | rfl | exact zle_0 | exact zle_1 | exact zle_2 | exact zle_3 | exact zle_4 | exact zb_0 | exact zb_1 | exact zb01_B | omega) only [zT94_20, zr_pop, zT94_21, zr_aload_0, zT94_22, zr_gf_5, zr_or, zr_go, zf_18_5, zT94_25, zr_gf_54, zf_70_54, zT94_28, zr_iload_1, zT94_29, zr_iv_231, zT94_32, zr_ret0, zcl_i, zcl_r, zcl_l, zcl_n, zv_some, zv_none, Nat.reduceAdd, Nat.reduceMul, Nat.reduceSub, Nat.reduceLT, Nat.reduceLeDiff, Nat.reduceEqDiff, Int.reduceToNat, true_implies, false_implies, implies_true, and_true, true_and, not_true_eq_false, not_false_eq_true, Nat.zero_add, Nat.add_zero, nI_add, nI_ltI, nI_leI, nI_eq, pk_mul, pk_sub, u2_same, u2_row, u2_other, sa, olt_T, olt_F, ole_T, ole_F, oeq_T, oeq_F]
    have o := hQ f1 g1 (fun j hj => g3 j (by omega))
    by_cases c2 : a_nw (ws 0) ≠ 100 ∧ x.toInt.toNat < a_nw (ws 0)
    · rw [if_pos c2] at o
      rw [if_neg c2.1] at rw2
      rw [if_neg c2.1, if_pos c2.2, rw2 _ c2.2]
      exact o
    · rw [if_neg c2] at o
      rw [if_neg]
      · exact o
      · by_cases c3 : a_nw (ws 0) = 100
        · rw [if_pos c3]; omega
        · rw [if_neg c3]; exact fun q => c2 ⟨c3, q⟩
  · rw [if_neg c] at hQ
    have n1 : (nI 0 ≤ x) = False := eq_false (by rw [Int32.le_iff_toInt_le, nI_toInt (by decide)]; omega)
    have o := z_XQ.ref (Or.inl rfl) h hQ
    simp (disch := first | assumption | rfl | exact zle_0 | exact zle_1 | exact zle_2 | exact zle_3 | exact zle_4 | exact zb_0 | exact zb_1 | exact zb01_B | omega) only [zT94_0, zr_iload_1, zT94_1, zr_if_ge, zT94_4, zr_aload_0, zT94_5, zr_ic_m2, zT94_7, zr_ic_m10, zT94_9, zr_iv_117, zT94_12, zr_ret0, zcl_i, zcl_r, zcl_l, zcl_n, zv_some, zv_none, Nat.reduceAdd, Nat.reduceMul, Nat.reduceSub, Nat.reduceLT, Nat.reduceLeDiff, Nat.reduceEqDiff, Int.reduceToNat, true_implies, false_implies, implies_true, and_true, true_and, not_true_eq_false, not_false_eq_true, Nat.zero_add, Nat.add_zero, nI_add, nI_ltI, nI_leI, nI_eq, pk_mul, pk_sub, u2_same, u2_row, u2_other, n1, rfs, olt_T, olt_F, ole_T, ole_F, oeq_T, oeq_F]
    exact o
theorem sx_cold (hf : z_FR fr) (h : z_XS fi ws nn tx) (hg : z_G ws nn) {x : Int32} (hQ : z_XQ fi fl fr Q (r_cold ws nn x).1 ws (r_cold ws nn x).2 tx) : TT 96 0 [some (.ref 18), some (.int x)] [] (151, fi, fl, fr) Q := by
  have o18 : z_ok 151 18 10 = true := rfl; have o70 : z_ok 151 70 18 = true := rfl
  have rfs := fun fi Q => sp_refuse (fi := fi) (fl := fl) (fr := fr) (Q := Q) (r := 2) (x := nM 2) (Or.inl rfl)
  unfold r_cold at hQ
  by_cases c : 0 ≤ x.toInt ∧ x.toInt ≤ 60
  · rw [if_pos c] at hQ
    obtain ⟨j, j2, rfl, ej⟩ := i3 (n := 60) c
    rw [ej] at hQ
    simp (disch := first | assumption | rfl | exact zle_0 | exact zle_1 | exact zle_2 | exact zle_3 | exact zle_4 | exact zb_0 | exact zb_1 | exact zb01_B | omega) only [zT96_0, zr_iload_1, zT96_1, zr_if_lt, zT96_4, zT96_5, zr_ic_60, zT96_7, zr_icmp_le, zT96_10, zr_aload_0, zT96_11, zr_ic_m2, zT96_13, zT96_15, zr_iv_117, zT96_18, zr_ret0, zT96_19, zT96_20, zr_gf_5, zr_or, zr_go, zf_18_5, zT96_23, zr_iv_207, zcl_i, zcl_r, zcl_l, zcl_n, zv_some, zv_none, Nat.reduceAdd, Nat.reduceMul, Nat.reduceSub, Nat.reduceLT, Nat.reduceLeDiff, Nat.reduceEqDiff, Int.reduceToNat, true_implies, false_implies, implies_true, and_true, true_and, not_true_eq_false, not_false_eq_true, Nat.zero_add, Nat.add_zero, nI_add, nI_ltI, nI_leI, nI_eq, pk_mul, pk_sub, u2_same, u2_row, u2_other, olt_T, olt_F, ole_T, ole_F, oeq_T, oeq_F]
    refine sx_plan hf h hg (fun f1 g1 g2 g3 => ?_)
    simp (disch := first | assumption | rfl | exact zle_0 | exact zle_1 | exact zle_2 | exact zle_3 | exact zle_4 | exact zb_0 | exact zb_1 | exact zb01_B | omega) only [zT96_26, zr_pop, zT96_27, zr_aload_0, zT96_28, zr_gf_5, zr_or, zr_go, zf_18_5, zT96_31, zr_iload_1, zT96_32, zr_iv_226, zcl_i, zcl_r, zcl_l, zcl_n, zv_some, zv_none, Nat.reduceAdd, Nat.reduceMul, Nat.reduceSub, Nat.reduceLT, Nat.reduceLeDiff, Nat.reduceEqDiff, Int.reduceToNat, true_implies, false_implies, implies_true, and_true, true_and, not_true_eq_false, not_false_eq_true, Nat.zero_add, Nat.add_zero, nI_add, nI_ltI, nI_leI, nI_eq, pk_mul, pk_sub, u2_same, u2_row, u2_other, olt_T, olt_F, ole_T, ole_F, oeq_T, oeq_F]
    refine sp_coldest hf hg.1.1 j2 g1.1.1 g2.1 (fun f2 k1 => ?_)
    simp (disch := first | assumption | rfl | exact zle_0 | exact zle_1 | exact zle_2 | exact zle_3 | exact zle_4 | exact zb_0 | exact zb_1 | exact zb01_B | omega) only [zT96_35, zr_ret0, zcl_i, zcl_r, zcl_l, zcl_n, zv_some, zv_none, Nat.reduceAdd, Nat.reduceMul, Nat.reduceSub, Nat.reduceLT, Nat.reduceLeDiff, Nat.reduceEqDiff, Int.reduceToNat, true_implies, false_implies, implies_true, and_true, true_and, not_true_eq_false, not_false_eq_true, Nat.zero_add, Nat.add_zero, nI_add, nI_ltI, nI_leI, nI_eq, pk_mul, pk_sub, u2_same, u2_row, u2_other, olt_T, olt_F, ole_T, ole_F, oeq_T, oeq_F]
    exact hQ f2 (g1.same (fun j hj => k1 j (by omega)) (g1.2.2.2.2.frame (fun j j1 j2 => k1 j (by omega)))) (fun j hj => by rw [k1 j (by omega), g3 j (by omega)])
  · rw [if_neg c] at hQ
    have o := z_XQ.ref (Or.inl rfl) h hQ
    rcases out2 (n := 60) (by decide) c with n1 | ⟨n1, n2⟩
    · simp (disch := first | assumption | rfl | exact zle_0 | exact zle_1 | exact zle_2 | exact zle_3 | exact zle_4 | exact zb_0 | exact zb_1 | exact zb01_B | omega) only [zT96_0, zr_iload_1, zT96_1, zr_if_lt, zT96_4, zT96_5, zr_ic_60, zT96_7, zr_icmp_le, zT96_10, zr_aload_0, zT96_11, zr_ic_m2, zT96_13, zT96_15, zr_iv_117, zT96_18, zr_ret0, zcl_i, zcl_r, zcl_l, zcl_n, zv_some, zv_none, Nat.reduceAdd, Nat.reduceMul, Nat.reduceSub, Nat.reduceLT, Nat.reduceLeDiff, Nat.reduceEqDiff, Int.reduceToNat, true_implies, false_implies, implies_true, and_true, true_and, not_true_eq_false, not_false_eq_true, Nat.zero_add, Nat.add_zero, nI_add, nI_ltI, nI_leI, nI_eq, pk_mul, pk_sub, u2_same, u2_row, u2_other, n1, rfs, olt_T, olt_F, ole_T, ole_F, oeq_T, oeq_F]
      exact o
    · simp (disch := first | assumption | rfl | exact zle_0 | exact zle_1 | exact zle_2 | exact zle_3 | exact zle_4 | exact zb_0 | exact zb_1 | exact zb01_B | omega) only [zT96_0, zr_iload_1, zT96_1, zr_if_lt, zT96_4, zT96_5, zr_ic_60, zT96_7, zr_icmp_le, zT96_10, zr_aload_0, zT96_11, zr_ic_m2, zT96_13, zT96_15, zr_iv_117, zT96_18, zr_ret0, zcl_i, zcl_r, zcl_l, zcl_n, zv_some, zv_none, Nat.reduceAdd, Nat.reduceMul, Nat.reduceSub, Nat.reduceLT, Nat.reduceLeDiff, Nat.reduceEqDiff, Int.reduceToNat, true_implies, false_implies, implies_true, and_true, true_and, not_true_eq_false, not_false_eq_true, Nat.zero_add, Nat.add_zero, nI_add, nI_ltI, nI_leI, nI_eq, pk_mul, pk_sub, u2_same, u2_row, u2_other, n1, n2, rfs, olt_T, olt_F, ole_T, ole_F, oeq_T, oeq_F]
      exact o
theorem iF_ne {v : Nat} (h : v ≤ 45 ∨ v = 100) : (iF v = nM 1) = (v = 100) := by
  unfold iF
  by_cases c : v = 100
  · rw [if_pos c]; exact propext ⟨fun _ => c, fun _ => rfl⟩
  · rw [if_neg c, nM_eqI (by decide) (by decide) (by omega)]; exact propext ⟨fun q => q.elim, fun q => absurd q c⟩
theorem sx_help (hf : z_FR fr) (h : z_XS fi ws nn tx) (hg : z_G ws nn) {x : Int32} (hQ : z_XQ fi fl fr Q (r_help ws nn x).1 ws (r_help ws nn x).2 tx) : TT 97 0 [some (.ref 18), some (.int x), none, none] [] (151, fi, fl, fr) Q := by
  have o18 : z_ok 151 18 10 = true := rfl; have o19 : z_ok 151 19 16 = true := rfl; have o61 : z_ok 151 61 12 = true := rfl; have o70 : z_ok 151 70 18 = true := rfl
  have rfs := fun fi Q => sp_refuse (fi := fi) (fl := fl) (fr := fr) (Q := Q) (r := 2) (x := nM 10) (Or.inl rfl)
  have h54 := hg.1.1.2.2.2.2.2.1
  have zt : nI 1 = zB true := rfl
  have zf : nI 0 = zB false := rfl
  unfold r_help at hQ
  by_cases c : 0 ≤ x.toInt ∧ x.toInt ≤ 1
  · rw [if_pos c] at hQ
    obtain ⟨j, j2, rfl, ej⟩ := i3 (n := 1) c
    rw [ej] at hQ
    have f1le : a_hlp (ws 0) j ≤ 45 ∨ a_hlp (ws 0) j = 100 := a_FW_45 hg.1.1
    have f0le : a_nw (ws 0) ≤ 45 ∨ a_nw (ws 0) = 100 := a_FW_45 hg.1.1
    simp (disch := first | assumption | rfl | exact zle_0 | exact zle_1 | exact zle_2 | exact zle_3 | exact zle_4 | exact zb_0 | exact zb_1 | exact zb01_B | omega) only [zT97_0, zr_iload_1, zT97_1, zr_if_lt, zT97_4, zT97_5, zr_ic_1, zT97_6, zr_icmp_le, zT97_9, zr_aload_0, zT97_10, zr_ic_m2, zT97_12, zr_ic_m10, zT97_14, zr_iv_117, zT97_17, zr_ret0, zT97_18, zT97_19, zr_gf_5, zr_or, zr_go, zf_18_5, zT97_22, zr_iv_207, zcl_i, zcl_r, zcl_l, zcl_n, zv_some, zv_none, Nat.reduceAdd, Nat.reduceMul, Nat.reduceSub, Nat.reduceLT, Nat.reduceLeDiff, Nat.reduceEqDiff, Int.reduceToNat, true_implies, false_implies, implies_true, and_true, true_and, not_true_eq_false, not_false_eq_true, Nat.zero_add, Nat.add_zero, nI_add, nI_ltI, nI_leI, nI_eq, pk_mul, pk_sub, u2_same, u2_row, u2_other, olt_T, olt_F, ole_T, ole_F, oeq_T, oeq_F]
    refine sx_plan hf h hg (fun f1 g1 g2 g3 => ?_)
    have st := g1.1.1.1.2.2.2.1
    simp (disch := first | assumption | rfl | exact zle_0 | exact zle_1 | exact zle_2 | exact zle_3 | exact zle_4 | exact zb_0 | exact zb_1 | exact zb01_B | omega) only [zT97_25, zr_istore_2, zT97_26, zr_aload_0, zT97_27, zr_gf_4, zr_or, zr_go, zf_18_4, zT97_30, zT97_31, zr_gf_0, zf_18_0, zf_22_0, zf_42_0, zf_59_0, zf_96_0, zf_116_0, zT97_34, zr_gf_47, zT97_37, zr_iv_138, zcl_i, zcl_r, zcl_l, zcl_n, zv_some, zv_none, Nat.reduceAdd, Nat.reduceMul, Nat.reduceSub, Nat.reduceLT, Nat.reduceLeDiff, Nat.reduceEqDiff, Int.reduceToNat, true_implies, false_implies, implies_true, and_true, true_and, not_true_eq_false, not_false_eq_true, Nat.zero_add, Nat.add_zero, nI_add, nI_ltI, nI_leI, nI_eq, pk_mul, pk_sub, u2_same, u2_row, u2_other, st, olt_T, olt_F, ole_T, ole_F, oeq_T, oeq_F]
    refine sx_gather hf g1 hg h54 (fun f2 g4 g5 g6 => ?_)
    have fin : ∀ f3, z_XS f3 ws nn tx → (∀ j, j < 61 ∨ 82 < j → f3 j = fi j) → TT 97 63 [some (.ref 18), some (.int (nI j)), some (.int (iF (a_nw (ws 0)))), none] [.int (iF (a_hlp (ws 0) j))] (151, f3, fl, fr) Q := by
      intro f3 k1 k2
      have o := hQ f3 k1 (fun j hj => k2 j (by omega))
      have e1 := iF_ne f1le
      have e0 := iF_ne f0le
      by_cases c1 : a_hlp (ws 0) j = 100
      · rw [if_pos c1] at o
        have : iF (a_hlp (ws 0) j) = nM 1 := by rw [e1]; exact c1
        rw [this]
        simp (disch := first | assumption | rfl | exact zle_0 | exact zle_1 | exact zle_2 | exact zle_3 | exact zle_4 | exact zb_0 | exact zb_1 | exact zb01_B | omega) only [zT97_63, zr_istore_3, zT97_64, zr_iload_3, zT97_65, zr_ic_m1, zT97_66, zr_icmp_ne, zT97_69, zT97_70, zr_ret0, zcl_i, zcl_r, zcl_l, zcl_n, zv_some, zv_none, Nat.reduceAdd, Nat.reduceMul, Nat.reduceSub, Nat.reduceLT, Nat.reduceLeDiff, Nat.reduceEqDiff, Int.reduceToNat, true_implies, false_implies, implies_true, and_true, true_and, not_true_eq_false, not_false_eq_true, Nat.zero_add, Nat.add_zero, nI_add, nI_ltI, nI_leI, nI_eq, pk_mul, pk_sub, u2_same, u2_row, u2_other, olt_T, olt_F, ole_T, ole_F, oeq_T, oeq_F]
        exact o
      · rw [if_neg c1] at o
        have c1' : (iF (a_hlp (ws 0) j) = nM 1) = False := by rw [e1]; exact eq_false c1
        have v1 : iF (a_hlp (ws 0) j) = nI (a_hlp (ws 0) j) := by unfold iF; rw [if_neg c1]
        by_cases c0 : a_nw (ws 0) = 100
        · rw [if_pos c0] at o
          have v0 : iF (a_nw (ws 0)) = nM 1 := by unfold iF; rw [if_pos c0]
          rw [v0, v1]
          rw [v1] at c1'
          rw [pk_sub (show a_hlp (ws 0) j ≤ 1000 by omega)] at o
          simp (disch := first | assumption | rfl | exact zle_0 | exact zle_1 | exact zle_2 | exact zle_3 | exact zle_4 | exact zb_0 | exact zb_1 | exact zb01_B | omega) only [zT97_63, zr_istore_3, zT97_64, zr_iload_3, zT97_65, zr_ic_m1, zT97_66, zr_icmp_ne, zT97_69, zT97_70, zr_ret0, zT97_71, zr_iload_2, zT97_72, zT97_73, zT97_76, zr_ic_1000, zT97_79, zr_goto, zT97_82, zT97_83, zT97_84, zr_isub, zT97_85, zcl_i, zcl_r, zcl_l, zcl_n, zv_some, zv_none, Nat.reduceAdd, Nat.reduceMul, Nat.reduceSub, Nat.reduceLT, Nat.reduceLeDiff, Nat.reduceEqDiff, Int.reduceToNat, true_implies, false_implies, implies_true, and_true, true_and, not_true_eq_false, not_false_eq_true, Nat.zero_add, Nat.add_zero, nI_add, nI_ltI, nI_leI, nI_eq, pk_mul, pk_sub, u2_same, u2_row, u2_other, c1']
          exact o
        · rw [if_neg c0] at o
          have v0 : iF (a_nw (ws 0)) = nI (a_nw (ws 0)) := by unfold iF; rw [if_neg c0]
          have c0' : (nI (a_nw (ws 0)) = nM 1) = False := by rw [← v0, e0]; exact eq_false c0
          rw [v0, v1]
          rw [v1] at c1'
          simp (disch := first | assumption | rfl | exact zle_0 | exact zle_1 | exact zle_2 | exact zle_3 | exact zle_4 | exact zb_0 | exact zb_1 | exact zb01_B | omega) only [zT97_63, zr_istore_3, zT97_64, zr_iload_3, zT97_65, zr_ic_m1, zT97_66, zr_icmp_ne, zT97_69, zT97_70, zr_ret0, zT97_71, zr_iload_2, zT97_72, zT97_73, zT97_76, zr_ic_1000, zT97_79, zr_goto, zT97_82, zT97_83, zT97_84, zr_isub, zT97_85, zcl_i, zcl_r, zcl_l, zcl_n, zv_some, zv_none, Nat.reduceAdd, Nat.reduceMul, Nat.reduceSub, Nat.reduceLT, Nat.reduceLeDiff, Nat.reduceEqDiff, Int.reduceToNat, true_implies, false_implies, implies_true, and_true, true_and, not_true_eq_false, not_false_eq_true, Nat.zero_add, Nat.add_zero, nI_add, nI_ltI, nI_leI, nI_eq, pk_mul, pk_sub, u2_same, u2_row, u2_other, c1', c0']
          exact o
    have : j = 0 ∨ j = 1 := by omega
    rcases this with rfl | rfl
    · simp (disch := first | assumption | rfl | exact zle_0 | exact zle_1 | exact zle_2 | exact zle_3 | exact zle_4 | exact zb_0 | exact zb_1 | exact zb01_B | omega) only [zT97_40, zr_aload_0, zT97_41, zr_gf_4, zr_or, zr_go, zf_18_4, zT97_44, zr_iload_1, zT97_45, zr_if_ne, zT97_48, zr_ic_1, zT97_49, zr_goto, zT97_52, zr_ic_0, zT97_53, zr_iv_139, zcl_i, zcl_r, zcl_l, zcl_n, zv_some, zv_none, Nat.reduceAdd, Nat.reduceMul, Nat.reduceSub, Nat.reduceLT, Nat.reduceLeDiff, Nat.reduceEqDiff, Int.reduceToNat, true_implies, false_implies, implies_true, and_true, true_and, not_true_eq_false, not_false_eq_true, Nat.zero_add, Nat.add_zero, nI_add, nI_ltI, nI_leI, nI_eq, pk_mul, pk_sub, u2_same, u2_row, u2_other, olt_T, olt_F, ole_T, ole_F, oeq_T, oeq_F]
      refine sp_nobody (ri := true) hf g5 (fun f3 k1 k2 => ?_)
      have k3 : z_XS f3 ws nn tx := g4.same (fun j hj => k2 j (by omega)) (g4.2.2.2.2.frame (fun j j1 j2 => k2 j (by omega)))
      simp (disch := first | assumption | rfl | exact zle_0 | exact zle_1 | exact zle_2 | exact zle_3 | exact zle_4 | exact zb_0 | exact zb_1 | exact zb01_B | omega) only [zT97_56, zr_aload_0, zT97_57, zr_gf_5, zr_or, zr_go, zf_18_5, zT97_60, zr_iv_208, zcl_i, zcl_r, zcl_l, zcl_n, zv_some, zv_none, Nat.reduceAdd, Nat.reduceMul, Nat.reduceSub, Nat.reduceLT, Nat.reduceLeDiff, Nat.reduceEqDiff, Int.reduceToNat, true_implies, false_implies, implies_true, and_true, true_and, not_true_eq_false, not_false_eq_true, Nat.zero_add, Nat.add_zero, nI_add, nI_ltI, nI_leI, nI_eq, pk_mul, pk_sub, u2_same, u2_row, u2_other, olt_T, olt_F, ole_T, ole_F, oeq_T, oeq_F]
      refine sx_fewest hf k3 hg (by decide) k1 (fun f4 k4 k5 => ?_)
      exact fin f4 k4 (fun j hj => by rw [k5 j hj, k2 j (by omega), g6 j (by omega), g3 j hj])
    · simp (disch := first | assumption | rfl | exact zle_0 | exact zle_1 | exact zle_2 | exact zle_3 | exact zle_4 | exact zb_0 | exact zb_1 | exact zb01_B | omega) only [zT97_40, zr_aload_0, zT97_41, zr_gf_4, zr_or, zr_go, zf_18_4, zT97_44, zr_iload_1, zT97_45, zr_if_ne, zT97_48, zr_ic_1, zT97_49, zr_goto, zT97_52, zr_ic_0, zT97_53, zr_iv_139, zcl_i, zcl_r, zcl_l, zcl_n, zv_some, zv_none, Nat.reduceAdd, Nat.reduceMul, Nat.reduceSub, Nat.reduceLT, Nat.reduceLeDiff, Nat.reduceEqDiff, Int.reduceToNat, true_implies, false_implies, implies_true, and_true, true_and, not_true_eq_false, not_false_eq_true, Nat.zero_add, Nat.add_zero, nI_add, nI_ltI, nI_leI, nI_eq, pk_mul, pk_sub, u2_same, u2_row, u2_other, olt_T, olt_F, ole_T, ole_F, oeq_T, oeq_F]
      refine sp_nobody (ri := false) hf g5 (fun f3 k1 k2 => ?_)
      have k3 : z_XS f3 ws nn tx := g4.same (fun j hj => k2 j (by omega)) (g4.2.2.2.2.frame (fun j j1 j2 => k2 j (by omega)))
      simp (disch := first | assumption | rfl | exact zle_0 | exact zle_1 | exact zle_2 | exact zle_3 | exact zle_4 | exact zb_0 | exact zb_1 | exact zb01_B | omega) only [zT97_56, zr_aload_0, zT97_57, zr_gf_5, zr_or, zr_go, zf_18_5, zT97_60, zr_iv_208, zcl_i, zcl_r, zcl_l, zcl_n, zv_some, zv_none, Nat.reduceAdd, Nat.reduceMul, Nat.reduceSub, Nat.reduceLT, Nat.reduceLeDiff, Nat.reduceEqDiff, Int.reduceToNat, true_implies, false_implies, implies_true, and_true, true_and, not_true_eq_false, not_false_eq_true, Nat.zero_add, Nat.add_zero, nI_add, nI_ltI, nI_leI, nI_eq, pk_mul, pk_sub, u2_same, u2_row, u2_other, olt_T, olt_F, ole_T, ole_F, oeq_T, oeq_F]
      refine sx_fewest hf k3 hg (by decide) k1 (fun f4 k4 k5 => ?_)
      exact fin f4 k4 (fun j hj => by rw [k5 j hj, k2 j (by omega), g6 j (by omega), g3 j hj])
  · rw [if_neg c] at hQ
    have o := z_XQ.ref (Or.inl rfl) h hQ
    rcases out2 (n := 1) (by decide) c with n1 | ⟨n1, n2⟩
    · simp (disch := first | assumption | rfl | exact zle_0 | exact zle_1 | exact zle_2 | exact zle_3 | exact zle_4 | exact zb_0 | exact zb_1 | exact zb01_B | omega) only [zT97_0, zr_iload_1, zT97_1, zr_if_lt, zT97_4, zT97_5, zr_ic_1, zT97_6, zr_icmp_le, zT97_9, zr_aload_0, zT97_10, zr_ic_m2, zT97_12, zr_ic_m10, zT97_14, zr_iv_117, zT97_17, zr_ret0, zcl_i, zcl_r, zcl_l, zcl_n, zv_some, zv_none, Nat.reduceAdd, Nat.reduceMul, Nat.reduceSub, Nat.reduceLT, Nat.reduceLeDiff, Nat.reduceEqDiff, Int.reduceToNat, true_implies, false_implies, implies_true, and_true, true_and, not_true_eq_false, not_false_eq_true, Nat.zero_add, Nat.add_zero, nI_add, nI_ltI, nI_leI, nI_eq, pk_mul, pk_sub, u2_same, u2_row, u2_other, n1, rfs, olt_T, olt_F, ole_T, ole_F, oeq_T, oeq_F]
      exact o
    · simp (disch := first | assumption | rfl | exact zle_0 | exact zle_1 | exact zle_2 | exact zle_3 | exact zle_4 | exact zb_0 | exact zb_1 | exact zb01_B | omega) only [zT97_0, zr_iload_1, zT97_1, zr_if_lt, zT97_4, zT97_5, zr_ic_1, zT97_6, zr_icmp_le, zT97_9, zr_aload_0, zT97_10, zr_ic_m2, zT97_12, zr_ic_m10, zT97_14, zr_iv_117, zT97_17, zr_ret0, zcl_i, zcl_r, zcl_l, zcl_n, zv_some, zv_none, Nat.reduceAdd, Nat.reduceMul, Nat.reduceSub, Nat.reduceLT, Nat.reduceLeDiff, Nat.reduceEqDiff, Int.reduceToNat, true_implies, false_implies, implies_true, and_true, true_and, not_true_eq_false, not_false_eq_true, Nat.zero_add, Nat.add_zero, nI_add, nI_ltI, nI_leI, nI_eq, pk_mul, pk_sub, u2_same, u2_row, u2_other, n1, n2, rfs, olt_T, olt_F, ole_T, ole_F, oeq_T, oeq_F]
      exact o
theorem sx_sp_ (hf : z_FR fr) (hg : z_G ws nn) (hA : a_nw (ws 0) ≠ 100) {fi0 : Nat → Nat → Int32} (hQ : z_XQ fi0 fl fr Q (nI (msk (fun c => decide (a_away (ws 0) c = a_nw (ws 0))) (ws 0 0))) ws nn tx) :
    ∀ m c, c + m = ws 0 0 → ∀ fi : Nat → Nat → Int32, z_XS fi ws nn tx → (∀ j, j < 61 ∨ 82 < j → fi j = fi0 j) →
    TT 98 19 [some (.ref 18), some (.int (nI (a_nw (ws 0)))), some (.int (nI (msk (fun c => decide (a_away (ws 0) c = a_nw (ws 0))) c))), some (.int (nI c))] [] (151, fi, fl, fr) Q := by
  have o18 : z_ok 151 18 10 = true := rfl; have o19 : z_ok 151 19 16 = true := rfl; have o61 : z_ok 151 61 12 = true := rfl; have o70 : z_ok 151 70 18 = true := rfl
  have h54 := hg.1.1.2.2.2.2.2.1
  have h0 := hg.1.1.1
  have f0le : a_nw (ws 0) ≤ 45 ∨ a_nw (ws 0) = 100 := a_FW_45 hg.1.1
  intro m
  induction m with
  | zero =>
    intro c hc fi h hfr
    obtain rfl : c = ws 0 0 := by omega
    have ck := h.1.1.1.1
    simp (disch := first | assumption | rfl | exact zle_0 | exact zle_1 | exact zle_2 | exact zle_3 | exact zle_4 | exact zb_0 | exact zb_1 | exact zb01_B | omega) only [zT98_19, zr_iload_3, zT98_20, zr_aload_0, zT98_21, zr_gf_0, zr_or, zr_go, zf_18_0, zf_22_0, zf_42_0, zf_59_0, zf_96_0, zf_116_0, zT98_24, zr_gf_43, zT98_27, zr_icmp_ge, zT98_75, zr_iload_2, zT98_76, zr_ret0, zcl_i, zcl_r, zcl_l, zcl_n, zv_some, zv_none, Nat.reduceAdd, Nat.reduceMul, Nat.reduceSub, Nat.reduceLT, Nat.reduceLeDiff, Nat.reduceEqDiff, Int.reduceToNat, true_implies, false_implies, implies_true, and_true, true_and, not_true_eq_false, not_false_eq_true, Nat.zero_add, Nat.add_zero, nI_add, nI_ltI, nI_leI, nI_eq, pk_mul, pk_sub, u2_same, u2_row, u2_other, ck, olt_T, olt_F, ole_T, ole_F, oeq_T, oeq_F]
    exact hQ fi h (fun j hj => hfr j (by omega))
  | succ m ih =>
    intro c hc fi h hfr
    have ck := h.1.1.1.1
    have st := h.1.1.1.2.2.2.1
    have c6 : c < 6 := by omega
    simp (disch := first | assumption | rfl | exact zle_0 | exact zle_1 | exact zle_2 | exact zle_3 | exact zle_4 | exact zb_0 | exact zb_1 | exact zb01_B | omega) only [zT98_19, zr_iload_3, zcl_i, zcl_r, zcl_l, zcl_n, zv_some, zv_none, Nat.reduceAdd, Nat.reduceMul, Nat.reduceSub, Nat.reduceLT, Nat.reduceLeDiff, Nat.reduceEqDiff, Int.reduceToNat, true_implies, false_implies, implies_true, and_true, true_and, not_true_eq_false, not_false_eq_true, Nat.zero_add, Nat.add_zero, nI_add, nI_ltI, nI_leI, nI_eq, pk_mul, pk_sub, u2_same, u2_row, u2_other]
    simp (disch := first | assumption | rfl | exact zle_0 | exact zle_1 | exact zle_2 | exact zle_3 | exact zle_4 | exact zb_0 | exact zb_1 | exact zb01_B | omega) only [zT98_20, zr_aload_0, zT98_21, zr_gf_0, zr_or, zr_go, zf_18_0, zf_22_0, zf_42_0, zf_59_0, zf_96_0, zf_116_0, zT98_24, zr_gf_43, zT98_27, zr_icmp_ge, zT98_30, zT98_31, zr_gf_4, zf_18_4, zT98_34, zT98_35, zT98_38, zr_gf_47, zT98_41, zr_iv_138, zcl_i, zcl_r, zcl_l, zcl_n, zv_some, zv_none, Nat.reduceAdd, Nat.reduceMul, Nat.reduceSub, Nat.reduceLT, Nat.reduceLeDiff, Nat.reduceEqDiff, Int.reduceToNat, true_implies, false_implies, implies_true, and_true, true_and, not_true_eq_false, not_false_eq_true, Nat.zero_add, Nat.add_zero, nI_add, nI_ltI, nI_leI, nI_eq, pk_mul, pk_sub, u2_same, u2_row, u2_other, ck, st, olt_T, olt_F, ole_T, ole_F, oeq_T, oeq_F]
    refine sx_gather hf h hg h54 (fun f2 g4 g5 g6 => ?_)
    simp (disch := first | assumption | rfl | exact zle_0 | exact zle_1 | exact zle_2 | exact zle_3 | exact zle_4 | exact zb_0 | exact zb_1 | exact zb01_B | omega) only [zT98_44, zr_aload_0, zT98_45, zr_gf_4, zr_or, zr_go, zf_18_4, zT98_48, zr_iload_3, zT98_49, zr_iv_140, zcl_i, zcl_r, zcl_l, zcl_n, zv_some, zv_none, Nat.reduceAdd, Nat.reduceMul, Nat.reduceSub, Nat.reduceLT, Nat.reduceLeDiff, Nat.reduceEqDiff, Int.reduceToNat, true_implies, false_implies, implies_true, and_true, true_and, not_true_eq_false, not_false_eq_true, Nat.zero_add, Nat.add_zero, nI_add, nI_ltI, nI_leI, nI_eq, pk_mul, pk_sub, u2_same, u2_row, u2_other, olt_T, olt_F, ole_T, ole_F, oeq_T, oeq_F]
    refine sp_sendAway hf c6 (a_ok c) (by decide) g5 (fun f3 k1 k2 => ?_)
    have k3 : z_XS f3 ws nn tx := g4.same (fun j hj => k2 j (by omega) (by omega) (by omega)) (g4.2.2.2.2.frame (fun j j1 j2 => k2 j (by omega) (by omega) (by omega)))
    simp (disch := first | assumption | rfl | exact zle_0 | exact zle_1 | exact zle_2 | exact zle_3 | exact zle_4 | exact zb_0 | exact zb_1 | exact zb01_B | omega) only [zT98_52, zr_aload_0, zT98_53, zr_gf_5, zr_or, zr_go, zf_18_5, zT98_56, zr_iv_208, zcl_i, zcl_r, zcl_l, zcl_n, zv_some, zv_none, Nat.reduceAdd, Nat.reduceMul, Nat.reduceSub, Nat.reduceLT, Nat.reduceLeDiff, Nat.reduceEqDiff, Int.reduceToNat, true_implies, false_implies, implies_true, and_true, true_and, not_true_eq_false, not_false_eq_true, Nat.zero_add, Nat.add_zero, nI_add, nI_ltI, nI_leI, nI_eq, pk_mul, pk_sub, u2_same, u2_row, u2_other, olt_T, olt_F, ole_T, ole_F, oeq_T, oeq_F]
    refine sx_fewest hf k3 hg (by decide) k1 (fun f4 k4 k5 => ?_)
    have ih' := ih (c + 1) (by omega) f4 k4 (fun j hj => by rw [k5 j hj, k2 j (by omega) (by omega) (by omega), g6 j (by omega), hfr j hj])
    rw [show msk (fun c => decide (a_away (ws 0) c = a_nw (ws 0))) (c + 1) = if decide (a_away (ws 0) c = a_nw (ws 0)) = true then msk (fun c => decide (a_away (ws 0) c = a_nw (ws 0))) c ||| 2 ^ c else msk (fun c => decide (a_away (ws 0) c = a_nw (ws 0))) c from rfl] at ih'
    rw [show a_FE (ws 0) (uh (a_hands (ws 0) (ws 0 54)) c (h_off (a_hands (ws 0) (ws 0 54) c))) 0 0 = a_away (ws 0) c from rfl]
    have fle : a_away (ws 0) c ≤ 45 ∨ a_away (ws 0) c = 100 := a_FW_45 hg.1.1
    have p6 : 2 ^ c < 64 := Nat.pow_lt_pow_right (a := 2) (n := 6) (by decide) c6
    have eqv : (iF (a_away (ws 0) c) = nI (a_nw (ws 0))) = (a_away (ws 0) c = a_nw (ws 0)) := by
      unfold iF
      by_cases q : a_away (ws 0) c = 100
      · rw [if_pos q, nM_eqI' (by decide) (by decide) (by omega)]; exact propext ⟨fun r => r.elim, fun r => hA (by omega)⟩
      · rw [if_neg q, nI_eq (by omega) (by omega)]
    generalize msk (fun c => decide (a_away (ws 0) c = a_nw (ws 0))) c = acc at *
    by_cases q : a_away (ws 0) c = a_nw (ws 0)
    · rw [if_pos (decide_eq_true q)] at ih'
      have e1 : iF (a_away (ws 0) c) = nI (a_nw (ws 0)) := by rw [eqv]; exact q
      rw [e1]
      simp (disch := first | assumption | rfl | exact zle_0 | exact zle_1 | exact zle_2 | exact zle_3 | exact zle_4 | exact zb_0 | exact zb_1 | exact zb01_B | omega) only [zT98_59, zr_iload_1, zT98_60, zr_icmp_ne, zT98_63, zr_iload_2, zT98_64, zr_ic_1, zT98_65, zr_iload_3, zT98_66, zr_ishl, zT98_67, zr_ior, zT98_68, zr_istore_2, zT98_69, zr_iinc_3_1, zT98_72, zr_goto, zcl_i, zcl_r, zcl_l, zcl_n, zv_some, zv_none, Nat.reduceAdd, Nat.reduceMul, Nat.reduceSub, Nat.reduceLT, Nat.reduceLeDiff, Nat.reduceEqDiff, Int.reduceToNat, true_implies, false_implies, implies_true, and_true, true_and, not_true_eq_false, not_false_eq_true, Nat.zero_add, Nat.add_zero, nI_add, nI_ltI, nI_leI, nI_eq, pk_mul, pk_sub, u2_same, u2_row, u2_other, b_shl, b_or, Nat.one_mul, olt_T, olt_F, ole_T, ole_F, oeq_T, oeq_F]
      exact ih'
    · rw [if_neg (by rw [decide_eq_false q]; decide)] at ih'
      have e1 : (iF (a_away (ws 0) c) = nI (a_nw (ws 0))) = False := by rw [eqv]; exact eq_false q
      simp (disch := first | assumption | rfl | exact zle_0 | exact zle_1 | exact zle_2 | exact zle_3 | exact zle_4 | exact zb_0 | exact zb_1 | exact zb01_B | omega) only [zT98_59, zr_iload_1, zT98_60, zr_icmp_ne, zT98_63, zr_iload_2, zT98_64, zr_ic_1, zT98_65, zr_iload_3, zT98_66, zr_ishl, zT98_67, zr_ior, zT98_68, zr_istore_2, zT98_69, zr_iinc_3_1, zT98_72, zr_goto, zcl_i, zcl_r, zcl_l, zcl_n, zv_some, zv_none, Nat.reduceAdd, Nat.reduceMul, Nat.reduceSub, Nat.reduceLT, Nat.reduceLeDiff, Nat.reduceEqDiff, Int.reduceToNat, true_implies, false_implies, implies_true, and_true, true_and, not_true_eq_false, not_false_eq_true, Nat.zero_add, Nat.add_zero, nI_add, nI_ltI, nI_leI, nI_eq, pk_mul, pk_sub, u2_same, u2_row, u2_other, e1]
      exact ih'
theorem sx_spared (hf : z_FR fr) (h : z_XS fi ws nn tx) (hg : z_G ws nn) (hQ : z_XQ fi fl fr Q (r_spared (ws 0)) ws nn tx) : TT 98 0 [some (.ref 18), none, none, none] [] (151, fi, fl, fr) Q := by
  have o18 : z_ok 151 18 10 = true := rfl; have o19 : z_ok 151 19 16 = true := rfl; have o61 : z_ok 151 61 12 = true := rfl; have o70 : z_ok 151 70 18 = true := rfl
  have f0le : a_nw (ws 0) ≤ 45 ∨ a_nw (ws 0) = 100 := a_FW_45 hg.1.1
  have e0 := iF_ne f0le
  unfold r_spared at hQ
  simp (disch := first | assumption | rfl | exact zle_0 | exact zle_1 | exact zle_2 | exact zle_3 | exact zle_4 | exact zb_0 | exact zb_1 | exact zb01_B | omega) only [zT98_0, zr_aload_0, zT98_1, zr_gf_5, zr_or, zr_go, zf_18_5, zT98_4, zr_iv_207, zcl_i, zcl_r, zcl_l, zcl_n, zv_some, zv_none, Nat.reduceAdd, Nat.reduceMul, Nat.reduceSub, Nat.reduceLT, Nat.reduceLeDiff, Nat.reduceEqDiff, Int.reduceToNat, true_implies, false_implies, implies_true, and_true, true_and, not_true_eq_false, not_false_eq_true, Nat.zero_add, Nat.add_zero, nI_add, nI_ltI, nI_leI, nI_eq, pk_mul, pk_sub, u2_same, u2_row, u2_other, olt_T, olt_F, ole_T, ole_F, oeq_T, oeq_F]
  refine sx_plan hf h hg (fun f1 g1 g2 g3 => ?_)
  by_cases c0 : a_nw (ws 0) = 100
  · rw [if_pos c0] at hQ
    have v0 : iF (a_nw (ws 0)) = nM 1 := by unfold iF; rw [if_pos c0]
    rw [v0]
    simp (disch := first | assumption | rfl | exact zle_0 | exact zle_1 | exact zle_2 | exact zle_3 | exact zle_4 | exact zb_0 | exact zb_1 | exact zb01_B | omega) only [zT98_7, zr_istore_1, zT98_8, zr_iload_1, zT98_9, zr_ic_m1, zT98_10, zr_icmp_ne, zT98_13, zT98_14, zr_ret0, zcl_i, zcl_r, zcl_l, zcl_n, zv_some, zv_none, Nat.reduceAdd, Nat.reduceMul, Nat.reduceSub, Nat.reduceLT, Nat.reduceLeDiff, Nat.reduceEqDiff, Int.reduceToNat, true_implies, false_implies, implies_true, and_true, true_and, not_true_eq_false, not_false_eq_true, Nat.zero_add, Nat.add_zero, nI_add, nI_ltI, nI_leI, nI_eq, pk_mul, pk_sub, u2_same, u2_row, u2_other, olt_T, olt_F, ole_T, ole_F, oeq_T, oeq_F]
    exact hQ f1 g1 (fun j hj => g3 j (by omega))
  · rw [if_neg c0] at hQ
    have v0 : iF (a_nw (ws 0)) = nI (a_nw (ws 0)) := by unfold iF; rw [if_neg c0]
    have c0' : (nI (a_nw (ws 0)) = nM 1) = False := by rw [← v0, e0]; exact eq_false c0
    rw [v0]
    have L := sx_sp_ hf hg c0 hQ (ws 0 0) 0 (Nat.zero_add _) f1 g1 g3
    rw [show msk (fun c => decide (a_away (ws 0) c = a_nw (ws 0))) 0 = 0 from rfl] at L
    simp (disch := first | assumption | rfl | exact zle_0 | exact zle_1 | exact zle_2 | exact zle_3 | exact zle_4 | exact zb_0 | exact zb_1 | exact zb01_B | omega) only [zT98_7, zr_istore_1, zT98_8, zr_iload_1, zT98_9, zr_ic_m1, zT98_10, zr_icmp_ne, zT98_13, zT98_14, zr_ret0, zT98_15, zr_ic_0, zT98_16, zr_istore_2, zT98_17, zT98_18, zr_istore_3, zcl_i, zcl_r, zcl_l, zcl_n, zv_some, zv_none, Nat.reduceAdd, Nat.reduceMul, Nat.reduceSub, Nat.reduceLT, Nat.reduceLeDiff, Nat.reduceEqDiff, Int.reduceToNat, true_implies, false_implies, implies_true, and_true, true_and, not_true_eq_false, not_false_eq_true, Nat.zero_add, Nat.add_zero, nI_add, nI_ltI, nI_leI, nI_eq, pk_mul, pk_sub, u2_same, u2_row, u2_other, c0', olt_T, olt_F, ole_T, ole_F, oeq_T, oeq_F]
    exact L
theorem sx_strikeCost (hf : z_FR fr) (h : z_XS fi ws nn tx) (hg : z_G ws nn) (hQ : z_XQ fi fl fr Q (r_strikeCost (ws 0)) ws nn tx) : TT 99 0 [some (.ref 18), none, none] [] (151, fi, fl, fr) Q := by
  have o18 : z_ok 151 18 10 = true := rfl; have o19 : z_ok 151 19 16 = true := rfl; have o61 : z_ok 151 61 12 = true := rfl; have o70 : z_ok 151 70 18 = true := rfl
  have f1le : a_FE (ws 0) (a_hands (ws 0) 1) 0 0 ≤ 45 ∨ a_FE (ws 0) (a_hands (ws 0) 1) 0 0 = 100 := a_FW_45 hg.1.1
  have f0le : a_FE (ws 0) (a_hands (ws 0) 0) 0 0 ≤ 45 ∨ a_FE (ws 0) (a_hands (ws 0) 0) 0 0 = 100 := a_FW_45 hg.1.1
  have e1 := iF_ne f1le
  have e0 := iF_ne f0le
  unfold r_strikeCost at hQ
  simp (disch := first | assumption | rfl | exact zle_0 | exact zle_1 | exact zle_2 | exact zle_3 | exact zle_4 | exact zb_0 | exact zb_1 | exact zb01_B | omega) only [zT99_0, zr_aload_0, zT99_1, zr_gf_4, zr_or, zr_go, zf_18_4, zT99_4, zr_ic_1, zT99_5, zr_iv_138, zcl_i, zcl_r, zcl_l, zcl_n, zv_some, zv_none, Nat.reduceAdd, Nat.reduceMul, Nat.reduceSub, Nat.reduceLT, Nat.reduceLeDiff, Nat.reduceEqDiff, Int.reduceToNat, true_implies, false_implies, implies_true, and_true, true_and, not_true_eq_false, not_false_eq_true, Nat.zero_add, Nat.add_zero, nI_add, nI_ltI, nI_leI, nI_eq, pk_mul, pk_sub, u2_same, u2_row, u2_other, olt_T, olt_F, ole_T, ole_F, oeq_T, oeq_F]
  refine sx_gather hf h hg (Nat.le_refl 1) (fun f1 g1 g2 g3 => ?_)
  simp (disch := first | assumption | rfl | exact zle_0 | exact zle_1 | exact zle_2 | exact zle_3 | exact zle_4 | exact zb_0 | exact zb_1 | exact zb01_B | omega) only [zT99_8, zr_aload_0, zT99_9, zr_gf_5, zr_or, zr_go, zf_18_5, zT99_12, zr_iv_208, zcl_i, zcl_r, zcl_l, zcl_n, zv_some, zv_none, Nat.reduceAdd, Nat.reduceMul, Nat.reduceSub, Nat.reduceLT, Nat.reduceLeDiff, Nat.reduceEqDiff, Int.reduceToNat, true_implies, false_implies, implies_true, and_true, true_and, not_true_eq_false, not_false_eq_true, Nat.zero_add, Nat.add_zero, nI_add, nI_ltI, nI_leI, nI_eq, pk_mul, pk_sub, u2_same, u2_row, u2_other, olt_T, olt_F, ole_T, ole_F, oeq_T, oeq_F]
  refine sx_fewest hf g1 hg (by decide) g2 (fun f2 g4 g5 => ?_)
  simp (disch := first | assumption | rfl | exact zle_0 | exact zle_1 | exact zle_2 | exact zle_3 | exact zle_4 | exact zb_0 | exact zb_1 | exact zb01_B | omega) only [zT99_15, zr_istore_1, zT99_16, zr_aload_0, zT99_17, zr_gf_4, zr_or, zr_go, zf_18_4, zT99_20, zr_ic_0, zT99_21, zr_iv_138, zcl_i, zcl_r, zcl_l, zcl_n, zv_some, zv_none, Nat.reduceAdd, Nat.reduceMul, Nat.reduceSub, Nat.reduceLT, Nat.reduceLeDiff, Nat.reduceEqDiff, Int.reduceToNat, true_implies, false_implies, implies_true, and_true, true_and, not_true_eq_false, not_false_eq_true, Nat.zero_add, Nat.add_zero, nI_add, nI_ltI, nI_leI, nI_eq, pk_mul, pk_sub, u2_same, u2_row, u2_other, olt_T, olt_F, ole_T, ole_F, oeq_T, oeq_F]
  refine sx_gather hf g4 hg (Nat.zero_le 1) (fun f3 g6 g7 g8 => ?_)
  simp (disch := first | assumption | rfl | exact zle_0 | exact zle_1 | exact zle_2 | exact zle_3 | exact zle_4 | exact zb_0 | exact zb_1 | exact zb01_B | omega) only [zT99_24, zr_aload_0, zT99_25, zr_gf_5, zr_or, zr_go, zf_18_5, zT99_28, zr_iv_208, zcl_i, zcl_r, zcl_l, zcl_n, zv_some, zv_none, Nat.reduceAdd, Nat.reduceMul, Nat.reduceSub, Nat.reduceLT, Nat.reduceLeDiff, Nat.reduceEqDiff, Int.reduceToNat, true_implies, false_implies, implies_true, and_true, true_and, not_true_eq_false, not_false_eq_true, Nat.zero_add, Nat.add_zero, nI_add, nI_ltI, nI_leI, nI_eq, pk_mul, pk_sub, u2_same, u2_row, u2_other, olt_T, olt_F, ole_T, ole_F, oeq_T, oeq_F]
  refine sx_fewest hf g6 hg (by decide) g7 (fun f4 g9 g10 => ?_)
  have o := hQ f4 g9 (fun j hj => by rw [g10 j (by omega), g8 j (by omega), g5 j (by omega), g3 j (by omega)])
  generalize a_FE (ws 0) (a_hands (ws 0) 1) 0 0 = A at *
  generalize a_FE (ws 0) (a_hands (ws 0) 0) 0 0 = B at *
  by_cases cA : A = 100
  · rw [if_pos (Or.inl cA)] at o
    have v : iF A = nM 1 := by unfold iF; rw [if_pos cA]
    rw [v]
    simp (disch := first | assumption | rfl | exact zle_0 | exact zle_1 | exact zle_2 | exact zle_3 | exact zle_4 | exact zb_0 | exact zb_1 | exact zb01_B | omega) only [zT99_31, zr_istore_2, zT99_32, zr_iload_1, zT99_33, zr_ic_m1, zT99_34, zr_icmp_eq, zT99_37, zr_iload_2, zT99_38, zT99_39, zr_icmp_ne, zT99_42, zT99_43, zr_goto, zT99_46, zT99_47, zT99_48, zr_isub, zT99_49, zr_ret0, zcl_i, zcl_r, zcl_l, zcl_n, zv_some, zv_none, Nat.reduceAdd, Nat.reduceMul, Nat.reduceSub, Nat.reduceLT, Nat.reduceLeDiff, Nat.reduceEqDiff, Int.reduceToNat, true_implies, false_implies, implies_true, and_true, true_and, not_true_eq_false, not_false_eq_true, Nat.zero_add, Nat.add_zero, nI_add, nI_ltI, nI_leI, nI_eq, pk_mul, pk_sub, u2_same, u2_row, u2_other, olt_T, olt_F, ole_T, ole_F, oeq_T, oeq_F]
    exact o
  · have vA : iF A = nI A := by unfold iF; rw [if_neg cA]
    have nA : (nI A = nM 1) = False := nM_eqI (by decide) (by decide) (by omega)
    by_cases cB : B = 100
    · rw [if_pos (Or.inr cB)] at o
      have v : iF B = nM 1 := by unfold iF; rw [if_pos cB]
      rw [v, vA]
      simp (disch := first | assumption | rfl | exact zle_0 | exact zle_1 | exact zle_2 | exact zle_3 | exact zle_4 | exact zb_0 | exact zb_1 | exact zb01_B | omega) only [zT99_31, zr_istore_2, zT99_32, zr_iload_1, zT99_33, zr_ic_m1, zT99_34, zr_icmp_eq, zT99_37, zr_iload_2, zT99_38, zT99_39, zr_icmp_ne, zT99_42, zT99_43, zr_goto, zT99_46, zT99_47, zT99_48, zr_isub, zT99_49, zr_ret0, zcl_i, zcl_r, zcl_l, zcl_n, zv_some, zv_none, Nat.reduceAdd, Nat.reduceMul, Nat.reduceSub, Nat.reduceLT, Nat.reduceLeDiff, Nat.reduceEqDiff, Int.reduceToNat, true_implies, false_implies, implies_true, and_true, true_and, not_true_eq_false, not_false_eq_true, Nat.zero_add, Nat.add_zero, nI_add, nI_ltI, nI_leI, nI_eq, pk_mul, pk_sub, u2_same, u2_row, u2_other, nA, olt_T, olt_F, ole_T, ole_F, oeq_T, oeq_F]
      exact o
    · rw [if_neg (fun q => q.elim cA cB)] at o
      have vB : iF B = nI B := by unfold iF; rw [if_neg cB]
      have nB : (nI B = nM 1) = False := nM_eqI (by decide) (by decide) (by omega)
      rw [vA, vB]
      simp (disch := first | assumption | rfl | exact zle_0 | exact zle_1 | exact zle_2 | exact zle_3 | exact zle_4 | exact zb_0 | exact zb_1 | exact zb01_B | omega) only [zT99_31, zr_istore_2, zT99_32, zr_iload_1, zT99_33, zr_ic_m1, zT99_34, zr_icmp_eq, zT99_37, zr_iload_2, zT99_38, zT99_39, zr_icmp_ne, zT99_42, zT99_43, zr_goto, zT99_46, zT99_47, zT99_48, zr_isub, zT99_49, zr_ret0, zcl_i, zcl_r, zcl_l, zcl_n, zv_some, zv_none, Nat.reduceAdd, Nat.reduceMul, Nat.reduceSub, Nat.reduceLT, Nat.reduceLeDiff, Nat.reduceEqDiff, Int.reduceToNat, true_implies, false_implies, implies_true, and_true, true_and, not_true_eq_false, not_false_eq_true, Nat.zero_add, Nat.add_zero, nI_add, nI_ltI, nI_leI, nI_eq, pk_mul, pk_sub, u2_same, u2_row, u2_other, nA, nB]
      exact o
theorem pop_lt8 : ∀ b, b < 8 → pop b < 4 := by decide +kernel
theorem sx_mn_ (hf : z_FR fr) (h : z_XS fi ws nn tx) (hg : z_G ws nn) (hp : z_Plan fi (ws 0)) {x : Nat} (hx : x ≤ 60) :
    ∀ m b, b + m = 2 ^ ws 0 13 → 1 ≤ b → ∀ best, best < 8 → ∀ v4 : Option Value, TT 100 31 [some (.ref 18), some (.int (nI x)), some (.int (nI best)), some (.int (nI b)), v4] [] (151, fi, fl, fr) Q = Q (some (.int (nI (a_menu (ws 0) x m b best)))) (151, fi, fl, fr) := by
  have o18 : z_ok 151 18 10 = true := rfl; have o19 : z_ok 151 19 16 = true := rfl; have o70 : z_ok 151 70 18 = true := rfl
  have hr := h.1.1
  have h13 := hg.1.1.2.2.1
  have e8 : 2 ^ ws 0 13 ≤ 2 ^ 3 := Nat.pow_le_pow_right (by decide) h13
  have al := fun Q => sp_allDishes (fl := fl) (fr := fr) (Q := Q) o19 hr.1.2.1 h13
  intro m
  induction m with
  | zero =>
    intro b hb b1 best hbest v4
    obtain rfl : b = 2 ^ ws 0 13 := by omega
    simp (disch := first | assumption | rfl | exact zle_0 | exact zle_1 | exact zle_2 | exact zle_3 | exact zle_4 | exact zb_0 | exact zb_1 | exact zb01_B | omega) only [zT100_31, zr_iload_3, zT100_32, zr_aload_0, zT100_33, zr_gf_0, zr_or, zr_go, zf_18_0, zf_22_0, zf_42_0, zf_59_0, zf_96_0, zf_116_0, zT100_36, zr_iv_189, zT100_39, zr_icmp_gt, zT100_83, zr_iload_2, zT100_84, zr_ret0, zcl_i, zcl_r, zcl_l, zcl_n, zv_some, zv_none, Nat.reduceAdd, Nat.reduceMul, Nat.reduceSub, Nat.reduceLT, Nat.reduceLeDiff, Nat.reduceEqDiff, Int.reduceToNat, true_implies, false_implies, implies_true, and_true, true_and, not_true_eq_false, not_false_eq_true, Nat.zero_add, Nat.add_zero, nI_add, nI_ltI, nI_leI, nI_eq, pk_mul, pk_sub, u2_same, u2_row, u2_other, al, olt_T, olt_F, ole_T, ole_F, oeq_T, oeq_F]
    rfl
  | succ m ih =>
    intro b hb b1 best hbest v4
    have b8 : b < 8 := by omega
    have mf := fun Q => sp_minutesFor (fl := fl) (Q := Q) hf hg.1.1 hp.1.1 hp.1.2.2 b8
    have bc1 := fun M Q => sp_bitCount (M := M) (Q := Q) (show b < 64 by omega)
    have bc2 := fun M Q => sp_bitCount (M := M) (Q := Q) (show best < 64 by omega)
    have p1 := pop_lt8 b b8
    have p2 := pop_lt8 best hbest
    have fle := a_FW_le hg.1.1 (a_box_fs hg.1.1 (set := b)) (en := a_en (ws 0) (ws 0 54))
    have ih1 := ih (b + 1) (by omega) (by omega) best hbest
    have ih2 := ih (b + 1) (by omega) (by omega) b b8
    rw [show a_menu (ws 0) x (m + 1) b best = a_menu (ws 0) x m (b + 1) (if a_FN (ws 0) (a_fs (ws 0) b) ≠ 100 ∧ a_FN (ws 0) (a_fs (ws 0) b) ≤ x ∧ pop best < pop b then b else best) from rfl]
    rw [show a_FN (ws 0) (a_fs (ws 0) b) = a_FW (ws 0) (a_en (ws 0) (ws 0 54)) (a_fs (ws 0) b) from rfl]
    have e0 := iF_ne fle
    generalize a_FW (ws 0) (a_en (ws 0) (ws 0 54)) (a_fs (ws 0) b) = F at *
    generalize pop b = pb at *
    generalize pop best = pe at *
    simp (disch := first | assumption | rfl | exact zle_0 | exact zle_1 | exact zle_2 | exact zle_3 | exact zle_4 | exact zb_0 | exact zb_1 | exact zb01_B | omega) only [zT100_31, zr_iload_3, zcl_i, zcl_r, zcl_l, zcl_n, zv_some, zv_none, Nat.reduceAdd, Nat.reduceMul, Nat.reduceSub, Nat.reduceLT, Nat.reduceLeDiff, Nat.reduceEqDiff, Int.reduceToNat, true_implies, false_implies, implies_true, and_true, true_and, not_true_eq_false, not_false_eq_true, Nat.zero_add, Nat.add_zero, nI_add, nI_ltI, nI_leI, nI_eq, pk_mul, pk_sub, u2_same, u2_row, u2_other]
    by_cases cA : F = 100
    · rw [if_neg (fun q => q.1 cA)]
      have v : iF F = nM 1 := by unfold iF; rw [if_pos cA]
      rw [v] at mf
      simp (disch := first | assumption | rfl | exact zle_0 | exact zle_1 | exact zle_2 | exact zle_3 | exact zle_4 | exact zb_0 | exact zb_1 | exact zb01_B | omega) only [zT100_32, zr_aload_0, zT100_33, zr_gf_0, zr_or, zr_go, zf_18_0, zf_22_0, zf_42_0, zf_59_0, zf_96_0, zf_116_0, zT100_36, zr_iv_189, zT100_39, zr_icmp_gt, zT100_42, zT100_43, zr_gf_5, zf_18_5, zT100_46, zr_iload_3, zT100_47, zr_iv_223, zT100_50, zr_istore_4, zT100_52, zr_iload_4, zT100_54, zr_ic_m1, zT100_55, zr_icmp_eq, zT100_58, zT100_60, zr_iload_1, zT100_61, zT100_64, zT100_65, zr_iv_238, zT100_68, zr_iload_2, zT100_69, zT100_72, zr_icmp_le, zT100_75, zT100_76, zr_istore_2, zT100_77, zr_iinc_3_1, zT100_80, zr_goto, zcl_i, zcl_r, zcl_l, zcl_n, zv_some, zv_none, Nat.reduceAdd, Nat.reduceMul, Nat.reduceSub, Nat.reduceLT, Nat.reduceLeDiff, Nat.reduceEqDiff, Int.reduceToNat, true_implies, false_implies, implies_true, and_true, true_and, not_true_eq_false, not_false_eq_true, Nat.zero_add, Nat.add_zero, nI_add, nI_ltI, nI_leI, nI_eq, pk_mul, pk_sub, u2_same, u2_row, u2_other, al, mf, ih1, olt_T, olt_F, ole_T, ole_F, oeq_T, oeq_F]
    · have vA : iF F = nI F := by unfold iF; rw [if_neg cA]
      have nA : (nI F = nM 1) = False := nM_eqI (by decide) (by decide) (by omega)
      rw [vA] at mf
      by_cases cB : F ≤ x
      · by_cases cC : pe < pb
        · rw [if_pos ⟨cA, cB, cC⟩]
          simp (disch := first | assumption | rfl | exact zle_0 | exact zle_1 | exact zle_2 | exact zle_3 | exact zle_4 | exact zb_0 | exact zb_1 | exact zb01_B | omega) only [zT100_32, zr_aload_0, zT100_33, zr_gf_0, zr_or, zr_go, zf_18_0, zf_22_0, zf_42_0, zf_59_0, zf_96_0, zf_116_0, zT100_36, zr_iv_189, zT100_39, zr_icmp_gt, zT100_42, zT100_43, zr_gf_5, zf_18_5, zT100_46, zr_iload_3, zT100_47, zr_iv_223, zT100_50, zr_istore_4, zT100_52, zr_iload_4, zT100_54, zr_ic_m1, zT100_55, zr_icmp_eq, zT100_58, zT100_60, zr_iload_1, zT100_61, zT100_64, zT100_65, zr_iv_238, zT100_68, zr_iload_2, zT100_69, zT100_72, zr_icmp_le, zT100_75, zT100_76, zr_istore_2, zT100_77, zr_iinc_3_1, zT100_80, zr_goto, zcl_i, zcl_r, zcl_l, zcl_n, zv_some, zv_none, Nat.reduceAdd, Nat.reduceMul, Nat.reduceSub, Nat.reduceLT, Nat.reduceLeDiff, Nat.reduceEqDiff, Int.reduceToNat, true_implies, false_implies, implies_true, and_true, true_and, not_true_eq_false, not_false_eq_true, Nat.zero_add, Nat.add_zero, nI_add, nI_ltI, nI_leI, nI_eq, pk_mul, pk_sub, u2_same, u2_row, u2_other, al, mf, nA, bc1, bc2, ih2, olt_T, olt_F, ole_T, ole_F, oeq_T, oeq_F]
        · rw [if_neg (fun q => cC q.2.2)]
          simp (disch := first | assumption | rfl | exact zle_0 | exact zle_1 | exact zle_2 | exact zle_3 | exact zle_4 | exact zb_0 | exact zb_1 | exact zb01_B | omega) only [zT100_32, zr_aload_0, zT100_33, zr_gf_0, zr_or, zr_go, zf_18_0, zf_22_0, zf_42_0, zf_59_0, zf_96_0, zf_116_0, zT100_36, zr_iv_189, zT100_39, zr_icmp_gt, zT100_42, zT100_43, zr_gf_5, zf_18_5, zT100_46, zr_iload_3, zT100_47, zr_iv_223, zT100_50, zr_istore_4, zT100_52, zr_iload_4, zT100_54, zr_ic_m1, zT100_55, zr_icmp_eq, zT100_58, zT100_60, zr_iload_1, zT100_61, zT100_64, zT100_65, zr_iv_238, zT100_68, zr_iload_2, zT100_69, zT100_72, zr_icmp_le, zT100_75, zT100_76, zr_istore_2, zT100_77, zr_iinc_3_1, zT100_80, zr_goto, zcl_i, zcl_r, zcl_l, zcl_n, zv_some, zv_none, Nat.reduceAdd, Nat.reduceMul, Nat.reduceSub, Nat.reduceLT, Nat.reduceLeDiff, Nat.reduceEqDiff, Int.reduceToNat, true_implies, false_implies, implies_true, and_true, true_and, not_true_eq_false, not_false_eq_true, Nat.zero_add, Nat.add_zero, nI_add, nI_ltI, nI_leI, nI_eq, pk_mul, pk_sub, u2_same, u2_row, u2_other, al, mf, nA, bc1, bc2, ih1, olt_T, olt_F, ole_T, ole_F, oeq_T, oeq_F]
      · rw [if_neg (fun q => cB q.2.1)]
        simp (disch := first | assumption | rfl | exact zle_0 | exact zle_1 | exact zle_2 | exact zle_3 | exact zle_4 | exact zb_0 | exact zb_1 | exact zb01_B | omega) only [zT100_32, zr_aload_0, zT100_33, zr_gf_0, zr_or, zr_go, zf_18_0, zf_22_0, zf_42_0, zf_59_0, zf_96_0, zf_116_0, zT100_36, zr_iv_189, zT100_39, zr_icmp_gt, zT100_42, zT100_43, zr_gf_5, zf_18_5, zT100_46, zr_iload_3, zT100_47, zr_iv_223, zT100_50, zr_istore_4, zT100_52, zr_iload_4, zT100_54, zr_ic_m1, zT100_55, zr_icmp_eq, zT100_58, zT100_60, zr_iload_1, zT100_61, zT100_64, zT100_65, zr_iv_238, zT100_68, zr_iload_2, zT100_69, zT100_72, zr_icmp_le, zT100_75, zT100_76, zr_istore_2, zT100_77, zr_iinc_3_1, zT100_80, zr_goto, zcl_i, zcl_r, zcl_l, zcl_n, zv_some, zv_none, Nat.reduceAdd, Nat.reduceMul, Nat.reduceSub, Nat.reduceLT, Nat.reduceLeDiff, Nat.reduceEqDiff, Int.reduceToNat, true_implies, false_implies, implies_true, and_true, true_and, not_true_eq_false, not_false_eq_true, Nat.zero_add, Nat.add_zero, nI_add, nI_ltI, nI_leI, nI_eq, pk_mul, pk_sub, u2_same, u2_row, u2_other, al, mf, nA, ih1, olt_T, olt_F, ole_T, ole_F, oeq_T, oeq_F]
theorem sx_menu (hf : z_FR fr) (h : z_XS fi ws nn tx) (hg : z_G ws nn) {x : Int32} (hQ : z_XQ fi fl fr Q (r_menu ws nn x).1 ws (r_menu ws nn x).2 tx) : TT 100 0 [some (.ref 18), some (.int x), none, none, none] [] (151, fi, fl, fr) Q := by
  have o18 : z_ok 151 18 10 = true := rfl; have o70 : z_ok 151 70 18 = true := rfl
  have rfs := fun fi Q => sp_refuse (fi := fi) (fl := fl) (fr := fr) (Q := Q) (r := 2) (x := nM 2) (Or.inl rfl)
  unfold r_menu at hQ
  by_cases c : 0 ≤ x.toInt ∧ x.toInt ≤ 60
  · rw [if_pos c] at hQ
    obtain ⟨j, j2, rfl, ej⟩ := i3 (n := 60) c
    rw [ej] at hQ
    simp (disch := first | assumption | rfl | exact zle_0 | exact zle_1 | exact zle_2 | exact zle_3 | exact zle_4 | exact zb_0 | exact zb_1 | exact zb01_B | omega) only [zT100_0, zr_iload_1, zT100_1, zr_if_lt, zT100_4, zT100_5, zr_ic_60, zT100_7, zr_icmp_le, zT100_10, zr_aload_0, zT100_11, zr_ic_m2, zT100_13, zT100_15, zr_iv_117, zT100_18, zr_ret0, zT100_19, zT100_20, zr_gf_5, zr_or, zr_go, zf_18_5, zT100_23, zr_iv_207, zcl_i, zcl_r, zcl_l, zcl_n, zv_some, zv_none, Nat.reduceAdd, Nat.reduceMul, Nat.reduceSub, Nat.reduceLT, Nat.reduceLeDiff, Nat.reduceEqDiff, Int.reduceToNat, true_implies, false_implies, implies_true, and_true, true_and, not_true_eq_false, not_false_eq_true, Nat.zero_add, Nat.add_zero, nI_add, nI_ltI, nI_leI, nI_eq, pk_mul, pk_sub, u2_same, u2_row, u2_other, olt_T, olt_F, ole_T, ole_F, oeq_T, oeq_F]
    refine sx_plan hf h hg (fun f1 g1 g2 g3 => ?_)
    have e1 : 1 ≤ 2 ^ ws 0 13 := Nat.one_le_two_pow
    have L := fun v4 => sx_mn_ (fl := fl) (Q := Q) hf g1 hg g2 j2 (2 ^ ws 0 13 - 1) 1 (by omega) (Nat.le_refl _) 0 (by decide) v4
    simp (disch := first | assumption | rfl | exact zle_0 | exact zle_1 | exact zle_2 | exact zle_3 | exact zle_4 | exact zb_0 | exact zb_1 | exact zb01_B | omega) only [zT100_26, zr_pop, zT100_27, zr_ic_0, zT100_28, zr_istore_2, zT100_29, zr_ic_1, zT100_30, zr_istore_3, zcl_i, zcl_r, zcl_l, zcl_n, zv_some, zv_none, Nat.reduceAdd, Nat.reduceMul, Nat.reduceSub, Nat.reduceLT, Nat.reduceLeDiff, Nat.reduceEqDiff, Int.reduceToNat, true_implies, false_implies, implies_true, and_true, true_and, not_true_eq_false, not_false_eq_true, Nat.zero_add, Nat.add_zero, nI_add, nI_ltI, nI_leI, nI_eq, pk_mul, pk_sub, u2_same, u2_row, u2_other, L, olt_T, olt_F, ole_T, ole_F, oeq_T, oeq_F]
    exact hQ f1 g1 (fun j hj => g3 j (by omega))
  · rw [if_neg c] at hQ
    have o := z_XQ.ref (Or.inl rfl) h hQ
    rcases out2 (n := 60) (by decide) c with n1 | ⟨n1, n2⟩
    · simp (disch := first | assumption | rfl | exact zle_0 | exact zle_1 | exact zle_2 | exact zle_3 | exact zle_4 | exact zb_0 | exact zb_1 | exact zb01_B | omega) only [zT100_0, zr_iload_1, zT100_1, zr_if_lt, zT100_4, zT100_5, zr_ic_60, zT100_7, zr_icmp_le, zT100_10, zr_aload_0, zT100_11, zr_ic_m2, zT100_13, zT100_15, zr_iv_117, zT100_18, zr_ret0, zcl_i, zcl_r, zcl_l, zcl_n, zv_some, zv_none, Nat.reduceAdd, Nat.reduceMul, Nat.reduceSub, Nat.reduceLT, Nat.reduceLeDiff, Nat.reduceEqDiff, Int.reduceToNat, true_implies, false_implies, implies_true, and_true, true_and, not_true_eq_false, not_false_eq_true, Nat.zero_add, Nat.add_zero, nI_add, nI_ltI, nI_leI, nI_eq, pk_mul, pk_sub, u2_same, u2_row, u2_other, n1, rfs, olt_T, olt_F, ole_T, ole_F, oeq_T, oeq_F]
      exact o
    · simp (disch := first | assumption | rfl | exact zle_0 | exact zle_1 | exact zle_2 | exact zle_3 | exact zle_4 | exact zb_0 | exact zb_1 | exact zb01_B | omega) only [zT100_0, zr_iload_1, zT100_1, zr_if_lt, zT100_4, zT100_5, zr_ic_60, zT100_7, zr_icmp_le, zT100_10, zr_aload_0, zT100_11, zr_ic_m2, zT100_13, zT100_15, zr_iv_117, zT100_18, zr_ret0, zcl_i, zcl_r, zcl_l, zcl_n, zv_some, zv_none, Nat.reduceAdd, Nat.reduceMul, Nat.reduceSub, Nat.reduceLT, Nat.reduceLeDiff, Nat.reduceEqDiff, Int.reduceToNat, true_implies, false_implies, implies_true, and_true, true_and, not_true_eq_false, not_false_eq_true, Nat.zero_add, Nat.add_zero, nI_add, nI_ltI, nI_leI, nI_eq, pk_mul, pk_sub, u2_same, u2_row, u2_other, n1, n2, rfs, olt_T, olt_F, ole_T, ole_F, oeq_T, oeq_F]
      exact o
end
