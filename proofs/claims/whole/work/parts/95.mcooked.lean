/-! the model's cooked -/
def onD (w : Nat → Nat) (b n : Nat) : Nat → Nat := fun j => if j = 59 + w 58 then b else if j = 58 then w 58 + 1 else if 55 ≤ j ∧ j < 55 + n ∧ a_bit b (j - 55) = true then w j + 1 else w j
section
variable {fi fi' : Nat → Nat → Int32} {fl fl' : Nat → Nat → Int64} {fr : Nat → Nat → Option Nat} {Q : Option Value → Mm → Prop} {w : Nat → Nat} {k : Nat} {M : Mm} {ws : Nat → Nat → Nat} {nn tx : Nat → Nat} {n : Nat}
theorem onD_at {b d : Nat} (hd : d < 3) {n : Nat} (hn : n ≤ 3) : onD w b n (55 + d) = w (55 + d) + (if d < n ∧ a_bit b d = true then 1 else 0) := by
  unfold onD
  rw [if_neg (by omega), if_neg (by omega), Nat.add_sub_cancel_left]
  by_cases c : d < n ∧ a_bit b d = true
  · rw [if_pos ⟨by omega, by omega, c.2⟩, if_pos c]
  · rw [if_neg (fun q => c ⟨by omega, q.2.2⟩), if_neg c, Nat.add_zero]
theorem onD_step {b d : Nat} (hd : d < 3) : onD w b (d + 1) = a_set (onD w b d) (55 + d) (w (55 + d) + (if a_bit b d = true then 1 else 0)) := by
  funext j
  by_cases e : j = 55 + d
  · subst e
    rw [a_set_same, onD_at hd (by omega)]
    by_cases q : a_bit b d = true
    · rw [if_pos ⟨by omega, q⟩, if_pos q]
    · rw [if_neg (fun r => q r.2), if_neg q]
  · rw [a_set_ne e]
    unfold onD
    have : (55 ≤ j ∧ j < 55 + (d + 1) ∧ a_bit b (j - 55) = true) = (55 ≤ j ∧ j < 55 + d ∧ a_bit b (j - 55) = true) := propext ⟨fun h => ⟨h.1, by omega, h.2.2⟩, fun h => ⟨h.1, by omega, h.2.2⟩⟩
    simp only [this]
theorem a_on_tot {b d : Nat} (hw : a_WF w) (hd : d < 3) : a_tot (a_on w b) d = a_tot w d := by
  have sm3 := (hw.2.2.2.1 d hd).1.1
  have es : a_sm (a_on w b) d = a_sm w d := a_on_lo (by omega)
  have ec : ∀ s, s < 3 → ∀ c, c < 4 → a_st (a_on w b) d s c = a_st w d s c := fun s hs c hc => a_on_lo (by omega)
  unfold a_tot
  rw [es]
  have e0 := ec 0 (by decide) 3 (by decide)
  have e1 := ec 1 (by decide) 3 (by decide)
  have e2 := ec 2 (by decide) 3 (by decide)
  simp only [e0, e1, e2]
theorem yk_ (hf : z_FR fr) (hw : a_WF w) {b : Nat} (hb : b < 2 ^ w 13) {fi0 : Nat → Nat → Int32} (ht : ∀ d, d < 3 → fi0 142 d = nI (a_tot w d))
    (hQ : ∀ f2, z_MR f2 0 (a_on w b) → (∀ j, j ≠ 134 → f2 j = fi0 j) → (∀ i, 110 ≤ i → i < 330 → f2 134 i = fi0 134 i) → Q (some (.int (nI (a_doneCount (a_on w b) (w 13) 0 0)))) (151, f2, fl, fr)) :
    ∀ m d, d + m = w 13 → ∀ s f1, z_MR f1 0 (onD w b d) → (∀ j, j ≠ 134 → f1 j = fi0 j) → (∀ i, 110 ≤ i → i < 330 → f1 134 i = fi0 134 i) → a_doneCount (a_on w b) m d s = a_doneCount (a_on w b) (w 13) 0 0 → TT 69 104 [some (.ref 133), some (.int (nI b)), some (.int (nI s)), some (.int (nI d))] [] (151, f1, fl, fr) Q := by
  have o133 : z_ok 151 133 20 = true := rfl; have o134 : z_ok 151 134 1 = true := rfl; have o142 : z_ok 151 142 1 = true := rfl
  have l134 : z_al 134 = 440 := rfl; have l142 : z_al 142 = 3 := rfl
  have h13 := hw.2.2.1
  have e8 : 2 ^ w 13 ≤ 2 ^ 3 := Nat.pow_le_pow_right (by decide) h13
  intro m
  induction m with
  | zero =>
    intro d hd s f1 hr h1 h2 hs
    obtain rfl : d = w 13 := by omega
    obtain rfl : s = a_doneCount (a_on w b) (w 13) 0 0 := hs
    have e13 := hr.at0 (i := 13) (by decide)
    rw [show onD w b (w 13) 13 = w 13 from a_on_lo (b := b) (by decide)] at e13
    have o := hQ f1 hr h1 h2
    simp (disch := first | assumption | rfl | exact zle_0 | exact zle_1 | exact zle_2 | exact zle_3 | exact zle_4 | exact zb_0 | exact zb_1 | exact zb01_B | omega) only [zT69_104, zr_iload_3, zT69_105, zr_aload_0, zT69_106, zr_gf_71, zr_or, zr_go, zf_133_71, zT69_109, zr_ic_13, zT69_111, zr_iald, zT69_112, zr_icmp_ge, zT69_172, zr_iload_2, zT69_173, zr_ret0, zcl_i, zcl_r, zcl_l, zcl_n, zv_some, zv_none, Nat.reduceAdd, Nat.reduceMul, Nat.reduceSub, Nat.reduceLT, Nat.reduceLeDiff, Nat.reduceEqDiff, Int.reduceToNat, true_implies, false_implies, implies_true, and_true, true_and, not_true_eq_false, not_false_eq_true, Nat.zero_add, Nat.add_zero, nI_add, nI_ltI, nI_leI, nI_eq, pk_mul, pk_sub, u2_same, u2_row, u2_other, e13, olt_T, olt_F, ole_T, ole_F, oeq_T, oeq_F]
    exact o
  | succ m ih =>
    intro d hd s f1 hr h1 h2 hs
    have d3 : d < 3 := by omega
    have e13 := hr.at0 (i := 13) (by decide)
    rw [show onD w b d 13 = w 13 by unfold onD; rw [if_neg (by omega), if_neg (by omega), if_neg (by omega)]] at e13
    have ed := hr.at0 (i := 55 + d) (by omega)
    rw [onD_at d3 (by omega), if_neg (fun q => by omega), Nat.add_zero] at ed
    have et := ht d d3
    rw [← h1 142 (by decide)] at et
    have ha := fun M Q => sm_has (M := M) (Q := Q) (b := b) (d := d) (by omega) (by omega)
    have dn : a_done (a_on w b) d = decide (w (55 + d) + (if a_bit b d = true then 1 else 0) = a_tot w d) := by
      unfold a_done
      rw [a_on_gone h13 d3 hb, a_on_tot hw d3]
      rfl
    rw [show a_doneCount (a_on w b) (m + 1) d s = a_doneCount (a_on w b) m (d + 1) (s + if a_done (a_on w b) d then 1 else 0) from rfl, dn] at hs
    have tl := a_tot_le (hw.2.2.2.1 d d3).1
    have gl := (hw.2.2.2.1 d d3).2.2
    have gw : w (55 + d) = a_gone w d := rfl
    have hr2 := hr.set (j := 55 + d) (k := 55 + d) (v := w (55 + d) + (if a_bit b d = true then 1 else 0)) (Nat.zero_add _).symm
    rw [← onD_step d3] at hr2
    have ih' := fun s hs => ih (d + 1) (by omega) s _ hr2 (fun j hj => by rw [u2_ne hj]; exact h1 j hj) (fun i i1 i2 => by rw [u2_row (by omega)]; exact h2 i i1 i2) hs
    simp (disch := first | assumption | rfl | exact zle_0 | exact zle_1 | exact zle_2 | exact zle_3 | exact zle_4 | exact zb_0 | exact zb_1 | exact zb01_B | omega) only [zT69_104, zr_iload_3, zcl_i, zcl_r, zcl_l, zcl_n, zv_some, zv_none, Nat.reduceAdd, Nat.reduceMul, Nat.reduceSub, Nat.reduceLT, Nat.reduceLeDiff, Nat.reduceEqDiff, Int.reduceToNat, true_implies, false_implies, implies_true, and_true, true_and, not_true_eq_false, not_false_eq_true, Nat.zero_add, Nat.add_zero, nI_add, nI_ltI, nI_leI, nI_eq, pk_mul, pk_sub, u2_same, u2_row, u2_other]
    cases hb2 : a_bit b d
    · rw [hb2] at ha
      simp only [hb2, Bool.false_eq_true, if_false, Nat.add_zero] at hs ih'
      by_cases c : w (55 + d) = a_tot w d
      · rw [if_pos (decide_eq_true c)] at hs
        have o := ih' _ hs
        rw [c] at o ed
        simp (disch := first | assumption | rfl | exact zle_0 | exact zle_1 | exact zle_2 | exact zle_3 | exact zle_4 | exact zb_0 | exact zb_1 | exact zb01_B | omega) only [zT69_105, zr_aload_0, zT69_106, zr_gf_71, zr_or, zr_go, zf_133_71, zT69_109, zr_ic_13, zT69_111, zr_iald, zT69_112, zr_icmp_ge, zT69_115, zT69_116, zT69_119, zr_ic_55, zT69_121, zr_iload_3, zT69_122, zr_iadd, zT69_123, zr_dup2, zT69_124, zT69_125, zr_iload_1, zT69_126, zT69_127, zr_iv_5, zT69_130, zr_if_eq, zT69_133, zr_ic_1, zT69_134, zr_goto, zT69_137, zr_ic_0, zT69_138, zT69_139, zr_iast, zT69_140, zr_iload_2, zT69_141, zT69_142, zT69_145, zT69_147, zT69_148, zT69_149, zT69_150, zT69_151, zr_gf_88, zf_133_88, zT69_154, zT69_155, zT69_156, zr_icmp_ne, zT69_159, zT69_160, zT69_163, zT69_164, zT69_165, zr_istore_2, zT69_166, zr_iinc_3_1, zT69_169, zcl_i, zcl_r, zcl_l, zcl_n, zv_some, zv_none, Nat.reduceAdd, Nat.reduceMul, Nat.reduceSub, Nat.reduceLT, Nat.reduceLeDiff, Nat.reduceEqDiff, Int.reduceToNat, true_implies, false_implies, implies_true, and_true, true_and, not_true_eq_false, not_false_eq_true, Nat.zero_add, Nat.add_zero, nI_add, nI_ltI, nI_leI, nI_eq, pk_mul, pk_sub, u2_same, u2_row, u2_other, e13, ed, et, ha, zB_eq0, olt_T, olt_F, ole_T, ole_F, oeq_T, oeq_F]
        exact o
      · rw [if_neg (by rw [decide_eq_false c]; decide), Nat.add_zero] at hs
        have o := ih' _ hs
        simp (disch := first | assumption | rfl | exact zle_0 | exact zle_1 | exact zle_2 | exact zle_3 | exact zle_4 | exact zb_0 | exact zb_1 | exact zb01_B | omega) only [zT69_105, zr_aload_0, zT69_106, zr_gf_71, zr_or, zr_go, zf_133_71, zT69_109, zr_ic_13, zT69_111, zr_iald, zT69_112, zr_icmp_ge, zT69_115, zT69_116, zT69_119, zr_ic_55, zT69_121, zr_iload_3, zT69_122, zr_iadd, zT69_123, zr_dup2, zT69_124, zT69_125, zr_iload_1, zT69_126, zT69_127, zr_iv_5, zT69_130, zr_if_eq, zT69_133, zr_ic_1, zT69_134, zr_goto, zT69_137, zr_ic_0, zT69_138, zT69_139, zr_iast, zT69_140, zr_iload_2, zT69_141, zT69_142, zT69_145, zT69_147, zT69_148, zT69_149, zT69_150, zT69_151, zr_gf_88, zf_133_88, zT69_154, zT69_155, zT69_156, zr_icmp_ne, zT69_159, zT69_160, zT69_163, zT69_164, zT69_165, zr_istore_2, zT69_166, zr_iinc_3_1, zT69_169, zcl_i, zcl_r, zcl_l, zcl_n, zv_some, zv_none, Nat.reduceAdd, Nat.reduceMul, Nat.reduceSub, Nat.reduceLT, Nat.reduceLeDiff, Nat.reduceEqDiff, Int.reduceToNat, true_implies, false_implies, implies_true, and_true, true_and, not_true_eq_false, not_false_eq_true, Nat.zero_add, Nat.add_zero, nI_add, nI_ltI, nI_leI, nI_eq, pk_mul, pk_sub, u2_same, u2_row, u2_other, e13, ed, et, ha, zB_eq0, olt_T, olt_F, ole_T, ole_F, oeq_T, oeq_F]
        exact o
    · rw [hb2] at ha
      simp only [hb2, if_true] at hs ih'
      by_cases c : w (55 + d) + 1 = a_tot w d
      · rw [if_pos (decide_eq_true c)] at hs
        have o := ih' _ hs
        simp (disch := first | assumption | rfl | exact zle_0 | exact zle_1 | exact zle_2 | exact zle_3 | exact zle_4 | exact zb_0 | exact zb_1 | exact zb01_B | omega) only [zT69_105, zr_aload_0, zT69_106, zr_gf_71, zr_or, zr_go, zf_133_71, zT69_109, zr_ic_13, zT69_111, zr_iald, zT69_112, zr_icmp_ge, zT69_115, zT69_116, zT69_119, zr_ic_55, zT69_121, zr_iload_3, zT69_122, zr_iadd, zT69_123, zr_dup2, zT69_124, zT69_125, zr_iload_1, zT69_126, zT69_127, zr_iv_5, zT69_130, zr_if_eq, zT69_133, zr_ic_1, zT69_134, zr_goto, zT69_137, zr_ic_0, zT69_138, zT69_139, zr_iast, zT69_140, zr_iload_2, zT69_141, zT69_142, zT69_145, zT69_147, zT69_148, zT69_149, zT69_150, zT69_151, zr_gf_88, zf_133_88, zT69_154, zT69_155, zT69_156, zr_icmp_ne, zT69_159, zT69_160, zT69_163, zT69_164, zT69_165, zr_istore_2, zT69_166, zr_iinc_3_1, zT69_169, zcl_i, zcl_r, zcl_l, zcl_n, zv_some, zv_none, Nat.reduceAdd, Nat.reduceMul, Nat.reduceSub, Nat.reduceLT, Nat.reduceLeDiff, Nat.reduceEqDiff, Int.reduceToNat, true_implies, false_implies, implies_true, and_true, true_and, not_true_eq_false, not_false_eq_true, Nat.zero_add, Nat.add_zero, nI_add, nI_ltI, nI_leI, nI_eq, pk_mul, pk_sub, u2_same, u2_row, u2_other, e13, ed, et, ha, zB_eq0, reduceCtorEq, olt_T, olt_F, ole_T, ole_F, oeq_T, oeq_F]
        exact o
      · rw [if_neg (by rw [decide_eq_false c]; decide), Nat.add_zero] at hs
        have o := ih' _ hs
        simp (disch := first | assumption | rfl | exact zle_0 | exact zle_1 | exact zle_2 | exact zle_3 | exact zle_4 | exact zb_0 | exact zb_1 | exact zb01_B | omega) only [zT69_105, zr_aload_0, zT69_106, zr_gf_71, zr_or, zr_go, zf_133_71, zT69_109, zr_ic_13, zT69_111, zr_iald, zT69_112, zr_icmp_ge, zT69_115, zT69_116, zT69_119, zr_ic_55, zT69_121, zr_iload_3, zT69_122, zr_iadd, zT69_123, zr_dup2, zT69_124, zT69_125, zr_iload_1, zT69_126, zT69_127, zr_iv_5, zT69_130, zr_if_eq, zT69_133, zr_ic_1, zT69_134, zr_goto, zT69_137, zr_ic_0, zT69_138, zT69_139, zr_iast, zT69_140, zr_iload_2, zT69_141, zT69_142, zT69_145, zT69_147, zT69_148, zT69_149, zT69_150, zT69_151, zr_gf_88, zf_133_88, zT69_154, zT69_155, zT69_156, zr_icmp_ne, zT69_159, zT69_160, zT69_163, zT69_164, zT69_165, zr_istore_2, zT69_166, zr_iinc_3_1, zT69_169, zcl_i, zcl_r, zcl_l, zcl_n, zv_some, zv_none, Nat.reduceAdd, Nat.reduceMul, Nat.reduceSub, Nat.reduceLT, Nat.reduceLeDiff, Nat.reduceEqDiff, Int.reduceToNat, true_implies, false_implies, implies_true, and_true, true_and, not_true_eq_false, not_false_eq_true, Nat.zero_add, Nat.add_zero, nI_add, nI_ltI, nI_leI, nI_eq, pk_mul, pk_sub, u2_same, u2_row, u2_other, e13, ed, et, ha, zB_eq0, reduceCtorEq, olt_T, olt_F, ole_T, ole_F, oeq_T, oeq_F]
        exact o
theorem ym_cooked (hf : z_FR fr) (h : z_MS fi fl ws nn tx) (hg : z_G ws nn) {x : Int32} (hQ : z_MQ fi fr Q (r_cooked ws nn x).1 (r_cooked ws nn x).2.1 (r_cooked ws nn x).2.2 tx) : TT 69 0 [some (.ref 133), some (.int x), none, none] [] (151, fi, fl, fr) Q := by
  have o133 : z_ok 151 133 20 = true := rfl; have o134 : z_ok 151 134 1 = true := rfl; have o140 : z_ok 151 140 1 = true := rfl
  have l134 : z_al 134 = 440 := rfl; have l140 : z_al 140 = 4096 := rfl
  have td := fun fi a Q => sm_told (fi := fi) (fl := fl) (Q := Q) hf (a := a)
  have si := fun M Q v lo hi => sm_in (M := M) (Q := Q) (v := v) (lo := lo) (hi := hi)
  have l1 : (lN 1).toInt = 1 := by decide
  have h13 := hg.1.1.2.2.1
  have h54 := hg.1.1.2.2.2.2.2.1
  have e54 := h.1.1.at0 (i := 54) (by decide)
  have al := fun Q => sm_allDishes (fl := fl) (Q := Q) hf hg.1.1 h.1.1
  have al8 := all_lt (ws 0) h13
  have ali : (nI (a_all (ws 0))).toInt = ((a_all (ws 0) : Nat) : Int) := nI_toInt (by omega)
  have p1 : 1 ≤ 2 ^ ws 0 13 := Nat.one_le_two_pow
  have pe : ((2 ^ ws 0 13 : Nat) : Int) = (2 : Int) ^ ws 0 13 := by simp
  have ea : a_all (ws 0) + 1 = 2 ^ ws 0 13 := by unfold a_all; omega
  unfold r_cooked at hQ
  rw [← pe] at hQ
  by_cases cx : 1 ≤ x.toInt ∧ x.toInt ≤ ((a_all (ws 0) : Nat) : Int)
  · rw [if_pos ⟨cx.1, by omega⟩] at hQ
    obtain ⟨ex, lx⟩ := nI_ofInt (x := x) (by omega)
    have b8 : x.toInt.toNat < 8 := by omega
    have b0 : 0 < x.toInt.toNat := by omega
    have bl : x.toInt.toNat < 2 ^ ws 0 13 := by omega
    have cx' := dcd_T cx
    generalize hx : x.toInt.toNat = b at *
    have rest : ∀ f1, z_MS f1 fl ws nn tx → z_MH f1 (a_but (ws 0) (ws 0 54) 6) 0 0 6 → z_sr fi f1 → TT 69 42 [some (.ref 133), some (.int (nI b)), none, none] [] (151, f1, fl, fr) Q := by
      intro f1 g1 g2 g3
      have al1 := fun Q => sm_allDishes (fl := fl) (Q := Q) hf hg.1.1 g1.1.1
      simp (disch := first | assumption | rfl | exact zle_0 | exact zle_1 | exact zle_2 | exact zle_3 | exact zle_4 | exact zb_0 | exact zb_1 | exact zb01_B | omega) only [zT69_42, zr_aload_0, zT69_43, zT69_44, zr_iv_48, zT69_47, zr_iv_46, zcl_i, zcl_r, zcl_l, zcl_n, zv_some, zv_none, Nat.reduceAdd, Nat.reduceMul, Nat.reduceSub, Nat.reduceLT, Nat.reduceLeDiff, Nat.reduceEqDiff, Int.reduceToNat, true_implies, false_implies, implies_true, and_true, true_and, not_true_eq_false, not_false_eq_true, Nat.zero_add, Nat.add_zero, nI_add, nI_ltI, nI_leI, nI_eq, pk_mul, pk_sub, u2_same, u2_row, u2_other, al1, olt_T, olt_F, ole_T, ole_F, oeq_T, oeq_F]
      refine sm_findMay hf hg.1.1 g1.1.1 (by decide) g2 al8 (fun f2 k1 k2 k3 => ?_)
      rw [en_but hg.1.1] at k2
      have s2 : z_fs f1 f2 := fun j a b c => k3 j a c
      have s3 := g3.tr s2.sr
      have m2 := h.sr s3
      have sn := fun Q => sm_stateNow (fl := fl) (Q := Q) hf hg.1.1 m2.1.1
      have bS := isSt_box (a_box_S hg.1.1)
      have s4 := bS.1
      have em := k2 _ bS.1
      have mlt := a_may_lt (w := ws 0) (en := a_enough (ws 0) (a_hands (ws 0) (ws 0 54)) 0 0) (some_ := a_all (ws 0)) (s := a_S (ws 0))
      have mb : a_bit (a_mayA (ws 0) (a_enough (ws 0) (a_hands (ws 0) (ws 0 54)) 0 0) (a_all (ws 0)) (a_S (ws 0))) b = a_mvN (ws 0) (a_S (ws 0)) b := by
        unfold a_mayA
        rw [if_pos ((a_st3_iff s4).mpr bS), a_may_mv hg.1.1 al8 bS b8, fill_all hg.1.1 bS]
        rfl
      generalize a_mayA (ws 0) (a_enough (ws 0) (a_hands (ws 0) (ws 0 54)) 0 0) (a_all (ws 0)) (a_S (ws 0)) = mk at *
      have ha := fun M Q => sm_has (M := M) (Q := Q) (b := mk) (d := b) (by omega) (by omega)
      rw [mb] at ha
      have e58 := m2.1.1.at0 (i := 58) (by decide)
      cases yes : a_mvN (ws 0) (a_S (ws 0)) b
      · rw [yes] at ha
        rw [yes, if_neg (by decide)] at hQ
        have o := z_MQ.ref (fi := f2) (Or.inr (Or.inl rfl)) m2 (fun f' l' q1 q2 => hQ f' l' q1 (fun i hi => by rw [q2 i hi, s3.2 i (by omega)]))
        simp (disch := first | assumption | rfl | exact zle_0 | exact zle_1 | exact zle_2 | exact zle_3 | exact zle_4 | exact zb_0 | exact zb_1 | exact zb01_B | omega) only [zT69_50, zr_aload_0, zT69_51, zr_gf_86, zr_or, zr_go, zf_133_86, zT69_54, zT69_55, zr_iv_42, zT69_58, zr_iald, zT69_59, zr_iload_1, zT69_60, zr_iv_5, zT69_63, zr_if_ne, zT69_66, zT69_67, zr_ic_m3, zT69_69, zr_iv_3, zT69_72, zr_ret0, zcl_i, zcl_r, zcl_l, zcl_n, zv_some, zv_none, Nat.reduceAdd, Nat.reduceMul, Nat.reduceSub, Nat.reduceLT, Nat.reduceLeDiff, Nat.reduceEqDiff, Int.reduceToNat, true_implies, false_implies, implies_true, and_true, true_and, not_true_eq_false, not_false_eq_true, Nat.zero_add, Nat.add_zero, nI_add, nI_ltI, nI_leI, nI_eq, pk_mul, pk_sub, u2_same, u2_row, u2_other, sn, em, ha, zB_eq0, td, olt_T, olt_F, ole_T, ole_F, oeq_T, oeq_F]
        exact o
      · rw [yes] at ha
        rw [yes, if_pos rfl] at hQ
        dsimp only at hQ
        have hWn := a_on_W hg.1 b0 bl yes
        have l58 : ws 0 58 < 45 := by
          have := hWn.le
          have e58 : a_on (ws 0) b 58 = ws 0 58 + 1 := by
            unfold a_on
            rw [if_neg (by omega), if_pos rfl]
          omega
        have hr0 : z_MR (u2 (u2 f2 134 (59 + ws 0 58) (nI b)) 134 58 (nI (ws 0 58 + 1))) 0 (onD (ws 0) b 0) := by
          have r1 := (m2.1.1.set (j := 59 + ws 0 58) (k := 59 + ws 0 58) (v := b) (Nat.zero_add _).symm).set (j := 58) (k := 58) (v := ws 0 58 + 1) (Nat.zero_add _).symm
          have e : a_set (a_set (ws 0) (59 + ws 0 58) b) 58 (ws 0 58 + 1) = onD (ws 0) b 0 := by
            funext j
            unfold onD
            by_cases q : j = 58
            · subst q
              rw [a_set_same, if_neg (by omega), if_pos rfl]
            · rw [a_set_ne q]
              by_cases q2 : j = 59 + ws 0 58
              · subst q2; rw [a_set_same, if_pos rfl]
              · rw [a_set_ne q2, if_neg q2, if_neg q, if_neg (by omega)]
          rw [e] at r1
          exact r1
        have K := yk_ (fl := fl) (Q := Q) (fi0 := f2) hf hg.1.1 bl k1 (fun f3 q1 q2 q3 => hQ f3 fl (m2.kit q1 q2 q3) (fun i hi => by rw [q2 i (by omega), s3.2 i (by omega)])) (ws 0 13) 0 (Nat.zero_add _) 0 _ hr0 (fun j hj => by rw [u2_ne hj, u2_ne hj]) (fun i i1 i2 => by rw [u2_row (by omega), u2_row (by omega)]) rfl
        have e58' : u2 f2 134 (59 + ws 0 58) (nI b) 134 58 = nI (ws 0 58) := by rw [u2_row (by omega)]; exact e58
        simp (disch := first | assumption | rfl | exact zle_0 | exact zle_1 | exact zle_2 | exact zle_3 | exact zle_4 | exact zb_0 | exact zb_1 | exact zb01_B | omega) only [zT69_50, zr_aload_0, zT69_51, zr_gf_86, zr_or, zr_go, zf_133_86, zT69_54, zT69_55, zr_iv_42, zT69_58, zr_iald, zT69_59, zr_iload_1, zT69_60, zr_iv_5, zT69_63, zr_if_ne, zT69_66, zT69_67, zr_ic_m3, zT69_69, zr_iv_3, zT69_72, zr_ret0, zT69_73, zT69_74, zr_gf_71, zf_133_71, zT69_77, zr_ic_59, zT69_79, zT69_80, zT69_83, zr_ic_58, zT69_85, zT69_86, zr_iadd, zT69_87, zT69_88, zr_iast, zT69_89, zT69_90, zT69_93, zT69_95, zr_dup2, zT69_96, zT69_97, zr_ic_1, zT69_98, zT69_99, zT69_100, zr_ic_0, zT69_101, zr_istore_2, zT69_102, zT69_103, zr_istore_3, zcl_i, zcl_r, zcl_l, zcl_n, zv_some, zv_none, Nat.reduceAdd, Nat.reduceMul, Nat.reduceSub, Nat.reduceLT, Nat.reduceLeDiff, Nat.reduceEqDiff, Int.reduceToNat, true_implies, false_implies, implies_true, and_true, true_and, not_true_eq_false, not_false_eq_true, Nat.zero_add, Nat.add_zero, nI_add, nI_ltI, nI_leI, nI_eq, pk_mul, pk_sub, u2_same, u2_row, u2_other, sn, em, ha, zB_eq0, reduceCtorEq, e58, e58', olt_T, olt_F, ole_T, ole_F, oeq_T, oeq_F]
        exact K
    have : ws 0 54 = 0 ∨ ws 0 54 = 1 := by omega
    rw [ex] at cx' ⊢
    rcases this with e | e
    · rw [e] at e54 rest
      simp (disch := first | assumption | rfl | exact zle_0 | exact zle_1 | exact zle_2 | exact zle_3 | exact zle_4 | exact zb_0 | exact zb_1 | exact zb01_B | omega) only [zT69_0, zr_iload_1, zT69_1, zr_i2l, zT69_2, zr_ldc2, zT69_3, zr_aload_0, zT69_4, zr_iv_48, zT69_7, zT69_8, zr_iv_2, zT69_11, zr_if_ne, zT69_14, zT69_15, zr_ic_m2, zT69_17, zr_iv_3, zT69_20, zr_ret0, zT69_21, zT69_22, zr_ic_m1, zT69_23, zT69_24, zr_gf_71, zr_or, zr_go, zf_133_71, zT69_27, zr_ic_54, zT69_29, zr_iald, zT69_30, zr_ic_1, zT69_31, zr_icmp_ne, zT69_34, zT69_35, zr_goto, zT69_38, zr_ic_0, zT69_39, zr_iv_37, zcl_i, zcl_r, zcl_l, zcl_n, zv_some, zv_none, Nat.reduceAdd, Nat.reduceMul, Nat.reduceSub, Nat.reduceLT, Nat.reduceLeDiff, Nat.reduceEqDiff, Int.reduceToNat, true_implies, false_implies, implies_true, and_true, true_and, not_true_eq_false, not_false_eq_true, Nat.zero_add, Nat.add_zero, nI_add, nI_ltI, nI_leI, nI_eq, pk_mul, pk_sub, u2_same, u2_row, u2_other, al, si, x64, l1, ali, cx', zB_eq0, reduceCtorEq, e54, olt_T, olt_F, ole_T, ole_F, oeq_T, oeq_F]
      exact ym_gather hf h hg (by decide) hx6 (fun f1 g1 g2 g3 => rest f1 g1 g2 g3)
    · rw [e] at e54 rest
      simp (disch := first | assumption | rfl | exact zle_0 | exact zle_1 | exact zle_2 | exact zle_3 | exact zle_4 | exact zb_0 | exact zb_1 | exact zb01_B | omega) only [zT69_0, zr_iload_1, zT69_1, zr_i2l, zT69_2, zr_ldc2, zT69_3, zr_aload_0, zT69_4, zr_iv_48, zT69_7, zT69_8, zr_iv_2, zT69_11, zr_if_ne, zT69_14, zT69_15, zr_ic_m2, zT69_17, zr_iv_3, zT69_20, zr_ret0, zT69_21, zT69_22, zr_ic_m1, zT69_23, zT69_24, zr_gf_71, zr_or, zr_go, zf_133_71, zT69_27, zr_ic_54, zT69_29, zr_iald, zT69_30, zr_ic_1, zT69_31, zr_icmp_ne, zT69_34, zT69_35, zr_goto, zT69_38, zr_ic_0, zT69_39, zr_iv_37, zcl_i, zcl_r, zcl_l, zcl_n, zv_some, zv_none, Nat.reduceAdd, Nat.reduceMul, Nat.reduceSub, Nat.reduceLT, Nat.reduceLeDiff, Nat.reduceEqDiff, Int.reduceToNat, true_implies, false_implies, implies_true, and_true, true_and, not_true_eq_false, not_false_eq_true, Nat.zero_add, Nat.add_zero, nI_add, nI_ltI, nI_leI, nI_eq, pk_mul, pk_sub, u2_same, u2_row, u2_other, al, si, x64, l1, ali, cx', zB_eq0, reduceCtorEq, e54, olt_T, olt_F, ole_T, ole_F, oeq_T, oeq_F]
      exact ym_gather hf h hg (by decide) hx6 (fun f1 g1 g2 g3 => rest f1 g1 g2 g3)
  · rw [if_neg (fun q => cx ⟨q.1, by omega⟩)] at hQ
    have o := z_MQ.ref (Or.inl rfl) h hQ
    simp (disch := first | assumption | rfl | exact zle_0 | exact zle_1 | exact zle_2 | exact zle_3 | exact zle_4 | exact zb_0 | exact zb_1 | exact zb01_B | omega) only [zT69_0, zr_iload_1, zT69_1, zr_i2l, zT69_2, zr_ldc2, zT69_3, zr_aload_0, zT69_4, zr_iv_48, zT69_7, zT69_8, zr_iv_2, zT69_11, zr_if_ne, zT69_14, zT69_15, zr_ic_m2, zT69_17, zr_iv_3, zT69_20, zr_ret0, zcl_i, zcl_r, zcl_l, zcl_n, zv_some, zv_none, Nat.reduceAdd, Nat.reduceMul, Nat.reduceSub, Nat.reduceLT, Nat.reduceLeDiff, Nat.reduceEqDiff, Int.reduceToNat, true_implies, false_implies, implies_true, and_true, true_and, not_true_eq_false, not_false_eq_true, Nat.zero_add, Nat.add_zero, nI_add, nI_ltI, nI_leI, nI_eq, pk_mul, pk_sub, u2_same, u2_row, u2_other, al, si, x64, l1, ali, dcd_F cx, zB_eq0, td, olt_T, olt_F, ole_T, ole_F, oeq_T, oeq_F]
    exact o
end
