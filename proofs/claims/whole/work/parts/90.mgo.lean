/-! the model's goThrough -/
section
variable {fi fi' : Nat → Nat → Int32} {fl fl' : Nat → Nat → Int64} {fr : Nat → Nat → Option Nat} {Q : Option Value → Mm → Prop} {w : Nat → Nat} {k : Nat} {M : Mm} {ws : Nat → Nat → Nat} {nn tx : Nat → Nat} {n : Nat}
theorem z_GF.row {f f' : Nat → Nat → Int32} {A B P : Nat} {C : Option Nat} (h : z_GF f A B C P) (hf : zw_f f f') : z_GF f' A B C P := by
  obtain ⟨h1, h2, h3, h4⟩ := h
  refine ⟨?_, ?_, ?_, ?_⟩
  · rw [hf.1 _ (by decide) (by decide) (by decide) (by decide) (by decide) (by decide)]; exact h1
  · rw [hf.1 _ (by decide) (by decide) (by decide) (by decide) (by decide) (by decide)]; exact h2
  · rw [hf.1 _ (by decide) (by decide) (by decide) (by decide) (by decide) (by decide)]; exact h3
  · rw [hf.1 _ (by decide) (by decide) (by decide) (by decide) (by decide) (by decide)]; exact h4
theorem gt_w_ (hf : z_FR fr) (h0 : w 0 ≤ 6) {fi0 : Nat → Nat → Int32} (hr0 : z_MR fi0 0 w) {v1 v2 v3 v6 v9 v10 : Int32} {v13 v14 : Option Value} {v4 v7 : Int64} {at_ A B P1 : Nat} {C : Option Nat} (ha : at_ < 64)
    (hQ : ∀ f, zg fi0 f → z_GF f A B C P1 → TT 64 290 [some (.ref 133), some (.int v1), some (.int v2), some (.int v3), some (.long v4), none, some (.int v6), some (.long v7), none, some (.int v9), some (.int v10), some (.int (nI at_)), some (.int (nI (w 0))), v13, v14] [] (151, f, fl, fr) Q) :
    ∀ m c, c + m = w 0 → ∀ f P, zg fi0 f → z_GF f A B C P → P + a_wg w at_ m c = P1 → TT 64 240 [some (.ref 133), some (.int v1), some (.int v2), some (.int v3), some (.long v4), none, some (.int v6), some (.long v7), none, some (.int v9), some (.int v10), some (.int (nI at_)), some (.int (nI c)), v13, v14] [] (151, f, fl, fr) Q := by
  have o133 : z_ok 151 133 20 = true := rfl; have o134 : z_ok 151 134 1 = true := rfl
  have l134 : z_al 134 = 440 := rfl
  intro m
  induction m with
  | zero =>
    intro c hc f P hz hG hP
    obtain rfl : c = w 0 := by omega
    obtain rfl : P = P1 := hP
    have hr : z_MR f 0 w := fun i hi => by rw [hz.1.2 134 (by decide)]; exact hr0 i hi
    have e0 := hr.at0 (i := 0) (by decide)
    have o := hQ f hz hG
    simp (disch := first | assumption | rfl | exact zle_0 | exact zle_1 | exact zle_2 | exact zle_3 | exact zle_4 | exact zb_0 | exact zb_1 | exact zb01_B | omega) only [zT64_240, zr_iload_12, zT64_242, zr_aload_0, zT64_243, zr_gf_71, zr_or, zr_go, zf_133_71, zT64_246, zr_ic_0, zT64_247, zr_iald, zT64_248, zr_icmp_ge, zcl_i, zcl_r, zcl_l, zcl_n, zv_some, zv_none, Nat.reduceAdd, Nat.reduceMul, Nat.reduceSub, Nat.reduceLT, Nat.reduceLeDiff, Nat.reduceEqDiff, Int.reduceToNat, true_implies, false_implies, implies_true, and_true, true_and, not_true_eq_false, not_false_eq_true, Nat.zero_add, Nat.add_zero, nI_add, nI_ltI, nI_leI, nI_eq, pk_mul, pk_sub, u2_same, u2_row, u2_other, e0, olt_T, olt_F, ole_T, ole_F, oeq_T, oeq_F]
    exact o
  | succ m ih =>
    intro c hc f P hz hG hP
    have hr : z_MR f 0 w := fun i hi => by rw [hz.1.2 134 (by decide)]; exact hr0 i hi
    have e0 := hr.at0 (i := 0) (by decide)
    have ec := hr.at0 (i := 7 + c) (by omega)
    have hs := fun M Q => sm_has (M := M) (Q := Q) (b := at_) (d := c) (by omega) (by omega)
    obtain ⟨G1, G2, G3, G4⟩ := hG
    rw [show a_wg w at_ (m + 1) c = (if a_bit at_ c then w (7 + c) else 0) + a_wg w at_ m (c + 1) from rfl] at hP
    have nx1 : ∀ v, v + a_wg w at_ m (c + 1) = P1 → TT 64 240 _ [] (151, u2 f 133 102 (nI v), fl, fr) Q := fun v hv => ih (c + 1) (by omega) _ v (hz.tr (zg.up (by simp))) ⟨by rw [u2_row (by decide)]; exact G1, by rw [u2_row (by decide)]; exact G2, by rw [u2_row (by decide)]; exact G3, u2_same⟩ hv
    cases hb : a_bit at_ c
    · rw [hb] at hs
      rw [hb, if_neg (by decide), Nat.zero_add] at hP
      have o := nx1 P hP
      simp (disch := first | assumption | rfl | exact zle_0 | exact zle_1 | exact zle_2 | exact zle_3 | exact zle_4 | exact zb_0 | exact zb_1 | exact zb01_B | omega) only [zT64_240, zr_iload_12, zcl_i, zcl_r, zcl_l, zcl_n, zv_some, zv_none, Nat.reduceAdd, Nat.reduceMul, Nat.reduceSub, Nat.reduceLT, Nat.reduceLeDiff, Nat.reduceEqDiff, Int.reduceToNat, true_implies, false_implies, implies_true, and_true, true_and, not_true_eq_false, not_false_eq_true, Nat.zero_add, Nat.add_zero, nI_add, nI_ltI, nI_leI, nI_eq, pk_mul, pk_sub, u2_same, u2_row, u2_other]
      simp (disch := first | assumption | rfl | exact zle_0 | exact zle_1 | exact zle_2 | exact zle_3 | exact zle_4 | exact zb_0 | exact zb_1 | exact zb01_B | omega) only [zT64_242, zr_aload_0, zT64_243, zr_gf_71, zr_or, zr_go, zf_133_71, zT64_246, zr_ic_0, zT64_247, zr_iald, zT64_248, zr_icmp_ge, zT64_251, zT64_252, zr_dup_r, zr_dup_i, zT64_253, zr_gf_102, zT64_256, zr_iload_11, zT64_258, zr_iload_12, zT64_260, zr_iv_5, zT64_263, zr_if_eq, zT64_266, zT64_267, zT64_270, zr_ic_7, zT64_272, zT64_274, zr_iadd, zT64_275, zT64_276, zr_goto, zT64_279, zT64_280, zT64_281, zr_pf_102, zT64_284, zr_iinc_12_1, zT64_287, zcl_i, zcl_r, zcl_l, zcl_n, zv_some, zv_none, Nat.reduceAdd, Nat.reduceMul, Nat.reduceSub, Nat.reduceLT, Nat.reduceLeDiff, Nat.reduceEqDiff, Int.reduceToNat, true_implies, false_implies, implies_true, and_true, true_and, not_true_eq_false, not_false_eq_true, Nat.zero_add, Nat.add_zero, nI_add, nI_ltI, nI_leI, nI_eq, pk_mul, pk_sub, u2_same, u2_row, u2_other, e0, hs, zB_eq0, G4, olt_T, olt_F, ole_T, ole_F, oeq_T, oeq_F]
      exact o
    · rw [hb] at hs
      rw [hb, if_pos rfl, ← Nat.add_assoc] at hP
      have o := nx1 _ hP
      simp (disch := first | assumption | rfl | exact zle_0 | exact zle_1 | exact zle_2 | exact zle_3 | exact zle_4 | exact zb_0 | exact zb_1 | exact zb01_B | omega) only [zT64_240, zr_iload_12, zcl_i, zcl_r, zcl_l, zcl_n, zv_some, zv_none, Nat.reduceAdd, Nat.reduceMul, Nat.reduceSub, Nat.reduceLT, Nat.reduceLeDiff, Nat.reduceEqDiff, Int.reduceToNat, true_implies, false_implies, implies_true, and_true, true_and, not_true_eq_false, not_false_eq_true, Nat.zero_add, Nat.add_zero, nI_add, nI_ltI, nI_leI, nI_eq, pk_mul, pk_sub, u2_same, u2_row, u2_other]
      simp (disch := first | assumption | rfl | exact zle_0 | exact zle_1 | exact zle_2 | exact zle_3 | exact zle_4 | exact zb_0 | exact zb_1 | exact zb01_B | omega) only [zT64_242, zr_aload_0, zT64_243, zr_gf_71, zr_or, zr_go, zf_133_71, zT64_246, zr_ic_0, zT64_247, zr_iald, zT64_248, zr_icmp_ge, zT64_251, zT64_252, zr_dup_r, zr_dup_i, zT64_253, zr_gf_102, zT64_256, zr_iload_11, zT64_258, zr_iload_12, zT64_260, zr_iv_5, zT64_263, zr_if_eq, zT64_266, zT64_267, zT64_270, zr_ic_7, zT64_272, zT64_274, zr_iadd, zT64_275, zT64_276, zr_goto, zT64_279, zT64_280, zT64_281, zr_pf_102, zT64_284, zr_iinc_12_1, zT64_287, zcl_i, zcl_r, zcl_l, zcl_n, zv_some, zv_none, Nat.reduceAdd, Nat.reduceMul, Nat.reduceSub, Nat.reduceLT, Nat.reduceLeDiff, Nat.reduceEqDiff, Int.reduceToNat, true_implies, false_implies, implies_true, and_true, true_and, not_true_eq_false, not_false_eq_true, Nat.zero_add, Nat.add_zero, nI_add, nI_ltI, nI_leI, nI_eq, pk_mul, pk_sub, u2_same, u2_row, u2_other, e0, hs, zB_eq0, reduceCtorEq, G4, ec, olt_T, olt_F, ole_T, ole_F, oeq_T, oeq_F]
      exact o
def atf (tm : Nat → Nat) (i : Nat) : Nat → Nat
  | 0 => 0
  | e + 1 => atf tm i e ||| tm (3 * i + e)
theorem gt_i_ (hf : z_FR fr) (hw : a_WF w) (hr : z_MR fi 0 w) (hp : z_MP fi w (a_en w (w 54)) (a_all w)) (hn : a_nw w ≠ 100) {g : Nat → Nat} {ci : Int32} (hci : z_who ci (a_tmN w) g) {w20 sd : Nat} (hw20 : w20 ≤ 20) {A1 B1 P1 : Nat} {D : Option Nat}
    (hQ : ∀ f, zg fi f → z_GF f A1 B1 D P1 → Q none (151, f, fl, fr)) :
    ∀ m i, i + m = a_nw w → ∀ f x A B C P v10 v11 v12 v13 v14, zg fi f → z_GF f A B C P → x < 2147483648 → (∀ r, C = some r → r < 1000) → oo C (a_burn (a_tmN w) w20 (3 * m) (3 * i) x) = D → A + cN (shN (a_tmN w)) m i = A1 → B + cN g m i = B1 → P + wgN w (a_tmN w) m i = P1 →
    TT 64 33 [some (.ref 133), some (.int (nI (a_nw w))), some (.int ci), some (.int (nI w20)), some (.long (lN sd)), none, some (.int (nI (a_sN w i))), some (.long (lN x)), none, some (.int (nI i)), v10, v11, v12, v13, v14] [] (151, f, fl, fr) Q := by
  have o133 : z_ok 151 133 20 = true := rfl
  have n45 : a_nw w ≤ 45 ∨ a_nw w = 100 := a_FW_45 hw
  have sys := a_sys hw (en := a_en w (w 54))
  have bE := a_box_E hw
  have bS := a_box_S hw
  have w06 := hw.1
  intro m
  induction m with
  | zero =>
    intro i hi f x A B C P v10 v11 v12 v13 v14 hz hG hx hC hD hA hB hP
    obtain rfl : i = a_nw w := by omega
    obtain rfl : A = A1 := hA
    obtain rfl : B = B1 := hB
    obtain rfl : P = P1 := hP
    have cd : oo C none = C := by cases C <;> rfl
    rw [Nat.mul_zero, show a_burn (a_tmN w) w20 0 (3 * a_nw w) x = none from rfl, cd] at hD
    subst hD
    have o := hQ f hz hG
    simp (disch := first | assumption | rfl | exact zle_0 | exact zle_1 | exact zle_2 | exact zle_3 | exact zle_4 | exact zb_0 | exact zb_1 | exact zb01_B | omega) only [zT64_33, zr_iload_9, zT64_35, zr_iload_1, zT64_36, zr_icmp_ge, zT64_305, zr_return, zcl_i, zcl_r, zcl_l, zcl_n, zv_some, zv_none, Nat.reduceAdd, Nat.reduceMul, Nat.reduceSub, Nat.reduceLT, Nat.reduceLeDiff, Nat.reduceEqDiff, Int.reduceToNat, true_implies, false_implies, implies_true, and_true, true_and, not_true_eq_false, not_false_eq_true, Nat.zero_add, Nat.add_zero, nI_add, nI_ltI, nI_leI, nI_eq, pk_mul, pk_sub, u2_same, u2_row, u2_other, olt_T, olt_F, ole_T, ole_F, oeq_T, oeq_F]
    exact o
  | succ m ih =>
    intro i hi f x A B C P v10 v11 v12 v13 v14 hz hG hx hC hD hA hB hP
    obtain ⟨sb, sF⟩ := a_sAt_spec (E := a_E w) sys bE bS (s0 := a_S w) (n := a_nw w) rfl hn i (by omega)
    obtain ⟨q1, q8, q3, q4, q5⟩ := a_nxt_spec (E := a_E w) sys bE sb (by omega) (by omega)
    have hr1 : z_MR f 0 w := fun j hj => by rw [hz.1.2 134 (by decide)]; exact hr j hj
    have hp1 : z_MP f w (a_en w (w 54)) (a_all w) := by
      unfold z_MP at *
      rw [hz.2 140 (by decide) (by decide), hz.2 141 (by decide) (by decide), hz.2 142 (by decide) (by decide)]
      exact hp
    have sF' : a_FW w (a_enough w (a_hands w (w 54)) 0 0) (a_sN w i) = a_nw w - i := sF
    have no : ∀ Q, TT 51 0 [some (.ref 133), some (.int (nI (a_sN w i))), none] [] (151, f, fl, fr) Q = Q (some (.int (nI (a_qN w i)))) (151, f, fl, fr) := fun Q => sm_nextOf (fl := fl) (Q := Q) hf hw hp1 (isSt_box sb) (by omega) (by omega)
    obtain ⟨mv1, mv2, mv3⟩ := (a_mv_iff hw q8).mp q3
    have hen : a_en w (w 54) (a_keyS w (a_sN w i) (a_qN w i)) = true := mv3
    have rlt := a_rowS_lt hw hen
    have ow := fun M Q => sm_onward (M := M) (Q := Q) (s := a_sN w i) (set := a_qN w i) sb.1 q8
    have e1 : a_sN w (i + 1) = nx (a_sN w i) (a_qN w i) := rfl
    have htm : ∀ e, e < 3 → t_of e (a_rowS w (a_sN w i) (a_qN w i)) = a_tmN w (3 * i + e) ∧ a_tmN w (3 * i + e) < 64 := by
      intro e he
      have : a_tmN w (3 * i + e) = t_of e (a_rowS w (a_sN w i) (a_qN w i)) := by
        unfold a_tmN
        rw [show (3 * i + e) / 3 = i by omega, show (3 * i + e) % 3 = e by omega]
      exact ⟨this.symm, by rw [this]; exact t_fold_lt _ 0 (by decide) rlt⟩
    have t0 := (htm 0 (by decide)).2
    have t1 := (htm 1 (by decide)).2
    have t2 := (htm 2 (by decide)).2
    have a3 : atf (a_tmN w) i 3 = a_tmN w (3 * i) ||| a_tmN w (3 * i + 1) ||| a_tmN w (3 * i + 2) := by
      show (0 ||| a_tmN w (3 * i + 0)) ||| a_tmN w (3 * i + 1) ||| a_tmN w (3 * i + 2) = _
      rw [Nat.zero_or, Nat.add_zero]
    have a64 : atf (a_tmN w) i 3 < 64 := by
      rw [a3]
      exact or_lt64 (or_lt64 (by simpa using t0) t1) t2
    rw [show 3 * (m + 1) = 3 * m + 3 by omega, show 3 * i = 3 * i + 0 by omega] at hD
    rw [show cN (shN (a_tmN w)) (m + 1) i = c3 (shN (a_tmN w)) i 3 0 + cN (shN (a_tmN w)) m (i + 1) from rfl, ← Nat.add_assoc] at hA
    rw [show cN g (m + 1) i = c3 g i 3 0 + cN g m (i + 1) from rfl, ← Nat.add_assoc] at hB
    rw [show wgN w (a_tmN w) (m + 1) i = a_wg w (a_tmN w (3 * i) ||| a_tmN w (3 * i + 1) ||| a_tmN w (3 * i + 2)) (w 0) 0 + wgN w (a_tmN w) m (i + 1) from rfl, ← a3, ← Nat.add_assoc] at hP
    simp (disch := first | assumption | rfl | exact zle_0 | exact zle_1 | exact zle_2 | exact zle_3 | exact zle_4 | exact zb_0 | exact zb_1 | exact zb01_B | omega) only [zT64_33, zr_iload_9, zcl_i, zcl_r, zcl_l, zcl_n, zv_some, zv_none, Nat.reduceAdd, Nat.reduceMul, Nat.reduceSub, Nat.reduceLT, Nat.reduceLeDiff, Nat.reduceEqDiff, Int.reduceToNat, true_implies, false_implies, implies_true, and_true, true_and, not_true_eq_false, not_false_eq_true, Nat.zero_add, Nat.add_zero, nI_add, nI_ltI, nI_leI, nI_eq, pk_mul, pk_sub, u2_same, u2_row, u2_other]
    simp (disch := first | assumption | rfl | exact zle_0 | exact zle_1 | exact zle_2 | exact zle_3 | exact zle_4 | exact zb_0 | exact zb_1 | exact zb01_B | omega) only [zT64_35, zr_iload_1, zT64_36, zr_icmp_ge, zT64_39, zr_aload_0, zT64_40, zr_iload_6, zT64_42, zr_iv_51, zT64_45, zr_istore_10, zT64_47, zT64_48, zr_iload_10, zT64_50, zT64_52, zr_iv_55, zcl_i, zcl_r, zcl_l, zcl_n, zv_some, zv_none, Nat.reduceAdd, Nat.reduceMul, Nat.reduceSub, Nat.reduceLT, Nat.reduceLeDiff, Nat.reduceEqDiff, Int.reduceToNat, true_implies, false_implies, implies_true, and_true, true_and, not_true_eq_false, not_false_eq_true, Nat.zero_add, Nat.add_zero, nI_add, nI_ltI, nI_leI, nI_eq, pk_mul, pk_sub, u2_same, u2_row, u2_other, no, olt_T, olt_F, ole_T, ole_F, oeq_T, oeq_F]
    refine sm_findWhose hf hw hr1 sb.1 q8 (fun d hd hb => mv1 d (by have := hw.2.2.1; omega) hb) hen (fun f2 k1 k2 k3 k4 => ?_)
    have hRR : z_RR f2 (a_rowS w (a_sN w i) (a_qN w i)) := ⟨k1, k3, k2, fun p hp => ⟨rlt p hp, by
      obtain ⟨y, y1, y2⟩ := a_line_mem _ _ p hp
      rw [y2]
      exact (l_all_mem hw y1).1⟩⟩
    have E := gt_e_ (fl := fl) (Q := Q) (i := i) (s := a_sN w i) (q := a_qN w i) (sd := sd) (n := a_nw w) (k := 3 * m) (A1 := A + c3 (shN (a_tmN w)) i 3 0) (B1 := B + c3 g i 3 0) (P := P) (D := D) (fi0 := fi) (at_ := atf (a_tmN w) i) hf hci hw20 (by omega) htm (fun e _ => rfl) (fun f3 x3 C3 v13 v14 g1 g2 g3 g4 g5 g6 => by
      have W := gt_w_ (fl := fl) (Q := Q) (v1 := nI (a_nw w)) (v2 := ci) (v3 := nI w20) (v6 := nI (a_sN w i)) (v9 := nI i) (v10 := nI (a_qN w i)) (v13 := v13) (v14 := v14) (v4 := lN sd) (v7 := lN x3) (P1 := P + a_wg w (atf (a_tmN w) i 3) (w 0) 0) hf w06 hr a64 (fun f4 r1 r2 => by
        have o := ih (i + 1) (by omega) f4 x3 _ _ C3 _ (some (.int (nI (a_qN w i)))) (some (.int (nI (atf (a_tmN w) i 3)))) (some (.int (nI (w 0)))) v13 v14 r1 r2 g4 g5 (by rw [show 3 * (i + 1) = 3 * i + 3 by omega]; exact g6) hA hB hP
        rw [e1] at o
        simp (disch := first | assumption | rfl | exact zle_0 | exact zle_1 | exact zle_2 | exact zle_3 | exact zle_4 | exact zb_0 | exact zb_1 | exact zb01_B | omega) only [zT64_290, zr_iload_6, zT64_292, zr_iload_10, zT64_294, zr_iv_45, zT64_297, zr_istore_6, zT64_299, zr_iinc_9_1, zT64_302, zr_goto, zcl_i, zcl_r, zcl_l, zcl_n, zv_some, zv_none, Nat.reduceAdd, Nat.reduceMul, Nat.reduceSub, Nat.reduceLT, Nat.reduceLeDiff, Nat.reduceEqDiff, Int.reduceToNat, true_implies, false_implies, implies_true, and_true, true_and, not_true_eq_false, not_false_eq_true, Nat.zero_add, Nat.add_zero, nI_add, nI_ltI, nI_leI, nI_eq, pk_mul, pk_sub, u2_same, u2_row, u2_other, ow, olt_T, olt_F, ole_T, ole_F, oeq_T, oeq_F]
        exact o) (w 0) 0 (Nat.zero_add _) f3 P g1 g3 rfl
      simp (disch := first | assumption | rfl | exact zle_0 | exact zle_1 | exact zle_2 | exact zle_3 | exact zle_4 | exact zb_0 | exact zb_1 | exact zb01_B | omega) only [zT64_237, zr_ic_0, zT64_238, zr_istore_12, zcl_i, zcl_r, zcl_l, zcl_n, zv_some, zv_none, Nat.reduceAdd, Nat.reduceMul, Nat.reduceSub, Nat.reduceLT, Nat.reduceLeDiff, Nat.reduceEqDiff, Int.reduceToNat, true_implies, false_implies, implies_true, and_true, true_and, not_true_eq_false, not_false_eq_true, Nat.zero_add, Nat.add_zero, nI_add, nI_ltI, nI_leI, nI_eq, pk_mul, pk_sub, u2_same, u2_row, u2_other, olt_T, olt_F, ole_T, ole_F, oeq_T, oeq_F]
      exact W) 3 0 rfl f2 x A B C v13 v14 (hz.tr k4.zg) hRR (hG.row k4) hx hC hD rfl rfl
    rw [show atf (a_tmN w) i 0 = 0 from rfl] at E
    simp (disch := first | assumption | rfl | exact zle_0 | exact zle_1 | exact zle_2 | exact zle_3 | exact zle_4 | exact zb_0 | exact zb_1 | exact zb01_B | omega) only [zT64_55, zr_ic_0, zT64_56, zr_istore_11, zT64_58, zT64_59, zr_istore_12, zcl_i, zcl_r, zcl_l, zcl_n, zv_some, zv_none, Nat.reduceAdd, Nat.reduceMul, Nat.reduceSub, Nat.reduceLT, Nat.reduceLeDiff, Nat.reduceEqDiff, Int.reduceToNat, true_implies, false_implies, implies_true, and_true, true_and, not_true_eq_false, not_false_eq_true, Nat.zero_add, Nat.add_zero, nI_add, nI_ltI, nI_leI, nI_eq, pk_mul, pk_sub, u2_same, u2_row, u2_other, olt_T, olt_F, ole_T, ole_F, oeq_T, oeq_F]
    exact E
theorem sm_goThrough (hf : z_FR fr) (hw : a_WF w) (hr : z_MR fi 0 w) (hp : z_MP fi w (a_en w (w 54)) (a_all w)) (hn : a_nw w ≠ 100) {g : Nat → Nat} {ci : Int32} (hci : z_who ci (a_tmN w) g) {w20 sd : Nat} (hw20 : w20 ≤ 20) (hsd : sd < 2147483648)
    (hQ : ∀ f, zg fi f → z_GF f (a_shr w) (cN g (a_nw w) 0) (a_burn (a_tmN w) w20 (3 * a_nw w) 0 sd) (wgN w (a_tmN w) (a_nw w) 0) → Q none (151, f, fl, fr)) :
    TT 64 0 [some (.ref 133), some (.int (nI (a_nw w))), some (.int ci), some (.int (nI w20)), some (.long (lN sd)), none, none, none, none, none, none, none, none, none, none] [] (151, fi, fl, fr) Q := by
  have o133 : z_ok 151 133 20 = true := rfl
  have sn := fun Q => sm_stateNow (fl := fl) (Q := Q) hf hw hr
  have I := gt_i_ (fl := fl) (Q := Q) (sd := sd) (fi := fi) hf hw hr hp hn hci hw20 hQ (a_nw w) 0 (Nat.zero_add _) (u2 (u2 (u2 (u2 fi 133 100 (nI 0)) 133 101 (nI 0)) 133 102 (nI 0)) 133 103 (nM 1)) sd 0 0 none 0 none none none none none ((((zg.id_).tr (zg.up (by simp))).tr (zg.up (by simp))).tr (zg.up (by simp)) |>.tr (zg.up (by simp))) ⟨by simp (disch := decide) only [u2_row, u2_same], by simp (disch := decide) only [u2_row, u2_same], by rw [u2_same]; rfl, by simp (disch := decide) only [u2_row, u2_same]⟩ hsd (fun r h => absurd h (by simp)) (by rw [oo_none]) (Nat.zero_add _) (Nat.zero_add _) (Nat.zero_add _)
  rw [show a_sN w 0 = a_S w from rfl] at I
  simp (disch := first | assumption | rfl | exact zle_0 | exact zle_1 | exact zle_2 | exact zle_3 | exact zle_4 | exact zb_0 | exact zb_1 | exact zb01_B | omega) only [zT64_0, zr_aload_0, zT64_1, zr_iv_42, zT64_4, zr_istore_6, zT64_6, zr_lload_4, zT64_8, zr_lstore_7, zT64_10, zT64_11, zr_ic_0, zT64_12, zr_pf_100, zT64_15, zT64_16, zT64_17, zr_pf_101, zT64_20, zT64_21, zT64_22, zr_pf_102, zT64_25, zT64_26, zr_ic_m1, zT64_27, zr_pf_103, zT64_30, zT64_31, zr_istore_9, zcl_i, zcl_r, zcl_l, zcl_n, zv_some, zv_none, Nat.reduceAdd, Nat.reduceMul, Nat.reduceSub, Nat.reduceLT, Nat.reduceLeDiff, Nat.reduceEqDiff, Int.reduceToNat, true_implies, false_implies, implies_true, and_true, true_and, not_true_eq_false, not_false_eq_true, Nat.zero_add, Nat.add_zero, nI_add, nI_ltI, nI_leI, nI_eq, pk_mul, pk_sub, u2_same, u2_row, u2_other, sn, olt_T, olt_F, ole_T, ole_F, oeq_T, oeq_F]
  exact I
end
