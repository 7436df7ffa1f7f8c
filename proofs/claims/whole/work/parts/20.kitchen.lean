/-! the kitchen of the class: what is told -/
def a_set (w : Nat → Nat) (j v : Nat) : Nat → Nat := fun i => if i = j then v else w i
def a_ba (w : Nat → Nat) : Nat → Nat := fun j => if 55 ≤ j ∧ j ≤ 58 then 0 else w j
def a_addCook (w : Nat → Nat) (kd wg : Nat) : Nat → Nat := a_ba (a_set (a_set (a_set w (1 + w 0) kd) (7 + w 0) wg) 0 (w 0 + 1))
def a_addDish (w : Nat → Nat) : Nat → Nat := a_ba (a_set (a_set w (14 + w 13) 0) 13 (w 13 + 1))
def a_addStep (w : Nat → Nat) (d r l kn mi : Nat) : Nat → Nat := a_ba (a_set (a_set (a_set (a_set (a_set w (17 + 12 * d + 4 * a_sm w d) r) (17 + 12 * d + 4 * a_sm w d + 1) l) (17 + 12 * d + 4 * a_sm w d + 2) kn) (17 + 12 * d + 4 * a_sm w d + 3) mi) (14 + d) (a_sm w d + 1))
def a_knives (w : Nat → Nat) (n : Nat) : Nat → Nat := a_ba (a_set w 53 n)
def a_strike (w : Nat → Nat) (b : Nat) : Nat → Nat := a_ba (a_set w 54 b)
/-- a dish's steps, without how far it is -/
def z_D0 (fi : Nat → Nat → Int32) (d : Nat) (w : Nat → Nat) (i : Nat) : Prop := fi d 32 = nI (a_sm w i) ∧ ∀ s, s < a_sm w i → fi (d + 1) s = nI (a_st w i s 0) ∧ fi (d + 2) s = nI (a_st w i s 1) ∧ fi (d + 3) s = nI (a_st w i s 2) ∧ fi (d + 4) s = nI (a_st w i s 3)
def z_K0 (fi : Nat → Nat → Int32) (k : Nat) (w : Nat → Nat) : Prop := (fi k 43 = nI (w 0) ∧ fi k 45 = nI (w 13) ∧ fi k 46 = nI (w 53) ∧ fi k 47 = nI (w 54)) ∧ (∀ c, c < w 0 → fi (k + 1) c = nI (w (1 + c)) ∧ fi (k + 2) c = nI (w (7 + c))) ∧ ∀ d, d < 3 → z_D0 fi (k + 5 + 5 * d) w d
theorem z_KR.k0 {fi : Nat → Nat → Int32} {k : Nat} {w : Nat → Nat} (h : z_KR fi k w) : z_K0 fi k w := by
  obtain ⟨⟨h1, h2, h3, h4, h5⟩, h6, h7, h8⟩ := h
  exact ⟨⟨h1, h2, h3, h4⟩, h6, fun d hd => ⟨(h7 d hd).1, (h7 d hd).2.2⟩⟩
def k_ba (fi : Nat → Nat → Int32) (k : Nat) : Nat → Nat → Int32 := u2 (u2 (u2 (u2 fi (k + 5) 33 (nI 0)) (k + 10) 33 (nI 0)) (k + 15) 33 (nI 0)) k 49 (nI 0)
theorem a_ba_lo {w : Nat → Nat} {j : Nat} (h : j < 55) : a_ba w j = w j := by unfold a_ba; rw [if_neg (by omega)]
theorem a_ba_mid {w : Nat → Nat} {j : Nat} (h : 55 ≤ j) (h2 : j ≤ 58) : a_ba w j = 0 := by unfold a_ba; rw [if_pos ⟨h, h2⟩]
theorem a_ba_sm {w : Nat → Nat} {d : Nat} (h : d < 3) : a_sm (a_ba w) d = a_sm w d := a_ba_lo (by omega)
theorem a_ba_st {w : Nat → Nat} {d s k : Nat} (h : d < 3) (hs : s < 3) (hk : k < 4) : a_st (a_ba w) d s k = a_st w d s k := a_ba_lo (by omega)
theorem a_set_same {w : Nat → Nat} {j v : Nat} : a_set w j v j = v := by simp [a_set]
theorem a_set_eq {w : Nat → Nat} {i j v : Nat} (h : i = j) : a_set w j v i = v := by simp [a_set, h]
theorem a_set_ne {w : Nat → Nat} {i j v : Nat} (h : i ≠ j) : a_set w j v i = w i := by simp [a_set, h]
theorem k_ba_K {fi : Nat → Nat → Int32} {k : Nat} {w : Nat → Nat} (h : z_K0 fi k w) (h0 : w 0 ≤ 6) (hm : ∀ d, d < 3 → a_sm w d ≤ 3) : z_KR (k_ba fi k) k (a_ba w) := by
  obtain ⟨⟨h1, h2, h3, h4⟩, h5, h6⟩ := h
  have hf : ∀ F, F ≠ 49 → k_ba fi k k F = fi k F := fun F hF => by
    unfold k_ba
    rw [u2_row hF, u2_other (by omega), u2_other (by omega), u2_other (by omega)]
  have ha : ∀ a j, a ≠ k → a ≠ k + 5 → a ≠ k + 10 → a ≠ k + 15 → k_ba fi k a j = fi a j := fun a j q1 q2 q3 q4 => by
    unfold k_ba
    rw [u2_other q1, u2_other q4, u2_other q3, u2_other q2]
  refine ⟨⟨?_, ?_, ?_, ?_, ?_⟩, fun c hc => ?_, fun d hd => ?_, fun i hi => ?_⟩
  · rw [hf _ (by decide), h1, a_ba_lo (by omega)]
  · rw [hf _ (by decide), h2, a_ba_lo (by omega)]
  · rw [hf _ (by decide), h3, a_ba_lo (by omega)]
  · rw [hf _ (by decide), h4, a_ba_lo (by omega)]
  · unfold k_ba
    rw [u2_same, a_ba_mid (by omega) (by omega)]
  · rw [a_ba_lo (by omega)] at hc
    have := h5 c hc
    rw [ha _ _ (by omega) (by omega) (by omega) (by omega), ha _ _ (by omega) (by omega) (by omega) (by omega)]
    rw [a_ba_lo (by omega), a_ba_lo (by omega)]
    exact this
  · obtain ⟨e1, e2⟩ := h6 d hd
    have hms := hm d hd
    refine ⟨?_, ?_, fun s hs => ?_⟩
    · rw [a_ba_sm hd, ← e1]
      have hd3 : d = 0 ∨ d = 1 ∨ d = 2 := by omega
      unfold k_ba
      rcases hd3 with rfl | rfl | rfl
      · rw [u2_other (by omega), u2_other (by omega), u2_other (by omega), u2_row (by decide)]
      · rw [u2_other (by omega), u2_other (by omega), show k + 5 + 5 * 1 = k + 10 by omega, u2_row (by decide), u2_other (by omega)]
      · rw [u2_other (by omega), show k + 5 + 5 * 2 = k + 15 by omega, u2_row (by decide), u2_other (by omega), u2_other (by omega)]
    · have e : a_gone (a_ba w) d = 0 := a_ba_mid (by omega) (by omega)
      rw [e]
      have hd3 : d = 0 ∨ d = 1 ∨ d = 2 := by omega
      unfold k_ba
      rcases hd3 with rfl | rfl | rfl
      · rw [u2_other (by omega), u2_other (by omega), u2_other (by omega), show k + 5 + 5 * 0 = k + 5 by omega, u2_same]
      · rw [u2_other (by omega), u2_other (by omega), show k + 5 + 5 * 1 = k + 10 by omega, u2_same]
      · rw [u2_other (by omega), show k + 5 + 5 * 2 = k + 15 by omega, u2_same]
    · rw [a_ba_sm hd] at hs
      have := e2 s hs
      rw [a_ba_st hd (by omega) (by omega), a_ba_st hd (by omega) (by omega), a_ba_st hd (by omega) (by omega), a_ba_st hd (by omega) (by omega)]
      rw [ha _ _ (by omega) (by omega) (by omega) (by omega), ha _ _ (by omega) (by omega) (by omega) (by omega), ha _ _ (by omega) (by omega) (by omega) (by omega), ha _ _ (by omega) (by omega) (by omega) (by omega)]
      exact this
  · rw [a_ba_mid (by omega) (by omega)] at hi
    exact absurd hi (Nat.not_lt_zero _)
theorem k_ba_own {fi : Nat → Nat → Int32} {k F : Nat} (h : F ≠ 49) : k_ba fi k k F = fi k F := by
  unfold k_ba
  rw [u2_row h, u2_other (by omega), u2_other (by omega), u2_other (by omega)]
theorem k_ba_fr {fi : Nat → Nat → Int32} {k a : Nat} (h : a < k ∨ k + 20 ≤ a) : k_ba fi k a = fi a := by
  unfold k_ba
  rw [u2_ne (by omega), u2_ne (by omega), u2_ne (by omega), u2_ne (by omega)]
section
variable {fi : Nat → Nat → Int32} {fl : Nat → Nat → Int64} {fr : Nat → Nat → Option Nat} {Q : Option Value → Mm → Prop} {w : Nat → Nat} {k : Nat}
theorem sp_beginAnew (hk : z_Kok fr k) : TT 183 0 [some (.ref k), none] [] (151, fi, fl, fr) Q = Q none (151, k_ba fi k, fl, fr) := by
  refine T_exact (fun Q hQ => ?_) Q
  obtain ⟨h1, ⟨h2, h3, h4, h5⟩, ⟨l1, l2, l3, l4⟩, ⟨f1, f2, f3, f4⟩, hd⟩ := hk
  have d0 : fr (k + 3) 0 = some (k + 5) := (hd 0 (by omega)).1
  have d1 : fr (k + 3) 1 = some (k + 10) := (hd 1 (by omega)).1
  have d2 : fr (k + 3) 2 = some (k + 15) := (hd 2 (by omega)).1
  have o0 : z_ok 151 (k + 5) 13 = true := (hd 0 (by omega)).2.1
  have o1 : z_ok 151 (k + 10) 13 = true := (hd 1 (by omega)).2.1
  have o2 : z_ok 151 (k + 15) 13 = true := (hd 2 (by omega)).2.1
  simp (disch := first | assumption | rfl | exact zle_0 | exact zle_1 | exact zle_2 | exact zle_3 | exact zle_4 | exact zb_0 | exact zb_1 | exact zb01_B | omega) only [zT183_0, zr_ic_0, zT183_1, zr_istore_1, zT183_2, zr_iload_1, zT183_3, zr_ic_3, zT183_4, zr_icmp_ge, zT183_7, zr_aload_0, zT183_8, zr_gf_44, zr_or, zr_go, zf_19_44, zT183_11, zT183_12, zr_aald4, zr_aald5, zT183_13, zT183_14, zr_pf_33, zT183_17, zr_iinc_1_1, zT183_20, zr_goto, zT183_23, zT183_24, zT183_25, zr_pf_49, zT183_28, zr_return, zcl_i, zcl_r, zcl_l, zcl_n, zv_some, zv_none, Nat.reduceAdd, Nat.reduceMul, Nat.reduceSub, Nat.reduceLT, Nat.reduceLeDiff, Nat.reduceEqDiff, Int.reduceToNat, true_implies, false_implies, implies_true, and_true, true_and, not_true_eq_false, not_false_eq_true, Nat.zero_add, Nat.add_zero, nI_add, nI_ltI, nI_leI, nI_eq, pk_mul, pk_sub, u2_same, u2_row, u2_other, f3, d0, d1, d2]
  exact hQ
theorem sp_addCook_bad {x y : Int32} (hb : (x < nI 0 ∨ nI 6 ≤ x) ∨ (y < nI 0 ∨ ¬ y ≤ nI 9)) : TT 178 0 [some (.ref k), some (.int x), some (.int y)] [] (151, fi, fl, fr) Q = Q (some (.int (nM 2))) (151, fi, fl, fr) := by
  refine T_exact (fun Q hQ => ?_) Q
  rcases hb with (h | h) | (h | h)
  · simp (disch := first | assumption | rfl | exact zle_0 | exact zle_1 | exact zle_2 | exact zle_3 | exact zle_4 | exact zb_0 | exact zb_1 | exact zb01_B | omega) only [zT178_0, zr_iload_1, zT178_1, zr_iv_170, zT178_4, zr_if_eq, zT178_7, zr_iload_2, zT178_8, zr_if_lt, zT178_11, zT178_12, zr_ic_9, zT178_14, zr_icmp_le, zT178_17, zr_ic_m2, zT178_19, zr_ret0, zT170_0, zr_iload_0, zT170_1, zT170_4, zT170_5, zr_ic_6, zT170_7, zr_icmp_ge, zT170_10, zr_ic_1, zT170_11, zr_goto, zT170_14, zr_ic_0, zT170_15, zr_ret1_0, zr_ret1_1, zr_ret1_B, zcl_i, zcl_r, zcl_l, zcl_n, zv_some, zv_none, Nat.reduceAdd, Nat.reduceMul, Nat.reduceSub, Nat.reduceLT, Nat.reduceLeDiff, Nat.reduceEqDiff, Int.reduceToNat, true_implies, false_implies, implies_true, and_true, true_and, not_true_eq_false, not_false_eq_true, Nat.zero_add, Nat.add_zero, nI_add, nI_ltI, nI_leI, nI_eq, pk_mul, pk_sub, u2_same, u2_row, u2_other, h]
    exact hQ
  · simp (disch := first | assumption | rfl | exact zle_0 | exact zle_1 | exact zle_2 | exact zle_3 | exact zle_4 | exact zb_0 | exact zb_1 | exact zb01_B | omega) only [zT178_0, zr_iload_1, zT178_1, zr_iv_170, zT178_4, zr_if_eq, zT178_7, zr_iload_2, zT178_8, zr_if_lt, zT178_11, zT178_12, zr_ic_9, zT178_14, zr_icmp_le, zT178_17, zr_ic_m2, zT178_19, zr_ret0, zT170_0, zr_iload_0, zT170_1, zT170_4, zT170_5, zr_ic_6, zT170_7, zr_icmp_ge, zT170_10, zr_ic_1, zT170_11, zr_goto, zT170_14, zr_ic_0, zT170_15, zr_ret1_0, zr_ret1_1, zr_ret1_B, zcl_i, zcl_r, zcl_l, zcl_n, zv_some, zv_none, Nat.reduceAdd, Nat.reduceMul, Nat.reduceSub, Nat.reduceLT, Nat.reduceLeDiff, Nat.reduceEqDiff, Int.reduceToNat, true_implies, false_implies, implies_true, and_true, true_and, not_true_eq_false, not_false_eq_true, Nat.zero_add, Nat.add_zero, nI_add, nI_ltI, nI_leI, nI_eq, pk_mul, pk_sub, u2_same, u2_row, u2_other, h]
    repeat' first | intro _ | apply And.intro
    all_goals exact hQ
  · simp (disch := first | assumption | rfl | exact zle_0 | exact zle_1 | exact zle_2 | exact zle_3 | exact zle_4 | exact zb_0 | exact zb_1 | exact zb01_B | omega) only [zT178_0, zr_iload_1, zT178_1, zr_iv_170, zT178_4, zr_if_eq, zT178_7, zr_iload_2, zT178_8, zr_if_lt, zT178_11, zT178_12, zr_ic_9, zT178_14, zr_icmp_le, zT178_17, zr_ic_m2, zT178_19, zr_ret0, zT170_0, zr_iload_0, zT170_1, zT170_4, zT170_5, zr_ic_6, zT170_7, zr_icmp_ge, zT170_10, zr_ic_1, zT170_11, zr_goto, zT170_14, zr_ic_0, zT170_15, zr_ret1_0, zr_ret1_1, zr_ret1_B, zcl_i, zcl_r, zcl_l, zcl_n, zv_some, zv_none, Nat.reduceAdd, Nat.reduceMul, Nat.reduceSub, Nat.reduceLT, Nat.reduceLeDiff, Nat.reduceEqDiff, Int.reduceToNat, true_implies, false_implies, implies_true, and_true, true_and, not_true_eq_false, not_false_eq_true, Nat.zero_add, Nat.add_zero, nI_add, nI_ltI, nI_leI, nI_eq, pk_mul, pk_sub, u2_same, u2_row, u2_other, h]
    repeat' first | intro _ | apply And.intro
    all_goals exact hQ
  · simp (disch := first | assumption | rfl | exact zle_0 | exact zle_1 | exact zle_2 | exact zle_3 | exact zle_4 | exact zb_0 | exact zb_1 | exact zb01_B | omega) only [zT178_0, zr_iload_1, zT178_1, zr_iv_170, zT178_4, zr_if_eq, zT178_7, zr_iload_2, zT178_8, zr_if_lt, zT178_11, zT178_12, zr_ic_9, zT178_14, zr_icmp_le, zT178_17, zr_ic_m2, zT178_19, zr_ret0, zT170_0, zr_iload_0, zT170_1, zT170_4, zT170_5, zr_ic_6, zT170_7, zr_icmp_ge, zT170_10, zr_ic_1, zT170_11, zr_goto, zT170_14, zr_ic_0, zT170_15, zr_ret1_0, zr_ret1_1, zr_ret1_B, zcl_i, zcl_r, zcl_l, zcl_n, zv_some, zv_none, Nat.reduceAdd, Nat.reduceMul, Nat.reduceSub, Nat.reduceLT, Nat.reduceLeDiff, Nat.reduceEqDiff, Int.reduceToNat, true_implies, false_implies, implies_true, and_true, true_and, not_true_eq_false, not_false_eq_true, Nat.zero_add, Nat.add_zero, nI_add, nI_ltI, nI_leI, nI_eq, pk_mul, pk_sub, u2_same, u2_row, u2_other, h]
    repeat' first | intro _ | apply And.intro
    all_goals exact hQ
theorem sp_addCook_full (hk : z_Kok fr k) (hr : z_K0 fi k w) (h6 : w 0 = 6) {a b : Nat} (ha : a < 6) (hb : b ≤ 9) : TT 178 0 [some (.ref k), some (.int (nI a)), some (.int (nI b))] [] (151, fi, fl, fr) Q = Q (some (.int (nM 4))) (151, fi, fl, fr) := by
  refine T_exact (fun Q hQ => ?_) Q
  have h1 := hk.1
  have r1 := hr.1.1
  rw [h6] at r1
  simp (disch := first | assumption | rfl | exact zle_0 | exact zle_1 | exact zle_2 | exact zle_3 | exact zle_4 | exact zb_0 | exact zb_1 | exact zb01_B | omega) only [zT178_0, zr_iload_1, zT178_1, zr_iv_170, zT178_4, zr_if_eq, zT178_7, zr_iload_2, zT178_8, zr_if_lt, zT178_11, zT178_12, zr_ic_9, zT178_14, zr_icmp_le, zT178_17, zr_ic_m2, zT178_19, zr_ret0, zT178_20, zr_aload_0, zT178_21, zr_gf_43, zT178_24, zr_ic_6, zT178_26, zr_icmp_lt, zT178_29, zr_ic_m4, zT178_31, zT170_0, zr_iload_0, zT170_1, zT170_4, zT170_5, zT170_7, zr_icmp_ge, zT170_10, zr_ic_1, zT170_11, zr_goto, zT170_14, zr_ic_0, zT170_15, zr_ret1_0, zr_ret1_1, zr_ret1_B, zcl_i, zcl_r, zcl_l, zcl_n, zv_some, zv_none, Nat.reduceAdd, Nat.reduceMul, Nat.reduceSub, Nat.reduceLT, Nat.reduceLeDiff, Nat.reduceEqDiff, Int.reduceToNat, true_implies, false_implies, implies_true, and_true, true_and, not_true_eq_false, not_false_eq_true, Nat.zero_add, Nat.add_zero, nI_add, nI_ltI, nI_leI, nI_eq, pk_mul, pk_sub, u2_same, u2_row, u2_other, r1, olt_T, olt_F, ole_T, ole_F, oeq_T, oeq_F]
  exact hQ
theorem k0_cook {a b : Nat} (hr : z_K0 fi k w) (hm : ∀ d, d < 3 → a_sm w d ≤ 3) (h6 : w 0 < 6) : z_K0 (u2 (u2 (u2 fi (k + 1) (w 0) (nI a)) (k + 2) (w 0) (nI b)) k 43 (nI (w 0 + 1))) k (a_set (a_set (a_set w (1 + w 0) a) (7 + w 0) b) 0 (w 0 + 1)) := by
  obtain ⟨⟨h1, h2, h3, h4⟩, h5, h6'⟩ := hr
  refine ⟨⟨?_, ?_, ?_, ?_⟩, fun c hc => ?_, fun d hd => ⟨?_, fun s hs => ?_⟩⟩
  · rw [u2_same, a_set_same]
  · simp (disch := omega) only [u2_row, u2_other, a_set_ne, h2]
  · simp (disch := omega) only [u2_row, u2_other, a_set_ne, h3]
  · simp (disch := omega) only [u2_row, u2_other, a_set_ne, h4]
  · rw [a_set_same] at hc
    by_cases e : c = w 0
    · subst e
      simp (disch := omega) only [u2_same, u2_row, u2_other, a_set_same, a_set_ne, and_self]
    · have := h5 c (by omega)
      simp (disch := omega) only [u2_row, u2_other, a_set_ne]
      exact this
  · have e : a_sm (a_set (a_set (a_set w (1 + w 0) a) (7 + w 0) b) 0 (w 0 + 1)) d = a_sm w d := by
      unfold a_sm
      simp (disch := omega) only [a_set_ne]
    rw [e, ← (h6' d hd).1]
    simp (disch := omega) only [u2_other]
  · have e : a_sm (a_set (a_set (a_set w (1 + w 0) a) (7 + w 0) b) 0 (w 0 + 1)) d = a_sm w d := by
      unfold a_sm
      simp (disch := omega) only [a_set_ne]
    rw [e] at hs
    have := (h6' d hd).2 s hs
    have h3 := hm d hd
    unfold a_st at *
    simp (disch := omega) only [u2_other, a_set_ne]
    exact this
theorem sp_addCook (hk : z_Kok fr k) (hr : z_K0 fi k w) (hm : ∀ d, d < 3 → a_sm w d ≤ 3) (h6 : w 0 < 6) {a b : Nat} (ha : a < 6) (hb : b ≤ 9) (hQ : ∀ fi', z_KR fi' k (a_addCook w a b) → (∀ j, j < k ∨ k + 20 ≤ j → fi' j = fi j) → Q (some (.int (nI (w 0)))) (151, fi', fl, fr)) : TT 178 0 [some (.ref k), some (.int (nI a)), some (.int (nI b))] [] (151, fi, fl, fr) Q := by
  have hba := fun fi Q => sp_beginAnew (fi := fi) (fl := fl) (Q := Q) hk
  obtain ⟨h1, ⟨h2, h3, h4, h5⟩, ⟨l1, l2, l3, l4⟩, ⟨f1, f2, f3, f4⟩, hd⟩ := hk
  have r1 := hr.1.1
  have h7 : w 0 ≤ 6 := by omega
  simp (disch := first | assumption | rfl | exact zle_0 | exact zle_1 | exact zle_2 | exact zle_3 | exact zle_4 | exact zb_0 | exact zb_1 | exact zb01_B | omega) only [zT178_0, zr_iload_1, zT178_1, zr_iv_170, zT178_4, zr_if_eq, zT178_7, zr_iload_2, zT178_8, zr_if_lt, zT178_11, zT178_12, zr_ic_9, zT178_14, zr_icmp_le, zT178_17, zr_ic_m2, zT178_19, zr_ret0, zT178_20, zr_aload_0, zT178_21, zr_gf_43, zT178_24, zr_ic_6, zT178_26, zr_icmp_lt, zT178_29, zr_ic_m4, zT178_31, zT178_32, zT178_33, zr_gf_41, zr_or, zr_go, zf_19_41, zT178_36, zT178_37, zT178_40, zT178_41, zr_iast, zT178_42, zT178_43, zr_gf_42, zf_19_42, zT178_46, zT178_47, zT178_50, zT178_51, zT178_52, zT178_53, zr_dup_r, zr_dup_i, zT178_54, zT178_57, zr_ic_1, zT178_58, zr_iadd, zT178_59, zr_pf_43, zT178_62, zT178_63, zr_iv_183, zT178_66, zT178_67, zT178_70, zT178_71, zr_isub, zT178_72, zT170_0, zr_iload_0, zT170_1, zT170_4, zT170_5, zT170_7, zr_icmp_ge, zT170_10, zT170_11, zr_goto, zT170_14, zr_ic_0, zT170_15, zr_ret1_0, zr_ret1_1, zr_ret1_B, zcl_i, zcl_r, zcl_l, zcl_n, zv_some, zv_none, Nat.reduceAdd, Nat.reduceMul, Nat.reduceSub, Nat.reduceLT, Nat.reduceLeDiff, Nat.reduceEqDiff, Int.reduceToNat, true_implies, false_implies, implies_true, and_true, true_and, not_true_eq_false, not_false_eq_true, Nat.zero_add, Nat.add_zero, nI_add, nI_ltI, nI_leI, nI_eq, pk_mul, pk_sub, u2_same, u2_row, u2_other, r1, f1, f2, hba, k_ba_own, olt_T, olt_F, ole_T, ole_F, oeq_T, oeq_F]
  refine hQ _ (k_ba_K (k0_cook hr hm h6) ?_ ?_) (fun j hj => ?_)
  · rw [a_set_same]; omega
  · intro d hd
    unfold a_sm
    rw [a_set_ne (by omega), a_set_ne (by omega), a_set_ne (by omega)]
    exact hm d hd
  · rw [k_ba_fr hj, u2_ne (by omega), u2_ne (by omega), u2_ne (by omega)]
theorem sp_addDish_full (hk : z_Kok fr k) (hr : z_K0 fi k w) (h3 : w 13 = 3) : TT 179 0 [some (.ref k)] [] (151, fi, fl, fr) Q = Q (some (.int (nM 4))) (151, fi, fl, fr) := by
  refine T_exact (fun Q hQ => ?_) Q
  have h1 := hk.1
  have r1 := hr.1.2.1
  rw [h3] at r1
  simp (disch := first | assumption | rfl | exact zle_0 | exact zle_1 | exact zle_2 | exact zle_3 | exact zle_4 | exact zb_0 | exact zb_1 | exact zb01_B | omega) only [zT179_0, zr_aload_0, zT179_1, zr_gf_45, zT179_4, zr_ic_3, zT179_5, zr_icmp_lt, zT179_8, zr_ic_m4, zT179_10, zr_ret0, zcl_i, zcl_r, zcl_l, zcl_n, zv_some, zv_none, Nat.reduceAdd, Nat.reduceMul, Nat.reduceSub, Nat.reduceLT, Nat.reduceLeDiff, Nat.reduceEqDiff, Int.reduceToNat, true_implies, false_implies, implies_true, and_true, true_and, not_true_eq_false, not_false_eq_true, Nat.zero_add, Nat.add_zero, nI_add, nI_ltI, nI_leI, nI_eq, pk_mul, pk_sub, u2_same, u2_row, u2_other, r1, olt_T, olt_F, ole_T, ole_F, oeq_T, oeq_F]
  exact hQ
theorem k0_dish (hr : z_K0 fi k w) (h3 : w 13 < 3) (h0 : w 0 ≤ 6) (hm : ∀ d, d < 3 → a_sm w d ≤ 3) (hz : a_sm w (w 13) = 0) : z_K0 (u2 fi k 45 (nI (w 13 + 1))) k (a_set (a_set w (14 + w 13) 0) 13 (w 13 + 1)) := by
  obtain ⟨⟨h1, h2, h3', h4⟩, h5, h6⟩ := hr
  have hs : ∀ d, d < 3 → a_sm (a_set (a_set w (14 + w 13) 0) 13 (w 13 + 1)) d = a_sm w d := fun d hd => by
    by_cases e : d = w 13
    · subst e
      rw [hz]
      unfold a_sm
      rw [a_set_ne (by omega), a_set_same]
    · unfold a_sm
      rw [a_set_ne (by omega), a_set_ne (by omega)]
  refine ⟨⟨?_, ?_, ?_, ?_⟩, fun c hc => ?_, fun d hd => ⟨?_, fun s hs' => ?_⟩⟩
  · simp (disch := omega) only [u2_row, u2_other, a_set_ne, h1]
  · rw [u2_same, a_set_same]
  · simp (disch := omega) only [u2_row, u2_other, a_set_ne, h3']
  · simp (disch := omega) only [u2_row, u2_other, a_set_ne, h4]
  · rw [a_set_ne (by omega), a_set_ne (by omega)] at hc
    have := h5 c hc
    simp (disch := omega) only [u2_row, u2_other, a_set_ne]
    exact this
  · rw [hs d hd, ← (h6 d hd).1]
    simp (disch := omega) only [u2_other]
  · rw [hs d hd] at hs'
    have := (h6 d hd).2 s hs'
    have h3 := hm d hd
    unfold a_st at *
    simp (disch := omega) only [u2_other, a_set_ne]
    exact this
theorem sp_addDish (hk : z_Kok fr k) (hr : z_K0 fi k w) (h0 : w 0 ≤ 6) (hm : ∀ d, d < 3 → a_sm w d ≤ 3) (h3 : w 13 < 3) (hz : a_sm w (w 13) = 0) (hQ : ∀ fi', z_KR fi' k (a_addDish w) → (∀ j, j < k ∨ k + 20 ≤ j → fi' j = fi j) → Q (some (.int (nI (w 13)))) (151, fi', fl, fr)) : TT 179 0 [some (.ref k)] [] (151, fi, fl, fr) Q := by
  have hba := fun fi Q => sp_beginAnew (fi := fi) (fl := fl) (Q := Q) hk
  have h1 := hk.1
  have r1 := hr.1.2.1
  simp (disch := first | assumption | rfl | exact zle_0 | exact zle_1 | exact zle_2 | exact zle_3 | exact zle_4 | exact zb_0 | exact zb_1 | exact zb01_B | omega) only [zT179_0, zr_aload_0, zT179_1, zr_gf_45, zT179_4, zr_ic_3, zT179_5, zr_icmp_lt, zT179_8, zr_ic_m4, zT179_10, zr_ret0, zT179_11, zT179_12, zr_dup_r, zr_dup_i, zT179_13, zT179_16, zr_ic_1, zT179_17, zr_iadd, zT179_18, zr_pf_45, zT179_21, zT179_22, zr_iv_183, zT179_25, zT179_26, zT179_29, zT179_30, zr_isub, zT179_31, zcl_i, zcl_r, zcl_l, zcl_n, zv_some, zv_none, Nat.reduceAdd, Nat.reduceMul, Nat.reduceSub, Nat.reduceLT, Nat.reduceLeDiff, Nat.reduceEqDiff, Int.reduceToNat, true_implies, false_implies, implies_true, and_true, true_and, not_true_eq_false, not_false_eq_true, Nat.zero_add, Nat.add_zero, nI_add, nI_ltI, nI_leI, nI_eq, pk_mul, pk_sub, u2_same, u2_row, u2_other, r1, hba, k_ba_own, olt_T, olt_F, ole_T, ole_F, oeq_T, oeq_F]
  refine hQ _ (k_ba_K (k0_dish hr h3 h0 hm hz) ?_ ?_) (fun j hj => ?_)
  · rw [a_set_ne (by omega), a_set_ne (by omega)]; omega
  · intro d hd
    have := hm d hd
    unfold a_sm at *
    rw [a_set_ne (by omega)]
    unfold a_set
    split <;> omega
  · rw [k_ba_fr hj, u2_ne (by omega)]
theorem sp_knives_bad {x : Int32} (hx : ¬ (0 ≤ x.toInt ∧ x.toInt ≤ 6)) : TT 181 0 [some (.ref k), some (.int x), none] [] (151, fi, fl, fr) Q = Q (some (.int (nM 2))) (151, fi, fl, fr) := by
  refine T_exact (fun Q hQ => ?_) Q
  simp (disch := first | assumption | rfl | exact zle_0 | exact zle_1 | exact zle_2 | exact zle_3 | exact zle_4 | exact zb_0 | exact zb_1 | exact zb01_B | omega) only [zT181_0, zr_iload_1, zT181_1, zr_if_lt, zT181_4, zT181_5, zr_ic_6, zT181_7, zr_icmp_le, zT181_10, zr_ic_m2, zT181_12, zr_ret0, zcl_i, zcl_r, zcl_l, zcl_n, zv_some, zv_none, Nat.reduceAdd, Nat.reduceMul, Nat.reduceSub, Nat.reduceLT, Nat.reduceLeDiff, Nat.reduceEqDiff, Int.reduceToNat, true_implies, false_implies, implies_true, and_true, true_and, not_true_eq_false, not_false_eq_true, Nat.zero_add, Nat.add_zero, nI_add, nI_ltI, nI_leI, nI_eq, pk_mul, pk_sub, u2_same, u2_row, u2_other, Int32.lt_iff_toInt_lt, Int32.le_iff_toInt_le, nI_toInt, olt_T, olt_F, ole_T, ole_F, oeq_T, oeq_F]
  repeat' first | intro _ | apply And.intro
  all_goals first | exact hQ | (exfalso; omega)
theorem k0_knives {n : Nat} (hr : z_K0 fi k w) (h0 : w 0 ≤ 6) (hm : ∀ d, d < 3 → a_sm w d ≤ 3) : z_K0 (u2 fi k 46 (nI n)) k (a_set w 53 n) := by
  obtain ⟨⟨h1, h2, h3, h4⟩, h5, h6⟩ := hr
  refine ⟨⟨?_, ?_, ?_, ?_⟩, fun c hc => ?_, fun d hd => ⟨?_, fun s hs => ?_⟩⟩
  · simp (disch := omega) only [u2_row, u2_other, a_set_ne, h1]
  · simp (disch := omega) only [u2_row, u2_other, a_set_ne, h2]
  · rw [u2_same, a_set_same]
  · simp (disch := omega) only [u2_row, u2_other, a_set_ne, h4]
  · rw [a_set_ne (by omega)] at hc
    have := h5 c hc
    simp (disch := omega) only [u2_row, u2_other, a_set_ne]
    exact this
  · have e := (h6 d hd).1
    unfold a_sm at *
    simp (disch := omega) only [u2_other, a_set_ne]
    exact e
  · have h3 := hm d hd
    unfold a_sm at *
    rw [a_set_ne (by omega)] at hs
    have := (h6 d hd).2 s hs
    unfold a_st at *
    simp (disch := omega) only [u2_other, a_set_ne]
    exact this
theorem sp_knives {n : Nat} (hk : z_Kok fr k) (hr : z_K0 fi k w) (h0 : w 0 ≤ 6) (hm : ∀ d, d < 3 → a_sm w d ≤ 3) (hn : n ≤ 6) (hQ : ∀ fi', z_KR fi' k (a_knives w n) → (∀ j, j < k ∨ k + 20 ≤ j → fi' j = fi j) → Q (some (.int (nI (w 53)))) (151, fi', fl, fr)) : TT 181 0 [some (.ref k), some (.int (nI n)), none] [] (151, fi, fl, fr) Q := by
  have hba := fun fi Q => sp_beginAnew (fi := fi) (fl := fl) (Q := Q) hk
  have h1 := hk.1
  have r1 := hr.1.2.2.1
  simp (disch := first | assumption | rfl | exact zle_0 | exact zle_1 | exact zle_2 | exact zle_3 | exact zle_4 | exact zb_0 | exact zb_1 | exact zb01_B | omega) only [zT181_0, zr_iload_1, zT181_1, zr_if_lt, zT181_4, zT181_5, zr_ic_6, zT181_7, zr_icmp_le, zT181_10, zr_ic_m2, zT181_12, zr_ret0, zT181_13, zr_aload_0, zT181_14, zr_gf_46, zT181_17, zr_istore_2, zT181_18, zT181_19, zT181_20, zr_pf_46, zT181_23, zT181_24, zr_iv_183, zT181_27, zr_iload_2, zT181_28, zcl_i, zcl_r, zcl_l, zcl_n, zv_some, zv_none, Nat.reduceAdd, Nat.reduceMul, Nat.reduceSub, Nat.reduceLT, Nat.reduceLeDiff, Nat.reduceEqDiff, Int.reduceToNat, true_implies, false_implies, implies_true, and_true, true_and, not_true_eq_false, not_false_eq_true, Nat.zero_add, Nat.add_zero, nI_add, nI_ltI, nI_leI, nI_eq, pk_mul, pk_sub, u2_same, u2_row, u2_other, r1, hba, olt_T, olt_F, ole_T, ole_F, oeq_T, oeq_F]
  refine hQ _ (k_ba_K (k0_knives hr h0 hm) ?_ ?_) (fun j hj => ?_)
  · rw [a_set_ne (by omega)]; omega
  · intro d hd
    unfold a_sm
    rw [a_set_ne (by omega)]
    exact hm d hd
  · rw [k_ba_fr hj, u2_ne (by omega)]
theorem sp_strike_no {b : Nat} (hk : z_Kok fr k) (hr : z_K0 fi k w) (h54 : w 54 ≤ 1) (hb : b = w 54) : TT 182 0 [some (.ref k), some (.int (nI b))] [] (151, fi, fl, fr) Q = Q (some (.int (nM 3))) (151, fi, fl, fr) := by
  refine T_exact (fun Q hQ => ?_) Q
  have h1 := hk.1
  have r1 := hr.1.2.2.2
  simp (disch := first | assumption | rfl | exact zle_0 | exact zle_1 | exact zle_2 | exact zle_3 | exact zle_4 | exact zb_0 | exact zb_1 | exact zb01_B | omega) only [zT182_0, zr_aload_0, zT182_1, zr_gf_47, zT182_4, zr_iload_1, zT182_5, zr_icmp_ne, zT182_8, zr_ic_m3, zT182_10, zr_ret0, zcl_i, zcl_r, zcl_l, zcl_n, zv_some, zv_none, Nat.reduceAdd, Nat.reduceMul, Nat.reduceSub, Nat.reduceLT, Nat.reduceLeDiff, Nat.reduceEqDiff, Int.reduceToNat, true_implies, false_implies, implies_true, and_true, true_and, not_true_eq_false, not_false_eq_true, Nat.zero_add, Nat.add_zero, nI_add, nI_ltI, nI_leI, nI_eq, pk_mul, pk_sub, u2_same, u2_row, u2_other, r1, olt_T, olt_F, ole_T, ole_F, oeq_T, oeq_F]
  exact hQ
theorem k0_strike {n : Nat} (hr : z_K0 fi k w) (h0 : w 0 ≤ 6) (hm : ∀ d, d < 3 → a_sm w d ≤ 3) : z_K0 (u2 fi k 47 (nI n)) k (a_set w 54 n) := by
  obtain ⟨⟨h1, h2, h3, h4⟩, h5, h6⟩ := hr
  refine ⟨⟨?_, ?_, ?_, ?_⟩, fun c hc => ?_, fun d hd => ⟨?_, fun s hs => ?_⟩⟩
  · simp (disch := omega) only [u2_row, u2_other, a_set_ne, h1]
  · simp (disch := omega) only [u2_row, u2_other, a_set_ne, h2]
  · simp (disch := omega) only [u2_row, u2_other, a_set_ne, h3]
  · rw [u2_same, a_set_same]
  · rw [a_set_ne (by omega)] at hc
    have := h5 c hc
    simp (disch := omega) only [u2_row, u2_other, a_set_ne]
    exact this
  · have e := (h6 d hd).1
    unfold a_sm at *
    simp (disch := omega) only [u2_other, a_set_ne]
    exact e
  · have h3 := hm d hd
    unfold a_sm at *
    rw [a_set_ne (by omega)] at hs
    have := (h6 d hd).2 s hs
    unfold a_st at *
    simp (disch := omega) only [u2_other, a_set_ne]
    exact this
theorem sp_strike {b : Nat} (hk : z_Kok fr k) (hr : z_K0 fi k w) (h0 : w 0 ≤ 6) (hm : ∀ d, d < 3 → a_sm w d ≤ 3) (h54 : w 54 ≤ 1) (hb1 : b ≤ 1) (hb : b ≠ w 54) (hQ : ∀ fi', z_KR fi' k (a_strike w b) → (∀ j, j < k ∨ k + 20 ≤ j → fi' j = fi j) → Q (some (.int (nI 1))) (151, fi', fl, fr)) : TT 182 0 [some (.ref k), some (.int (nI b))] [] (151, fi, fl, fr) Q := by
  have hba := fun fi Q => sp_beginAnew (fi := fi) (fl := fl) (Q := Q) hk
  have h1 := hk.1
  have r1 := hr.1.2.2.2
  have hb01 : z_b01 (nI b) = true := by
    have : b = 0 ∨ b = 1 := by omega
    rcases this with e | e <;> rw [e] <;> rfl
  simp (disch := first | assumption | rfl | exact zle_0 | exact zle_1 | exact zle_2 | exact zle_3 | exact zle_4 | exact zb_0 | exact zb_1 | exact zb01_B | omega) only [zT182_0, zr_aload_0, zT182_1, zr_gf_47, zT182_4, zr_iload_1, zT182_5, zr_icmp_ne, zT182_8, zr_ic_m3, zT182_10, zr_ret0, zT182_11, zT182_12, zT182_13, zr_pf_47, zT182_16, zT182_17, zr_iv_183, zT182_20, zr_ic_1, zT182_21, zcl_i, zcl_r, zcl_l, zcl_n, zv_some, zv_none, Nat.reduceAdd, Nat.reduceMul, Nat.reduceSub, Nat.reduceLT, Nat.reduceLeDiff, Nat.reduceEqDiff, Int.reduceToNat, true_implies, false_implies, implies_true, and_true, true_and, not_true_eq_false, not_false_eq_true, Nat.zero_add, Nat.add_zero, nI_add, nI_ltI, nI_leI, nI_eq, pk_mul, pk_sub, u2_same, u2_row, u2_other, r1, hba, olt_T, olt_F, ole_T, ole_F, oeq_T, oeq_F]
  refine hQ _ (k_ba_K (k0_strike hr h0 hm) ?_ ?_) (fun j hj => ?_)
  · rw [a_set_ne (by omega)]; omega
  · intro d hd
    unfold a_sm
    rw [a_set_ne (by omega)]
    exact hm d hd
  · rw [k_ba_fr hj, u2_ne (by omega)]
end
