/-! dishes' hands, kinds, counts of hands -/
/-- the static tables -/
def z_stT (k : Nat) : List Nat := match k with
  | 1 => [1, 0, 1, 1, 1, 1]
  | 2 => [0, 1, 0, 1, 0, 1]
  | 3 => [0, 1, 16, 17, 256, 257, 272, 273]
  | 4 => [63, 60, 51, 48, 15, 12, 3, 0]
  | 5 => [255, 170, 204, 136, 240, 160, 192, 128]
  | 6 => [2, 0, 5, 1, 0]
  | _ => []
section
variable {L : Lo} {r : List Value} {M : Mm} {Q : Option Value → Mm → Prop} {y pn n pc : Nat} {fi : Nat → Nat → Int32} {fl : Nat → Nat → Int64} {fr : Nat → Nat → Option Nat}
theorem zs_1 {i : Nat} (hi : i < 6) : TR (z_st .iaload n pc L (.int (nI i) :: .ref 1 :: r) (151, fi, fl, fr)) y pn M Q = TT y (pc + n) L (.int (nI ((z_stT 1).getD i 0)) :: r) (151, fi, fl, fr) Q := by
  have e : ∀ i, i < 6 → (z_xfL.getD 1 []).getD i 0 = nI ((z_stT 1).getD i 0) := by decide +kernel
  rw [zr_st_1 rfl hi, e i hi]
theorem zs_2 {i : Nat} (hi : i < 6) : TR (z_st .iaload n pc L (.int (nI i) :: .ref 2 :: r) (151, fi, fl, fr)) y pn M Q = TT y (pc + n) L (.int (nI ((z_stT 2).getD i 0)) :: r) (151, fi, fl, fr) Q := by
  have e : ∀ i, i < 6 → (z_xfL.getD 2 []).getD i 0 = nI ((z_stT 2).getD i 0) := by decide +kernel
  rw [zr_st_2 rfl hi, e i hi]
theorem zs_3 {i : Nat} (hi : i < 8) : TR (z_st .iaload n pc L (.int (nI i) :: .ref 3 :: r) (151, fi, fl, fr)) y pn M Q = TT y (pc + n) L (.int (nI ((z_stT 3).getD i 0)) :: r) (151, fi, fl, fr) Q := by
  have e : ∀ i, i < 8 → (z_xfL.getD 3 []).getD i 0 = nI ((z_stT 3).getD i 0) := by decide +kernel
  rw [zr_st_3 rfl hi, e i hi]
theorem zs_4 {i : Nat} (hi : i < 8) : TR (z_st .iaload n pc L (.int (nI i) :: .ref 4 :: r) (151, fi, fl, fr)) y pn M Q = TT y (pc + n) L (.int (nI ((z_stT 4).getD i 0)) :: r) (151, fi, fl, fr) Q := by
  have e : ∀ i, i < 8 → (z_xfL.getD 4 []).getD i 0 = nI ((z_stT 4).getD i 0) := by decide +kernel
  rw [zr_st_4 rfl hi, e i hi]
theorem zs_5 {i : Nat} (hi : i < 8) : TR (z_st .iaload n pc L (.int (nI i) :: .ref 5 :: r) (151, fi, fl, fr)) y pn M Q = TT y (pc + n) L (.int (nI ((z_stT 5).getD i 0)) :: r) (151, fi, fl, fr) Q := by
  have e : ∀ i, i < 8 → (z_xfL.getD 5 []).getD i 0 = nI ((z_stT 5).getD i 0) := by decide +kernel
  rw [zr_st_5 rfl hi, e i hi]
theorem zs_6 {i : Nat} (hi : i < 5) : TR (z_st .iaload n pc L (.int (nI i) :: .ref 6 :: r) (151, fi, fl, fr)) y pn M Q = TT y (pc + n) L (.int (nI ((z_stT 6).getD i 0)) :: r) (151, fi, fl, fr) Q := by
  have e : ∀ i, i < 5 → (z_xfL.getD 6 []).getD i 0 = nI ((z_stT 6).getD i 0) := by decide +kernel
  rw [zr_st_6 rfl hi, e i hi]
end
/-- an int by its value -/
def iI (z : Int) : Int32 := Int32.ofInt z
theorem nI_iI {a : Nat} : nI a = iI a := by
  unfold nI iI
  rw [← Int32.toBitVec_inj]
  simp
theorem nM_iI {a : Nat} : nM a = iI (-a) := rfl
theorem iI_add {x z : Int} : iI x + iI z = iI (x + z) := by unfold iI; rw [Int32.ofInt_add]
theorem iI_sub {x z : Int} : iI x - iI z = iI (x - z) := by unfold iI; rw [Int32.ofInt_sub]
theorem iI_toInt {z : Int} (h : -2147483648 ≤ z) (h2 : z < 2147483648) : (iI z).toInt = z := Int32.toInt_ofInt_of_le (by omega) (by omega)
theorem iI_lt {x z : Int} (h : -2147483648 ≤ x) (h2 : x < 2147483648) (h3 : -2147483648 ≤ z) (h4 : z < 2147483648) : (iI x < iI z) = (x < z) := by
  rw [Int32.lt_iff_toInt_lt, iI_toInt h h2, iI_toInt h3 h4]
theorem iI_le {x z : Int} (h : -2147483648 ≤ x) (h2 : x < 2147483648) (h3 : -2147483648 ≤ z) (h4 : z < 2147483648) : (iI x ≤ iI z) = (x ≤ z) := by
  rw [Int32.le_iff_toInt_le, iI_toInt h h2, iI_toInt h3 h4]
theorem iI_max {x z : Int} : (if x < z then iI z else iI x) = iI (max x z) := by
  by_cases h : x < z
  · rw [if_pos h, Int.max_eq_right (by omega)]
  · rw [if_neg h, Int.max_eq_left (by omega)]
theorem zr_ret1_i0 {n pc y pn : Nat} {L : Lo} {M : Mm} {Q : Option Value → Mm → Prop} : TR (z_st (.ret 1) n pc L [.int (iI ((0 : Nat) : Int))] M) y pn M Q = Q (some (.int (zB false))) M := rfl
theorem zr_ret1_i1 {n pc y pn : Nat} {L : Lo} {M : Mm} {Q : Option Value → Mm → Prop} : TR (z_st (.ret 1) n pc L [.int (iI ((1 : Nat) : Int))] M) y pn M Q = Q (some (.int (zB true))) M := rfl
theorem nI_addM {a : Nat} (h : 1 ≤ a) : nI a + nM 1 = nI (a - 1) := by
  rw [nI_iI, nI_iI, nM_iI, iI_add]
  congr 1
  omega
/-- hands there are enough for hands that are wanted -/
def a_cov (sr br sl bl ei nsr nbr nsl nbl : Nat) : Bool := decide (nsr ≤ sr ∧ nsl ≤ sl ∧ (nbr - br - (sr - nsr)) + (nbl - bl - (sl - nsl)) ≤ ei)
section
variable {fi : Nat → Nat → Int32} {fl : Nat → Nat → Int64} {fr : Nat → Nat → Option Nat} {Q : Option Value → Mm → Prop} {w : Nat → Nat} {k : Nat} {M : Mm}
theorem sp_hasStep {d i s : Nat} (hd : z_Dok fr d) (hr : z_DR fi d w i) (hm : a_sm w i ≤ 3) (hs : s < 4) : TT 153 0 [some (.ref d), some (.int (nI s))] [] (151, fi, fl, fr) Q = Q (some (.int (zB (decide (s < a_sm w i))))) (151, fi, fl, fr) := by
  refine T_exact (fun Q hQ => ?_) Q
  have h1 := hd.1
  have r1 := hr.1
  simp (disch := first | assumption | rfl | exact zle_0 | exact zle_1 | exact zle_2 | exact zle_3 | exact zle_4 | exact zb_0 | exact zb_1 | exact zb01_B | omega) only [zT153_0, zr_iload_1, zT153_1, zr_if_lt, zT153_4, zT153_5, zr_aload_0, zT153_6, zr_gf_32, zT153_9, zr_icmp_ge, zT153_12, zT153_13, zr_ic_3, zT153_14, zT153_17, zr_ic_1, zT153_18, zr_goto, zT153_21, zr_ic_0, zT153_22, zr_ret1_0, zr_ret1_1, zr_ret1_B, zcl_i, zcl_r, zcl_l, zcl_n, zv_some, zv_none, Nat.reduceAdd, Nat.reduceMul, Nat.reduceSub, Nat.reduceLT, Nat.reduceLeDiff, Nat.reduceEqDiff, Int.reduceToNat, true_implies, false_implies, implies_true, and_true, true_and, not_true_eq_false, not_false_eq_true, Nat.zero_add, Nat.add_zero, nI_add, nI_ltI, nI_leI, nI_eq, pk_mul, pk_sub, u2_same, u2_row, u2_other, r1, olt_T, olt_F, ole_T, ole_F, oeq_T, oeq_F]
  repeat' first | intro _ | apply And.intro
  · rw [decide_eq_false (by omega)] at hQ; exact hQ
  · first | (rw [decide_eq_true (by omega)] at hQ; exact hQ) | (rw [decide_eq_false (by omega)] at hQ; exact hQ)
  all_goals first | (rw [decide_eq_true (by omega)] at hQ; exact hQ) | (rw [decide_eq_false (by omega)] at hQ; exact hQ)
def a_hof (w : Nat → Nat) (i s : Nat) : Nat := if s < a_sm w i then a_st w i s 0 + a_st w i s 1 else 0
theorem sp_handsOf {d i s : Nat} (hd : z_Dok fr d) (hr : z_DR fi d w i) (hm : a_sm w i ≤ 3) (hs : s < 4) : TT 154 0 [some (.ref d), some (.int (nI s))] [] (151, fi, fl, fr) Q = Q (some (.int (nI (a_hof w i s)))) (151, fi, fl, fr) := by
  refine T_exact (fun Q hQ => ?_) Q
  have hh := fun Q => sp_hasStep (fl := fl) (Q := Q) hd hr hm hs
  obtain ⟨h1, ⟨h2, h3, h4, h5⟩, ⟨h6, h7, h8, h9⟩, h10, h11, h12, h13⟩ := hd
  unfold a_hof at hQ
  by_cases h : s < a_sm w i
  · rw [if_pos h] at hQ
    have q := hr.2.2 s h
    simp (disch := first | assumption | rfl | exact zle_0 | exact zle_1 | exact zle_2 | exact zle_3 | exact zle_4 | exact zb_0 | exact zb_1 | exact zb01_B | omega) only [zT154_0, zr_aload_0, zT154_1, zr_iload_1, zT154_2, zr_iv_153, zT154_5, zr_if_eq, zT154_8, zT154_9, zr_gf_28, zr_or, zr_go, zT154_12, zT154_13, zr_iald, zT154_14, zT154_15, zr_gf_29, zT154_18, zT154_19, zT154_20, zr_iadd, zT154_21, zr_goto, zT154_24, zr_ic_0, zT154_25, zr_ret0, zcl_i, zcl_r, zcl_l, zcl_n, zv_some, zv_none, Nat.reduceAdd, Nat.reduceMul, Nat.reduceSub, Nat.reduceLT, Nat.reduceLeDiff, Nat.reduceEqDiff, Int.reduceToNat, true_implies, false_implies, implies_true, and_true, true_and, not_true_eq_false, not_false_eq_true, Nat.zero_add, Nat.add_zero, nI_add, nI_ltI, nI_leI, nI_eq, pk_mul, pk_sub, u2_same, u2_row, u2_other, hh, zB_eq0, decide_eq_true h, h10, h11, q, reduceCtorEq]
    exact hQ
  · rw [if_neg h] at hQ
    simp (disch := first | assumption | rfl | exact zle_0 | exact zle_1 | exact zle_2 | exact zle_3 | exact zle_4 | exact zb_0 | exact zb_1 | exact zb01_B | omega) only [zT154_0, zr_aload_0, zT154_1, zr_iload_1, zT154_2, zr_iv_153, zT154_5, zr_if_eq, zT154_8, zT154_9, zr_gf_28, zr_or, zr_go, zT154_12, zT154_13, zr_iald, zT154_14, zT154_15, zr_gf_29, zT154_18, zT154_19, zT154_20, zr_iadd, zT154_21, zr_goto, zT154_24, zr_ic_0, zT154_25, zr_ret0, zcl_i, zcl_r, zcl_l, zcl_n, zv_some, zv_none, Nat.reduceAdd, Nat.reduceMul, Nat.reduceSub, Nat.reduceLT, Nat.reduceLeDiff, Nat.reduceEqDiff, Int.reduceToNat, true_implies, false_implies, implies_true, and_true, true_and, not_true_eq_false, not_false_eq_true, Nat.zero_add, Nat.add_zero, nI_add, nI_ltI, nI_leI, nI_eq, pk_mul, pk_sub, u2_same, u2_row, u2_other, hh, zB_eq0, decide_eq_false h]
    exact hQ
theorem sp_isRight {d i s j : Nat} (hd : z_Dok fr d) (hr : z_DR fi d w i) (hw : a_WD w i) (hs : s < 4) (hj : j < 2 ^ 31) : TT 155 0 [some (.ref d), some (.int (nI s)), some (.int (nI j))] [] (151, fi, fl, fr) Q = Q (some (.int (zB (decide (s < a_sm w i ∧ j < a_st w i s 0))))) (151, fi, fl, fr) := by
  refine T_exact (fun Q hQ => ?_) Q
  have hh := fun Q => sp_hasStep (fl := fl) (Q := Q) hd hr hw.1 hs
  have hm := hw.1
  obtain ⟨h1, ⟨h2, h3, h4, h5⟩, ⟨h6, h7, h8, h9⟩, h10, h11, h12, h13⟩ := hd
  by_cases h : s < a_sm w i
  · have q := hr.2.2 s h
    have q2 := hw.2 s h
    simp (disch := first | assumption | rfl | exact zle_0 | exact zle_1 | exact zle_2 | exact zle_3 | exact zle_4 | exact zb_0 | exact zb_1 | exact zb01_B | omega) only [zT155_0, zr_aload_0, zT155_1, zr_iload_1, zT155_2, zr_iv_153, zT155_5, zr_if_eq, zT155_8, zr_iload_2, zT155_9, zT155_10, zr_gf_28, zr_or, zr_go, zT155_13, zT155_14, zr_iald, zT155_15, zr_icmp_ge, zT155_18, zr_ic_1, zT155_19, zr_goto, zT155_22, zr_ic_0, zT155_23, zr_ret1_0, zr_ret1_1, zr_ret1_B, zcl_i, zcl_r, zcl_l, zcl_n, zv_some, zv_none, Nat.reduceAdd, Nat.reduceMul, Nat.reduceSub, Nat.reduceLT, Nat.reduceLeDiff, Nat.reduceEqDiff, Int.reduceToNat, true_implies, false_implies, implies_true, and_true, true_and, not_true_eq_false, not_false_eq_true, Nat.zero_add, Nat.add_zero, nI_add, nI_ltI, nI_leI, nI_eq, pk_mul, pk_sub, u2_same, u2_row, u2_other, hh, zB_eq0, decide_eq_true h, h10, q, reduceCtorEq]
    repeat' first | intro _ | apply And.intro
    · rw [decide_eq_false (by omega)] at hQ; exact hQ
    · rw [decide_eq_true (by omega)] at hQ; exact hQ
  · rw [decide_eq_false (by omega)] at hQ
    simp (disch := first | assumption | rfl | exact zle_0 | exact zle_1 | exact zle_2 | exact zle_3 | exact zle_4 | exact zb_0 | exact zb_1 | exact zb01_B | omega) only [zT155_0, zr_aload_0, zT155_1, zr_iload_1, zT155_2, zr_iv_153, zT155_5, zr_if_eq, zT155_8, zr_iload_2, zT155_9, zT155_10, zr_gf_28, zr_or, zr_go, zT155_13, zT155_14, zr_iald, zT155_15, zr_icmp_ge, zT155_18, zr_ic_1, zT155_19, zr_goto, zT155_22, zr_ic_0, zT155_23, zr_ret1_0, zr_ret1_1, zr_ret1_B, zcl_i, zcl_r, zcl_l, zcl_n, zv_some, zv_none, Nat.reduceAdd, Nat.reduceMul, Nat.reduceSub, Nat.reduceLT, Nat.reduceLeDiff, Nat.reduceEqDiff, Int.reduceToNat, true_implies, false_implies, implies_true, and_true, true_and, not_true_eq_false, not_false_eq_true, Nat.zero_add, Nat.add_zero, nI_add, nI_ltI, nI_leI, nI_eq, pk_mul, pk_sub, u2_same, u2_row, u2_other, hh, zB_eq0, decide_eq_false h]
    exact hQ
theorem sp_isSharp {d i s j : Nat} (hd : z_Dok fr d) (hr : z_DR fi d w i) (hw : a_WD w i) (hs : s < 4) (hj : j < 2 ^ 31) : TT 156 0 [some (.ref d), some (.int (nI s)), some (.int (nI j))] [] (151, fi, fl, fr) Q = Q (some (.int (zB (decide (s < a_sm w i ∧ j < a_st w i s 2))))) (151, fi, fl, fr) := by
  refine T_exact (fun Q hQ => ?_) Q
  have hh := fun Q => sp_hasStep (fl := fl) (Q := Q) hd hr hw.1 hs
  have hm := hw.1
  obtain ⟨h1, ⟨h2, h3, h4, h5⟩, ⟨h6, h7, h8, h9⟩, h10, h11, h12, h13⟩ := hd
  by_cases h : s < a_sm w i
  · have q := hr.2.2 s h
    have q2 := hw.2 s h
    simp (disch := first | assumption | rfl | exact zle_0 | exact zle_1 | exact zle_2 | exact zle_3 | exact zle_4 | exact zb_0 | exact zb_1 | exact zb01_B | omega) only [zT156_0, zr_aload_0, zT156_1, zr_iload_1, zT156_2, zr_iv_153, zT156_5, zr_if_eq, zT156_8, zr_iload_2, zT156_9, zT156_10, zr_gf_30, zr_or, zr_go, zT156_13, zT156_14, zr_iald, zT156_15, zr_icmp_ge, zT156_18, zr_ic_1, zT156_19, zr_goto, zT156_22, zr_ic_0, zT156_23, zr_ret1_0, zr_ret1_1, zr_ret1_B, zcl_i, zcl_r, zcl_l, zcl_n, zv_some, zv_none, Nat.reduceAdd, Nat.reduceMul, Nat.reduceSub, Nat.reduceLT, Nat.reduceLeDiff, Nat.reduceEqDiff, Int.reduceToNat, true_implies, false_implies, implies_true, and_true, true_and, not_true_eq_false, not_false_eq_true, Nat.zero_add, Nat.add_zero, nI_add, nI_ltI, nI_leI, nI_eq, pk_mul, pk_sub, u2_same, u2_row, u2_other, hh, zB_eq0, decide_eq_true h, h12, q, reduceCtorEq]
    repeat' first | intro _ | apply And.intro
    · rw [decide_eq_false (by omega)] at hQ; exact hQ
    · rw [decide_eq_true (by omega)] at hQ; exact hQ
  · rw [decide_eq_false (by omega)] at hQ
    simp (disch := first | assumption | rfl | exact zle_0 | exact zle_1 | exact zle_2 | exact zle_3 | exact zle_4 | exact zb_0 | exact zb_1 | exact zb01_B | omega) only [zT156_0, zr_aload_0, zT156_1, zr_iload_1, zT156_2, zr_iv_153, zT156_5, zr_if_eq, zT156_8, zr_iload_2, zT156_9, zT156_10, zr_gf_30, zr_or, zr_go, zT156_13, zT156_14, zr_iald, zT156_15, zr_icmp_ge, zT156_18, zr_ic_1, zT156_19, zr_goto, zT156_22, zr_ic_0, zT156_23, zr_ret1_0, zr_ret1_1, zr_ret1_B, zcl_i, zcl_r, zcl_l, zcl_n, zv_some, zv_none, Nat.reduceAdd, Nat.reduceMul, Nat.reduceSub, Nat.reduceLT, Nat.reduceLeDiff, Nat.reduceEqDiff, Int.reduceToNat, true_implies, false_implies, implies_true, and_true, true_and, not_true_eq_false, not_false_eq_true, Nat.zero_add, Nat.add_zero, nI_add, nI_ltI, nI_leI, nI_eq, pk_mul, pk_sub, u2_same, u2_row, u2_other, hh, zB_eq0, decide_eq_false h]
    exact hQ
/-- a cook's hands, right and left -/
def a_kr (kd b : Nat) : Nat := if kd = 1 then 0 else if kd = 4 then 1 - b else 1
def a_kl (kd b : Nat) : Nat := if kd = 1 then 1 else if kd = 3 then 1 else if kd = 5 then 1 else 0
theorem sp_rightHands {kd b : Nat} (hk : kd < 6) (hb : b ≤ 1) : TT 171 0 [some (.int (nI kd)), some (.int (nI b))] [] (151, fi, fl, fr) Q = Q (some (.int (nI (a_kr kd b)))) (151, fi, fl, fr) := by
  refine T_exact (fun Q hQ => ?_) Q
  have hb' : b = 0 ∨ b = 1 := by omega
  have hk' : kd = 0 ∨ kd = 1 ∨ kd = 2 ∨ kd = 3 ∨ kd = 4 ∨ kd = 5 := by omega
  rcases hb' with rfl | rfl <;> rcases hk' with rfl | rfl | rfl | rfl | rfl | rfl
  all_goals
    simp (disch := first | assumption | rfl | exact zle_0 | exact zle_1 | exact zle_2 | exact zle_3 | exact zle_4 | exact zb_0 | exact zb_1 | exact zb01_B | omega) only [zT171_0, zr_iload_0, zT171_1, zr_iv_170, zT171_4, zr_if_eq, zT171_7, zT171_8, zr_iload_1, zT171_9, zr_iv_173, zT171_12, zr_if_ne, zT171_15, zr_ldc, zs_1, zT171_18, zT171_19, zr_iald, zT171_20, zr_goto, zT171_23, zr_ic_0, zT171_24, zr_ret0, zT170_0, zT170_1, zr_if_lt, zT170_4, zT170_5, zr_ic_6, zT170_7, zr_icmp_ge, zT170_10, zr_ic_1, zT170_11, zT170_14, zT170_15, zr_ret1_0, zr_ret1_1, zr_ret1_B, zT173_0, zT173_1, zT173_4, zT173_5, zr_ic_4, zT173_6, zr_icmp_ne, zT173_9, zT173_10, zT173_13, zT173_14, zcl_i, zcl_r, zcl_l, zcl_n, zv_some, zv_none, Nat.reduceAdd, Nat.reduceMul, Nat.reduceSub, Nat.reduceLT, Nat.reduceLeDiff, Nat.reduceEqDiff, Int.reduceToNat, true_implies, false_implies, implies_true, and_true, true_and, not_true_eq_false, not_false_eq_true, Nat.zero_add, Nat.add_zero, nI_add, nI_ltI, nI_leI, nI_eq, pk_mul, pk_sub, u2_same, u2_row, u2_other]
    exact hQ
theorem sp_leftHands {kd b : Nat} (hk : kd < 6) (hb : b ≤ 1) : TT 172 0 [some (.int (nI kd)), some (.int (nI b))] [] (151, fi, fl, fr) Q = Q (some (.int (nI (a_kl kd b)))) (151, fi, fl, fr) := by
  refine T_exact (fun Q hQ => ?_) Q
  have hb' : b = 0 ∨ b = 1 := by omega
  have hk' : kd = 0 ∨ kd = 1 ∨ kd = 2 ∨ kd = 3 ∨ kd = 4 ∨ kd = 5 := by omega
  rcases hb' with rfl | rfl <;> rcases hk' with rfl | rfl | rfl | rfl | rfl | rfl
  all_goals
    simp (disch := first | assumption | rfl | exact zle_0 | exact zle_1 | exact zle_2 | exact zle_3 | exact zle_4 | exact zb_0 | exact zb_1 | exact zb01_B | omega) only [zT172_0, zr_iload_0, zT172_1, zr_iv_170, zT172_4, zr_if_eq, zT172_7, zT172_8, zr_iload_1, zT172_9, zr_iv_173, zT172_12, zr_if_ne, zT172_15, zr_ldc, zs_2, zT172_18, zT172_19, zr_iald, zT172_20, zr_goto, zT172_23, zr_ic_0, zT172_24, zr_ret0, zT170_0, zT170_1, zr_if_lt, zT170_4, zT170_5, zr_ic_6, zT170_7, zr_icmp_ge, zT170_10, zr_ic_1, zT170_11, zT170_14, zT170_15, zr_ret1_0, zr_ret1_1, zr_ret1_B, zT173_0, zT173_1, zT173_4, zT173_5, zr_ic_4, zT173_6, zr_icmp_ne, zT173_9, zT173_10, zT173_13, zT173_14, zcl_i, zcl_r, zcl_l, zcl_n, zv_some, zv_none, Nat.reduceAdd, Nat.reduceMul, Nat.reduceSub, Nat.reduceLT, Nat.reduceLeDiff, Nat.reduceEqDiff, Int.reduceToNat, true_implies, false_implies, implies_true, and_true, true_and, not_true_eq_false, not_false_eq_true, Nat.zero_add, Nat.add_zero, nI_add, nI_ltI, nI_leI, nI_eq, pk_mul, pk_sub, u2_same, u2_row, u2_other]
    exact hQ
theorem sp_covers {a c : Nat} (ha : z_ok 151 a 15 = true) (hc : z_ok 151 c 15 = true) {sr br sl bl ei nsr nbr nsl nbl : Nat}
    (e1 : fi a 36 = nI sr) (e2 : fi a 37 = nI br) (e3 : fi a 38 = nI sl) (e4 : fi a 39 = nI bl) (e5 : fi a 40 = nI ei)
    (n1 : fi c 36 = nI nsr) (n2 : fi c 37 = nI nbr) (n3 : fi c 38 = nI nsl) (n4 : fi c 39 = nI nbl)
    (b : sr < 100 ∧ br < 100 ∧ sl < 100 ∧ bl < 100 ∧ ei < 100) (b' : nsr < 100 ∧ nbr < 100 ∧ nsl < 100 ∧ nbl < 100) :
    TT 169 0 [some (.ref a), some (.ref c), none, none, none, none] [] (151, fi, fl, fr) Q = Q (some (.int (zB (a_cov sr br sl bl ei nsr nbr nsl nbl)))) (151, fi, fl, fr) := by
  refine T_exact (fun Q hQ => ?_) Q
  obtain ⟨b1, b2, b3, b4, b5⟩ := b
  obtain ⟨b6, b7, b8, b9⟩ := b'
  unfold a_cov at hQ
  simp (disch := first | assumption | rfl | exact zle_0 | exact zle_1 | exact zle_2 | exact zle_3 | exact zle_4 | exact zb_0 | exact zb_1 | exact zb01_B | omega) only [zT169_0, zr_aload_0, zT169_1, zr_gf_36, zT169_4, zr_aload_1, zT169_5, zT169_8, zr_isub, zT169_9, zr_istore_2, zT169_10, zT169_11, zr_gf_38, zT169_14, zT169_15, zT169_18, zT169_19, zr_istore_3, zT169_20, zr_iload_2, zT169_21, zr_if_lt, zT169_24, zr_iload_3, zT169_25, zr_if_ge, zT169_28, zr_ic_0, zT169_29, zr_ret1_0, zr_ret1_1, zr_ret1_B, zT169_30, zT169_31, zT169_32, zr_gf_37, zT169_35, zT169_36, zT169_39, zT169_40, zT169_41, zT169_42, zr_fadd, zT169_45, zr_istore_4, zT169_47, zT169_48, zT169_49, zr_gf_39, zT169_52, zT169_53, zT169_56, zT169_57, zT169_58, zT169_59, zT169_62, zr_istore_5, zT169_64, zr_iload_4, zT169_66, zr_iload_5, zT169_68, zr_iadd, zT169_69, zT169_70, zr_gf_40, zT169_73, zr_icmp_gt, zT169_76, zr_ic_1, zT169_77, zr_goto, zT169_80, zT169_81, zcl_i, zcl_r, zcl_l, zcl_n, zv_some, zv_none, Nat.reduceAdd, Nat.reduceMul, Nat.reduceSub, Nat.reduceLT, Nat.reduceLeDiff, Nat.reduceEqDiff, Int.reduceToNat, true_implies, false_implies, implies_true, and_true, true_and, not_true_eq_false, not_false_eq_true, Nat.zero_add, Nat.add_zero, nI_add, nI_ltI, nI_leI, nI_eq, pk_mul, pk_sub, u2_same, u2_row, u2_other, e1, e2, e3, e4, e5, n1, n2, n3, n4, nI_iI, iI_sub, iI_add, iI_lt, iI_le, iI_max, zr_ret1_i0, zr_ret1_i1]
  repeat' first | intro _ | apply And.intro
  · rw [decide_eq_false (by omega)] at hQ; exact hQ
  · rw [decide_eq_false (by omega)] at hQ; exact hQ
  · rw [decide_eq_true (by omega)] at hQ; exact hQ
  · rw [decide_eq_false (by omega)] at hQ; exact hQ
end
