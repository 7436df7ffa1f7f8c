/-! THE OTHER: what the one that is held against keeps -/
theorem dcd_T {p : Prop} [Decidable p] (h : p) : decide p = true := decide_eq_true h
theorem dcd_F {p : Prop} [Decidable p] (h : ¬ p) : decide p = false := decide_eq_false h
def z_MR (fi : Nat → Nat → Int32) (r : Nat) (w : Nat → Nat) : Prop := ∀ i, i < 110 → fi 134 (r + i) = nI (w i)
def z_MK (fi : Nat → Nat → Int32) (ws : Nat → Nat → Nat) (nn : Nat → Nat) : Prop := z_MR fi 0 (ws 0) ∧ (nn 0 = 1 → z_MR fi 110 (ws 1)) ∧ (nn 1 = 1 → z_MR fi 220 (ws 2)) ∧ fi 135 0 = nI (nn 0) ∧ fi 135 1 = nI (nn 1)
def z_MC (fi : Nat → Nat → Int32) (nn : Nat → Nat) : Prop := fi 137 0 = nI (nn 3) ∧ fi 137 1 = nI (nn 4) ∧ fi 137 2 = nI (nn 5)
def z_MT (fi : Nat → Nat → Int32) (tx : Nat → Nat) (n : Nat) : Prop := n ≤ 200 ∧ fi 133 74 = nI n ∧ ∀ i, i < n → tx i < 256 ∧ fi 136 i = nI (tx i)
def z_ML (fi : Nat → Nat → Int32) (fl : Nat → Nat → Int64) (F arr v : Nat) : Prop := fi 133 F = nI (a_len v) ∧ v < LB ^ 8 ∧ ∀ k, k < a_len v → fl arr k = lN (v / LB ^ k % LB)
def z_MS (fi : Nat → Nat → Int32) (fl : Nat → Nat → Int64) (ws : Nat → Nat → Nat) (nn tx : Nat → Nat) : Prop := z_MK fi ws nn ∧ z_MC fi nn ∧ z_MT fi tx (nn 2) ∧ z_ML fi fl 97 149 (nn 6) ∧ z_ML fi fl 99 150 (nn 7)
def z_MQ (fi : Nat → Nat → Int32) (fr : Nat → Nat → Option Nat) (Q : Option Value → Mm → Prop) (a : Int32) (ws : Nat → Nat → Nat) (nn tx : Nat → Nat) : Prop := ∀ fi' fl', z_MS fi' fl' ws nn tx → (∀ j, j < 133 → fi' j = fi j) → Q (some (.int a)) (151, fi', fl', fr)
theorem z_MR.set {fi : Nat → Nat → Int32} {r j k v : Nat} {w : Nat → Nat} (h : z_MR fi r w) (hk : k = r + j) : z_MR (u2 fi 134 k (nI v)) r (a_set w j v) := by
  intro i hi
  subst hk
  by_cases e : i = j
  · subst e; rw [u2_same, a_set_same]
  · rw [u2_row (by omega), a_set_ne e]
    exact h i hi
theorem z_MR.frame {fi fi' : Nat → Nat → Int32} {r : Nat} {w : Nat → Nat} (h : z_MR fi r w) (hf : ∀ i, r ≤ i → i < r + 110 → fi' 134 i = fi 134 i) : z_MR fi' r w := fun i hi => by rw [hf _ (by omega) (by omega)]; exact h i hi
def m_ba (fi : Nat → Nat → Int32) (r : Nat) : Nat → Nat → Int32 := u2 (u2 (u2 (u2 fi 134 (r + 55) (nI 0)) 134 (r + 55 + 1) (nI 0)) 134 (r + 55 + 2) (nI 0)) 134 (r + 58) (nI 0)
theorem m_ba_R {fi : Nat → Nat → Int32} {r : Nat} {w : Nat → Nat} (h : z_MR fi r w) : z_MR (m_ba fi r) r (a_ba w) := by
  intro i hi
  unfold m_ba a_ba
  by_cases c : 55 ≤ i ∧ i ≤ 58
  · rw [if_pos c]
    have : i = 55 ∨ i = 56 ∨ i = 57 ∨ i = 58 := by omega
    rcases this with rfl | rfl | rfl | rfl
    · rw [u2_row (by omega), u2_row (by omega), u2_row (by omega), u2_same]
    · rw [u2_row (by omega), u2_row (by omega), show r + 56 = r + 55 + 1 by omega, u2_same]
    · rw [u2_row (by omega), show r + 57 = r + 55 + 2 by omega, u2_same]
    · rw [u2_same]
  · rw [if_neg c, u2_row (by omega), u2_row (by omega), u2_row (by omega), u2_row (by omega)]
    exact h i hi
theorem m_ba_ne {fi : Nat → Nat → Int32} {r j : Nat} (h : j ≠ 134) : m_ba fi r j = fi j := by
  unfold m_ba
  rw [u2_ne h, u2_ne h, u2_ne h, u2_ne h]
theorem m_ba_row {fi : Nat → Nat → Int32} {r i : Nat} (h : i < r ∨ r + 110 ≤ i) : m_ba fi r 134 i = fi 134 i := by
  unfold m_ba
  rw [u2_row (by omega), u2_row (by omega), u2_row (by omega), u2_row (by omega)]
def mt (fi : Nat → Nat → Int32) (a : Int32) : Nat → Nat → Int32 := if a = nM 2 then u2 fi 137 0 (fi 137 0 + nI 1) else if a = nM 3 then u2 fi 137 1 (fi 137 1 + nI 1) else if a = nM 4 then u2 fi 137 2 (fi 137 2 + nI 1) else fi
theorem mt_ne {fi : Nat → Nat → Int32} {a : Int32} {j : Nat} (h : j ≠ 137) : mt fi a j = fi j := by
  unfold mt
  repeat' split
  all_goals first | rfl | exact u2_ne h
section
variable {fi fi' : Nat → Nat → Int32} {fl fl' : Nat → Nat → Int64} {fr : Nat → Nat → Option Nat} {Q : Option Value → Mm → Prop} {w : Nat → Nat} {k : Nat} {M : Mm} {ws : Nat → Nat → Nat} {nn tx : Nat → Nat}
theorem lg_c0 {x z : Int64} : (lg_cmp x z < nI 0) = (x.toInt < z.toInt) := by
  unfold lg_cmp
  by_cases c : x > z
  · rw [if_pos c]
    have : z.toInt < x.toInt := Int64.lt_iff_toInt_lt.mp c
    exact propext ⟨fun h => absurd h (by decide), fun h => by omega⟩
  · rw [if_neg c]
    have nc : ¬ z.toInt < x.toInt := fun h => c (Int64.lt_iff_toInt_lt.mpr h)
    by_cases e : x = z
    · rw [if_pos e, e]
      exact propext ⟨fun h => absurd h (by decide), fun h => by omega⟩
    · rw [if_neg e]
      have ne : x.toInt ≠ z.toInt := fun h => e (Int64.toInt_inj.mp h)
      exact propext ⟨fun _ => by omega, fun _ => by decide⟩
theorem lg_c1 {x z : Int64} : (nI 0 < lg_cmp x z) = (z.toInt < x.toInt) := by
  unfold lg_cmp
  by_cases c : x > z
  · rw [if_pos c]
    have : z.toInt < x.toInt := Int64.lt_iff_toInt_lt.mp c
    exact propext ⟨fun _ => this, fun _ => by decide⟩
  · rw [if_neg c]
    have nc : ¬ z.toInt < x.toInt := fun h => c (Int64.lt_iff_toInt_lt.mpr h)
    by_cases e : x = z
    · rw [if_pos e]
      exact propext ⟨fun h => absurd h (by decide), fun h => absurd h nc⟩
    · rw [if_neg e]
      exact propext ⟨fun h => absurd h (by decide), fun h => absurd h nc⟩
theorem sm_in {v lo hi : Int64} : TT 2 0 [some (.long v), none, some (.long lo), none, some (.long hi), none] [] M Q = Q (some (.int (zB (decide (lo.toInt ≤ v.toInt ∧ v.toInt ≤ hi.toInt))))) M := by
  refine T_exact (fun Q hQ => ?_) Q
  obtain ⟨nx, fi, fl, fr⟩ := M
  simp (disch := first | assumption | rfl | exact zle_0 | exact zle_1 | exact zle_2 | exact zle_3 | exact zle_4 | exact zb_0 | exact zb_1 | exact zb01_B | omega) only [zT2_0, zr_lload_0, zT2_1, zr_lload_2, zT2_2, zr_lcmp, zT2_3, zr_if_lt, zT2_6, zT2_7, zr_lload_4, zT2_9, zT2_10, zr_if_gt, zT2_13, zr_ic_1, zT2_14, zr_goto, zT2_17, zr_ic_0, zT2_18, zr_ret1_0, zr_ret1_1, zr_ret1_B, zcl_i, zcl_r, zcl_l, zcl_n, zv_some, zv_none, Nat.reduceAdd, Nat.reduceMul, Nat.reduceSub, Nat.reduceLT, Nat.reduceLeDiff, Nat.reduceEqDiff, Int.reduceToNat, true_implies, false_implies, implies_true, and_true, true_and, not_true_eq_false, not_false_eq_true, Nat.zero_add, Nat.add_zero, nI_add, nI_ltI, nI_leI, nI_eq, pk_mul, pk_sub, u2_same, u2_row, u2_other, lg_c0, lg_c1]
  repeat' first | intro _ | apply And.intro
  · rw [decide_eq_false (by omega)] at hQ; exact hQ
  · rw [decide_eq_false (by omega)] at hQ; exact hQ
  · rw [decide_eq_true (by omega)] at hQ; exact hQ
theorem l0 : (lN 0).toInt = 0 := by decide
theorem x64 {x : Int32} : x.toInt64.toInt = x.toInt := Int32.toInt_toInt64 x
theorem sm_has {b d : Nat} (hb : b < 2 ^ 31) (hd : d < 32) : TT 5 0 [some (.int (nI b)), some (.int (nI d))] [] M Q = Q (some (.int (zB (a_bit b d)))) M := by
  refine T_exact (fun Q hQ => ?_) Q
  have h2 : b / 2 ^ d % 2 < 2 := Nat.mod_lt _ (by decide)
  obtain ⟨nx, fi, fl, fr⟩ := M
  unfold a_bit at hQ
  by_cases c : b / 2 ^ d % 2 = 1
  · rw [decide_eq_true c] at hQ
    simp (disch := first | assumption | rfl | exact zle_0 | exact zle_1 | exact zle_2 | exact zle_3 | exact zle_4 | exact zb_0 | exact zb_1 | exact zb01_B | omega) only [zT5_0, zr_iload_0, zT5_1, zr_iload_1, zT5_2, zr_ishr, zT5_3, zr_ic_1, zT5_4, zr_iand, zT5_5, zT5_6, zr_icmp_ne, zT5_9, zT5_10, zr_goto, zT5_13, zr_ic_0, zT5_14, zr_ret1_0, zr_ret1_1, zr_ret1_B, zcl_i, zcl_r, zcl_l, zcl_n, zv_some, zv_none, Nat.reduceAdd, Nat.reduceMul, Nat.reduceSub, Nat.reduceLT, Nat.reduceLeDiff, Nat.reduceEqDiff, Int.reduceToNat, true_implies, false_implies, implies_true, and_true, true_and, not_true_eq_false, not_false_eq_true, Nat.zero_add, Nat.add_zero, nI_add, nI_ltI, nI_leI, nI_eq, pk_mul, pk_sub, u2_same, u2_row, u2_other, b_shr, b_and, Nat.and_one_is_mod, olt_T, olt_F, ole_T, ole_F, oeq_T, oeq_F]
    exact hQ
  · rw [decide_eq_false c] at hQ
    simp (disch := first | assumption | rfl | exact zle_0 | exact zle_1 | exact zle_2 | exact zle_3 | exact zle_4 | exact zb_0 | exact zb_1 | exact zb01_B | omega) only [zT5_0, zr_iload_0, zT5_1, zr_iload_1, zT5_2, zr_ishr, zT5_3, zr_ic_1, zT5_4, zr_iand, zT5_5, zT5_6, zr_icmp_ne, zT5_9, zT5_10, zr_goto, zT5_13, zr_ic_0, zT5_14, zr_ret1_0, zr_ret1_1, zr_ret1_B, zcl_i, zcl_r, zcl_l, zcl_n, zv_some, zv_none, Nat.reduceAdd, Nat.reduceMul, Nat.reduceSub, Nat.reduceLT, Nat.reduceLeDiff, Nat.reduceEqDiff, Int.reduceToNat, true_implies, false_implies, implies_true, and_true, true_and, not_true_eq_false, not_false_eq_true, Nat.zero_add, Nat.add_zero, nI_add, nI_ltI, nI_leI, nI_eq, pk_mul, pk_sub, u2_same, u2_row, u2_other, b_shr, b_and, Nat.and_one_is_mod, olt_T, olt_F, ole_T, ole_F, oeq_T, oeq_F]
    exact hQ
set_option maxRecDepth 4000 in
theorem sm_ba (hf : z_FR fr) {r : Nat} (hr : r ≤ 330) : TT 10 0 [some (.ref 133), some (.int (nI r)), none] [] (151, fi, fl, fr) Q = Q none (151, m_ba fi r, fl, fr) := by
  refine T_exact (fun Q hQ => ?_) Q
  have o133 : z_ok 151 133 20 = true := rfl; have o134 : z_ok 151 134 1 = true := rfl
  have l134 : z_al 134 = 440 := rfl
  unfold m_ba at hQ
  simp (disch := first | assumption | rfl | exact zle_0 | exact zle_1 | exact zle_2 | exact zle_3 | exact zle_4 | exact zb_0 | exact zb_1 | exact zb01_B | omega) only [zT10_0, zr_ic_0, zT10_1, zr_istore_2, zT10_2, zr_iload_2, zT10_3, zr_ic_3, zT10_4, zr_icmp_ge, zT10_7, zr_aload_0, zT10_8, zr_gf_71, zr_or, zr_go, zf_133_71, zT10_11, zr_iload_1, zT10_12, zr_ic_55, zT10_14, zr_iadd, zT10_15, zT10_16, zT10_17, zT10_18, zr_iast, zT10_19, zr_iinc_2_1, zT10_22, zr_goto, zT10_25, zT10_26, zT10_29, zT10_30, zr_ic_58, zT10_32, zT10_33, zT10_34, zT10_35, zr_return, zcl_i, zcl_r, zcl_l, zcl_n, zv_some, zv_none, Nat.reduceAdd, Nat.reduceMul, Nat.reduceSub, Nat.reduceLT, Nat.reduceLeDiff, Nat.reduceEqDiff, Int.reduceToNat, true_implies, false_implies, implies_true, and_true, true_and, not_true_eq_false, not_false_eq_true, Nat.zero_add, Nat.add_zero, nI_add, nI_ltI, nI_leI, nI_eq, pk_mul, pk_sub, u2_same, u2_row, u2_other, olt_T, olt_F, ole_T, ole_F, oeq_T, oeq_F]
  exact hQ
theorem sm_told (hf : z_FR fr) {a : Int32} : TT 3 0 [some (.ref 133), some (.int a)] [] (151, fi, fl, fr) Q = Q (some (.int a)) (151, mt fi a, fl, fr) := by
  refine T_exact (fun Q hQ => ?_) Q
  have o133 : z_ok 151 133 20 = true := rfl; have o137 : z_ok 151 137 1 = true := rfl
  have l137 : z_al 137 = 3 := rfl
  have n32 : (nM 3 = nM 2) = False := by rw [nM_eq (by decide) (by decide)]; exact eq_false (by decide)
  have n42 : (nM 4 = nM 2) = False := by rw [nM_eq (by decide) (by decide)]; exact eq_false (by decide)
  have n43 : (nM 4 = nM 3) = False := by rw [nM_eq (by decide) (by decide)]; exact eq_false (by decide)
  have s0 : nM 2 - nM 2 = nI 0 := by decide
  have s1 : nM 2 - nM 3 = nI 1 := by decide
  have s2 : nM 2 - nM 4 = nI 2 := by decide
  unfold mt at hQ
  by_cases c2 : a = nM 2
  · rw [if_pos c2] at hQ
    subst c2
    simp (disch := first | assumption | rfl | exact zle_0 | exact zle_1 | exact zle_2 | exact zle_3 | exact zle_4 | exact zb_0 | exact zb_1 | exact zb01_B | omega) only [zT3_0, zr_iload_1, zT3_1, zr_ic_m2, zT3_3, zr_icmp_eq, zT3_6, zT3_7, zr_ic_m3, zT3_9, zT3_12, zT3_13, zr_ic_m4, zT3_15, zr_icmp_ne, zT3_18, zr_aload_0, zT3_19, zr_gf_75, zr_or, zr_go, zf_133_75, zT3_22, zT3_24, zT3_25, zr_isub, zT3_26, zr_dup2, zT3_27, zr_iald, zT3_28, zr_ic_1, zT3_29, zr_iadd, zT3_30, zr_iast, zT3_31, zT3_32, zr_ret0, zcl_i, zcl_r, zcl_l, zcl_n, zv_some, zv_none, Nat.reduceAdd, Nat.reduceMul, Nat.reduceSub, Nat.reduceLT, Nat.reduceLeDiff, Nat.reduceEqDiff, Int.reduceToNat, true_implies, false_implies, implies_true, and_true, true_and, not_true_eq_false, not_false_eq_true, Nat.zero_add, Nat.add_zero, nI_add, nI_ltI, nI_leI, nI_eq, pk_mul, pk_sub, u2_same, u2_row, u2_other, s0, olt_T, olt_F, ole_T, ole_F, oeq_T, oeq_F]
    exact hQ
  · rw [if_neg c2] at hQ
    have c2' := eq_false c2
    by_cases c3 : a = nM 3
    · rw [if_pos c3] at hQ
      subst c3
      simp (disch := first | assumption | rfl | exact zle_0 | exact zle_1 | exact zle_2 | exact zle_3 | exact zle_4 | exact zb_0 | exact zb_1 | exact zb01_B | omega) only [zT3_0, zr_iload_1, zT3_1, zr_ic_m2, zT3_3, zr_icmp_eq, zT3_6, zT3_7, zr_ic_m3, zT3_9, zT3_12, zT3_13, zr_ic_m4, zT3_15, zr_icmp_ne, zT3_18, zr_aload_0, zT3_19, zr_gf_75, zr_or, zr_go, zf_133_75, zT3_22, zT3_24, zT3_25, zr_isub, zT3_26, zr_dup2, zT3_27, zr_iald, zT3_28, zr_ic_1, zT3_29, zr_iadd, zT3_30, zr_iast, zT3_31, zT3_32, zr_ret0, zcl_i, zcl_r, zcl_l, zcl_n, zv_some, zv_none, Nat.reduceAdd, Nat.reduceMul, Nat.reduceSub, Nat.reduceLT, Nat.reduceLeDiff, Nat.reduceEqDiff, Int.reduceToNat, true_implies, false_implies, implies_true, and_true, true_and, not_true_eq_false, not_false_eq_true, Nat.zero_add, Nat.add_zero, nI_add, nI_ltI, nI_leI, nI_eq, pk_mul, pk_sub, u2_same, u2_row, u2_other, s1, n32, olt_T, olt_F, ole_T, ole_F, oeq_T, oeq_F]
      exact hQ
    · rw [if_neg c3] at hQ
      have c3' := eq_false c3
      by_cases c4 : a = nM 4
      · rw [if_pos c4] at hQ
        subst c4
        simp (disch := first | assumption | rfl | exact zle_0 | exact zle_1 | exact zle_2 | exact zle_3 | exact zle_4 | exact zb_0 | exact zb_1 | exact zb01_B | omega) only [zT3_0, zr_iload_1, zT3_1, zr_ic_m2, zT3_3, zr_icmp_eq, zT3_6, zT3_7, zr_ic_m3, zT3_9, zT3_12, zT3_13, zr_ic_m4, zT3_15, zr_icmp_ne, zT3_18, zr_aload_0, zT3_19, zr_gf_75, zr_or, zr_go, zf_133_75, zT3_22, zT3_24, zT3_25, zr_isub, zT3_26, zr_dup2, zT3_27, zr_iald, zT3_28, zr_ic_1, zT3_29, zr_iadd, zT3_30, zr_iast, zT3_31, zT3_32, zr_ret0, zcl_i, zcl_r, zcl_l, zcl_n, zv_some, zv_none, Nat.reduceAdd, Nat.reduceMul, Nat.reduceSub, Nat.reduceLT, Nat.reduceLeDiff, Nat.reduceEqDiff, Int.reduceToNat, true_implies, false_implies, implies_true, and_true, true_and, not_true_eq_false, not_false_eq_true, Nat.zero_add, Nat.add_zero, nI_add, nI_ltI, nI_leI, nI_eq, pk_mul, pk_sub, u2_same, u2_row, u2_other, s2, n42, n43, olt_T, olt_F, ole_T, ole_F, oeq_T, oeq_F]
        exact hQ
      · rw [if_neg c4] at hQ
        have c4' := eq_false c4
        simp (disch := first | assumption | rfl | exact zle_0 | exact zle_1 | exact zle_2 | exact zle_3 | exact zle_4 | exact zb_0 | exact zb_1 | exact zb01_B | omega) only [zT3_0, zr_iload_1, zT3_1, zr_ic_m2, zT3_3, zr_icmp_eq, zT3_6, zT3_7, zr_ic_m3, zT3_9, zT3_12, zT3_13, zr_ic_m4, zT3_15, zr_icmp_ne, zT3_18, zr_aload_0, zT3_19, zr_gf_75, zr_or, zr_go, zf_133_75, zT3_22, zT3_24, zT3_25, zr_isub, zT3_26, zr_dup2, zT3_27, zr_iald, zT3_28, zr_ic_1, zT3_29, zr_iadd, zT3_30, zr_iast, zT3_31, zT3_32, zr_ret0, zcl_i, zcl_r, zcl_l, zcl_n, zv_some, zv_none, Nat.reduceAdd, Nat.reduceMul, Nat.reduceSub, Nat.reduceLT, Nat.reduceLeDiff, Nat.reduceEqDiff, Int.reduceToNat, true_implies, false_implies, implies_true, and_true, true_and, not_true_eq_false, not_false_eq_true, Nat.zero_add, Nat.add_zero, nI_add, nI_ltI, nI_leI, nI_eq, pk_mul, pk_sub, u2_same, u2_row, u2_other, c2', c3', c4', olt_T, olt_F, ole_T, ole_F, oeq_T, oeq_F]
        exact hQ
theorem z_MK.frame (h : z_MK fi ws nn) (h1 : fi' 134 = fi 134) (h2 : fi' 135 = fi 135) : z_MK fi' ws nn := by
  unfold z_MK z_MR at *
  rw [h1, h2]
  exact h
theorem z_MS.mt (h : z_MS fi fl ws nn tx) (a : Int32) : z_MS (mt fi a) fl ws (o_note a nn) tx := by
  obtain ⟨hk, hc, ht, hA, hB⟩ := h
  have e : ∀ j, j = 0 ∨ j = 1 ∨ j = 2 ∨ j = 6 ∨ j = 7 → o_note a nn j = nn j := by
    intro j hj
    unfold o_note
    repeat' split
    all_goals first | rfl | exact uh_ne (by omega)
  refine ⟨?_, ?_, ?_, ?_, ?_⟩
  · have := hk.frame (fi' := Jvm.Pilot.CCookHandsLaw_law_r4018_ce3b41.mt fi a) (mt_ne (by decide)) (mt_ne (by decide))
    unfold z_MK at *
    rw [e 0 (by omega), e 1 (by omega)]
    exact this
  · unfold z_MC Jvm.Pilot.CCookHandsLaw_law_r4018_ce3b41.mt o_note at *
    obtain ⟨h1, h2, h3⟩ := hc
    repeat' split
    · refine ⟨?_, ?_, ?_⟩
      · rw [u2_same, uh_same, h1, nI_add]
      · rw [u2_row (by decide), uh_ne (by decide)]; exact h2
      · rw [u2_row (by decide), uh_ne (by decide)]; exact h3
    · refine ⟨?_, ?_, ?_⟩
      · rw [u2_row (by decide), uh_ne (by decide)]; exact h1
      · rw [u2_same, uh_same, h2, nI_add]
      · rw [u2_row (by decide), uh_ne (by decide)]; exact h3
    · refine ⟨?_, ?_, ?_⟩
      · rw [u2_row (by decide), uh_ne (by decide)]; exact h1
      · rw [u2_row (by decide), uh_ne (by decide)]; exact h2
      · rw [u2_same, uh_same, h3, nI_add]
    · exact ⟨h1, h2, h3⟩
  · unfold z_MT at *
    rw [e 2 (by omega), mt_ne (by decide), mt_ne (by decide)]
    exact ht
  · unfold z_ML at *
    rw [e 6 (by omega), mt_ne (by decide)]
    exact hA
  · unfold z_ML at *
    rw [e 7 (by omega), mt_ne (by decide)]
    exact hB
/-- nothing but the row now has changed -/
theorem z_MS.kit (h : z_MS fi fl ws nn tx) (hr : z_MR fi' 0 w) (h1 : ∀ j, j ≠ 134 → fi' j = fi j) (h2 : ∀ i, 110 ≤ i → i < 330 → fi' 134 i = fi 134 i) : z_MS fi' fl (uw ws w) nn tx := by
  obtain ⟨hk, hc, ht, hA, hB⟩ := h
  refine ⟨⟨hr, fun e => (hk.2.1 e).frame (fun i i1 i2 => h2 i (by omega) (by omega)), fun e => (hk.2.2.1 e).frame (fun i i1 i2 => h2 i (by omega) (by omega)), by rw [h1 135 (by decide)]; exact hk.2.2.2.1, by rw [h1 135 (by decide)]; exact hk.2.2.2.2⟩, ?_, ?_, ?_, ?_⟩
  · unfold z_MC at *; rw [h1 137 (by decide)]; exact hc
  · unfold z_MT at *; rw [h1 133 (by decide), h1 136 (by decide)]; exact ht
  · unfold z_ML at *; rw [h1 133 (by decide)]; exact hA
  · unfold z_ML at *; rw [h1 133 (by decide)]; exact hB
theorem z_MQ.ref {r : Nat} (hr : r = 2 ∨ r = 3 ∨ r = 4) (h : z_MS fi fl ws nn tx) (hQ : z_MQ fi fr Q (nM r) ws (rf nn r) tx) : Q (some (.int (nM r))) (151, mt fi (nM r), fl, fr) := by
  have e : rf nn r = o_note (nM r) nn := by
    have n32 : (nM 3 = nM 2) = False := by rw [nM_eq (by decide) (by decide)]; exact eq_false (by decide)
    have n42 : (nM 4 = nM 2) = False := by rw [nM_eq (by decide) (by decide)]; exact eq_false (by decide)
    have n43 : (nM 4 = nM 3) = False := by rw [nM_eq (by decide) (by decide)]; exact eq_false (by decide)
    unfold o_note rf
    rcases hr with rfl | rfl | rfl
    · rw [if_pos rfl]
    · rw [if_neg (by rw [n32]; exact id), if_pos rfl]
    · rw [if_neg (by rw [n42]; exact id), if_neg (by rw [n43]; exact id), if_pos rfl]
  rw [e] at hQ
  exact hQ _ _ (h.mt _) (fun j hj => mt_ne (by omega))
theorem z_MQ.id_ {a : Int32} (h : z_MS fi fl ws nn tx) (hQ : z_MQ fi fr Q a ws nn tx) : Q (some (.int a)) (151, fi, fl, fr) := hQ fi fl h (fun _ _ => rfl)
end
