/-! rows copied, undone; steps -/
/-- n cells of the model's row at a copied to b -/
def m_cp (fi : Nat → Nat → Int32) (a b n : Nat) : Nat → Nat → Int32 := fun j k => if j = 134 ∧ b ≤ k ∧ k < b + n then fi 134 (a + (k - b)) else fi j k
def a_bkN (w : Nat → Nat) (n : Nat) : Nat → Nat := fun j => if j = 58 then w 58 - 1 else if 55 ≤ j ∧ j < 55 + n ∧ a_bit (w (58 + w 58)) (j - 55) = true then w j - 1 else w j
section
variable {fi fi' : Nat → Nat → Int32} {fl fl' : Nat → Nat → Int64} {fr : Nat → Nat → Option Nat} {Q : Option Value → Mm → Prop} {w : Nat → Nat} {k : Nat} {M : Mm} {ws : Nat → Nat → Nat} {nn tx : Nat → Nat}
theorem m_cp_s {a b n : Nat} (hd : a + 110 ≤ b ∨ b + 110 ≤ a) (hn : n < 110) : u2 (m_cp fi a b n) 134 (b + n) (m_cp fi a b n 134 (a + n)) = m_cp fi a b (n + 1) := by
  have e : m_cp fi a b n 134 (a + n) = fi 134 (a + n) := by
    unfold m_cp
    rw [if_neg (by omega)]
  rw [e]
  funext j k
  by_cases hj : j = 134
  · subst hj
    by_cases hk : k = b + n
    · subst hk
      rw [u2_same]
      unfold m_cp
      rw [if_pos ⟨rfl, by omega, by omega⟩]
      congr 1
      omega
    · rw [u2_row hk]
      unfold m_cp
      by_cases q : b ≤ k ∧ k < b + n
      · rw [if_pos ⟨rfl, q.1, q.2⟩, if_pos ⟨rfl, q.1, by omega⟩]
      · rw [if_neg (fun r => q r.2), if_neg (fun r => q ⟨r.2.1, by omega⟩)]
  · rw [u2_other hj]
    unfold m_cp
    rw [if_neg (fun r => hj r.1), if_neg (fun r => hj r.1)]
theorem sm_cp_ (hf : z_FR fr) {a b : Nat} (hd : a + 110 ≤ b ∨ b + 110 ≤ a) (ha : a ≤ 330) (hb : b ≤ 330) : ∀ m n, n + m = 110 → ∀ Q, TT 9 2 [some (.ref 133), some (.int (nI a)), some (.int (nI b)), some (.int (nI n))] [] (151, m_cp fi a b n, fl, fr) Q = Q none (151, m_cp fi a b 110, fl, fr) := by
  have o133 : z_ok 151 133 20 = true := rfl; have o134 : z_ok 151 134 1 = true := rfl
  have l134 : z_al 134 = 440 := rfl
  intro m
  induction m with
  | zero =>
    intro n hn Q
    obtain rfl : n = 110 := by omega
    simp (disch := first | assumption | rfl | exact zle_0 | exact zle_1 | exact zle_2 | exact zle_3 | exact zle_4 | exact zb_0 | exact zb_1 | exact zb01_B | omega) only [zT9_2, zr_iload_3, zT9_3, zr_ic_110, zT9_5, zr_icmp_ge, zT9_30, zr_return, zcl_i, zcl_r, zcl_l, zcl_n, zv_some, zv_none, Nat.reduceAdd, Nat.reduceMul, Nat.reduceSub, Nat.reduceLT, Nat.reduceLeDiff, Nat.reduceEqDiff, Int.reduceToNat, true_implies, false_implies, implies_true, and_true, true_and, not_true_eq_false, not_false_eq_true, Nat.zero_add, Nat.add_zero, nI_add, nI_ltI, nI_leI, nI_eq, pk_mul, pk_sub, u2_same, u2_row, u2_other, olt_T, olt_F, ole_T, ole_F, oeq_T, oeq_F]
  | succ m ih =>
    intro n hn Q
    have ih' := ih (n + 1) (by omega)
    have cs := m_cp_s (fi := fi) hd (show n < 110 by omega)
    simp (disch := first | assumption | rfl | exact zle_0 | exact zle_1 | exact zle_2 | exact zle_3 | exact zle_4 | exact zb_0 | exact zb_1 | exact zb01_B | omega) only [zT9_2, zr_iload_3, zcl_i, zcl_r, zcl_l, zcl_n, zv_some, zv_none, Nat.reduceAdd, Nat.reduceMul, Nat.reduceSub, Nat.reduceLT, Nat.reduceLeDiff, Nat.reduceEqDiff, Int.reduceToNat, true_implies, false_implies, implies_true, and_true, true_and, not_true_eq_false, not_false_eq_true, Nat.zero_add, Nat.add_zero, nI_add, nI_ltI, nI_leI, nI_eq, pk_mul, pk_sub, u2_same, u2_row, u2_other]
    simp (disch := first | assumption | rfl | exact zle_0 | exact zle_1 | exact zle_2 | exact zle_3 | exact zle_4 | exact zb_0 | exact zb_1 | exact zb01_B | omega) only [zT9_3, zr_ic_110, zT9_5, zr_icmp_ge, zT9_8, zr_aload_0, zT9_9, zr_gf_71, zr_or, zr_go, zf_133_71, zT9_12, zr_iload_2, zT9_13, zr_iload_3, zT9_14, zr_iadd, zT9_15, zT9_16, zT9_19, zr_iload_1, zT9_20, zT9_21, zT9_22, zr_iald, zT9_23, zr_iast, zT9_24, zr_iinc_3_1, zT9_27, zr_goto, zcl_i, zcl_r, zcl_l, zcl_n, zv_some, zv_none, Nat.reduceAdd, Nat.reduceMul, Nat.reduceSub, Nat.reduceLT, Nat.reduceLeDiff, Nat.reduceEqDiff, Int.reduceToNat, true_implies, false_implies, implies_true, and_true, true_and, not_true_eq_false, not_false_eq_true, Nat.zero_add, Nat.add_zero, nI_add, nI_ltI, nI_leI, nI_eq, pk_mul, pk_sub, u2_same, u2_row, u2_other, cs, ih', olt_T, olt_F, ole_T, ole_F, oeq_T, oeq_F]
theorem sm_copy (hf : z_FR fr) {a b : Nat} (hd : a + 110 ≤ b ∨ b + 110 ≤ a) (ha : a ≤ 330) (hb : b ≤ 330) : TT 9 0 [some (.ref 133), some (.int (nI a)), some (.int (nI b)), none] [] (151, fi, fl, fr) Q = Q none (151, m_cp fi a b 110, fl, fr) := by
  have e : m_cp fi a b 0 = fi := by
    funext j k
    unfold m_cp
    rw [if_neg (by omega)]
  have L := sm_cp_ (fi := fi) (fl := fl) hf hd ha hb 110 0 rfl Q
  rw [e] at L
  simp (disch := first | assumption | rfl | exact zle_0 | exact zle_1 | exact zle_2 | exact zle_3 | exact zle_4 | exact zb_0 | exact zb_1 | exact zb01_B | omega) only [zT9_0, zr_ic_0, zT9_1, zr_istore_3, zcl_i, zcl_r, zcl_l, zcl_n, zv_some, zv_none, Nat.reduceAdd, Nat.reduceMul, Nat.reduceSub, Nat.reduceLT, Nat.reduceLeDiff, Nat.reduceEqDiff, Int.reduceToNat, true_implies, false_implies, implies_true, and_true, true_and, not_true_eq_false, not_false_eq_true, Nat.zero_add, Nat.add_zero, nI_add, nI_ltI, nI_leI, nI_eq, pk_mul, pk_sub, u2_same, u2_row, u2_other, olt_T, olt_F, ole_T, ole_F, oeq_T, oeq_F]
  exact L
theorem m_cp_ne {a b n j : Nat} (h : j ≠ 134) : m_cp fi a b n j = fi j := by
  funext k
  unfold m_cp
  rw [if_neg (fun r => h r.1)]
theorem m_cp_out {a b n k : Nat} (h : k < b ∨ b + n ≤ k) : m_cp fi a b n 134 k = fi 134 k := by
  unfold m_cp
  rw [if_neg (by omega)]
theorem m_cp_R {a b : Nat} (h : z_MR fi a w) : z_MR (m_cp fi a b 110) b w := by
  intro i hi
  unfold m_cp
  rw [if_pos ⟨rfl, by omega, by omega⟩, show a + (b + i - b) = a + i by omega]
  exact h i hi
theorem ym_image (hf : z_FR fr) (h : z_MS fi fl ws nn tx) {x : Int32} (hQ : z_MQ fi fr Q (r_image ws nn x).1 (r_image ws nn x).2.1 (r_image ws nn x).2.2 tx) : TT 76 0 [some (.ref 133), some (.int x)] [] (151, fi, fl, fr) Q := by
  have o133 : z_ok 151 133 20 = true := rfl; have o135 : z_ok 151 135 2 = true := rfl
  have l135 : z_al 135 = 2 := rfl
  have si := fun M Q v lo hi => sm_in (M := M) (Q := Q) (v := v) (lo := lo) (hi := hi)
  have l1 : (lN 1).toInt = 1 := by decide
  have td := fun fi a Q => sm_told (fi := fi) (fl := fl) (Q := Q) hf (a := a)
  unfold r_image at hQ
  by_cases c : 0 ≤ x.toInt ∧ x.toInt ≤ 1
  · rw [if_pos c] at hQ
    obtain ⟨j, j2, rfl, ej⟩ := i3 (n := 1) c
    rw [ej] at hQ
    dsimp only at hQ
    have cp := fun Q => sm_copy (fi := fi) (fl := fl) (Q := Q) hf (a := 0) (b := 110 * (1 + j)) (by omega) (by decide) (by omega)
    obtain ⟨hk, hc, ht, hA, hB⟩ := h
    have ne : ∀ i, i ≠ 134 → i ≠ 135 → u2 (m_cp fi 0 (110 * (1 + j)) 110) 135 j (nI 1) i = fi i := fun i i1 i2 => by rw [u2_ne i2, m_cp_ne i1]
    have e134 : u2 (m_cp fi 0 (110 * (1 + j)) 110) 135 j (nI 1) 134 = m_cp fi 0 (110 * (1 + j)) 110 134 := u2_ne (by decide)
    have fin : z_MS (u2 (m_cp fi 0 (110 * (1 + j)) 110) 135 j (nI 1)) fl (us ws (1 + j) (ws 0)) (uh nn j 1) tx := by
      have hj : j = 0 ∨ j = 1 := by omega
      refine ⟨⟨?_, ?_, ?_, ?_, ?_⟩, ?_, ?_, ?_, ?_⟩
      · show z_MR _ 0 (if 0 = 1 + j then ws 0 else ws 0)
        rw [if_neg (by omega)]
        exact hk.1.frame (fun i i1 i2 => by rw [e134, m_cp_out (by omega)])
      · intro e
        show z_MR _ 110 (if 1 = 1 + j then ws 0 else ws 1)
        rcases hj with rfl | rfl
        · rw [if_pos rfl]
          exact (m_cp_R hk.1).frame (fun i i1 i2 => by rw [e134])
        · rw [if_neg (by decide)]
          rw [uh_ne (by decide)] at e
          exact (hk.2.1 e).frame (fun i i1 i2 => by rw [e134, m_cp_out (by omega)])
      · intro e
        show z_MR _ 220 (if 2 = 1 + j then ws 0 else ws 2)
        rcases hj with rfl | rfl
        · rw [if_neg (by decide)]
          rw [uh_ne (by decide)] at e
          exact (hk.2.2.1 e).frame (fun i i1 i2 => by rw [e134, m_cp_out (by omega)])
        · rw [if_pos rfl]
          exact (m_cp_R hk.1).frame (fun i i1 i2 => by rw [e134])
      · rcases hj with rfl | rfl
        · rw [u2_same, uh_same]
        · rw [u2_row (by decide), m_cp_ne (by decide), uh_ne (by decide)]; exact hk.2.2.2.1
      · rcases hj with rfl | rfl
        · rw [u2_row (by decide), m_cp_ne (by decide), uh_ne (by decide)]; exact hk.2.2.2.2
        · rw [u2_same, uh_same]
      · unfold z_MC at *
        rw [ne 137 (by decide) (by decide), uh_ne (by omega), uh_ne (by omega), uh_ne (by omega)]
        exact hc
      · unfold z_MT at *
        rw [ne 133 (by decide) (by decide), ne 136 (by decide) (by decide), uh_ne (by omega)]
        exact ht
      · unfold z_ML at *
        rw [ne 133 (by decide) (by decide), uh_ne (by omega)]
        exact hA
      · unfold z_ML at *
        rw [ne 133 (by decide) (by decide), uh_ne (by omega)]
        exact hB
    simp (disch := first | assumption | rfl | exact zle_0 | exact zle_1 | exact zle_2 | exact zle_3 | exact zle_4 | exact zb_0 | exact zb_1 | exact zb01_B | omega) only [zT76_0, zr_iload_1, zT76_1, zr_i2l, zT76_2, zr_ldc2, zT76_3, zT76_4, zr_iv_2, zT76_7, zr_if_ne, zT76_10, zr_aload_0, zT76_11, zr_ic_m2, zT76_13, zr_iv_3, zT76_16, zr_ret0, zT76_17, zT76_18, zr_ic_0, zT76_19, zr_ic_110, zT76_21, zr_ic_1, zT76_22, zT76_23, zr_iadd, zT76_24, zr_imul, zT76_25, zr_iv_9, zT76_28, zT76_29, zr_gf_72, zr_or, zr_go, zf_133_72, zT76_32, zT76_33, zT76_34, zr_bast, zT76_35, zT76_36, zcl_i, zcl_r, zcl_l, zcl_n, zv_some, zv_none, Nat.reduceAdd, Nat.reduceMul, Nat.reduceSub, Nat.reduceLT, Nat.reduceLeDiff, Nat.reduceEqDiff, Int.reduceToNat, true_implies, false_implies, implies_true, and_true, true_and, not_true_eq_false, not_false_eq_true, Nat.zero_add, Nat.add_zero, nI_add, nI_ltI, nI_leI, nI_eq, pk_mul, pk_sub, u2_same, u2_row, u2_other, si, x64, l0, l1, dcd_T c, zB_eq0, reduceCtorEq, cp, olt_T, olt_F, ole_T, ole_F, oeq_T, oeq_F]
    exact hQ _ _ fin (fun j hj => ne j (by omega) (by omega))
  · rw [if_neg c] at hQ
    have o := z_MQ.ref (Or.inl rfl) h hQ
    simp (disch := first | assumption | rfl | exact zle_0 | exact zle_1 | exact zle_2 | exact zle_3 | exact zle_4 | exact zb_0 | exact zb_1 | exact zb01_B | omega) only [zT76_0, zr_iload_1, zT76_1, zr_i2l, zT76_2, zr_ldc2, zT76_3, zT76_4, zr_iv_2, zT76_7, zr_if_ne, zT76_10, zr_aload_0, zT76_11, zr_ic_m2, zT76_13, zr_iv_3, zT76_16, zr_ret0, zT76_17, zT76_18, zr_ic_0, zT76_19, zr_ic_110, zT76_21, zr_ic_1, zT76_22, zT76_23, zr_iadd, zT76_24, zr_imul, zT76_25, zr_iv_9, zT76_28, zT76_29, zr_gf_72, zr_or, zr_go, zf_133_72, zT76_32, zT76_33, zT76_34, zr_bast, zT76_35, zT76_36, zcl_i, zcl_r, zcl_l, zcl_n, zv_some, zv_none, Nat.reduceAdd, Nat.reduceMul, Nat.reduceSub, Nat.reduceLT, Nat.reduceLeDiff, Nat.reduceEqDiff, Int.reduceToNat, true_implies, false_implies, implies_true, and_true, true_and, not_true_eq_false, not_false_eq_true, Nat.zero_add, Nat.add_zero, nI_add, nI_ltI, nI_leI, nI_eq, pk_mul, pk_sub, u2_same, u2_row, u2_other, si, x64, l0, l1, dcd_F c, zB_eq0, td, olt_T, olt_F, ole_T, ole_F, oeq_T, oeq_F]
    exact o
theorem ym_from (hf : z_FR fr) (h : z_MS fi fl ws nn tx) (hg : z_G ws nn) {x : Int32} (hQ : z_MQ fi fr Q (r_from ws nn x).1 (r_from ws nn x).2.1 (r_from ws nn x).2.2 tx) : TT 77 0 [some (.ref 133), some (.int x)] [] (151, fi, fl, fr) Q := by
  have o133 : z_ok 151 133 20 = true := rfl; have o135 : z_ok 151 135 2 = true := rfl
  have l135 : z_al 135 = 2 := rfl
  have si := fun M Q v lo hi => sm_in (M := M) (Q := Q) (v := v) (lo := lo) (hi := hi)
  have l1 : (lN 1).toInt = 1 := by decide
  have td := fun fi a Q => sm_told (fi := fi) (fl := fl) (Q := Q) hf (a := a)
  unfold r_from at hQ
  by_cases c : 0 ≤ x.toInt ∧ x.toInt ≤ 1
  · rw [if_pos c] at hQ
    obtain ⟨j, j2, rfl, ej⟩ := i3 (n := 1) c
    rw [ej] at hQ
    have hj : j = 0 ∨ j = 1 := by omega
    have e135 : fi 135 j = nI (nn j) := by
      rcases hj with rfl | rfl
      · exact h.1.2.2.2.1
      · exact h.1.2.2.2.2
    have n1 : nn j ≤ 1 := by
      rcases hj with rfl | rfl
      · exact hg.2.1
      · exact hg.2.2.1
    by_cases e : nn j = 1
    · rw [if_pos e] at hQ
      dsimp only at hQ
      rw [e] at e135
      have hr : z_MR fi (110 * (1 + j)) (ws (1 + j)) := by
        rcases hj with rfl | rfl
        · exact h.1.2.1 e
        · exact h.1.2.2.1 e
      have cp := fun Q => sm_copy (fi := fi) (fl := fl) (Q := Q) hf (a := 110 * (1 + j)) (b := 0) (by omega) (by omega) (by decide)
      simp (disch := first | assumption | rfl | exact zle_0 | exact zle_1 | exact zle_2 | exact zle_3 | exact zle_4 | exact zb_0 | exact zb_1 | exact zb01_B | omega) only [zT77_0, zr_iload_1, zT77_1, zr_i2l, zT77_2, zr_ldc2, zT77_3, zT77_4, zr_iv_2, zT77_7, zr_if_ne, zT77_10, zr_aload_0, zT77_11, zr_ic_m2, zT77_13, zr_iv_3, zT77_16, zr_ret0, zT77_17, zT77_18, zr_gf_72, zr_or, zr_go, zf_133_72, zT77_21, zT77_22, zr_bald, zT77_23, zT77_26, zT77_27, zr_ic_m3, zT77_29, zT77_32, zT77_33, zT77_34, zr_ic_110, zT77_36, zr_ic_1, zT77_37, zT77_38, zr_iadd, zT77_39, zr_imul, zT77_40, zr_ic_0, zT77_41, zr_iv_9, zT77_44, zT77_45, zcl_i, zcl_r, zcl_l, zcl_n, zv_some, zv_none, Nat.reduceAdd, Nat.reduceMul, Nat.reduceSub, Nat.reduceLT, Nat.reduceLeDiff, Nat.reduceEqDiff, Int.reduceToNat, true_implies, false_implies, implies_true, and_true, true_and, not_true_eq_false, not_false_eq_true, Nat.zero_add, Nat.add_zero, nI_add, nI_ltI, nI_leI, nI_eq, pk_mul, pk_sub, u2_same, u2_row, u2_other, si, x64, l0, l1, dcd_T c, zB_eq0, reduceCtorEq, e135, cp, olt_T, olt_F, ole_T, ole_F, oeq_T, oeq_F]
      exact hQ _ _ (h.kit (m_cp_R hr) (fun i hi => m_cp_ne hi) (fun i i1 i2 => m_cp_out (by omega))) (fun j hj => m_cp_ne (by omega))
    · rw [if_neg e] at hQ
      have z : nn j = 0 := by omega
      rw [z] at e135
      have o := z_MQ.ref (Or.inr (Or.inl rfl)) h hQ
      simp (disch := first | assumption | rfl | exact zle_0 | exact zle_1 | exact zle_2 | exact zle_3 | exact zle_4 | exact zb_0 | exact zb_1 | exact zb01_B | omega) only [zT77_0, zr_iload_1, zT77_1, zr_i2l, zT77_2, zr_ldc2, zT77_3, zT77_4, zr_iv_2, zT77_7, zr_if_ne, zT77_10, zr_aload_0, zT77_11, zr_ic_m2, zT77_13, zr_iv_3, zT77_16, zr_ret0, zT77_17, zT77_18, zr_gf_72, zr_or, zr_go, zf_133_72, zT77_21, zT77_22, zr_bald, zT77_23, zT77_26, zT77_27, zr_ic_m3, zT77_29, zT77_32, zT77_33, zT77_34, zr_ic_110, zT77_36, zr_ic_1, zT77_37, zT77_38, zr_iadd, zT77_39, zr_imul, zT77_40, zr_ic_0, zT77_41, zr_iv_9, zT77_44, zT77_45, zcl_i, zcl_r, zcl_l, zcl_n, zv_some, zv_none, Nat.reduceAdd, Nat.reduceMul, Nat.reduceSub, Nat.reduceLT, Nat.reduceLeDiff, Nat.reduceEqDiff, Int.reduceToNat, true_implies, false_implies, implies_true, and_true, true_and, not_true_eq_false, not_false_eq_true, Nat.zero_add, Nat.add_zero, nI_add, nI_ltI, nI_leI, nI_eq, pk_mul, pk_sub, u2_same, u2_row, u2_other, si, x64, l0, l1, dcd_T c, zB_eq0, reduceCtorEq, e135, td, olt_T, olt_F, ole_T, ole_F, oeq_T, oeq_F]
      exact o
  · rw [if_neg c] at hQ
    have o := z_MQ.ref (Or.inl rfl) h hQ
    simp (disch := first | assumption | rfl | exact zle_0 | exact zle_1 | exact zle_2 | exact zle_3 | exact zle_4 | exact zb_0 | exact zb_1 | exact zb01_B | omega) only [zT77_0, zr_iload_1, zT77_1, zr_i2l, zT77_2, zr_ldc2, zT77_3, zT77_4, zr_iv_2, zT77_7, zr_if_ne, zT77_10, zr_aload_0, zT77_11, zr_ic_m2, zT77_13, zr_iv_3, zT77_16, zr_ret0, zT77_17, zT77_18, zr_gf_72, zr_or, zr_go, zf_133_72, zT77_21, zT77_22, zr_bald, zT77_23, zT77_26, zT77_27, zr_ic_m3, zT77_29, zT77_32, zT77_33, zT77_34, zr_ic_110, zT77_36, zr_ic_1, zT77_37, zT77_38, zr_iadd, zT77_39, zr_imul, zT77_40, zr_ic_0, zT77_41, zr_iv_9, zT77_44, zT77_45, zcl_i, zcl_r, zcl_l, zcl_n, zv_some, zv_none, Nat.reduceAdd, Nat.reduceMul, Nat.reduceSub, Nat.reduceLT, Nat.reduceLeDiff, Nat.reduceEqDiff, Int.reduceToNat, true_implies, false_implies, implies_true, and_true, true_and, not_true_eq_false, not_false_eq_true, Nat.zero_add, Nat.add_zero, nI_add, nI_ltI, nI_leI, nI_eq, pk_mul, pk_sub, u2_same, u2_row, u2_other, si, x64, l0, l1, dcd_F c, zB_eq0, td, olt_T, olt_F, ole_T, ole_F, oeq_T, oeq_F]
    exact o
theorem sm_ud_ (hf : z_FR fr) (hw : a_W w) (h0 : w 58 ≠ 0) (hQ : ∀ fi', z_MR fi' 0 (a_back w) → z_or_ fi fi' 0 → Q (some (.int (nI 1))) (151, fi', fl, fr)) : ∀ m d, d + m = w 13 → ∀ f1, z_MR f1 0 (a_bkN w d) → z_or_ fi f1 0 → TT 70 30 [some (.ref 133), some (.int (nI d))] [] (151, f1, fl, fr) Q := by
  have o133 : z_ok 151 133 20 = true := rfl; have o134 : z_ok 151 134 1 = true := rfl
  have l134 : z_al 134 = 440 := rfl
  have h13 := hw.1.2.2.1
  have h45 := hw.le
  obtain ⟨p1, p2⟩ := hw.2.1 (w 58 - 1) (by omega)
  have e8 : 2 ^ w 13 ≤ 2 ^ 3 := Nat.pow_le_pow_right (by decide) h13
  have ix : 59 + (w 58 - 1) = 58 + w 58 := by omega
  rw [ix] at p1 p2
  intro m
  induction m with
  | zero =>
    intro d hd f1 hr ho
    obtain rfl : d = w 13 := by omega
    have e13 := hr.at0 (i := 13) (by decide)
    have v13 : a_bkN w (w 13) 13 = w 13 := by
      unfold a_bkN
      rw [if_neg (by omega), if_neg (by omega)]
    rw [v13] at e13
    have o := hQ f1 hr ho
    simp (disch := first | assumption | rfl | exact zle_0 | exact zle_1 | exact zle_2 | exact zle_3 | exact zle_4 | exact zb_0 | exact zb_1 | exact zb01_B | omega) only [zT70_30, zr_iload_1, zT70_31, zr_aload_0, zT70_32, zr_gf_71, zr_or, zr_go, zf_133_71, zT70_35, zr_ic_13, zT70_37, zr_iald, zT70_38, zr_icmp_ge, zT70_86, zr_ic_1, zT70_87, zr_ret0, zcl_i, zcl_r, zcl_l, zcl_n, zv_some, zv_none, Nat.reduceAdd, Nat.reduceMul, Nat.reduceSub, Nat.reduceLT, Nat.reduceLeDiff, Nat.reduceEqDiff, Int.reduceToNat, true_implies, false_implies, implies_true, and_true, true_and, not_true_eq_false, not_false_eq_true, Nat.zero_add, Nat.add_zero, nI_add, nI_ltI, nI_leI, nI_eq, pk_mul, pk_sub, u2_same, u2_row, u2_other, e13, olt_T, olt_F, ole_T, ole_F, oeq_T, oeq_F]
    exact o
  | succ m ih =>
    intro d hd f1 hr ho
    have d3 : d < 3 := by omega
    have e13 := hr.at0 (i := 13) (by decide)
    have v13 : a_bkN w d 13 = w 13 := by
      unfold a_bkN
      rw [if_neg (by omega), if_neg (by omega)]
    rw [v13] at e13
    have e58 := hr.at0 (i := 58) (by decide)
    have v58 : a_bkN w d 58 = w 58 - 1 := by
      unfold a_bkN
      rw [if_pos rfl]
    rw [v58] at e58
    have ep := hr.at0 (i := 58 + w 58) (by omega)
    have vp : a_bkN w d (58 + w 58) = w (58 + w 58) := by
      unfold a_bkN
      rw [if_neg (by omega), if_neg (by omega)]
    rw [vp] at ep
    have eg := hr.at0 (i := 55 + d) (by omega)
    have vg : a_bkN w d (55 + d) = w (55 + d) := by
      unfold a_bkN
      rw [if_neg (by omega), if_neg (by omega)]
    rw [vg] at eg
    have ha := fun M Q => sm_has (M := M) (Q := Q) (b := w (58 + w 58)) (d := d) (by omega) (by omega)
    have gone : a_bit (w (58 + w 58)) d = true → 1 ≤ w (55 + d) := by
      intro hb
      have := hw.2.2 d d3
      have g1 : 1 ≤ a_pc w d (w 58) := a_pc_bit _ (w 58 - 1) (by omega) (by rw [ix]; exact hb)
      unfold a_gone at this
      omega
    have nxt : ∀ v, v = (if a_bit (w (58 + w 58)) d = true then w (55 + d) - 1 else w (55 + d)) → z_MR (u2 f1 134 (55 + d) (nI v)) 0 (a_bkN w (d + 1)) := by
      intro v hv
      have q := hr.set (j := 55 + d) (k := 55 + d) (v := v) (Nat.zero_add _).symm
      intro i hi
      rw [q i hi]
      congr 1
      unfold a_set a_bkN
      by_cases e : i = 55 + d
      · subst e
        rw [if_pos rfl, if_neg (by omega), hv, show 55 + d - 55 = d by omega]
        by_cases hb : a_bit (w (58 + w 58)) d = true
        · rw [if_pos hb, if_pos ⟨by omega, by omega, hb⟩]
        · rw [if_neg hb, if_neg (fun r => hb r.2.2)]
      · rw [if_neg e]
        by_cases e2 : i = 58
        · rw [if_pos e2, if_pos e2]
        · rw [if_neg e2, if_neg e2]
          by_cases q : 55 ≤ i ∧ i < 55 + d ∧ a_bit (w (58 + w 58)) (i - 55) = true
          · rw [if_pos q, if_pos ⟨q.1, by omega, q.2.2⟩]
          · rw [if_neg q, if_neg (fun r => q ⟨r.1, by omega, r.2.2⟩)]
    cases hb : a_bit (w (58 + w 58)) d
    · rw [hb] at ha
      have nx1 := ih (d + 1) (by omega) _ (nxt (w (55 + d)) (by rw [hb, if_neg (by decide)])) (ho.set (by omega) (by omega))
      simp (disch := first | assumption | rfl | exact zle_0 | exact zle_1 | exact zle_2 | exact zle_3 | exact zle_4 | exact zb_0 | exact zb_1 | exact zb01_B | omega) only [zT70_30, zr_iload_1, zcl_i, zcl_r, zcl_l, zcl_n, zv_some, zv_none, Nat.reduceAdd, Nat.reduceMul, Nat.reduceSub, Nat.reduceLT, Nat.reduceLeDiff, Nat.reduceEqDiff, Int.reduceToNat, true_implies, false_implies, implies_true, and_true, true_and, not_true_eq_false, not_false_eq_true, Nat.zero_add, Nat.add_zero, nI_add, nI_ltI, nI_leI, nI_eq, pk_mul, pk_sub, u2_same, u2_row, u2_other]
      simp (disch := first | assumption | rfl | exact zle_0 | exact zle_1 | exact zle_2 | exact zle_3 | exact zle_4 | exact zb_0 | exact zb_1 | exact zb01_B | omega) only [zT70_31, zr_aload_0, zT70_32, zr_gf_71, zr_or, zr_go, zf_133_71, zT70_35, zr_ic_13, zT70_37, zr_iald, zT70_38, zr_icmp_ge, zT70_41, zT70_42, zT70_45, zr_ic_55, zT70_47, zr_iload_1, zT70_48, zr_iadd, zT70_49, zr_dup2, zT70_50, zT70_51, zT70_52, zT70_55, zr_ic_59, zT70_57, zT70_58, zT70_61, zr_ic_58, zT70_63, zT70_64, zT70_65, zT70_66, zT70_67, zr_iv_5, zT70_70, zr_if_eq, zT70_73, zr_ic_1, zT70_74, zr_goto, zT70_77, zr_ic_0, zT70_78, zr_isub, zT70_79, zr_iast, zT70_80, zr_iinc_1_1, zT70_83, zcl_i, zcl_r, zcl_l, zcl_n, zv_some, zv_none, Nat.reduceAdd, Nat.reduceMul, Nat.reduceSub, Nat.reduceLT, Nat.reduceLeDiff, Nat.reduceEqDiff, Int.reduceToNat, true_implies, false_implies, implies_true, and_true, true_and, not_true_eq_false, not_false_eq_true, Nat.zero_add, Nat.add_zero, nI_add, nI_ltI, nI_leI, nI_eq, pk_mul, pk_sub, u2_same, u2_row, u2_other, e13, e58, ix, ep, eg, ha, zB_eq0, Nat.sub_zero, olt_T, olt_F, ole_T, ole_F, oeq_T, oeq_F]
      exact nx1
    · rw [hb] at ha
      have g1 := gone hb
      have nx1 := ih (d + 1) (by omega) _ (nxt (w (55 + d) - 1) (by rw [hb, if_pos rfl])) (ho.set (by omega) (by omega))
      simp (disch := first | assumption | rfl | exact zle_0 | exact zle_1 | exact zle_2 | exact zle_3 | exact zle_4 | exact zb_0 | exact zb_1 | exact zb01_B | omega) only [zT70_30, zr_iload_1, zcl_i, zcl_r, zcl_l, zcl_n, zv_some, zv_none, Nat.reduceAdd, Nat.reduceMul, Nat.reduceSub, Nat.reduceLT, Nat.reduceLeDiff, Nat.reduceEqDiff, Int.reduceToNat, true_implies, false_implies, implies_true, and_true, true_and, not_true_eq_false, not_false_eq_true, Nat.zero_add, Nat.add_zero, nI_add, nI_ltI, nI_leI, nI_eq, pk_mul, pk_sub, u2_same, u2_row, u2_other]
      simp (disch := first | assumption | rfl | exact zle_0 | exact zle_1 | exact zle_2 | exact zle_3 | exact zle_4 | exact zb_0 | exact zb_1 | exact zb01_B | omega) only [zT70_31, zr_aload_0, zT70_32, zr_gf_71, zr_or, zr_go, zf_133_71, zT70_35, zr_ic_13, zT70_37, zr_iald, zT70_38, zr_icmp_ge, zT70_41, zT70_42, zT70_45, zr_ic_55, zT70_47, zr_iload_1, zT70_48, zr_iadd, zT70_49, zr_dup2, zT70_50, zT70_51, zT70_52, zT70_55, zr_ic_59, zT70_57, zT70_58, zT70_61, zr_ic_58, zT70_63, zT70_64, zT70_65, zT70_66, zT70_67, zr_iv_5, zT70_70, zr_if_eq, zT70_73, zr_ic_1, zT70_74, zr_goto, zT70_77, zr_ic_0, zT70_78, zr_isub, zT70_79, zr_iast, zT70_80, zr_iinc_1_1, zT70_83, zcl_i, zcl_r, zcl_l, zcl_n, zv_some, zv_none, Nat.reduceAdd, Nat.reduceMul, Nat.reduceSub, Nat.reduceLT, Nat.reduceLeDiff, Nat.reduceEqDiff, Int.reduceToNat, true_implies, false_implies, implies_true, and_true, true_and, not_true_eq_false, not_false_eq_true, Nat.zero_add, Nat.add_zero, nI_add, nI_ltI, nI_leI, nI_eq, pk_mul, pk_sub, u2_same, u2_row, u2_other, e13, e58, ix, ep, eg, ha, zB_eq0, reduceCtorEq, olt_T, olt_F, ole_T, ole_F, oeq_T, oeq_F]
      exact nx1
theorem ym_undo (hf : z_FR fr) (h : z_MS fi fl ws nn tx) (hg : z_G ws nn) (hQ : z_MQ fi fr Q (r_undo ws nn).1 (r_undo ws nn).2.1 (r_undo ws nn).2.2 tx) : TT 70 0 [some (.ref 133), none] [] (151, fi, fl, fr) Q := by
  have o133 : z_ok 151 133 20 = true := rfl; have o134 : z_ok 151 134 1 = true := rfl
  have l134 : z_al 134 = 440 := rfl
  have td := fun fi a Q => sm_told (fi := fi) (fl := fl) (Q := Q) hf (a := a)
  have e58 := h.1.1.at0 (i := 58) (by decide)
  have h45 := hg.1.le
  unfold r_undo at hQ
  by_cases c : ws 0 58 = 0
  · rw [if_pos c] at hQ
    rw [c] at e58
    have o := z_MQ.ref (Or.inr (Or.inl rfl)) h hQ
    simp (disch := first | assumption | rfl | exact zle_0 | exact zle_1 | exact zle_2 | exact zle_3 | exact zle_4 | exact zb_0 | exact zb_1 | exact zb01_B | omega) only [zT70_0, zr_aload_0, zT70_1, zr_gf_71, zr_or, zr_go, zf_133_71, zT70_4, zr_ic_58, zT70_6, zr_iald, zT70_7, zr_if_ne, zT70_10, zT70_11, zr_ic_m3, zT70_13, zr_iv_3, zT70_16, zr_ret0, zcl_i, zcl_r, zcl_l, zcl_n, zv_some, zv_none, Nat.reduceAdd, Nat.reduceMul, Nat.reduceSub, Nat.reduceLT, Nat.reduceLeDiff, Nat.reduceEqDiff, Int.reduceToNat, true_implies, false_implies, implies_true, and_true, true_and, not_true_eq_false, not_false_eq_true, Nat.zero_add, Nat.add_zero, nI_add, nI_ltI, nI_leI, nI_eq, pk_mul, pk_sub, u2_same, u2_row, u2_other, e58, td, olt_T, olt_F, ole_T, ole_F, oeq_T, oeq_F]
    exact o
  · rw [if_neg c] at hQ
    dsimp only at hQ
    have q := h.1.1.set (j := 58) (k := 58) (v := ws 0 58 - 1) (Nat.zero_add _).symm
    have L := sm_ud_ (fi := fi) (fl := fl) (Q := Q) hf hg.1 c (fun f1 g1 g2 => hQ f1 fl (h.kit g1 g2.1 (fun i i1 i2 => g2.2 i (by omega))) (fun j hj => g2.1 j (by omega))) (ws 0 13) 0 (Nat.zero_add _) (u2 fi 134 58 (nI (ws 0 58 - 1))) (by
      intro i hi
      rw [q i hi]
      congr 1
      unfold a_set a_bkN
      by_cases e : i = 58
      · rw [if_pos e, if_pos e]
      · rw [if_neg e, if_neg e, if_neg (by omega)]) ((z_or_.id_).set (by omega) (by omega))
    simp (disch := first | assumption | rfl | exact zle_0 | exact zle_1 | exact zle_2 | exact zle_3 | exact zle_4 | exact zb_0 | exact zb_1 | exact zb01_B | omega) only [zT70_0, zr_aload_0, zT70_1, zr_gf_71, zr_or, zr_go, zf_133_71, zT70_4, zr_ic_58, zT70_6, zr_iald, zT70_7, zr_if_ne, zT70_10, zT70_11, zr_ic_m3, zT70_13, zr_iv_3, zT70_16, zr_ret0, zT70_17, zT70_18, zT70_21, zT70_23, zr_dup2, zT70_24, zT70_25, zr_ic_1, zT70_26, zr_isub, zT70_27, zr_iast, zT70_28, zr_ic_0, zT70_29, zr_istore_1, zcl_i, zcl_r, zcl_l, zcl_n, zv_some, zv_none, Nat.reduceAdd, Nat.reduceMul, Nat.reduceSub, Nat.reduceLT, Nat.reduceLeDiff, Nat.reduceEqDiff, Int.reduceToNat, true_implies, false_implies, implies_true, and_true, true_and, not_true_eq_false, not_false_eq_true, Nat.zero_add, Nat.add_zero, nI_add, nI_ltI, nI_leI, nI_eq, pk_mul, pk_sub, u2_same, u2_row, u2_other, e58, olt_T, olt_F, ole_T, ole_F, oeq_T, oeq_F]
    exact L
/-- the steps of a dish -/
theorem sm_st_ (hf : z_FR fr) (h : z_MR fi 0 w) {d g : Nat} (hd : d < 3) (hw : a_WD w d) : ∀ m s, s + m = 3 → ∀ l, l < 1000 → ∀ Q, TT 40 5 [some (.ref 133), some (.int (nI d)), some (.int (nI g)), some (.int (nI l)), some (.int (nI s))] [] (151, fi, fl, fr) Q = Q (some (.int (nI (8 * (a_go w d m s l).1 + (a_go w d m s l).2)))) (151, fi, fl, fr) := by
  have o133 : z_ok 151 133 20 = true := rfl; have o134 : z_ok 151 134 1 = true := rfl
  have l134 : z_al 134 = 440 := rfl
  have esm := h.at0 (i := 14 + d) (by omega)
  rw [show w (14 + d) = a_sm w d from rfl] at esm
  have sm3 := hw.1
  intro m
  induction m with
  | zero =>
    intro s hs l hl Q
    obtain rfl : s = 3 := by omega
    simp (disch := first | assumption | rfl | exact zle_0 | exact zle_1 | exact zle_2 | exact zle_3 | exact zle_4 | exact zb_0 | exact zb_1 | exact zb01_B | omega) only [zT40_5, zr_iload_4, zT40_7, zr_aload_0, zT40_8, zr_gf_71, zr_or, zr_go, zf_133_71, zT40_11, zr_ic_14, zT40_13, zr_iload_1, zT40_14, zr_iadd, zT40_15, zr_iald, zT40_16, zr_icmp_ge, zT40_70, zr_ic_8, zT40_72, zT40_74, zr_imul, zT40_75, zr_iload_3, zT40_76, zT40_77, zr_ret0, zcl_i, zcl_r, zcl_l, zcl_n, zv_some, zv_none, Nat.reduceAdd, Nat.reduceMul, Nat.reduceSub, Nat.reduceLT, Nat.reduceLeDiff, Nat.reduceEqDiff, Int.reduceToNat, true_implies, false_implies, implies_true, and_true, true_and, not_true_eq_false, not_false_eq_true, Nat.zero_add, Nat.add_zero, nI_add, nI_ltI, nI_leI, nI_eq, pk_mul, pk_sub, u2_same, u2_row, u2_other, esm, olt_T, olt_F, ole_T, ole_F, oeq_T, oeq_F]
    rfl
  | succ m ih =>
    intro s hs l hl Q
    unfold a_go
    by_cases c : s < a_sm w d
    · have est := h.at0 (i := 17 + 12 * d + 4 * s + 3) (by omega)
      rw [show w (17 + 12 * d + 4 * s + 3) = a_st w d s 3 from rfl] at est
      have b5 := (hw.2 s c).2.2.2.2
      by_cases c2 : a_st w d s 3 ≤ l
      · rw [if_pos ⟨c, c2⟩]
        have ih' := ih (s + 1) (by omega) (l - a_st w d s 3) (by omega)
        simp (disch := first | assumption | rfl | exact zle_0 | exact zle_1 | exact zle_2 | exact zle_3 | exact zle_4 | exact zb_0 | exact zb_1 | exact zb01_B | omega) only [zT40_5, zr_iload_4, zcl_i, zcl_r, zcl_l, zcl_n, zv_some, zv_none, Nat.reduceAdd, Nat.reduceMul, Nat.reduceSub, Nat.reduceLT, Nat.reduceLeDiff, Nat.reduceEqDiff, Int.reduceToNat, true_implies, false_implies, implies_true, and_true, true_and, not_true_eq_false, not_false_eq_true, Nat.zero_add, Nat.add_zero, nI_add, nI_ltI, nI_leI, nI_eq, pk_mul, pk_sub, u2_same, u2_row, u2_other]
        simp (disch := first | assumption | rfl | exact zle_0 | exact zle_1 | exact zle_2 | exact zle_3 | exact zle_4 | exact zb_0 | exact zb_1 | exact zb01_B | omega) only [zT40_7, zr_aload_0, zT40_8, zr_gf_71, zr_or, zr_go, zf_133_71, zT40_11, zr_ic_14, zT40_13, zr_iload_1, zT40_14, zr_iadd, zT40_15, zr_iald, zT40_16, zr_icmp_ge, zT40_19, zr_iload_3, zT40_20, zT40_21, zT40_24, zr_ic_17, zT40_26, zr_ic_12, zT40_28, zT40_29, zr_imul, zT40_30, zT40_31, zr_ic_4, zT40_32, zr_iload_4, zT40_34, zT40_35, zT40_36, zr_ic_3, zT40_37, zT40_38, zT40_39, zr_icmp_lt, zT40_42, zT40_43, zT40_44, zT40_47, zT40_49, zT40_51, zT40_52, zT40_53, zT40_54, zT40_55, zT40_57, zT40_58, zT40_59, zT40_60, zT40_61, zT40_62, zr_isub, zT40_63, zr_istore_3, zT40_64, zr_iinc_4_1, zT40_67, zr_goto, zcl_i, zcl_r, zcl_l, zcl_n, zv_some, zv_none, Nat.reduceAdd, Nat.reduceMul, Nat.reduceSub, Nat.reduceLT, Nat.reduceLeDiff, Nat.reduceEqDiff, Int.reduceToNat, true_implies, false_implies, implies_true, and_true, true_and, not_true_eq_false, not_false_eq_true, Nat.zero_add, Nat.add_zero, nI_add, nI_ltI, nI_leI, nI_eq, pk_mul, pk_sub, u2_same, u2_row, u2_other, esm, est, ih', olt_T, olt_F, ole_T, ole_F, oeq_T, oeq_F]
      · rw [if_neg (fun q => c2 q.2)]
        simp (disch := first | assumption | rfl | exact zle_0 | exact zle_1 | exact zle_2 | exact zle_3 | exact zle_4 | exact zb_0 | exact zb_1 | exact zb01_B | omega) only [zT40_5, zr_iload_4, zT40_7, zr_aload_0, zT40_8, zr_gf_71, zr_or, zr_go, zf_133_71, zT40_11, zr_ic_14, zT40_13, zr_iload_1, zT40_14, zr_iadd, zT40_15, zr_iald, zT40_16, zr_icmp_ge, zT40_19, zr_iload_3, zT40_20, zT40_21, zT40_24, zr_ic_17, zT40_26, zr_ic_12, zT40_28, zT40_29, zr_imul, zT40_30, zT40_31, zr_ic_4, zT40_32, zT40_34, zT40_35, zT40_36, zr_ic_3, zT40_37, zT40_38, zT40_39, zr_icmp_lt, zT40_70, zr_ic_8, zT40_72, zT40_74, zT40_75, zT40_76, zT40_77, zr_ret0, zcl_i, zcl_r, zcl_l, zcl_n, zv_some, zv_none, Nat.reduceAdd, Nat.reduceMul, Nat.reduceSub, Nat.reduceLT, Nat.reduceLeDiff, Nat.reduceEqDiff, Int.reduceToNat, true_implies, false_implies, implies_true, and_true, true_and, not_true_eq_false, not_false_eq_true, Nat.zero_add, Nat.add_zero, nI_add, nI_ltI, nI_leI, nI_eq, pk_mul, pk_sub, u2_same, u2_row, u2_other, esm, est, olt_T, olt_F, ole_T, ole_F, oeq_T, oeq_F]
    · rw [if_neg (fun q => c q.1)]
      simp (disch := first | assumption | rfl | exact zle_0 | exact zle_1 | exact zle_2 | exact zle_3 | exact zle_4 | exact zb_0 | exact zb_1 | exact zb01_B | omega) only [zT40_5, zr_iload_4, zT40_7, zr_aload_0, zT40_8, zr_gf_71, zr_or, zr_go, zf_133_71, zT40_11, zr_ic_14, zT40_13, zr_iload_1, zT40_14, zr_iadd, zT40_15, zr_iald, zT40_16, zr_icmp_ge, zT40_70, zr_ic_8, zT40_72, zT40_74, zr_imul, zT40_75, zr_iload_3, zT40_76, zT40_77, zr_ret0, zcl_i, zcl_r, zcl_l, zcl_n, zv_some, zv_none, Nat.reduceAdd, Nat.reduceMul, Nat.reduceSub, Nat.reduceLT, Nat.reduceLeDiff, Nat.reduceEqDiff, Int.reduceToNat, true_implies, false_implies, implies_true, and_true, true_and, not_true_eq_false, not_false_eq_true, Nat.zero_add, Nat.add_zero, nI_add, nI_ltI, nI_leI, nI_eq, pk_mul, pk_sub, u2_same, u2_row, u2_other, esm, olt_T, olt_F, ole_T, ole_F, oeq_T, oeq_F]
theorem sm_stepOf (hf : z_FR fr) (h : z_MR fi 0 w) {d g : Nat} (hd : d < 3) (hw : a_WD w d) (hg : g < 1000) : TT 40 0 [some (.ref 133), some (.int (nI d)), some (.int (nI g)), none, none] [] (151, fi, fl, fr) Q = Q (some (.int (nI (8 * (a_stp w d g).1 + (a_stp w d g).2)))) (151, fi, fl, fr) := by
  have L := sm_st_ (fl := fl) (g := g) hf h hd hw 3 0 rfl g hg Q
  simp (disch := first | assumption | rfl | exact zle_0 | exact zle_1 | exact zle_2 | exact zle_3 | exact zle_4 | exact zb_0 | exact zb_1 | exact zb01_B | omega) only [zT40_0, zr_iload_2, zT40_1, zr_istore_3, zT40_2, zr_ic_0, zT40_3, zr_istore_4, zcl_i, zcl_r, zcl_l, zcl_n, zv_some, zv_none, Nat.reduceAdd, Nat.reduceMul, Nat.reduceSub, Nat.reduceLT, Nat.reduceLeDiff, Nat.reduceEqDiff, Int.reduceToNat, true_implies, false_implies, implies_true, and_true, true_and, not_true_eq_false, not_false_eq_true, Nat.zero_add, Nat.add_zero, nI_add, nI_ltI, nI_leI, nI_eq, pk_mul, pk_sub, u2_same, u2_row, u2_other, olt_T, olt_F, ole_T, ole_F, oeq_T, oeq_F]
  exact L
set_option maxRecDepth 4000 in
theorem sm_totalOf (hf : z_FR fr) (h : z_MR fi 0 w) {d : Nat} (hd : d < 3) (hw : a_WD w d) : TT 39 0 [some (.ref 133), some (.int (nI d)), none, none] [] (151, fi, fl, fr) Q = Q (some (.int (nI (a_tot w d)))) (151, fi, fl, fr) := by
  refine T_exact (fun Q hQ => ?_) Q
  have o133 : z_ok 151 133 20 = true := rfl; have o134 : z_ok 151 134 1 = true := rfl
  have l134 : z_al 134 = 440 := rfl
  have esm := h.at0 (i := 14 + d) (by omega)
  rw [show w (14 + d) = a_sm w d from rfl] at esm
  have q0 := h.at0 (i := 17 + 12 * d + 0 + 3) (by omega)
  have q1 := h.at0 (i := 17 + 12 * d + 4 + 3) (by omega)
  have q2 := h.at0 (i := 17 + 12 * d + 8 + 3) (by omega)
  rw [show w (17 + 12 * d + 0 + 3) = a_st w d 0 3 from rfl, Nat.add_zero] at q0
  rw [show w (17 + 12 * d + 4 + 3) = a_st w d 1 3 from rfl] at q1
  rw [show w (17 + 12 * d + 8 + 3) = a_st w d 2 3 from rfl] at q2
  unfold a_tot at hQ
  rcases hw.cases with e | ⟨e, s0⟩ | ⟨e, s0, s1⟩ | ⟨e, s0, s1, s2⟩ <;> rw [e] at esm hQ <;> simp at hQ
  · simp (disch := first | assumption | rfl | exact zle_0 | exact zle_1 | exact zle_2 | exact zle_3 | exact zle_4 | exact zb_0 | exact zb_1 | exact zb01_B | omega) only [zT39_0, zr_ic_0, zT39_1, zr_istore_2, zT39_2, zT39_3, zr_istore_3, zT39_4, zr_iload_3, zT39_5, zr_aload_0, zT39_6, zr_gf_71, zr_or, zr_go, zf_133_71, zT39_9, zr_ic_14, zT39_11, zr_iload_1, zT39_12, zr_iadd, zT39_13, zr_iald, zT39_14, zr_icmp_ge, zT39_44, zr_iload_2, zT39_45, zr_ret0, zcl_i, zcl_r, zcl_l, zcl_n, zv_some, zv_none, Nat.reduceAdd, Nat.reduceMul, Nat.reduceSub, Nat.reduceLT, Nat.reduceLeDiff, Nat.reduceEqDiff, Int.reduceToNat, true_implies, false_implies, implies_true, and_true, true_and, not_true_eq_false, not_false_eq_true, Nat.zero_add, Nat.add_zero, nI_add, nI_ltI, nI_leI, nI_eq, pk_mul, pk_sub, u2_same, u2_row, u2_other, esm, olt_T, olt_F, ole_T, ole_F, oeq_T, oeq_F]
    exact hQ
  · simp (disch := first | assumption | rfl | exact zle_0 | exact zle_1 | exact zle_2 | exact zle_3 | exact zle_4 | exact zb_0 | exact zb_1 | exact zb01_B | omega) only [zT39_0, zr_ic_0, zT39_1, zr_istore_2, zT39_2, zT39_3, zr_istore_3, zT39_4, zr_iload_3, zT39_5, zr_aload_0, zT39_6, zr_gf_71, zr_or, zr_go, zf_133_71, zT39_9, zr_ic_14, zT39_11, zr_iload_1, zT39_12, zr_iadd, zT39_13, zr_iald, zT39_14, zr_icmp_ge, zcl_i, zcl_r, zcl_l, zcl_n, zv_some, zv_none, Nat.reduceAdd, Nat.reduceMul, Nat.reduceSub, Nat.reduceLT, Nat.reduceLeDiff, Nat.reduceEqDiff, Int.reduceToNat, true_implies, false_implies, implies_true, and_true, true_and, not_true_eq_false, not_false_eq_true, Nat.zero_add, Nat.add_zero, nI_add, nI_ltI, nI_leI, nI_eq, pk_mul, pk_sub, u2_same, u2_row, u2_other, esm, olt_T, olt_F, ole_T, ole_F, oeq_T, oeq_F]
    simp (disch := first | assumption | rfl | exact zle_0 | exact zle_1 | exact zle_2 | exact zle_3 | exact zle_4 | exact zb_0 | exact zb_1 | exact zb01_B | omega) only [zT39_17, zr_iload_2, zT39_18, zr_aload_0, zT39_19, zr_gf_71, zr_or, zr_go, zf_133_71, zT39_22, zr_ic_17, zT39_24, zr_ic_12, zT39_26, zr_iload_1, zT39_27, zr_imul, zT39_28, zr_iadd, zT39_29, zr_ic_4, zT39_30, zr_iload_3, zT39_31, zT39_32, zT39_33, zr_ic_3, zT39_34, zT39_35, zr_iald, zT39_36, zT39_37, zr_istore_2, zT39_38, zr_iinc_3_1, zT39_41, zr_goto, zcl_i, zcl_r, zcl_l, zcl_n, zv_some, zv_none, Nat.reduceAdd, Nat.reduceMul, Nat.reduceSub, Nat.reduceLT, Nat.reduceLeDiff, Nat.reduceEqDiff, Int.reduceToNat, true_implies, false_implies, implies_true, and_true, true_and, not_true_eq_false, not_false_eq_true, Nat.zero_add, Nat.add_zero, nI_add, nI_ltI, nI_leI, nI_eq, pk_mul, pk_sub, u2_same, u2_row, u2_other, q0, olt_T, olt_F, ole_T, ole_F, oeq_T, oeq_F]
    simp (disch := first | assumption | rfl | exact zle_0 | exact zle_1 | exact zle_2 | exact zle_3 | exact zle_4 | exact zb_0 | exact zb_1 | exact zb01_B | omega) only [zT39_4, zr_iload_3, zT39_5, zr_aload_0, zT39_6, zr_gf_71, zr_or, zr_go, zf_133_71, zT39_9, zr_ic_14, zT39_11, zr_iload_1, zT39_12, zr_iadd, zT39_13, zr_iald, zT39_14, zr_icmp_ge, zT39_44, zr_iload_2, zT39_45, zr_ret0, zcl_i, zcl_r, zcl_l, zcl_n, zv_some, zv_none, Nat.reduceAdd, Nat.reduceMul, Nat.reduceSub, Nat.reduceLT, Nat.reduceLeDiff, Nat.reduceEqDiff, Int.reduceToNat, true_implies, false_implies, implies_true, and_true, true_and, not_true_eq_false, not_false_eq_true, Nat.zero_add, Nat.add_zero, nI_add, nI_ltI, nI_leI, nI_eq, pk_mul, pk_sub, u2_same, u2_row, u2_other, esm, olt_T, olt_F, ole_T, ole_F, oeq_T, oeq_F]
    exact hQ
  · simp (disch := first | assumption | rfl | exact zle_0 | exact zle_1 | exact zle_2 | exact zle_3 | exact zle_4 | exact zb_0 | exact zb_1 | exact zb01_B | omega) only [zT39_0, zr_ic_0, zT39_1, zr_istore_2, zT39_2, zT39_3, zr_istore_3, zT39_4, zr_iload_3, zT39_5, zr_aload_0, zT39_6, zr_gf_71, zr_or, zr_go, zf_133_71, zT39_9, zr_ic_14, zT39_11, zr_iload_1, zT39_12, zr_iadd, zT39_13, zr_iald, zT39_14, zr_icmp_ge, zcl_i, zcl_r, zcl_l, zcl_n, zv_some, zv_none, Nat.reduceAdd, Nat.reduceMul, Nat.reduceSub, Nat.reduceLT, Nat.reduceLeDiff, Nat.reduceEqDiff, Int.reduceToNat, true_implies, false_implies, implies_true, and_true, true_and, not_true_eq_false, not_false_eq_true, Nat.zero_add, Nat.add_zero, nI_add, nI_ltI, nI_leI, nI_eq, pk_mul, pk_sub, u2_same, u2_row, u2_other, esm, olt_T, olt_F, ole_T, ole_F, oeq_T, oeq_F]
    simp (disch := first | assumption | rfl | exact zle_0 | exact zle_1 | exact zle_2 | exact zle_3 | exact zle_4 | exact zb_0 | exact zb_1 | exact zb01_B | omega) only [zT39_17, zr_iload_2, zT39_18, zr_aload_0, zT39_19, zr_gf_71, zr_or, zr_go, zf_133_71, zT39_22, zr_ic_17, zT39_24, zr_ic_12, zT39_26, zr_iload_1, zT39_27, zr_imul, zT39_28, zr_iadd, zT39_29, zr_ic_4, zT39_30, zr_iload_3, zT39_31, zT39_32, zT39_33, zr_ic_3, zT39_34, zT39_35, zr_iald, zT39_36, zT39_37, zr_istore_2, zT39_38, zr_iinc_3_1, zT39_41, zr_goto, zcl_i, zcl_r, zcl_l, zcl_n, zv_some, zv_none, Nat.reduceAdd, Nat.reduceMul, Nat.reduceSub, Nat.reduceLT, Nat.reduceLeDiff, Nat.reduceEqDiff, Int.reduceToNat, true_implies, false_implies, implies_true, and_true, true_and, not_true_eq_false, not_false_eq_true, Nat.zero_add, Nat.add_zero, nI_add, nI_ltI, nI_leI, nI_eq, pk_mul, pk_sub, u2_same, u2_row, u2_other, q0, olt_T, olt_F, ole_T, ole_F, oeq_T, oeq_F]
    simp (disch := first | assumption | rfl | exact zle_0 | exact zle_1 | exact zle_2 | exact zle_3 | exact zle_4 | exact zb_0 | exact zb_1 | exact zb01_B | omega) only [zT39_4, zr_iload_3, zT39_5, zr_aload_0, zT39_6, zr_gf_71, zr_or, zr_go, zf_133_71, zT39_9, zr_ic_14, zT39_11, zr_iload_1, zT39_12, zr_iadd, zT39_13, zr_iald, zT39_14, zr_icmp_ge, zcl_i, zcl_r, zcl_l, zcl_n, zv_some, zv_none, Nat.reduceAdd, Nat.reduceMul, Nat.reduceSub, Nat.reduceLT, Nat.reduceLeDiff, Nat.reduceEqDiff, Int.reduceToNat, true_implies, false_implies, implies_true, and_true, true_and, not_true_eq_false, not_false_eq_true, Nat.zero_add, Nat.add_zero, nI_add, nI_ltI, nI_leI, nI_eq, pk_mul, pk_sub, u2_same, u2_row, u2_other, esm, olt_T, olt_F, ole_T, ole_F, oeq_T, oeq_F]
    simp (disch := first | assumption | rfl | exact zle_0 | exact zle_1 | exact zle_2 | exact zle_3 | exact zle_4 | exact zb_0 | exact zb_1 | exact zb01_B | omega) only [zT39_17, zr_iload_2, zT39_18, zr_aload_0, zT39_19, zr_gf_71, zr_or, zr_go, zf_133_71, zT39_22, zr_ic_17, zT39_24, zr_ic_12, zT39_26, zr_iload_1, zT39_27, zr_imul, zT39_28, zr_iadd, zT39_29, zr_ic_4, zT39_30, zr_iload_3, zT39_31, zT39_32, zT39_33, zr_ic_3, zT39_34, zT39_35, zr_iald, zT39_36, zT39_37, zr_istore_2, zT39_38, zr_iinc_3_1, zT39_41, zr_goto, zcl_i, zcl_r, zcl_l, zcl_n, zv_some, zv_none, Nat.reduceAdd, Nat.reduceMul, Nat.reduceSub, Nat.reduceLT, Nat.reduceLeDiff, Nat.reduceEqDiff, Int.reduceToNat, true_implies, false_implies, implies_true, and_true, true_and, not_true_eq_false, not_false_eq_true, Nat.zero_add, Nat.add_zero, nI_add, nI_ltI, nI_leI, nI_eq, pk_mul, pk_sub, u2_same, u2_row, u2_other, q1, olt_T, olt_F, ole_T, ole_F, oeq_T, oeq_F]
    simp (disch := first | assumption | rfl | exact zle_0 | exact zle_1 | exact zle_2 | exact zle_3 | exact zle_4 | exact zb_0 | exact zb_1 | exact zb01_B | omega) only [zT39_4, zr_iload_3, zT39_5, zr_aload_0, zT39_6, zr_gf_71, zr_or, zr_go, zf_133_71, zT39_9, zr_ic_14, zT39_11, zr_iload_1, zT39_12, zr_iadd, zT39_13, zr_iald, zT39_14, zr_icmp_ge, zT39_44, zr_iload_2, zT39_45, zr_ret0, zcl_i, zcl_r, zcl_l, zcl_n, zv_some, zv_none, Nat.reduceAdd, Nat.reduceMul, Nat.reduceSub, Nat.reduceLT, Nat.reduceLeDiff, Nat.reduceEqDiff, Int.reduceToNat, true_implies, false_implies, implies_true, and_true, true_and, not_true_eq_false, not_false_eq_true, Nat.zero_add, Nat.add_zero, nI_add, nI_ltI, nI_leI, nI_eq, pk_mul, pk_sub, u2_same, u2_row, u2_other, esm, olt_T, olt_F, ole_T, ole_F, oeq_T, oeq_F]
    exact hQ
  · simp (disch := first | assumption | rfl | exact zle_0 | exact zle_1 | exact zle_2 | exact zle_3 | exact zle_4 | exact zb_0 | exact zb_1 | exact zb01_B | omega) only [zT39_0, zr_ic_0, zT39_1, zr_istore_2, zT39_2, zT39_3, zr_istore_3, zT39_4, zr_iload_3, zT39_5, zr_aload_0, zT39_6, zr_gf_71, zr_or, zr_go, zf_133_71, zT39_9, zr_ic_14, zT39_11, zr_iload_1, zT39_12, zr_iadd, zT39_13, zr_iald, zT39_14, zr_icmp_ge, zcl_i, zcl_r, zcl_l, zcl_n, zv_some, zv_none, Nat.reduceAdd, Nat.reduceMul, Nat.reduceSub, Nat.reduceLT, Nat.reduceLeDiff, Nat.reduceEqDiff, Int.reduceToNat, true_implies, false_implies, implies_true, and_true, true_and, not_true_eq_false, not_false_eq_true, Nat.zero_add, Nat.add_zero, nI_add, nI_ltI, nI_leI, nI_eq, pk_mul, pk_sub, u2_same, u2_row, u2_other, esm, olt_T, olt_F, ole_T, ole_F, oeq_T, oeq_F]
    simp (disch := first | assumption | rfl | exact zle_0 | exact zle_1 | exact zle_2 | exact zle_3 | exact zle_4 | exact zb_0 | exact zb_1 | exact zb01_B | omega) only [zT39_17, zr_iload_2, zT39_18, zr_aload_0, zT39_19, zr_gf_71, zr_or, zr_go, zf_133_71, zT39_22, zr_ic_17, zT39_24, zr_ic_12, zT39_26, zr_iload_1, zT39_27, zr_imul, zT39_28, zr_iadd, zT39_29, zr_ic_4, zT39_30, zr_iload_3, zT39_31, zT39_32, zT39_33, zr_ic_3, zT39_34, zT39_35, zr_iald, zT39_36, zT39_37, zr_istore_2, zT39_38, zr_iinc_3_1, zT39_41, zr_goto, zcl_i, zcl_r, zcl_l, zcl_n, zv_some, zv_none, Nat.reduceAdd, Nat.reduceMul, Nat.reduceSub, Nat.reduceLT, Nat.reduceLeDiff, Nat.reduceEqDiff, Int.reduceToNat, true_implies, false_implies, implies_true, and_true, true_and, not_true_eq_false, not_false_eq_true, Nat.zero_add, Nat.add_zero, nI_add, nI_ltI, nI_leI, nI_eq, pk_mul, pk_sub, u2_same, u2_row, u2_other, q0, olt_T, olt_F, ole_T, ole_F, oeq_T, oeq_F]
    simp (disch := first | assumption | rfl | exact zle_0 | exact zle_1 | exact zle_2 | exact zle_3 | exact zle_4 | exact zb_0 | exact zb_1 | exact zb01_B | omega) only [zT39_4, zr_iload_3, zT39_5, zr_aload_0, zT39_6, zr_gf_71, zr_or, zr_go, zf_133_71, zT39_9, zr_ic_14, zT39_11, zr_iload_1, zT39_12, zr_iadd, zT39_13, zr_iald, zT39_14, zr_icmp_ge, zcl_i, zcl_r, zcl_l, zcl_n, zv_some, zv_none, Nat.reduceAdd, Nat.reduceMul, Nat.reduceSub, Nat.reduceLT, Nat.reduceLeDiff, Nat.reduceEqDiff, Int.reduceToNat, true_implies, false_implies, implies_true, and_true, true_and, not_true_eq_false, not_false_eq_true, Nat.zero_add, Nat.add_zero, nI_add, nI_ltI, nI_leI, nI_eq, pk_mul, pk_sub, u2_same, u2_row, u2_other, esm, olt_T, olt_F, ole_T, ole_F, oeq_T, oeq_F]
    simp (disch := first | assumption | rfl | exact zle_0 | exact zle_1 | exact zle_2 | exact zle_3 | exact zle_4 | exact zb_0 | exact zb_1 | exact zb01_B | omega) only [zT39_17, zr_iload_2, zT39_18, zr_aload_0, zT39_19, zr_gf_71, zr_or, zr_go, zf_133_71, zT39_22, zr_ic_17, zT39_24, zr_ic_12, zT39_26, zr_iload_1, zT39_27, zr_imul, zT39_28, zr_iadd, zT39_29, zr_ic_4, zT39_30, zr_iload_3, zT39_31, zT39_32, zT39_33, zr_ic_3, zT39_34, zT39_35, zr_iald, zT39_36, zT39_37, zr_istore_2, zT39_38, zr_iinc_3_1, zT39_41, zr_goto, zcl_i, zcl_r, zcl_l, zcl_n, zv_some, zv_none, Nat.reduceAdd, Nat.reduceMul, Nat.reduceSub, Nat.reduceLT, Nat.reduceLeDiff, Nat.reduceEqDiff, Int.reduceToNat, true_implies, false_implies, implies_true, and_true, true_and, not_true_eq_false, not_false_eq_true, Nat.zero_add, Nat.add_zero, nI_add, nI_ltI, nI_leI, nI_eq, pk_mul, pk_sub, u2_same, u2_row, u2_other, q1, olt_T, olt_F, ole_T, ole_F, oeq_T, oeq_F]
    simp (disch := first | assumption | rfl | exact zle_0 | exact zle_1 | exact zle_2 | exact zle_3 | exact zle_4 | exact zb_0 | exact zb_1 | exact zb01_B | omega) only [zT39_4, zr_iload_3, zT39_5, zr_aload_0, zT39_6, zr_gf_71, zr_or, zr_go, zf_133_71, zT39_9, zr_ic_14, zT39_11, zr_iload_1, zT39_12, zr_iadd, zT39_13, zr_iald, zT39_14, zr_icmp_ge, zcl_i, zcl_r, zcl_l, zcl_n, zv_some, zv_none, Nat.reduceAdd, Nat.reduceMul, Nat.reduceSub, Nat.reduceLT, Nat.reduceLeDiff, Nat.reduceEqDiff, Int.reduceToNat, true_implies, false_implies, implies_true, and_true, true_and, not_true_eq_false, not_false_eq_true, Nat.zero_add, Nat.add_zero, nI_add, nI_ltI, nI_leI, nI_eq, pk_mul, pk_sub, u2_same, u2_row, u2_other, esm, olt_T, olt_F, ole_T, ole_F, oeq_T, oeq_F]
    simp (disch := first | assumption | rfl | exact zle_0 | exact zle_1 | exact zle_2 | exact zle_3 | exact zle_4 | exact zb_0 | exact zb_1 | exact zb01_B | omega) only [zT39_17, zr_iload_2, zT39_18, zr_aload_0, zT39_19, zr_gf_71, zr_or, zr_go, zf_133_71, zT39_22, zr_ic_17, zT39_24, zr_ic_12, zT39_26, zr_iload_1, zT39_27, zr_imul, zT39_28, zr_iadd, zT39_29, zr_ic_4, zT39_30, zr_iload_3, zT39_31, zT39_32, zT39_33, zr_ic_3, zT39_34, zT39_35, zr_iald, zT39_36, zT39_37, zr_istore_2, zT39_38, zr_iinc_3_1, zT39_41, zr_goto, zcl_i, zcl_r, zcl_l, zcl_n, zv_some, zv_none, Nat.reduceAdd, Nat.reduceMul, Nat.reduceSub, Nat.reduceLT, Nat.reduceLeDiff, Nat.reduceEqDiff, Int.reduceToNat, true_implies, false_implies, implies_true, and_true, true_and, not_true_eq_false, not_false_eq_true, Nat.zero_add, Nat.add_zero, nI_add, nI_ltI, nI_leI, nI_eq, pk_mul, pk_sub, u2_same, u2_row, u2_other, q2, olt_T, olt_F, ole_T, ole_F, oeq_T, oeq_F]
    simp (disch := first | assumption | rfl | exact zle_0 | exact zle_1 | exact zle_2 | exact zle_3 | exact zle_4 | exact zb_0 | exact zb_1 | exact zb01_B | omega) only [zT39_4, zr_iload_3, zT39_5, zr_aload_0, zT39_6, zr_gf_71, zr_or, zr_go, zf_133_71, zT39_9, zr_ic_14, zT39_11, zr_iload_1, zT39_12, zr_iadd, zT39_13, zr_iald, zT39_14, zr_icmp_ge, zT39_44, zr_iload_2, zT39_45, zr_ret0, zcl_i, zcl_r, zcl_l, zcl_n, zv_some, zv_none, Nat.reduceAdd, Nat.reduceMul, Nat.reduceSub, Nat.reduceLT, Nat.reduceLeDiff, Nat.reduceEqDiff, Int.reduceToNat, true_implies, false_implies, implies_true, and_true, true_and, not_true_eq_false, not_false_eq_true, Nat.zero_add, Nat.add_zero, nI_add, nI_ltI, nI_leI, nI_eq, pk_mul, pk_sub, u2_same, u2_row, u2_other, esm, olt_T, olt_F, ole_T, ole_F, oeq_T, oeq_F]
    exact hQ
theorem a_stp_lt8 {w : Nat → Nat} {d g : Nat} (hw : a_WD w d) (hg : g ≤ a_tot w d) : (a_stp w d g).2 < 8 := by
  obtain ⟨h1, h2, h3⟩ := a_stp_spec hw g
  rcases Nat.lt_or_ge (a_stp w d g).1 (a_sm w d) with c | c
  · have := h3 c
    have := (hw.2 _ c).2.2.2.2
    omega
  · have e : (a_stp w d g).1 = a_sm w d := by omega
    have t : a_tot w d = a_pre w d (a_sm w d) := by
      unfold a_tot a_pre
      rfl
    rw [e] at h2
    omega
theorem ym_stateOf (hf : z_FR fr) (h : z_MR fi 0 w) {d x : Nat} (hd : d < 3) (hw : a_WD w d) (hg : a_gone w d ≤ a_tot w d) (hx : x ≤ 1) : TT 71 0 [some (.ref 133), some (.int (nI d)), some (.int (nI x)), none] [] (151, fi, fl, fr) Q = Q (some (.int (nI (a_so w d x)))) (151, fi, fl, fr) := by
  refine T_exact (fun Q hQ => ?_) Q
  have o133 : z_ok 151 133 20 = true := rfl; have o134 : z_ok 151 134 1 = true := rfl
  have l134 : z_al 134 = 440 := rfl
  have tl := a_tot_le hw
  have so := fun Q => sm_stepOf (fl := fl) (Q := Q) hf h hd hw (show a_gone w d < 1000 by omega)
  have eg := h.at0 (i := 55 + d) (by omega)
  rw [show w (55 + d) = a_gone w d from rfl] at eg
  have l8 := a_stp_lt8 hw hg
  have s4 := (a_stp_spec hw (a_gone w d)).1
  have sm3 := hw.1
  unfold a_so at hQ
  generalize (a_stp w d (a_gone w d)).1 = s at *
  generalize (a_stp w d (a_gone w d)).2 = l at *
  have nz := nI_nz (c := 8) (by decide) (by decide)
  have dv := pk_div (a := 8 * s + l) (d := 8) (by omega) (by decide) (by decide)
  have rm := pk_rem (a := 8 * s + l) (d := 8) (by omega) (by decide) (by decide)
  rw [show (8 * s + l) / 8 = s by omega] at dv
  rw [show (8 * s + l) % 8 = l by omega] at rm
  have : x = 0 ∨ x = 1 := by omega
  rcases this with rfl | rfl
  · rw [if_pos rfl] at hQ
    simp (disch := first | assumption | rfl | exact zle_0 | exact zle_1 | exact zle_2 | exact zle_3 | exact zle_4 | exact zb_0 | exact zb_1 | exact zb01_B | omega) only [zT71_0, zr_aload_0, zT71_1, zr_iload_1, zT71_2, zT71_3, zr_gf_71, zr_or, zr_go, zf_133_71, zT71_6, zr_ic_55, zT71_8, zT71_9, zr_iadd, zT71_10, zr_iald, zT71_11, zr_iv_40, zT71_14, zr_istore_3, zT71_15, zr_iload_2, zT71_16, zr_if_ne, zT71_19, zr_iload_3, zT71_20, zr_ic_8, zT71_22, zr_idiv, zT71_23, zr_goto, zT71_26, zT71_27, zT71_29, zr_irem, zT71_30, zr_ret0, zcl_i, zcl_r, zcl_l, zcl_n, zv_some, zv_none, Nat.reduceAdd, Nat.reduceMul, Nat.reduceSub, Nat.reduceLT, Nat.reduceLeDiff, Nat.reduceEqDiff, Int.reduceToNat, true_implies, false_implies, implies_true, and_true, true_and, not_true_eq_false, not_false_eq_true, Nat.zero_add, Nat.add_zero, nI_add, nI_ltI, nI_leI, nI_eq, pk_mul, pk_sub, u2_same, u2_row, u2_other, eg, so, dv, rm, olt_T, olt_F, ole_T, ole_F, oeq_T, oeq_F]
    exact hQ
  · rw [if_neg (by decide)] at hQ
    simp (disch := first | assumption | rfl | exact zle_0 | exact zle_1 | exact zle_2 | exact zle_3 | exact zle_4 | exact zb_0 | exact zb_1 | exact zb01_B | omega) only [zT71_0, zr_aload_0, zT71_1, zr_iload_1, zT71_2, zT71_3, zr_gf_71, zr_or, zr_go, zf_133_71, zT71_6, zr_ic_55, zT71_8, zT71_9, zr_iadd, zT71_10, zr_iald, zT71_11, zr_iv_40, zT71_14, zr_istore_3, zT71_15, zr_iload_2, zT71_16, zr_if_ne, zT71_19, zr_iload_3, zT71_20, zr_ic_8, zT71_22, zr_idiv, zT71_23, zr_goto, zT71_26, zT71_27, zT71_29, zr_irem, zT71_30, zr_ret0, zcl_i, zcl_r, zcl_l, zcl_n, zv_some, zv_none, Nat.reduceAdd, Nat.reduceMul, Nat.reduceSub, Nat.reduceLT, Nat.reduceLeDiff, Nat.reduceEqDiff, Int.reduceToNat, true_implies, false_implies, implies_true, and_true, true_and, not_true_eq_false, not_false_eq_true, Nat.zero_add, Nat.add_zero, nI_add, nI_ltI, nI_leI, nI_eq, pk_mul, pk_sub, u2_same, u2_row, u2_other, eg, so, rm, olt_T, olt_F, ole_T, ole_F, oeq_T, oeq_F]
    exact hQ
theorem ym_state (hf : z_FR fr) (h : z_MS fi fl ws nn tx) (hg : z_G ws nn) {x y : Int32} (hQ : z_MQ fi fr Q (r_state (ws 0) nn x y).1 ws (r_state (ws 0) nn x y).2 tx) : TT 72 0 [some (.ref 133), some (.int x), some (.int y)] [] (151, fi, fl, fr) Q := by
  have o133 : z_ok 151 133 20 = true := rfl
  have h13 := hg.1.1.2.2.1
  have idd := fun Q => sm_isDish (fl := fl) (Q := Q) (x := x) hf h.1.1 h13
  have si := fun M Q v lo hi => sm_in (M := M) (Q := Q) (v := v) (lo := lo) (hi := hi)
  have l1 : (lN 1).toInt = 1 := by decide
  have td := fun fi a Q => sm_told (fi := fi) (fl := fl) (Q := Q) hf (a := a)
  unfold r_state at hQ
  by_cases c1 : 0 ≤ x.toInt ∧ x.toInt < ws 0 13
  · rw [decide_eq_true c1] at idd
    by_cases c2 : 0 ≤ y.toInt ∧ y.toInt ≤ 1
    · rw [if_pos ⟨c1.1, c1.2, c2.1, c2.2⟩] at hQ
      obtain ⟨ex, lx⟩ := nI_ofInt c1.1
      obtain ⟨b, b2, rfl, eb⟩ := i3 (n := 1) c2
      rw [eb] at hQ
      generalize hx : x.toInt.toNat = c at *
      have wd := hg.1.1.2.2.2.1 c (by omega)
      have so := fun Q => ym_stateOf (fl := fl) (Q := Q) hf h.1.1 (show c < 3 by omega) wd.1 wd.2.2 b2
      rw [ex] at idd ⊢
      simp (disch := first | assumption | rfl | exact zle_0 | exact zle_1 | exact zle_2 | exact zle_3 | exact zle_4 | exact zb_0 | exact zb_1 | exact zb01_B | omega) only [zT72_0, zr_aload_0, zT72_1, zr_iload_1, zT72_2, zr_iv_22, zT72_5, zr_if_eq, zT72_8, zr_iload_2, zT72_9, zr_i2l, zT72_10, zr_ldc2, zT72_11, zT72_12, zr_iv_2, zT72_15, zT72_18, zT72_19, zT72_20, zT72_21, zr_iv_71, zT72_24, zr_goto, zT72_27, zT72_28, zr_ic_m2, zT72_30, zr_iv_3, zT72_33, zr_ret0, zcl_i, zcl_r, zcl_l, zcl_n, zv_some, zv_none, Nat.reduceAdd, Nat.reduceMul, Nat.reduceSub, Nat.reduceLT, Nat.reduceLeDiff, Nat.reduceEqDiff, Int.reduceToNat, true_implies, false_implies, implies_true, and_true, true_and, not_true_eq_false, not_false_eq_true, Nat.zero_add, Nat.add_zero, nI_add, nI_ltI, nI_leI, nI_eq, pk_mul, pk_sub, u2_same, u2_row, u2_other, idd, si, x64, l0, l1, dcd_T c2, zB_eq0, reduceCtorEq, so, olt_T, olt_F, ole_T, ole_F, oeq_T, oeq_F]
      exact z_MQ.id_ h hQ
    · rw [if_neg (fun q => c2 ⟨q.2.2.1, q.2.2.2⟩)] at hQ
      have o := z_MQ.ref (Or.inl rfl) h hQ
      simp (disch := first | assumption | rfl | exact zle_0 | exact zle_1 | exact zle_2 | exact zle_3 | exact zle_4 | exact zb_0 | exact zb_1 | exact zb01_B | omega) only [zT72_0, zr_aload_0, zT72_1, zr_iload_1, zT72_2, zr_iv_22, zT72_5, zr_if_eq, zT72_8, zr_iload_2, zT72_9, zr_i2l, zT72_10, zr_ldc2, zT72_11, zT72_12, zr_iv_2, zT72_15, zT72_18, zT72_19, zT72_20, zT72_21, zr_iv_71, zT72_24, zr_goto, zT72_27, zT72_28, zr_ic_m2, zT72_30, zr_iv_3, zT72_33, zr_ret0, zcl_i, zcl_r, zcl_l, zcl_n, zv_some, zv_none, Nat.reduceAdd, Nat.reduceMul, Nat.reduceSub, Nat.reduceLT, Nat.reduceLeDiff, Nat.reduceEqDiff, Int.reduceToNat, true_implies, false_implies, implies_true, and_true, true_and, not_true_eq_false, not_false_eq_true, Nat.zero_add, Nat.add_zero, nI_add, nI_ltI, nI_leI, nI_eq, pk_mul, pk_sub, u2_same, u2_row, u2_other, idd, si, x64, l0, l1, dcd_F c2, zB_eq0, reduceCtorEq, td, olt_T, olt_F, ole_T, ole_F, oeq_T, oeq_F]
      exact o
  · rw [decide_eq_false c1] at idd
    rw [if_neg (fun q => c1 ⟨q.1, q.2.1⟩)] at hQ
    have o := z_MQ.ref (Or.inl rfl) h hQ
    simp (disch := first | assumption | rfl | exact zle_0 | exact zle_1 | exact zle_2 | exact zle_3 | exact zle_4 | exact zb_0 | exact zb_1 | exact zb01_B | omega) only [zT72_0, zr_aload_0, zT72_1, zr_iload_1, zT72_2, zr_iv_22, zT72_5, zr_if_eq, zT72_8, zr_iload_2, zT72_9, zr_i2l, zT72_10, zr_ldc2, zT72_11, zT72_12, zr_iv_2, zT72_15, zT72_18, zT72_19, zT72_20, zT72_21, zr_iv_71, zT72_24, zr_goto, zT72_27, zT72_28, zr_ic_m2, zT72_30, zr_iv_3, zT72_33, zr_ret0, zcl_i, zcl_r, zcl_l, zcl_n, zv_some, zv_none, Nat.reduceAdd, Nat.reduceMul, Nat.reduceSub, Nat.reduceLT, Nat.reduceLeDiff, Nat.reduceEqDiff, Int.reduceToNat, true_implies, false_implies, implies_true, and_true, true_and, not_true_eq_false, not_false_eq_true, Nat.zero_add, Nat.add_zero, nI_add, nI_ltI, nI_leI, nI_eq, pk_mul, pk_sub, u2_same, u2_row, u2_other, idd, zB_eq0, td, olt_T, olt_F, ole_T, ole_F, oeq_T, oeq_F]
    exact o
theorem ym_app_ (hf : z_FR fr) {v : Int64} {n L : Nat} (hL : L ≤ 200) : ∀ k, k ≤ n → n ≤ 8 → k ≤ L → ∀ (fi : Nat → Nat → Int32) (x : Int32), x = (if k = 0 then nM 1 else nI (k - 1)) → fi 133 74 = nI (L - k) →
    (∀ fi', fi' 133 74 = nI L → (∀ f, f ≠ 74 → fi' 133 f = fi 133 f) → (∀ j, L - k ≤ j → j < L → fi' 136 j = nI (bt v (L - 1 - j))) → (∀ j, j < L - k → fi' 136 j = fi 136 j) → (∀ j, j ≠ 133 → j ≠ 136 → fi' j = fi j) → Q (some (.int (nI L))) (151, fi', fl, fr)) →
    TT 26 43 [some (.ref 133), some (.long v), none, some (.int (nI n)), some (.int x)] [] (151, fi, fl, fr) Q := by
  have o133 : z_ok 151 133 20 = true := rfl; have o136 : z_ok 151 136 1 = true := rfl
  have l136 : z_al 136 = 200 := rfl
  intro k
  induction k with
  | zero =>
    intro hk h8 hkL fi x hx hl hQ
    rw [if_pos rfl] at hx
    subst hx
    have neg := nM_neg (k := 1) (by decide) (by decide)
    have hl' : fi 133 74 = nI L := hl
    have := hQ fi hl (fun _ _ => rfl) (fun j j1 j2 => by omega) (fun _ _ => rfl) (fun _ _ _ => rfl)
    simp (disch := first | assumption | rfl | exact zle_0 | exact zle_1 | exact zle_2 | exact zle_3 | exact zle_4 | exact zb_0 | exact zb_1 | exact zb01_B | omega) only [zT26_43, zr_iload_4, zT26_45, zr_if_lt, zT26_85, zr_aload_0, zT26_86, zr_gf_74, zT26_89, zr_ret0, zcl_i, zcl_r, zcl_l, zcl_n, zv_some, zv_none, Nat.reduceAdd, Nat.reduceMul, Nat.reduceSub, Nat.reduceLT, Nat.reduceLeDiff, Nat.reduceEqDiff, Int.reduceToNat, true_implies, false_implies, implies_true, and_true, true_and, not_true_eq_false, not_false_eq_true, Nat.zero_add, Nat.add_zero, nI_add, nI_ltI, nI_leI, nI_eq, pk_mul, pk_sub, u2_same, u2_row, u2_other, neg, hl', olt_T, olt_F, ole_T, ole_F, oeq_T, oeq_F]
    exact this
  | succ k ih =>
    intro hk h8 hkL fi x hx hl hQ
    rw [if_neg (by omega), Nat.add_sub_cancel] at hx
    subst hx
    have dec : nI k + nM 1 = (if k = 0 then nM 1 else nI (k - 1)) := by
      by_cases c : k = 0
      · subst c; rfl
      · rw [if_neg c]; exact nI_addM (by omega)
    have b := bt_i (v := v) (i := k)
    have e1 : L - (k + 1) + 1 = L - k := by omega
    simp (disch := first | assumption | rfl | exact zle_0 | exact zle_1 | exact zle_2 | exact zle_3 | exact zle_4 | exact zb_0 | exact zb_1 | exact zb01_B | omega) only [zT26_43, zr_iload_4, zcl_i, zcl_r, zcl_l, zcl_n, zv_some, zv_none, Nat.reduceAdd, Nat.reduceMul, Nat.reduceSub, Nat.reduceLT, Nat.reduceLeDiff, Nat.reduceEqDiff, Int.reduceToNat, true_implies, false_implies, implies_true, and_true, true_and, not_true_eq_false, not_false_eq_true, Nat.zero_add, Nat.add_zero, nI_add, nI_ltI, nI_leI, nI_eq, pk_mul, pk_sub, u2_same, u2_row, u2_other]
    simp (disch := first | assumption | rfl | exact zle_0 | exact zle_1 | exact zle_2 | exact zle_3 | exact zle_4 | exact zb_0 | exact zb_1 | exact zb01_B | omega) only [zT26_45, zr_if_lt, zT26_48, zr_aload_0, zT26_49, zr_gf_73, zr_or, zr_go, zf_133_73, zT26_52, zT26_53, zr_gf_74, zT26_56, zr_lload_1, zT26_57, zr_ic_8, zT26_59, zr_iload_4, zT26_61, zr_imul, zT26_62, zr_lshr, zT26_63, zr_ldc2, zT26_66, zr_land, zT26_67, zr_l2i, zT26_68, zr_iast, zT26_69, zT26_70, zr_dup_r, zr_dup_i, zT26_71, zT26_74, zr_ic_1, zT26_75, zr_iadd, zT26_76, zr_pf_74, zT26_79, zr_iinc_4_m1, zT26_82, zr_goto, zcl_i, zcl_r, zcl_l, zcl_n, zv_some, zv_none, Nat.reduceAdd, Nat.reduceMul, Nat.reduceSub, Nat.reduceLT, Nat.reduceLeDiff, Nat.reduceEqDiff, Int.reduceToNat, true_implies, false_implies, implies_true, and_true, true_and, not_true_eq_false, not_false_eq_true, Nat.zero_add, Nat.add_zero, nI_add, nI_ltI, nI_leI, nI_eq, pk_mul, pk_sub, u2_same, u2_row, u2_other, hl, b, e1, olt_T, olt_F, ole_T, ole_F, oeq_T, oeq_F]
    refine ih (by omega) h8 (by omega) _ _ dec (by rw [u2_same]) (fun fi' g1 g0 g2 g3 g4 => hQ fi' g1 (fun f hff => ?_) (fun j j1 j2 => ?_) (fun j hj => ?_) (fun j j1 j2 => ?_))
    · rw [g0 f hff]
      simp (disch := first | assumption | omega) only [u2_other, u2_row]
    · by_cases c : L - k ≤ j
      · exact g2 j c j2
      · obtain rfl : j = L - (k + 1) := by omega
        rw [g3 _ (by omega)]
        simp (disch := omega) only [u2_other, u2_same]
        rw [show L - 1 - (L - (k + 1)) = k by omega]
    · rw [g3 j (by omega)]
      simp (disch := omega) only [u2_other, u2_row]
    · rw [g4 j j1 j2]
      simp (disch := assumption) only [u2_ne]
theorem ym_type (hf : z_FR fr) (h : z_MS fi fl ws nn tx) (hg : z_G ws nn) {v : Int64} {x : Int32} (hQ : z_MQ fi fr Q (r_type nn tx v x).1 ws (r_type nn tx v x).2.1 (r_type nn tx v x).2.2) : TT 26 0 [some (.ref 133), some (.long v), none, some (.int x), none] [] (151, fi, fl, fr) Q := by
  have o133 : z_ok 151 133 20 = true := rfl
  have si := fun M Q v lo hi => sm_in (M := M) (Q := Q) (v := v) (lo := lo) (hi := hi)
  have l1 : (lN 1).toInt = 1 := by decide
  have l8 : (lN 8).toInt = 8 := by decide
  have td := fun fi a Q => sm_told (fi := fi) (fl := fl) (Q := Q) hf (a := a)
  have ln := h.2.2.1.2.1
  have l200 := hg.2.2.2.2.2
  unfold r_type at hQ
  by_cases c : 1 ≤ x.toInt ∧ x.toInt ≤ 8
  · rw [if_pos c] at hQ
    obtain ⟨n, n8, rfl, en⟩ := i3 (x := x) (n := 8) ⟨by omega, by omega⟩
    have n1 : 1 ≤ n := by
      have := c.1
      rw [nI_toInt (by omega)] at this
      omega
    rw [en] at hQ
    by_cases c2 : 200 < nn 2 + n
    · rw [if_pos c2] at hQ
      have o := z_MQ.ref (Or.inr (Or.inr rfl)) h hQ
      simp (disch := first | assumption | rfl | exact zle_0 | exact zle_1 | exact zle_2 | exact zle_3 | exact zle_4 | exact zb_0 | exact zb_1 | exact zb01_B | omega) only [zT26_0, zr_iload_3, zT26_1, zr_i2l, zT26_2, zr_ldc2, zT26_3, zT26_6, zr_iv_2, zT26_9, zr_if_ne, zT26_12, zr_aload_0, zT26_13, zr_ic_m2, zT26_15, zr_iv_3, zT26_18, zr_ret0, zT26_19, zT26_20, zr_gf_74, zT26_23, zT26_24, zr_iadd, zT26_25, zr_ic_200, zT26_28, zr_icmp_le, zT26_31, zT26_32, zr_ic_m4, zT26_34, zT26_37, zcl_i, zcl_r, zcl_l, zcl_n, zv_some, zv_none, Nat.reduceAdd, Nat.reduceMul, Nat.reduceSub, Nat.reduceLT, Nat.reduceLeDiff, Nat.reduceEqDiff, Int.reduceToNat, true_implies, false_implies, implies_true, and_true, true_and, not_true_eq_false, not_false_eq_true, Nat.zero_add, Nat.add_zero, nI_add, nI_ltI, nI_leI, nI_eq, pk_mul, pk_sub, u2_same, u2_row, u2_other, si, x64, l1, l8, dcd_T c, zB_eq0, reduceCtorEq, ln, td, olt_T, olt_F, ole_T, ole_F, oeq_T, oeq_F]
      exact o
    · rw [if_neg c2] at hQ
      dsimp only at hQ
      have L := ym_app_ (fl := fl) (Q := Q) hf (v := v) (n := n) (L := nn 2 + n) (by omega) n (Nat.le_refl _) n8 (by omega) fi _ (show nI (n - 1) = _ by rw [if_neg (by omega)]) (by rw [ln]; congr 1; omega) (fun f1 g1 g0 g2 g3 g4 => by
        obtain ⟨hk, hc, ht, hA, hB⟩ := h
        refine hQ f1 fl ⟨?_, ?_, ⟨?_, ?_, ?_⟩, ?_, ?_⟩ (fun j hj => g4 j (by omega) (by omega))
        · have := hk.frame (fi' := f1) (g4 134 (by decide) (by decide)) (g4 135 (by decide) (by decide))
          unfold z_MK at *
          rw [uh_ne (by decide), uh_ne (by decide)]
          exact this
        · unfold z_MC at *
          rw [g4 137 (by decide) (by decide), uh_ne (by decide), uh_ne (by decide), uh_ne (by decide)]
          exact hc
        · rw [uh_same]; omega
        · rw [uh_same]; exact g1
        · rw [uh_same]
          intro i hi
          unfold a_type
          by_cases c3 : nn 2 ≤ i
          · rw [if_pos ⟨c3, hi⟩]
            exact ⟨bt_lt, g2 i (by omega) hi⟩
          · rw [if_neg (fun q => c3 q.1), g3 i (by omega)]
            exact ht.2.2 i (by omega)
        · unfold z_ML at *
          rw [g0 _ (by decide), uh_ne (by decide)]
          exact hA
        · unfold z_ML at *
          rw [g0 _ (by decide), uh_ne (by decide)]
          exact hB)
      simp (disch := first | assumption | rfl | exact zle_0 | exact zle_1 | exact zle_2 | exact zle_3 | exact zle_4 | exact zb_0 | exact zb_1 | exact zb01_B | omega) only [zT26_0, zr_iload_3, zT26_1, zr_i2l, zT26_2, zr_ldc2, zT26_3, zT26_6, zr_iv_2, zT26_9, zr_if_ne, zT26_12, zr_aload_0, zT26_13, zr_ic_m2, zT26_15, zr_iv_3, zT26_18, zr_ret0, zT26_19, zT26_20, zr_gf_74, zT26_23, zT26_24, zr_iadd, zT26_25, zr_ic_200, zT26_28, zr_icmp_le, zT26_31, zT26_32, zr_ic_m4, zT26_34, zT26_37, zT26_38, zT26_39, zr_ic_1, zT26_40, zr_isub, zT26_41, zr_istore_4, zcl_i, zcl_r, zcl_l, zcl_n, zv_some, zv_none, Nat.reduceAdd, Nat.reduceMul, Nat.reduceSub, Nat.reduceLT, Nat.reduceLeDiff, Nat.reduceEqDiff, Int.reduceToNat, true_implies, false_implies, implies_true, and_true, true_and, not_true_eq_false, not_false_eq_true, Nat.zero_add, Nat.add_zero, nI_add, nI_ltI, nI_leI, nI_eq, pk_mul, pk_sub, u2_same, u2_row, u2_other, si, x64, l1, l8, dcd_T c, zB_eq0, reduceCtorEq, ln, olt_T, olt_F, ole_T, ole_F, oeq_T, oeq_F]
      exact L
  · rw [if_neg c] at hQ
    have o := z_MQ.ref (Or.inl rfl) h hQ
    simp (disch := first | assumption | rfl | exact zle_0 | exact zle_1 | exact zle_2 | exact zle_3 | exact zle_4 | exact zb_0 | exact zb_1 | exact zb01_B | omega) only [zT26_0, zr_iload_3, zT26_1, zr_i2l, zT26_2, zr_ldc2, zT26_3, zT26_6, zr_iv_2, zT26_9, zr_if_ne, zT26_12, zr_aload_0, zT26_13, zr_ic_m2, zT26_15, zr_iv_3, zT26_18, zr_ret0, zcl_i, zcl_r, zcl_l, zcl_n, zv_some, zv_none, Nat.reduceAdd, Nat.reduceMul, Nat.reduceSub, Nat.reduceLT, Nat.reduceLeDiff, Nat.reduceEqDiff, Int.reduceToNat, true_implies, false_implies, implies_true, and_true, true_and, not_true_eq_false, not_false_eq_true, Nat.zero_add, Nat.add_zero, nI_add, nI_ltI, nI_leI, nI_eq, pk_mul, pk_sub, u2_same, u2_row, u2_other, si, x64, l1, l8, dcd_F c, zB_eq0, td, olt_T, olt_F, ole_T, ole_F, oeq_T, oeq_F]
    exact o
end
