/-! cooking on, and back -/
/-- a minute more with these dishes; the last minute taken back -/
def a_on (w : Nat → Nat) (b : Nat) : Nat → Nat := fun j => if j = 59 + w 58 then b else if j = 58 then w 58 + 1 else if 55 ≤ j ∧ j < 55 + w 13 ∧ a_bit b (j - 55) = true then w j + 1 else w j
def a_back (w : Nat → Nat) : Nat → Nat := fun j => if j = 58 then w 58 - 1 else if 55 ≤ j ∧ j < 55 + w 13 ∧ a_bit (w (58 + w 58)) (j - 55) = true then w j - 1 else w j
section
variable {fi : Nat → Nat → Int32} {fl : Nat → Nat → Int64} {fr : Nat → Nat → Option Nat} {Q : Option Value → Mm → Prop} {w : Nat → Nat} {k : Nat} {M : Mm}
def k_on (fi : Nat → Nat → Int32) (k b n D : Nat) : Nat → Nat → Int32 := k_bring k b (nI 1) D 0 (u2 (u2 fi (k + 4) n (nI b)) k 49 (nI (n + 1)))
theorem sp_goOn (hk : z_Kok fr k) (hr : z_KR fi k w) (h13 : w 13 ≤ 3) (h58 : w 58 < 45) {b : Nat} (hb : b < 2 ^ 31) : TT 195 0 [some (.ref k), some (.int (nI b))] [] (151, fi, fl, fr) Q = Q none (151, k_on fi k b (w 58) (w 13), fl, fr) := by
  refine T_exact (fun Q hQ => ?_) Q
  have hbr := fun fi Q h => sp_bring (fi := fi) (fl := fl) (Q := Q) (x := nI 1) hk hb h13 h
  have r13 := hr.1.2.1
  have r58 := hr.1.2.2.2.2
  obtain ⟨h1, ⟨h2, h3, h4, h5⟩, ⟨l1, l2, l3, l4⟩, ⟨f1, f2, f3, f4⟩, hd⟩ := hk
  simp (disch := first | assumption | rfl | exact zle_0 | exact zle_1 | exact zle_2 | exact zle_3 | exact zle_4 | exact zb_0 | exact zb_1 | exact zb01_B | omega) only [zT195_0, zr_aload_0, zT195_1, zr_gf_49, zT195_4, zr_ic_45, zT195_6, zr_icmp_lt, zT195_9, zr_return, zT195_10, zT195_11, zr_gf_48, zr_or, zr_go, zf_19_48, zT195_14, zT195_15, zT195_18, zr_iload_1, zT195_19, zr_iast, zT195_20, zT195_21, zr_dup_r, zr_dup_i, zT195_22, zT195_25, zr_ic_1, zT195_26, zr_iadd, zT195_27, zr_pf_49, zT195_30, zT195_31, zT195_32, zT195_33, zr_iv_197, zT195_36, zcl_i, zcl_r, zcl_l, zcl_n, zv_some, zv_none, Nat.reduceAdd, Nat.reduceMul, Nat.reduceSub, Nat.reduceLT, Nat.reduceLeDiff, Nat.reduceEqDiff, Int.reduceToNat, true_implies, false_implies, implies_true, and_true, true_and, not_true_eq_false, not_false_eq_true, Nat.zero_add, Nat.add_zero, nI_add, nI_ltI, nI_leI, nI_eq, pk_mul, pk_sub, u2_same, u2_row, u2_other, r58, f4, olt_T, olt_F, ole_T, ole_F, oeq_T, oeq_F]
  rw [hbr _ _ (by simp (disch := omega) only [u2_row, u2_other]; exact r13)]
  simp (disch := first | assumption | rfl | exact zle_0 | exact zle_1 | exact zle_2 | exact zle_3 | exact zle_4 | exact zb_0 | exact zb_1 | exact zb01_B | omega) only [zT195_0, zr_aload_0, zT195_1, zr_gf_49, zT195_4, zr_ic_45, zT195_6, zr_icmp_lt, zT195_9, zr_return, zT195_10, zT195_11, zr_gf_48, zr_or, zr_go, zf_19_48, zT195_14, zT195_15, zT195_18, zr_iload_1, zT195_19, zr_iast, zT195_20, zT195_21, zr_dup_r, zr_dup_i, zT195_22, zT195_25, zr_ic_1, zT195_26, zr_iadd, zT195_27, zr_pf_49, zT195_30, zT195_31, zT195_32, zT195_33, zr_iv_197, zT195_36, zcl_i, zcl_r, zcl_l, zcl_n, zv_some, zv_none, Nat.reduceAdd, Nat.reduceMul, Nat.reduceSub, Nat.reduceLT, Nat.reduceLeDiff, Nat.reduceEqDiff, Int.reduceToNat, true_implies, false_implies, implies_true, and_true, true_and, not_true_eq_false, not_false_eq_true, Nat.zero_add, Nat.add_zero, nI_add, nI_ltI, nI_leI, nI_eq, pk_mul, pk_sub, u2_same, u2_row, u2_other, olt_T, olt_F, ole_T, ole_F, oeq_T, oeq_F]
  exact hQ
theorem k_on_K (hr : z_KR fi k w) (h0 : w 0 ≤ 6) (h13 : w 13 ≤ 3) (h58 : w 58 < 45) (hm : ∀ d, d < 3 → a_sm w d ≤ 3) {b : Nat} : z_KR (k_on fi k b (w 58) (w 13)) k (a_on w b) := by
  obtain ⟨⟨h1, h2, h3, h4, h5⟩, h6, h7, h8⟩ := hr
  unfold k_on
  have lo : ∀ j, j < 55 → a_on w b j = w j := fun j hj => by unfold a_on; rw [if_neg (by omega), if_neg (by omega), if_neg (by omega)]
  refine ⟨⟨?_, ?_, ?_, ?_, ?_⟩, fun c hc => ?_, fun d hd => ?_, fun i hi => ?_⟩
  · rw [lo _ (by omega), k_bring_ne _ _ _ _ _ (Or.inr (by decide)), u2_row (by decide), u2_other (by omega)]; exact h1
  · rw [lo _ (by omega), k_bring_ne _ _ _ _ _ (Or.inr (by decide)), u2_row (by decide), u2_other (by omega)]; exact h2
  · rw [lo _ (by omega), k_bring_ne _ _ _ _ _ (Or.inr (by decide)), u2_row (by decide), u2_other (by omega)]; exact h3
  · rw [lo _ (by omega), k_bring_ne _ _ _ _ _ (Or.inr (by decide)), u2_row (by decide), u2_other (by omega)]; exact h4
  · rw [k_bring_ne _ _ _ _ _ (Or.inr (by decide)), u2_same]
    unfold a_on
    rw [if_neg (by omega), if_pos rfl]
  · rw [lo _ (by omega)] at hc
    rw [lo _ (by omega), lo _ (by omega)]
    have := h6 c hc
    rw [k_bring_ne _ _ _ _ _ (Or.inl (fun d _ _ => by omega)), k_bring_ne _ _ _ _ _ (Or.inl (fun d _ _ => by omega))]
    simp (disch := omega) only [u2_other]
    exact this
  · obtain ⟨g1, g2, g3⟩ := h7 d hd
    have hmd := hm d hd
    have es : a_sm (a_on w b) d = a_sm w d := lo _ (by omega)
    refine ⟨?_, ?_, fun s hs => ?_⟩
    · rw [es, k_bring_ne _ _ _ _ _ (Or.inr (by decide))]
      simp (disch := omega) only [u2_other]
      exact g1
    · by_cases hd13 : d < w 13
      · rw [k_bring_at _ _ _ d (by omega) (by omega)]
        simp (disch := omega) only [u2_other]
        rw [g2]
        have e : a_gone (a_on w b) d = if a_bit b d = true then a_gone w d + 1 else a_gone w d := by
          show a_on w b (55 + d) = _
          unfold a_on a_gone
          rw [if_neg (by omega), if_neg (by omega), show 55 + d - 55 = d by omega]
          by_cases hb : a_bit b d = true
          · rw [if_pos ⟨by omega, by omega, hb⟩, if_pos hb]
          · rw [if_neg (fun h => hb h.2.2), if_neg hb]
        rw [e]
        by_cases hb : a_bit b d = true
        · rw [if_pos hb, if_pos hb, nI_add]
        · rw [if_neg hb, if_neg hb]
      · rw [k_bring_ne _ _ _ _ _ (Or.inl (fun j _ _ => by omega))]
        simp (disch := omega) only [u2_other]
        rw [g2]
        congr 1
        show w (55 + d) = a_on w b (55 + d)
        unfold a_on
        rw [if_neg (by omega), if_neg (by omega), if_neg (by omega)]
    · rw [es] at hs
      have e3 : ∀ q, q < 4 → a_st (a_on w b) d s q = a_st w d s q := fun q hq => lo _ (by omega)
      rw [e3 0 (by omega), e3 1 (by omega), e3 2 (by omega), e3 3 (by omega)]
      rw [k_bring_ne _ _ _ _ _ (Or.inl (fun j _ _ => by omega)), k_bring_ne _ _ _ _ _ (Or.inl (fun j _ _ => by omega)), k_bring_ne _ _ _ _ _ (Or.inl (fun j _ _ => by omega)), k_bring_ne _ _ _ _ _ (Or.inl (fun j _ _ => by omega))]
      simp (disch := omega) only [u2_other]
      exact g3 s hs
  · have e58 : a_on w b 58 = w 58 + 1 := by unfold a_on; rw [if_neg (by omega), if_pos rfl]
    rw [e58] at hi
    rw [k_bring_ne _ _ _ _ _ (Or.inl (fun d _ _ => by omega))]
    by_cases e : i = w 58
    · subst e
      simp (disch := omega) only [u2_other, u2_same]
      congr 1
      unfold a_on
      rw [if_pos rfl]
    · simp (disch := omega) only [u2_other, u2_row]
      rw [h8 i (by omega)]
      congr 1
      unfold a_on
      rw [if_neg (by omega), if_neg (by omega), if_neg (by omega)]
def k_back (fi : Nat → Nat → Int32) (k b n D : Nat) : Nat → Nat → Int32 := k_bring k b (nM 1) D 0 (u2 fi k 49 (nI (n - 1)))
theorem sp_goBack_no (hk : z_Kok fr k) (hr : z_KR fi k w) (h58 : w 58 = 0) : TT 196 0 [some (.ref k)] [] (151, fi, fl, fr) Q = Q (some (.int (nI 0))) (151, fi, fl, fr) := by
  refine T_exact (fun Q hQ => ?_) Q
  have r58 := hr.1.2.2.2.2
  rw [h58] at r58
  have h1 := hk.1
  simp (disch := first | assumption | rfl | exact zle_0 | exact zle_1 | exact zle_2 | exact zle_3 | exact zle_4 | exact zb_0 | exact zb_1 | exact zb01_B | omega) only [zT196_0, zr_aload_0, zT196_1, zr_gf_49, zT196_4, zr_if_le, zT196_7, zT196_8, zT196_11, zr_ic_45, zT196_13, zr_icmp_le, zT196_16, zr_ic_0, zT196_17, zr_ret1_0, zr_ret1_1, zr_ret1_B, zcl_i, zcl_r, zcl_l, zcl_n, zv_some, zv_none, Nat.reduceAdd, Nat.reduceMul, Nat.reduceSub, Nat.reduceLT, Nat.reduceLeDiff, Nat.reduceEqDiff, Int.reduceToNat, true_implies, false_implies, implies_true, and_true, true_and, not_true_eq_false, not_false_eq_true, Nat.zero_add, Nat.add_zero, nI_add, nI_ltI, nI_leI, nI_eq, pk_mul, pk_sub, u2_same, u2_row, u2_other, r58, olt_T, olt_F, ole_T, ole_F, oeq_T, oeq_F]
  exact hQ
theorem sp_goBack (hk : z_Kok fr k) (hr : z_KR fi k w) (h13 : w 13 ≤ 3) (h58 : w 58 ≤ 45) (h0 : 1 ≤ w 58) (hb : w (58 + w 58) < 2 ^ 31) : TT 196 0 [some (.ref k)] [] (151, fi, fl, fr) Q = Q (some (.int (nI 1))) (151, k_back fi k (w (58 + w 58)) (w 58) (w 13), fl, fr) := by
  refine T_exact (fun Q hQ => ?_) Q
  have hbr := fun fi Q h => sp_bring (fi := fi) (fl := fl) (Q := Q) (x := nM 1) hk hb h13 h
  have r13 := hr.1.2.1
  have r58 := hr.1.2.2.2.2
  have rp := hr.2.2.2 (w 58 - 1) (by omega)
  rw [show 59 + (w 58 - 1) = 58 + w 58 by omega] at rp
  obtain ⟨h1, ⟨h2, h3, h4, h5⟩, ⟨l1, l2, l3, l4⟩, ⟨f1, f2, f3, f4⟩, hd⟩ := hk
  simp (disch := first | assumption | rfl | exact zle_0 | exact zle_1 | exact zle_2 | exact zle_3 | exact zle_4 | exact zb_0 | exact zb_1 | exact zb01_B | omega) only [zT196_0, zr_aload_0, zT196_1, zr_gf_49, zT196_4, zr_if_le, zT196_7, zT196_8, zT196_11, zr_ic_45, zT196_13, zr_icmp_le, zT196_16, zr_ic_0, zT196_17, zr_ret1_0, zr_ret1_1, zr_ret1_B, zT196_18, zT196_19, zr_dup_r, zr_dup_i, zT196_20, zT196_23, zr_ic_1, zT196_24, zr_isub, zT196_25, zr_pf_49, zT196_28, zT196_29, zT196_30, zr_gf_48, zr_or, zr_go, zf_19_48, zT196_33, zT196_34, zT196_37, zr_iald, zT196_38, zr_ic_m1, zT196_39, zr_iv_197, zT196_42, zT196_43, zcl_i, zcl_r, zcl_l, zcl_n, zv_some, zv_none, Nat.reduceAdd, Nat.reduceMul, Nat.reduceSub, Nat.reduceLT, Nat.reduceLeDiff, Nat.reduceEqDiff, Int.reduceToNat, true_implies, false_implies, implies_true, and_true, true_and, not_true_eq_false, not_false_eq_true, Nat.zero_add, Nat.add_zero, nI_add, nI_ltI, nI_leI, nI_eq, pk_mul, pk_sub, u2_same, u2_row, u2_other, r58, f4, rp, olt_T, olt_F, ole_T, ole_F, oeq_T, oeq_F]
  rw [hbr _ _ (by simp (disch := omega) only [u2_row, u2_other]; exact r13)]
  simp (disch := first | assumption | rfl | exact zle_0 | exact zle_1 | exact zle_2 | exact zle_3 | exact zle_4 | exact zb_0 | exact zb_1 | exact zb01_B | omega) only [zT196_0, zr_aload_0, zT196_1, zr_gf_49, zT196_4, zr_if_le, zT196_7, zT196_8, zT196_11, zr_ic_45, zT196_13, zr_icmp_le, zT196_16, zr_ic_0, zT196_17, zr_ret1_0, zr_ret1_1, zr_ret1_B, zT196_18, zT196_19, zr_dup_r, zr_dup_i, zT196_20, zT196_23, zr_ic_1, zT196_24, zr_isub, zT196_25, zr_pf_49, zT196_28, zT196_29, zT196_30, zr_gf_48, zr_or, zr_go, zf_19_48, zT196_33, zT196_34, zT196_37, zr_iald, zT196_38, zr_ic_m1, zT196_39, zr_iv_197, zT196_42, zT196_43, zcl_i, zcl_r, zcl_l, zcl_n, zv_some, zv_none, Nat.reduceAdd, Nat.reduceMul, Nat.reduceSub, Nat.reduceLT, Nat.reduceLeDiff, Nat.reduceEqDiff, Int.reduceToNat, true_implies, false_implies, implies_true, and_true, true_and, not_true_eq_false, not_false_eq_true, Nat.zero_add, Nat.add_zero, nI_add, nI_ltI, nI_leI, nI_eq, pk_mul, pk_sub, u2_same, u2_row, u2_other, olt_T, olt_F, ole_T, ole_F, oeq_T, oeq_F]
  exact hQ
theorem k_back_K (hr : z_KR fi k w) (h0 : w 0 ≤ 6) (h13 : w 13 ≤ 3) (h58 : w 58 ≤ 45) (h580 : 1 ≤ w 58) (hm : ∀ d, d < 3 → a_sm w d ≤ 3) (hg : ∀ d, d < w 13 → a_bit (w (58 + w 58)) d = true → 1 ≤ a_gone w d) : z_KR (k_back fi k (w (58 + w 58)) (w 58) (w 13)) k (a_back w) := by
  obtain ⟨⟨h1, h2, h3, h4, h5⟩, h6, h7, h8⟩ := hr
  unfold k_back
  have lo : ∀ j, j < 55 → a_back w j = w j := fun j hj => by unfold a_back; rw [if_neg (by omega), if_neg (by omega)]
  have e58 : a_back w 58 = w 58 - 1 := by unfold a_back; rw [if_pos rfl]
  refine ⟨⟨?_, ?_, ?_, ?_, ?_⟩, fun c hc => ?_, fun d hd => ?_, fun i hi => ?_⟩
  · rw [lo _ (by omega), k_bring_ne _ _ _ _ _ (Or.inr (by decide)), u2_row (by decide)]; exact h1
  · rw [lo _ (by omega), k_bring_ne _ _ _ _ _ (Or.inr (by decide)), u2_row (by decide)]; exact h2
  · rw [lo _ (by omega), k_bring_ne _ _ _ _ _ (Or.inr (by decide)), u2_row (by decide)]; exact h3
  · rw [lo _ (by omega), k_bring_ne _ _ _ _ _ (Or.inr (by decide)), u2_row (by decide)]; exact h4
  · rw [k_bring_ne _ _ _ _ _ (Or.inr (by decide)), u2_same, e58]
  · rw [lo _ (by omega)] at hc
    rw [lo _ (by omega), lo _ (by omega)]
    have := h6 c hc
    rw [k_bring_ne _ _ _ _ _ (Or.inl (fun d _ _ => by omega)), k_bring_ne _ _ _ _ _ (Or.inl (fun d _ _ => by omega))]
    simp (disch := omega) only [u2_other]
    exact this
  · obtain ⟨g1, g2, g3⟩ := h7 d hd
    have hmd := hm d hd
    have es : a_sm (a_back w) d = a_sm w d := lo _ (by omega)
    refine ⟨?_, ?_, fun s hs => ?_⟩
    · rw [es, k_bring_ne _ _ _ _ _ (Or.inr (by decide))]
      simp (disch := omega) only [u2_other]
      exact g1
    · by_cases hd13 : d < w 13
      · rw [k_bring_at _ _ _ d (by omega) (by omega)]
        simp (disch := omega) only [u2_other]
        rw [g2]
        have e : a_gone (a_back w) d = if a_bit (w (58 + w 58)) d = true then a_gone w d - 1 else a_gone w d := by
          show a_back w (55 + d) = _
          unfold a_back a_gone
          rw [if_neg (by omega), show 55 + d - 55 = d by omega]
          by_cases hb : a_bit (w (58 + w 58)) d = true
          · rw [if_pos ⟨by omega, by omega, hb⟩, if_pos hb]
          · rw [if_neg (fun h => hb h.2.2), if_neg hb]
        rw [e]
        by_cases hb : a_bit (w (58 + w 58)) d = true
        · rw [if_pos hb, if_pos hb, nI_addM (hg d hd13 hb)]
        · rw [if_neg hb, if_neg hb]
      · rw [k_bring_ne _ _ _ _ _ (Or.inl (fun j _ _ => by omega))]
        simp (disch := omega) only [u2_other]
        rw [g2]
        congr 1
        show w (55 + d) = a_back w (55 + d)
        unfold a_back
        rw [if_neg (by omega), if_neg (by omega)]
    · rw [es] at hs
      have e3 : ∀ q, q < 4 → a_st (a_back w) d s q = a_st w d s q := fun q hq => lo _ (by omega)
      rw [e3 0 (by omega), e3 1 (by omega), e3 2 (by omega), e3 3 (by omega)]
      rw [k_bring_ne _ _ _ _ _ (Or.inl (fun j _ _ => by omega)), k_bring_ne _ _ _ _ _ (Or.inl (fun j _ _ => by omega)), k_bring_ne _ _ _ _ _ (Or.inl (fun j _ _ => by omega)), k_bring_ne _ _ _ _ _ (Or.inl (fun j _ _ => by omega))]
      simp (disch := omega) only [u2_other]
      exact g3 s hs
  · rw [e58] at hi
    rw [k_bring_ne _ _ _ _ _ (Or.inl (fun d _ _ => by omega))]
    simp (disch := omega) only [u2_other, u2_row]
    rw [h8 i (by omega)]
    congr 1
    unfold a_back
    rw [if_neg (by omega), if_neg (by omega)]
end
