/-! whether the crew is enough for a minute -/
theorem n_le {w : Nat → Nat} (hw : a_WF w) {i s : Nat} (hi : i < 3) : n_sr w i s ≤ 6 ∧ n_br w i s ≤ 6 ∧ n_sl w i s ≤ 6 ∧ n_bl w i s ≤ 6 ∧ n_kn w i s ≤ 6 := by
  have wd := (hw.2.2.2.1 i hi).1
  unfold n_sr n_br n_sl n_bl n_kn
  by_cases h : s < a_sm w i
  · have := wd.2 s h
    simp only [if_pos h]
    omega
  · simp only [if_neg h]
    omega
theorem n_sum_le {f : Nat → Nat → Nat} {key : Nat} (h : ∀ i s, i < 3 → f i s ≤ 6) : n_sum f key 3 ≤ 18 := by
  have h0 := h 0 (a_at key 0) (by omega)
  have h1 := h 1 (a_at key 1) (by omega)
  have h2 := h 2 (a_at key 2) (by omega)
  show 0 + f 0 (a_at key 0) + f 1 (a_at key 1) + f 2 (a_at key 2) ≤ 18
  omega
def a_enough (w : Nat → Nat) (hl : Nat → Nat) (er el key : Nat) : Bool :=
  decide (n_sum (n_kn w) key 3 ≤ w 53) && a_cov (a_cnt hsr hl 6) (a_cnt hbr hl 6 + er) (a_cnt hsl hl 6) el (a_cnt hei hl 6) (n_sum (n_sr w) key 3) (n_sum (n_br w) key 3) (n_sum (n_sl w) key 3) (n_sum (n_bl w) key 3)
section
variable {fi : Nat → Nat → Int32} {fl : Nat → Nat → Int64} {fr : Nat → Nat → Option Nat} {Q : Option Value → Mm → Prop} {w : Nat → Nat} {k : Nat} {M : Mm}
theorem z_CR.frame {fi' : Nat → Nat → Int32} {hl : Nat → Nat} {th : Nat → Bool} {er el n : Nat} (h : z_CR fi hl th er el n) (hf : ∀ j, 62 ≤ j → j ≤ 66 → fi' j = fi j) : z_CR fi' hl th er el n := by
  unfold z_CR at *
  rw [hf 62 (by omega) (by omega), hf 63 (by omega) (by omega), hf 64 (by omega) (by omega), hf 65 (by omega) (by omega), hf 66 (by omega) (by omega)]
  exact h
theorem sp_isEnough (hf : z_FR fr) (hw : a_WF w) {key : Nat} (hkey : key < 64) (hr : z_KR fi 19 w) {hl : Nat → Nat} {th : Nat → Bool} {er el : Nat} (hc : z_CR fi hl th er el 6) (he : er ≤ 1 ∧ el ≤ 1)
    (hQ : ∀ fi', (∀ j, j ≠ 67 → j ≠ 61 → fi' j = fi j) → (∀ f, f ≠ 24 → fi' 61 f = fi 61 f) → Q (some (.int (zB (a_enough w hl er el key)))) (151, fi', fl, fr)) :
    TT 142 0 [some (.ref 61), some (.int (nI key))] [] (151, fi, fl, fr) Q := by
  have o19 : z_ok 151 19 16 = true := rfl; have o61 : z_ok 151 61 12 = true := rfl; have o66 : z_ok 151 66 15 = true := rfl; have o67 : z_ok 151 67 15 = true := rfl
  have zt : zB true = nI 1 := rfl
  have zf : zB false = nI 0 := rfl
  simp (disch := first | assumption | rfl | exact zle_0 | exact zle_1 | exact zle_2 | exact zle_3 | exact zle_4 | exact zb_0 | exact zb_1 | exact zb01_B | omega) only [zT142_0, zr_aload_0, zT142_1, zr_iload_1, zT142_2, zr_iv_143, zcl_i, zcl_r, zcl_l, zcl_n, zv_some, zv_none, Nat.reduceAdd, Nat.reduceMul, Nat.reduceSub, Nat.reduceLT, Nat.reduceLeDiff, Nat.reduceEqDiff, Int.reduceToNat, true_implies, false_implies, implies_true, and_true, true_and, not_true_eq_false, not_false_eq_true, Nat.zero_add, Nat.add_zero, nI_add, nI_ltI, nI_leI, nI_eq, pk_mul, pk_sub, u2_same, u2_row, u2_other]
  refine sp_ask hf hw hkey hr (fun fi1 h1 h2 h3 => ?_)
  have hr1 : z_KR fi1 19 w := hr.fr (fun j j1 j2 => h2 j (by omega) (by omega))
  have hc1 : z_CR fi1 hl th er el 6 := hc.frame (fun j j1 j2 => h2 j (by omega) (by omega))
  have b1 := n_sum_le (f := n_sr w) (key := key) (fun i s hi => (n_le hw hi).1)
  have b2 := n_sum_le (f := n_br w) (key := key) (fun i s hi => (n_le hw hi).2.1)
  have b3 := n_sum_le (f := n_sl w) (key := key) (fun i s hi => (n_le hw hi).2.2.1)
  have b4 := n_sum_le (f := n_bl w) (key := key) (fun i s hi => (n_le hw hi).2.2.2.1)
  have b5 := n_sum_le (f := n_kn w) (key := key) (fun i s hi => (n_le hw hi).2.2.2.2)
  have c1 := a_cnt_le (hl := hl) hsr_le 6
  have c2 := a_cnt_le (hl := hl) hbr_le 6
  have c3 := a_cnt_le (hl := hl) hsl_le 6
  have c4 := a_cnt_le (hl := hl) hei_le 6
  obtain ⟨n1, n2, n3, n4, n5⟩ := h1
  obtain ⟨-, m1, m2, m3, m4, m5⟩ := hc1
  have cov := fun Q => sp_covers (fl := fl) (fr := fr) (Q := Q) o66 o67 m1 m2 m3 m4 m5 n1 n2 n3 n4 (by omega) (by omega)
  have kn := hr1.1.2.2.1
  have hQ1 := hQ fi1 h2 h3
  unfold a_enough at hQ1
  have k6 := hw.2.2.2.2.1
  by_cases hk : n_sum (n_kn w) key 3 ≤ w 53
  · rw [decide_eq_true hk, Bool.true_and] at hQ1
    simp (disch := first | assumption | rfl | exact zle_0 | exact zle_1 | exact zle_2 | exact zle_3 | exact zle_4 | exact zb_0 | exact zb_1 | exact zb01_B | omega) only [zT142_5, zr_aload_0, zT142_6, zr_gf_24, zT142_9, zT142_10, zr_gf_17, zr_or, zr_go, zf_61_17, zT142_13, zr_gf_46, zT142_16, zr_icmp_gt, zT142_19, zT142_20, zr_gf_22, zf_61_22, zT142_23, zT142_24, zr_gf_23, zf_61_23, zT142_27, zr_iv_169, zT142_30, zr_if_eq, zT142_33, zr_ic_1, zT142_34, zr_goto, zT142_37, zr_ic_0, zT142_38, zr_ret1_0, zr_ret1_1, zr_ret1_B, zcl_i, zcl_r, zcl_l, zcl_n, zv_some, zv_none, Nat.reduceAdd, Nat.reduceMul, Nat.reduceSub, Nat.reduceLT, Nat.reduceLeDiff, Nat.reduceEqDiff, Int.reduceToNat, true_implies, false_implies, implies_true, and_true, true_and, not_true_eq_false, not_false_eq_true, Nat.zero_add, Nat.add_zero, nI_add, nI_ltI, nI_leI, nI_eq, pk_mul, pk_sub, u2_same, u2_row, u2_other, n5, kn, cov, zB_eq0, olt_T, olt_F, ole_T, ole_F, oeq_T, oeq_F]
    generalize a_cov (a_cnt hsr hl 6) (a_cnt hbr hl 6 + er) (a_cnt hsl hl 6) el (a_cnt hei hl 6) (n_sum (n_sr w) key 3) (n_sum (n_br w) key 3) (n_sum (n_sl w) key 3) (n_sum (n_bl w) key 3) = x at *
    cases x <;> simp only [true_implies, not_true_eq_false, not_false_eq_true, false_implies, and_true, true_and, reduceCtorEq] <;> exact hQ1
  · rw [decide_eq_false hk, Bool.false_and] at hQ1
    simp (disch := first | assumption | rfl | exact zle_0 | exact zle_1 | exact zle_2 | exact zle_3 | exact zle_4 | exact zb_0 | exact zb_1 | exact zb01_B | omega) only [zT142_5, zr_aload_0, zT142_6, zr_gf_24, zT142_9, zT142_10, zr_gf_17, zr_or, zr_go, zf_61_17, zT142_13, zr_gf_46, zT142_16, zr_icmp_gt, zT142_19, zT142_20, zr_gf_22, zf_61_22, zT142_23, zT142_24, zr_gf_23, zf_61_23, zT142_27, zr_iv_169, zT142_30, zr_if_eq, zT142_33, zr_ic_1, zT142_34, zr_goto, zT142_37, zr_ic_0, zT142_38, zr_ret1_0, zr_ret1_1, zr_ret1_B, zcl_i, zcl_r, zcl_l, zcl_n, zv_some, zv_none, Nat.reduceAdd, Nat.reduceMul, Nat.reduceSub, Nat.reduceLT, Nat.reduceLeDiff, Nat.reduceEqDiff, Int.reduceToNat, true_implies, false_implies, implies_true, and_true, true_and, not_true_eq_false, not_false_eq_true, Nat.zero_add, Nat.add_zero, nI_add, nI_ltI, nI_leI, nI_eq, pk_mul, pk_sub, u2_same, u2_row, u2_other, n5, kn, cov, zB_eq0, olt_T, olt_F, ole_T, ole_F, oeq_T, oeq_F]
    exact hQ1
end
