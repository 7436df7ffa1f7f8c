/-! the law's loop (made by genloop.py) -/
theorem op_of (x : Int32) : ∃ k, k < 32 ∧ x &&& nI 31 = nI k := by
  have e : x = nI x.toBitVec.toNat := by
    rw [← Int32.toBitVec_inj, nI_bv]
    simp
  refine ⟨x.toBitVec.toNat &&& 31, Nat.and_lt_two_pow (n := 5) _ (by decide), ?_⟩
  rw [← b_and, ← e]
theorem few_lt {LL : Nat} (h : LL < 6) {i : Nat} (hi : i < 2 ^ 31) : (nI LL - nI 6 < nI i) = True := by
  have : LL = 0 ∨ LL = 1 ∨ LL = 2 ∨ LL = 3 ∨ LL = 4 ∨ LL = 5 := by omega
  have key : ∀ k, 0 < k → k < 10 → nI LL - nI 6 = nM k → (nI LL - nI 6 < nI i) = True := by
    intro k k0 k1 e
    rw [e]
    refine eq_true ?_
    rw [Int32.lt_iff_toInt_lt, nM_toInt (by omega), nI_toInt hi]
    omega
  rcases this with rfl | rfl | rfl | rfl | rfl | rfl
  · exact key 6 (by decide) (by decide) (by decide)
  · exact key 5 (by decide) (by decide) (by decide)
  · exact key 4 (by decide) (by decide) (by decide)
  · exact key 3 (by decide) (by decide) (by decide)
  · exact key 2 (by decide) (by decide) (by decide)
  · exact key 1 (by decide) (by decide) (by decide)
section
variable {fr : Nat → Nat → Option Nat} {Q : Option Value → Mm → Prop} {LL : Nat} {xs : Nat → Int32}
theorem law_loop (hf : z_FR fr) (hL : LL ≤ 3072) (hQ : ∀ f l, Q (some (.int (nI 1))) (151, f, l, fr)) : ∀ n i, LL < i + n → i < 10000 → ∀ f l, z_Lw LL xs f l → TT 0 18 [some (.ref 0), some (.ref 18), some (.ref 133), some (.int (nI i))] [] (151, f, l, fr) Q := by
  have o18 : z_ok 151 18 10 = true := rfl; have o133 : z_ok 151 133 20 = true := rfl
  intro n
  induction n with
  | zero =>
    intro i hi i4 f l hI
    obtain ⟨ws, nn, tx, hX, hM, hG, h0⟩ := hI
    have sl := fun {n pc Lo_ r f l y pn M Q} => zr_slen (n := n) (pc := pc) (Lo_ := Lo_) (r := r) (f := f) (l := l) (fr := fr) (y := y) (pn := pn) (M := M) (Q := Q) (LL := LL) (xs := xs) hL
    have o := hQ f l
    by_cases c6 : LL < 6
    · have fl := few_lt c6 (i := i) (by omega)
      simp (disch := first | assumption | rfl | exact zle_0 | exact zle_1 | exact zle_2 | exact zle_3 | exact zle_4 | exact zb_0 | exact zb_1 | exact zb01_B | omega) only [zT0_18, zr_iload_3, zT0_19, zr_aload_0, zT0_20, zr_alen, zT0_21, zr_ic_6, zT0_23, zr_isub, zT0_24, zr_icmp_gt, zT0_958, zr_ic_1, zT0_959, zr_ret1_0, zr_ret1_1, zr_ret1_B, zcl_i, zcl_r, zcl_l, zcl_n, zv_some, zv_none, Nat.reduceAdd, Nat.reduceMul, Nat.reduceSub, Nat.reduceLT, Nat.reduceLeDiff, Nat.reduceEqDiff, Int.reduceToNat, true_implies, false_implies, implies_true, and_true, true_and, not_true_eq_false, not_false_eq_true, Nat.zero_add, Nat.add_zero, nI_add, nI_ltI, nI_leI, nI_eq, pk_mul, pk_sub, u2_same, u2_row, u2_other, sl, fl, olt_T, olt_F, ole_T, ole_F, oeq_T, oeq_F]
      exact o
    · have ps : nI LL - nI 6 = nI (LL - 6) := pk_sub (by omega)
      simp (disch := first | assumption | rfl | exact zle_0 | exact zle_1 | exact zle_2 | exact zle_3 | exact zle_4 | exact zb_0 | exact zb_1 | exact zb01_B | omega) only [zT0_18, zr_iload_3, zT0_19, zr_aload_0, zT0_20, zr_alen, zT0_21, zr_ic_6, zT0_23, zr_isub, zT0_24, zr_icmp_gt, zT0_958, zr_ic_1, zT0_959, zr_ret1_0, zr_ret1_1, zr_ret1_B, zcl_i, zcl_r, zcl_l, zcl_n, zv_some, zv_none, Nat.reduceAdd, Nat.reduceMul, Nat.reduceSub, Nat.reduceLT, Nat.reduceLeDiff, Nat.reduceEqDiff, Int.reduceToNat, true_implies, false_implies, implies_true, and_true, true_and, not_true_eq_false, not_false_eq_true, Nat.zero_add, Nat.add_zero, nI_add, nI_ltI, nI_leI, nI_eq, pk_mul, pk_sub, u2_same, u2_row, u2_other, sl, ps, olt_T, olt_F, ole_T, ole_F, oeq_T, oeq_F]
      exact o
  | succ n ih =>
    intro i hi i4 f l hI
    have sl := fun {n pc Lo_ r f l y pn M Q} => zr_slen (n := n) (pc := pc) (Lo_ := Lo_) (r := r) (f := f) (l := l) (fr := fr) (y := y) (pn := pn) (M := M) (Q := Q) (LL := LL) (xs := xs) hL
    have sld := fun {n pc Lo_ r f l y pn M Q j} => zr_sld (n := n) (pc := pc) (Lo_ := Lo_) (r := r) (f := f) (l := l) (fr := fr) (y := y) (pn := pn) (M := M) (Q := Q) (LL := LL) (xs := xs) (i := j) hL
    have o := hQ f l
    have hN : i + 6 ≤ LL → z_Ln LL xs i fr Q := fun hc f2 l2 h2 => by
      have o := ih (i + 6) (by omega) (by omega) f2 l2 h2
      simp (disch := first | assumption | rfl | exact zle_0 | exact zle_1 | exact zle_2 | exact zle_3 | exact zle_4 | exact zb_0 | exact zb_1 | exact zb01_B | omega) only [zT0_952, zr_iinc_3_6, zT0_955, zr_goto, zcl_i, zcl_r, zcl_l, zcl_n, zv_some, zv_none, Nat.reduceAdd, Nat.reduceMul, Nat.reduceSub, Nat.reduceLT, Nat.reduceLeDiff, Nat.reduceEqDiff, Int.reduceToNat, true_implies, false_implies, implies_true, and_true, true_and, not_true_eq_false, not_false_eq_true, Nat.zero_add, Nat.add_zero, nI_add, nI_ltI, nI_leI, nI_eq, pk_mul, pk_sub, u2_same, u2_row, u2_other, olt_T, olt_F, ole_T, ole_F, oeq_T, oeq_F]
      exact o
    have hI' := hI
    obtain ⟨ws, nn, tx, hX, hM, hG, h0⟩ := hI
    by_cases c6 : LL < 6
    · have fl := few_lt c6 (i := i) (by omega)
      simp (disch := first | assumption | rfl | exact zle_0 | exact zle_1 | exact zle_2 | exact zle_3 | exact zle_4 | exact zb_0 | exact zb_1 | exact zb01_B | omega) only [zT0_18, zr_iload_3, zT0_19, zr_aload_0, zT0_20, zr_alen, zT0_21, zr_ic_6, zT0_23, zr_isub, zT0_24, zr_icmp_gt, zT0_958, zr_ic_1, zT0_959, zr_ret1_0, zr_ret1_1, zr_ret1_B, zcl_i, zcl_r, zcl_l, zcl_n, zv_some, zv_none, Nat.reduceAdd, Nat.reduceMul, Nat.reduceSub, Nat.reduceLT, Nat.reduceLeDiff, Nat.reduceEqDiff, Int.reduceToNat, true_implies, false_implies, implies_true, and_true, true_and, not_true_eq_false, not_false_eq_true, Nat.zero_add, Nat.add_zero, nI_add, nI_ltI, nI_leI, nI_eq, pk_mul, pk_sub, u2_same, u2_row, u2_other, sl, fl, olt_T, olt_F, ole_T, ole_F, oeq_T, oeq_F]
      exact o
    · have ps : nI LL - nI 6 = nI (LL - 6) := pk_sub (by omega)
      by_cases c : i + 6 ≤ LL
      · have hN' := hN c
        obtain ⟨k, k32, hk⟩ := op_of (xs i)
        have go : ∀ t, z_tab 952 0 30 #[172, 205, 218, 281, 304, 343, 376, 439, 452, 465, 478, 501, 534, 557, 580, 593, 606, 629, 652, 685, 708, 721, 744, 757, 790, 813, 846, 869, 892, 915, 938] (nI k) = some t → TT 0 t [some (.ref 0), some (.ref 18), some (.ref 133), some (.int (nI i))] [] (151, f, l, fr) Q → TT 0 18 [some (.ref 0), some (.ref 18), some (.ref 133), some (.int (nI i))] [] (151, f, l, fr) Q := by
          intro t ht hT
          simp (disch := first | assumption | rfl | exact zle_0 | exact zle_1 | exact zle_2 | exact zle_3 | exact zle_4 | exact zb_0 | exact zb_1 | exact zb01_B | omega) only [zT0_18, zr_iload_3, zcl_i, zcl_r, zcl_l, zcl_n, zv_some, zv_none, Nat.reduceAdd, Nat.reduceMul, Nat.reduceSub, Nat.reduceLT, Nat.reduceLeDiff, Nat.reduceEqDiff, Int.reduceToNat, true_implies, false_implies, implies_true, and_true, true_and, not_true_eq_false, not_false_eq_true, Nat.zero_add, Nat.add_zero, nI_add, nI_ltI, nI_leI, nI_eq, pk_mul, pk_sub, u2_same, u2_row, u2_other]
          simp (disch := first | assumption | rfl | exact zle_0 | exact zle_1 | exact zle_2 | exact zle_3 | exact zle_4 | exact zb_0 | exact zb_1 | exact zb01_B | omega) only [zT0_19, zr_aload_0, zT0_20, zr_alen, zT0_21, zr_ic_6, zT0_23, zr_isub, zT0_24, zr_icmp_gt, zT0_27, zT0_28, zr_iload_3, zT0_29, zr_iald, zT0_30, zr_ic_31, zT0_32, zr_iand, zcl_i, zcl_r, zcl_l, zcl_n, zv_some, zv_none, Nat.reduceAdd, Nat.reduceMul, Nat.reduceSub, Nat.reduceLT, Nat.reduceLeDiff, Nat.reduceEqDiff, Int.reduceToNat, true_implies, false_implies, implies_true, and_true, true_and, not_true_eq_false, not_false_eq_true, Nat.zero_add, Nat.add_zero, nI_add, nI_ltI, nI_leI, nI_eq, pk_mul, pk_sub, u2_same, u2_row, u2_other, sl, ps, sld, hk, olt_T, olt_F, ole_T, ole_F, oeq_T, oeq_F]
          rw [zT0_33, zr_tab, ht]
          exact hT
        have : k = 0 ∨ k = 1 ∨ k = 2 ∨ k = 3 ∨ k = 4 ∨ k = 5 ∨ k = 6 ∨ k = 7 ∨ k = 8 ∨ k = 9 ∨ k = 10 ∨ k = 11 ∨ k = 12 ∨ k = 13 ∨ k = 14 ∨ k = 15 ∨ k = 16 ∨ k = 17 ∨ k = 18 ∨ k = 19 ∨ k = 20 ∨ k = 21 ∨ k = 22 ∨ k = 23 ∨ k = 24 ∨ k = 25 ∨ k = 26 ∨ k = 27 ∨ k = 28 ∨ k = 29 ∨ k = 30 ∨ k = 31 := by omega
        rcases this with rfl | rfl | rfl | rfl | rfl | rfl | rfl | rfl | rfl | rfl | rfl | rfl | rfl | rfl | rfl | rfl | rfl | rfl | rfl | rfl | rfl | rfl | rfl | rfl | rfl | rfl | rfl | rfl | rfl | rfl | rfl | rfl
        · exact go 172 (by decide +kernel) (lc_cook hf hL c hX hM hG h0 hN')
        · exact go 205 (by decide +kernel) (lc_dish hf hL c hX hM hG h0 hN')
        · exact go 218 (by decide +kernel) (lc_step hf hL c hX hM hG h0 hN')
        · exact go 281 (by decide +kernel) (lc_knives hf hL c hX hM hG h0 hN')
        · exact go 304 (by decide +kernel) (lc_strike hf hL c hX hM hG h0 hN')
        · exact go 343 (by decide +kernel) (lc_hands hf hL c hX hM hG h0 hN')
        · exact go 376 (by decide +kernel) (lc_type hf hL c hX hM hG h0 hN')
        · exact go 439 (by decide +kernel) (lc_clear hf hL c hX hM hG h0 hN')
        · exact go 452 (by decide +kernel) (lc_read hf hL c hX hM hG h0 hN')
        · exact go 465 (by decide +kernel) (lc_soonest hf hL c hX hM hG h0 hN')
        · exact go 478 (by decide +kernel) (lc_row hf hL c hX hM hG h0 hN')
        · exact go 501 (by decide +kernel) (lc_whose hf hL c hX hM hG h0 hN')
        · exact go 534 (by decide +kernel) (lc_cold hf hL c hX hM hG h0 hN')
        · exact go 557 (by decide +kernel) (lc_help hf hL c hX hM hG h0 hN')
        · exact go 580 (by decide +kernel) (lc_spared hf hL c hX hM hG h0 hN')
        · exact go 593 (by decide +kernel) (lc_strikeCost hf hL c hX hM hG h0 hN')
        · exact go 606 (by decide +kernel) (lc_menu hf hL c hX hM hG h0 hN')
        · exact go 629 (by decide +kernel) (lc_burns hf hL c hX hM hG h0 hN')
        · exact go 652 (by decide +kernel) (lc_drawn hf hL c hX hM hG h0 hN')
        · exact go 685 (by decide +kernel) (lc_letGo hf hL c hX hM hG h0 hN')
        · exact go 708 (by decide +kernel) (lc_wages hf hL c hX hM hG h0 hN')
        · exact go 721 (by decide +kernel) (lc_cooked hf hL c hX hM hG h0 hN')
        · exact go 744 (by decide +kernel) (lc_undo hf hL c hX hM hG h0 hN')
        · exact go 757 (by decide +kernel) (lc_state hf hL c hX hM hG h0 hN')
        · exact go 790 (by decide +kernel) (lc_sign hf hL c hX hM hG h0 hN')
        · exact go 813 (by decide +kernel) (lc_limb hf hL c hX hM hG h0 hN')
        · exact go 846 (by decide +kernel) (lc_image hf hL c hX hM hG h0 hN')
        · exact go 869 (by decide +kernel) (lc_from hf hL c hX hM hG h0 hN')
        · exact go 892 (by decide +kernel) (lc_status hf hL c hX hM hG h0 hN')
        · exact go 915 (by decide +kernel) (lc_count hf hL c hX hM hG h0 hN')
        · exact go 938 (by decide +kernel) (lc_digest hf hL c hX hM hG h0 hN')
        · exact go 952 (by decide +kernel) (hN' f l hI')
      · simp (disch := first | assumption | rfl | exact zle_0 | exact zle_1 | exact zle_2 | exact zle_3 | exact zle_4 | exact zb_0 | exact zb_1 | exact zb01_B | omega) only [zT0_18, zr_iload_3, zT0_19, zr_aload_0, zT0_20, zr_alen, zT0_21, zr_ic_6, zT0_23, zr_isub, zT0_24, zr_icmp_gt, zT0_958, zr_ic_1, zT0_959, zr_ret1_0, zr_ret1_1, zr_ret1_B, zcl_i, zcl_r, zcl_l, zcl_n, zv_some, zv_none, Nat.reduceAdd, Nat.reduceMul, Nat.reduceSub, Nat.reduceLT, Nat.reduceLeDiff, Nat.reduceEqDiff, Int.reduceToNat, true_implies, false_implies, implies_true, and_true, true_and, not_true_eq_false, not_false_eq_true, Nat.zero_add, Nat.add_zero, nI_add, nI_ltI, nI_leI, nI_eq, pk_mul, pk_sub, u2_same, u2_row, u2_other, sl, ps, olt_T, olt_F, ole_T, ole_F, oeq_T, oeq_F]
        exact o
end
