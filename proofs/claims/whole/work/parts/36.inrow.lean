/-! one of the row of cooks -/
section
variable {fi : Nat → Nat → Int32} {fl : Nat → Nat → Int64} {fr : Nat → Nat → Option Nat} {Q : Option Value → Mm → Prop} {w : Nat → Nat} {k : Nat} {M : Mm}
theorem sp_inRow (hf : z_FR fr) {n : Nat} (hn : n ≤ 18) (hl : fi 61 26 = nI n) {j : Nat} (hj : j < n) : TT 147 0 [some (.ref 61), some (.int (nI j))] [] (151, fi, fl, fr) Q = Q (some (.int (fi 68 j))) (151, fi, fl, fr) := by
  refine T_exact (fun Q hQ => ?_) Q
  have o61 : z_ok 151 61 12 = true := rfl; have o68 : z_ok 151 68 1 = true := rfl
  have l68 : z_al 68 = 18 := rfl
  simp (disch := first | assumption | rfl | exact zle_0 | exact zle_1 | exact zle_2 | exact zle_3 | exact zle_4 | exact zb_0 | exact zb_1 | exact zb01_B | omega) only [zT147_0, zr_iload_1, zT147_1, zr_if_lt, zT147_4, zT147_5, zr_aload_0, zT147_6, zr_gf_26, zT147_9, zr_icmp_ge, zT147_12, zT147_13, zr_gf_25, zr_or, zr_go, zf_61_25, zT147_16, zT147_17, zr_iald, zT147_18, zr_goto, zT147_21, zr_ic_m5, zT147_23, zr_ret0, zcl_i, zcl_r, zcl_l, zcl_n, zv_some, zv_none, Nat.reduceAdd, Nat.reduceMul, Nat.reduceSub, Nat.reduceLT, Nat.reduceLeDiff, Nat.reduceEqDiff, Int.reduceToNat, true_implies, false_implies, implies_true, and_true, true_and, not_true_eq_false, not_false_eq_true, Nat.zero_add, Nat.add_zero, nI_add, nI_ltI, nI_leI, nI_eq, pk_mul, pk_sub, u2_same, u2_row, u2_other, hl, olt_T, olt_F, ole_T, ole_F, oeq_T, oeq_F]
  exact hQ
theorem sp_inRow_few (hf : z_FR fr) {n : Nat} (hn : n ≤ 18) (hl : fi 61 26 = nI n) {j : Nat} (hj : n ≤ j) (hj2 : j < 2 ^ 31) : TT 147 0 [some (.ref 61), some (.int (nI j))] [] (151, fi, fl, fr) Q = Q (some (.int (nM 5))) (151, fi, fl, fr) := by
  refine T_exact (fun Q hQ => ?_) Q
  have o61 : z_ok 151 61 12 = true := rfl; have o68 : z_ok 151 68 1 = true := rfl
  have l68 : z_al 68 = 18 := rfl
  simp (disch := first | assumption | rfl | exact zle_0 | exact zle_1 | exact zle_2 | exact zle_3 | exact zle_4 | exact zb_0 | exact zb_1 | exact zb01_B | omega) only [zT147_0, zr_iload_1, zT147_1, zr_if_lt, zT147_4, zT147_5, zr_aload_0, zT147_6, zr_gf_26, zT147_9, zr_icmp_ge, zT147_12, zT147_13, zr_gf_25, zr_or, zr_go, zf_61_25, zT147_16, zT147_17, zr_iald, zT147_18, zr_goto, zT147_21, zr_ic_m5, zT147_23, zr_ret0, zcl_i, zcl_r, zcl_l, zcl_n, zv_some, zv_none, Nat.reduceAdd, Nat.reduceMul, Nat.reduceSub, Nat.reduceLT, Nat.reduceLeDiff, Nat.reduceEqDiff, Int.reduceToNat, true_implies, false_implies, implies_true, and_true, true_and, not_true_eq_false, not_false_eq_true, Nat.zero_add, Nat.add_zero, nI_add, nI_ltI, nI_leI, nI_eq, pk_mul, pk_sub, u2_same, u2_row, u2_other, hl, olt_T, olt_F, ole_T, ole_F, oeq_T, oeq_F]
  exact hQ
end
