/-! the planner's row -/
def pop (v : Nat) : Nat := v % 2 + v / 2 % 2 + v / 4 % 2 + v / 8 % 2 + v / 16 % 2 + v / 32 % 2
theorem ziq {Q : Option Value → Mm → Prop} {M : Mm} {x y : Int32} (h : x = y) (hQ : Q (some (.int x)) M) : Q (some (.int y)) M := h ▸ hQ
def c3 (g : Nat → Nat) (i : Nat) : Nat → Nat → Nat
  | 0, _ => 0
  | m + 1, e => g (3 * i + e) + c3 g i m (e + 1)
def cN (g : Nat → Nat) : Nat → Nat → Nat
  | 0, _ => 0
  | n + 1, i => c3 g i 3 0 + cN g n (i + 1)
/-- n minutes, the cooks by place -/
def z_RW (fi : Nat → Nat → Int32) (n : Nat) (tm : Nat → Nat) : Prop := n ≤ 45 ∧ fi 71 70 = nI n ∧ ∀ p, p < 3 * n → tm p < 64 ∧ fi 73 p = nI (tm p)
def shd (tm : Nat → Nat) (p : Nat) : Bool := decide (2 ≤ pop (tm p))
section
variable {fi : Nat → Nat → Int32} {fl : Nat → Nat → Int64} {fr : Nat → Nat → Option Nat} {Q : Option Value → Mm → Prop} {w : Nat → Nat} {k : Nat} {M : Mm} {tm : Nat → Nat} {n : Nat}
theorem sp_bitCount {v : Nat} (hv : v < 64) : TT 238 0 [some (.int (nI v))] [] M Q = Q (some (.int (nI (pop v)))) M := by
  refine T_exact (fun Q hQ => ?_) Q
  obtain ⟨nx, fi, fl, fr⟩ := M
  simp (disch := first | assumption | rfl | exact zle_0 | exact zle_1 | exact zle_2 | exact zle_3 | exact zle_4 | exact zb_0 | exact zb_1 | exact zb01_B | omega) only [zT238_0, zr_iload_0, zT238_1, zT238_2, zr_ic_1, zT238_3, zr_iushr, zT238_4, zr_ic_1431655765, zT238_7, zr_iand, zT238_8, zr_isub, zT238_9, zr_istore_0, zT238_10, zT238_11, zr_ic_858993459, zT238_14, zT238_15, zT238_16, zr_ic_2, zT238_17, zT238_18, zT238_21, zT238_22, zr_iadd, zT238_23, zT238_24, zT238_25, zT238_26, zr_ic_4, zT238_27, zT238_28, zT238_29, zr_ic_252645135, zT238_32, zT238_33, zT238_34, zT238_35, zT238_36, zr_ic_8, zT238_38, zT238_39, zT238_40, zT238_41, zT238_42, zT238_43, zr_ic_16, zT238_45, zT238_46, zT238_47, zT238_48, zT238_49, zr_ic_63, zT238_51, zT238_52, zr_ret0, zcl_i, zcl_r, zcl_l, zcl_n, zv_some, zv_none, Nat.reduceAdd, Nat.reduceMul, Nat.reduceSub, Nat.reduceLT, Nat.reduceLeDiff, Nat.reduceEqDiff, Int.reduceToNat, true_implies, false_implies, implies_true, and_true, true_and, not_true_eq_false, not_false_eq_true, Nat.zero_add, Nat.add_zero, nI_add, nI_ltI, nI_leI, nI_eq, pk_mul, pk_sub, u2_same, u2_row, u2_other]
  refine ziq ?_ hQ
  clear hQ
  revert v
  decide +kernel
theorem sp_teamAt (hf : z_FR fr) (h : z_RW fi n tm) {i e : Nat} (hi : i < n) (he : e < 3) : TT 232 0 [some (.ref 71), some (.int (nI i)), some (.int (nI e)), none] [] (151, fi, fl, fr) Q = Q (some (.int (nI (tm (3 * i + e))))) (151, fi, fl, fr) := by
  refine T_exact (fun Q hQ => ?_) Q
  have o71 : z_ok 151 71 19 = true := rfl; have o73 : z_ok 151 73 1 = true := rfl
  have l73 : z_al 73 = 135 := rfl
  obtain ⟨h45, hn, ht⟩ := h
  have t := (ht (3 * i + e) (by omega)).2
  have em : i * 3 + e = 3 * i + e := by omega
  simp (disch := first | assumption | rfl | exact zle_0 | exact zle_1 | exact zle_2 | exact zle_3 | exact zle_4 | exact zb_0 | exact zb_1 | exact zb01_B | omega) only [zT232_0, zr_iload_1, zT232_1, zr_ic_3, zT232_2, zr_imul, zT232_3, zr_iload_2, zT232_4, zr_iadd, zT232_5, zr_istore_3, zT232_6, zr_iload_3, zT232_7, zr_if_lt, zT232_10, zT232_11, zr_aload_0, zT232_12, zr_gf_69, zr_or, zr_go, zf_71_69, zT232_15, zr_alen, zT232_16, zr_icmp_ge, zT232_19, zT232_20, zT232_23, zT232_24, zr_iald, zT232_25, zr_goto, zT232_28, zr_ic_0, zT232_29, zr_ret0, zcl_i, zcl_r, zcl_l, zcl_n, zv_some, zv_none, Nat.reduceAdd, Nat.reduceMul, Nat.reduceSub, Nat.reduceLT, Nat.reduceLeDiff, Nat.reduceEqDiff, Int.reduceToNat, true_implies, false_implies, implies_true, and_true, true_and, not_true_eq_false, not_false_eq_true, Nat.zero_add, Nat.add_zero, nI_add, nI_ltI, nI_leI, nI_eq, pk_mul, pk_sub, u2_same, u2_row, u2_other, em, t, olt_T, olt_F, ole_T, ole_F, oeq_T, oeq_F]
  exact hQ
theorem sp_isShared (hf : z_FR fr) (h : z_RW fi n tm) {i e : Nat} (hi : i < n) (he : e < 3) : TT 233 0 [some (.ref 71), some (.int (nI i)), some (.int (nI e))] [] (151, fi, fl, fr) Q = Q (some (.int (zB (shd tm (3 * i + e))))) (151, fi, fl, fr) := by
  refine T_exact (fun Q hQ => ?_) Q
  have o71 : z_ok 151 71 19 = true := rfl; have o73 : z_ok 151 73 1 = true := rfl
  have ta := fun Q => sp_teamAt (fl := fl) (Q := Q) hf h hi he
  have t := (h.2.2 (3 * i + e) (by omega)).1
  have bc := fun M Q => sp_bitCount (M := M) (Q := Q) t
  have pl : pop (tm (3 * i + e)) ≤ 6 := by unfold pop; omega
  unfold shd at hQ
  simp (disch := first | assumption | rfl | exact zle_0 | exact zle_1 | exact zle_2 | exact zle_3 | exact zle_4 | exact zb_0 | exact zb_1 | exact zb01_B | omega) only [zT233_0, zr_aload_0, zT233_1, zr_iload_1, zT233_2, zr_iload_2, zT233_3, zr_iv_232, zT233_6, zr_iv_238, zT233_9, zr_ic_2, zT233_10, zr_icmp_lt, zT233_13, zr_ic_1, zT233_14, zr_goto, zT233_17, zr_ic_0, zT233_18, zr_ret1_0, zr_ret1_1, zr_ret1_B, zcl_i, zcl_r, zcl_l, zcl_n, zv_some, zv_none, Nat.reduceAdd, Nat.reduceMul, Nat.reduceSub, Nat.reduceLT, Nat.reduceLeDiff, Nat.reduceEqDiff, Int.reduceToNat, true_implies, false_implies, implies_true, and_true, true_and, not_true_eq_false, not_false_eq_true, Nat.zero_add, Nat.add_zero, nI_add, nI_ltI, nI_leI, nI_eq, pk_mul, pk_sub, u2_same, u2_row, u2_other, ta, bc]
  repeat' first | intro _ | apply And.intro
  · rw [decide_eq_false (by omega)] at hQ; exact hQ
  · rw [decide_eq_true (by omega)] at hQ; exact hQ
def shN (tm : Nat → Nat) (p : Nat) : Nat := if shd tm p then 1 else 0
theorem sp_cs3 (hf : z_FR fr) (h : z_RW fi n tm) {i : Nat} (hi : i < n) : ∀ m e, e + m = 3 → ∀ acc, TT 234 14 [some (.ref 71), some (.int (nI acc)), some (.int (nI i)), some (.int (nI e))] [] (151, fi, fl, fr) Q = TT 234 42 [some (.ref 71), some (.int (nI (acc + c3 (shN tm) i m e))), some (.int (nI i)), some (.int (nI 3))] [] (151, fi, fl, fr) Q := by
  have o71 : z_ok 151 71 19 = true := rfl; have o73 : z_ok 151 73 1 = true := rfl
  intro m
  induction m with
  | zero =>
    intro e he acc
    obtain rfl : e = 3 := by omega
    simp (disch := first | assumption | rfl | exact zle_0 | exact zle_1 | exact zle_2 | exact zle_3 | exact zle_4 | exact zb_0 | exact zb_1 | exact zb01_B | omega) only [zT234_14, zr_iload_3, zT234_15, zr_ic_3, zT234_16, zr_icmp_ge, zcl_i, zcl_r, zcl_l, zcl_n, zv_some, zv_none, Nat.reduceAdd, Nat.reduceMul, Nat.reduceSub, Nat.reduceLT, Nat.reduceLeDiff, Nat.reduceEqDiff, Int.reduceToNat, true_implies, false_implies, implies_true, and_true, true_and, not_true_eq_false, not_false_eq_true, Nat.zero_add, Nat.add_zero, nI_add, nI_ltI, nI_leI, nI_eq, pk_mul, pk_sub, u2_same, u2_row, u2_other, olt_T, olt_F, ole_T, ole_F, oeq_T, oeq_F]
    rfl
  | succ m ih =>
    intro e he acc
    have sh := fun Q => sp_isShared (fl := fl) (Q := Q) hf h hi (show e < 3 by omega)
    have ih' := ih (e + 1) (by omega)
    have r : ∀ x, c3 x i (m + 1) e = x (3 * i + e) + c3 x i m (e + 1) := fun _ => rfl
    rw [r, ← Nat.add_assoc]
    clear r
    unfold shN at ih' ⊢
    simp (disch := first | assumption | rfl | exact zle_0 | exact zle_1 | exact zle_2 | exact zle_3 | exact zle_4 | exact zb_0 | exact zb_1 | exact zb01_B | omega) only [zT234_14, zr_iload_3, zcl_i, zcl_r, zcl_l, zcl_n, zv_some, zv_none, Nat.reduceAdd, Nat.reduceMul, Nat.reduceSub, Nat.reduceLT, Nat.reduceLeDiff, Nat.reduceEqDiff, Int.reduceToNat, true_implies, false_implies, implies_true, and_true, true_and, not_true_eq_false, not_false_eq_true, Nat.zero_add, Nat.add_zero, nI_add, nI_ltI, nI_leI, nI_eq, pk_mul, pk_sub, u2_same, u2_row, u2_other]
    cases hs : shd tm (3 * i + e)
    · rw [hs] at sh
      simp (disch := first | assumption | rfl | exact zle_0 | exact zle_1 | exact zle_2 | exact zle_3 | exact zle_4 | exact zb_0 | exact zb_1 | exact zb01_B | omega) only [zT234_15, zr_ic_3, zT234_16, zr_icmp_ge, zT234_19, zr_iload_1, zT234_20, zr_aload_0, zT234_21, zr_iload_2, zT234_22, zr_iload_3, zT234_23, zr_iv_233, zT234_26, zr_if_eq, zT234_29, zr_ic_1, zT234_30, zr_goto, zT234_33, zr_ic_0, zT234_34, zr_iadd, zT234_35, zr_istore_1, zT234_36, zr_iinc_3_1, zT234_39, zcl_i, zcl_r, zcl_l, zcl_n, zv_some, zv_none, Nat.reduceAdd, Nat.reduceMul, Nat.reduceSub, Nat.reduceLT, Nat.reduceLeDiff, Nat.reduceEqDiff, Int.reduceToNat, true_implies, false_implies, implies_true, and_true, true_and, not_true_eq_false, not_false_eq_true, Nat.zero_add, Nat.add_zero, nI_add, nI_ltI, nI_leI, nI_eq, pk_mul, pk_sub, u2_same, u2_row, u2_other, sh, zB_eq0, ih', if_false, Bool.false_eq_true, olt_T, olt_F, ole_T, ole_F, oeq_T, oeq_F]
    · rw [hs] at sh
      simp (disch := first | assumption | rfl | exact zle_0 | exact zle_1 | exact zle_2 | exact zle_3 | exact zle_4 | exact zb_0 | exact zb_1 | exact zb01_B | omega) only [zT234_15, zr_ic_3, zT234_16, zr_icmp_ge, zT234_19, zr_iload_1, zT234_20, zr_aload_0, zT234_21, zr_iload_2, zT234_22, zr_iload_3, zT234_23, zr_iv_233, zT234_26, zr_if_eq, zT234_29, zr_ic_1, zT234_30, zr_goto, zT234_33, zr_ic_0, zT234_34, zr_iadd, zT234_35, zr_istore_1, zT234_36, zr_iinc_3_1, zT234_39, zcl_i, zcl_r, zcl_l, zcl_n, zv_some, zv_none, Nat.reduceAdd, Nat.reduceMul, Nat.reduceSub, Nat.reduceLT, Nat.reduceLeDiff, Nat.reduceEqDiff, Int.reduceToNat, true_implies, false_implies, implies_true, and_true, true_and, not_true_eq_false, not_false_eq_true, Nat.zero_add, Nat.add_zero, nI_add, nI_ltI, nI_leI, nI_eq, pk_mul, pk_sub, u2_same, u2_row, u2_other, sh, zB_eq0, ih', if_true, reduceCtorEq, olt_T, olt_F, ole_T, ole_F, oeq_T, oeq_F]
theorem sp_csN (hf : z_FR fr) (h : z_RW fi n tm) : ∀ m i, i + m = n → ∀ acc (v : Option Value), TT 234 4 [some (.ref 71), some (.int (nI acc)), some (.int (nI i)), v] [] (151, fi, fl, fr) Q = Q (some (.int (nI (acc + cN (shN tm) m i)))) (151, fi, fl, fr) := by
  have o71 : z_ok 151 71 19 = true := rfl; have o73 : z_ok 151 73 1 = true := rfl
  have hn := h.2.1
  have h45 := h.1
  intro m
  induction m with
  | zero =>
    intro i he acc v
    obtain rfl : i = n := by omega
    simp (disch := first | assumption | rfl | exact zle_0 | exact zle_1 | exact zle_2 | exact zle_3 | exact zle_4 | exact zb_0 | exact zb_1 | exact zb01_B | omega) only [zT234_4, zr_iload_2, zT234_5, zr_aload_0, zT234_6, zr_gf_70, zT234_9, zr_icmp_ge, zT234_48, zr_iload_1, zT234_49, zr_ret0, zcl_i, zcl_r, zcl_l, zcl_n, zv_some, zv_none, Nat.reduceAdd, Nat.reduceMul, Nat.reduceSub, Nat.reduceLT, Nat.reduceLeDiff, Nat.reduceEqDiff, Int.reduceToNat, true_implies, false_implies, implies_true, and_true, true_and, not_true_eq_false, not_false_eq_true, Nat.zero_add, Nat.add_zero, nI_add, nI_ltI, nI_leI, nI_eq, pk_mul, pk_sub, u2_same, u2_row, u2_other, hn, olt_T, olt_F, ole_T, ole_F, oeq_T, oeq_F]
    rfl
  | succ m ih =>
    intro i he acc v
    have ih' := ih (i + 1) (by omega)
    have s3 := sp_cs3 (fl := fl) (Q := Q) hf h (show i < n by omega) 3 0 rfl
    have r : cN (shN tm) (m + 1) i = c3 (shN tm) i 3 0 + cN (shN tm) m (i + 1) := rfl
    rw [r, ← Nat.add_assoc]
    clear r
    generalize c3 (shN tm) i 3 0 = x3 at s3 ⊢
    generalize cN (shN tm) m (i + 1) = xN at ih' ⊢
    simp (disch := first | assumption | rfl | exact zle_0 | exact zle_1 | exact zle_2 | exact zle_3 | exact zle_4 | exact zb_0 | exact zb_1 | exact zb01_B | omega) only [zT234_4, zr_iload_2, zcl_i, zcl_r, zcl_l, zcl_n, zv_some, zv_none, Nat.reduceAdd, Nat.reduceMul, Nat.reduceSub, Nat.reduceLT, Nat.reduceLeDiff, Nat.reduceEqDiff, Int.reduceToNat, true_implies, false_implies, implies_true, and_true, true_and, not_true_eq_false, not_false_eq_true, Nat.zero_add, Nat.add_zero, nI_add, nI_ltI, nI_leI, nI_eq, pk_mul, pk_sub, u2_same, u2_row, u2_other]
    simp (disch := first | assumption | rfl | exact zle_0 | exact zle_1 | exact zle_2 | exact zle_3 | exact zle_4 | exact zb_0 | exact zb_1 | exact zb01_B | omega) only [zT234_5, zr_aload_0, zT234_6, zr_gf_70, zT234_9, zr_icmp_ge, zT234_12, zr_ic_0, zT234_13, zr_istore_3, zcl_i, zcl_r, zcl_l, zcl_n, zv_some, zv_none, Nat.reduceAdd, Nat.reduceMul, Nat.reduceSub, Nat.reduceLT, Nat.reduceLeDiff, Nat.reduceEqDiff, Int.reduceToNat, true_implies, false_implies, implies_true, and_true, true_and, not_true_eq_false, not_false_eq_true, Nat.zero_add, Nat.add_zero, nI_add, nI_ltI, nI_leI, nI_eq, pk_mul, pk_sub, u2_same, u2_row, u2_other, hn, olt_T, olt_F, ole_T, ole_F, oeq_T, oeq_F]
    rw [s3]
    simp (disch := first | assumption | rfl | exact zle_0 | exact zle_1 | exact zle_2 | exact zle_3 | exact zle_4 | exact zb_0 | exact zb_1 | exact zb01_B | omega) only [zT234_42, zr_iinc_2_1, zT234_45, zr_goto, zcl_i, zcl_r, zcl_l, zcl_n, zv_some, zv_none, Nat.reduceAdd, Nat.reduceMul, Nat.reduceSub, Nat.reduceLT, Nat.reduceLeDiff, Nat.reduceEqDiff, Int.reduceToNat, true_implies, false_implies, implies_true, and_true, true_and, not_true_eq_false, not_false_eq_true, Nat.zero_add, Nat.add_zero, nI_add, nI_ltI, nI_leI, nI_eq, pk_mul, pk_sub, u2_same, u2_row, u2_other, olt_T, olt_F, ole_T, ole_F, oeq_T, oeq_F]
    exact ih' _ _
theorem sp_countShared (hf : z_FR fr) (h : z_RW fi n tm) : TT 234 0 [some (.ref 71), none, none, none] [] (151, fi, fl, fr) Q = Q (some (.int (nI (cN (shN tm) n 0)))) (151, fi, fl, fr) := by
  have s := sp_csN (fl := fl) (Q := Q) hf h n 0 (Nat.zero_add _)
  simp (disch := first | assumption | rfl | exact zle_0 | exact zle_1 | exact zle_2 | exact zle_3 | exact zle_4 | exact zb_0 | exact zb_1 | exact zb01_B | omega) only [zT234_0, zr_ic_0, zT234_1, zr_istore_1, zT234_2, zT234_3, zr_istore_2, zcl_i, zcl_r, zcl_l, zcl_n, zv_some, zv_none, Nat.reduceAdd, Nat.reduceMul, Nat.reduceSub, Nat.reduceLT, Nat.reduceLeDiff, Nat.reduceEqDiff, Int.reduceToNat, true_implies, false_implies, implies_true, and_true, true_and, not_true_eq_false, not_false_eq_true, Nat.zero_add, Nat.add_zero, nI_add, nI_ltI, nI_leI, nI_eq, pk_mul, pk_sub, u2_same, u2_row, u2_other, s]
def shB (tm : Nat → Nat) (c p : Nat) : Nat := if shd tm p && a_bit (tm p) c then 1 else 0
theorem sp_cb3 (hf : z_FR fr) (h : z_RW fi n tm) {c : Nat} (hc : c < 6) {i : Nat} (hi : i < n) : ∀ m e, e + m = 3 → ∀ acc, TT 235 15 [some (.ref 71), some (.int (nI c)), some (.int (nI acc)), some (.int (nI i)), some (.int (nI e))] [] (151, fi, fl, fr) Q = TT 235 59 [some (.ref 71), some (.int (nI c)), some (.int (nI (acc + c3 (shB tm c) i m e))), some (.int (nI i)), some (.int (nI 3))] [] (151, fi, fl, fr) Q := by
  have o71 : z_ok 151 71 19 = true := rfl; have o73 : z_ok 151 73 1 = true := rfl
  intro m
  induction m with
  | zero =>
    intro e he acc
    obtain rfl : e = 3 := by omega
    simp (disch := first | assumption | rfl | exact zle_0 | exact zle_1 | exact zle_2 | exact zle_3 | exact zle_4 | exact zb_0 | exact zb_1 | exact zb01_B | omega) only [zT235_15, zr_iload_4, zT235_17, zr_ic_3, zT235_18, zr_icmp_ge, zcl_i, zcl_r, zcl_l, zcl_n, zv_some, zv_none, Nat.reduceAdd, Nat.reduceMul, Nat.reduceSub, Nat.reduceLT, Nat.reduceLeDiff, Nat.reduceEqDiff, Int.reduceToNat, true_implies, false_implies, implies_true, and_true, true_and, not_true_eq_false, not_false_eq_true, Nat.zero_add, Nat.add_zero, nI_add, nI_ltI, nI_leI, nI_eq, pk_mul, pk_sub, u2_same, u2_row, u2_other, olt_T, olt_F, ole_T, ole_F, oeq_T, oeq_F]
    rfl
  | succ m ih =>
    intro e he acc
    have sh := fun Q => sp_isShared (fl := fl) (Q := Q) hf h hi (show e < 3 by omega)
    have ta := fun Q => sp_teamAt (fl := fl) (Q := Q) hf h hi (show e < 3 by omega)
    have tl := (h.2.2 (3 * i + e) (by omega)).1
    have bi := fun M Q => sp_isIn (M := M) (Q := Q) (b := tm (3 * i + e)) (d := c) (by omega) (by omega)
    have ih' := ih (e + 1) (by omega)
    have r : ∀ x, c3 x i (m + 1) e = x (3 * i + e) + c3 x i m (e + 1) := fun _ => rfl
    rw [r, ← Nat.add_assoc]
    clear r
    unfold shB at ih' ⊢
    simp (disch := first | assumption | rfl | exact zle_0 | exact zle_1 | exact zle_2 | exact zle_3 | exact zle_4 | exact zb_0 | exact zb_1 | exact zb01_B | omega) only [zT235_15, zr_iload_4, zcl_i, zcl_r, zcl_l, zcl_n, zv_some, zv_none, Nat.reduceAdd, Nat.reduceMul, Nat.reduceSub, Nat.reduceLT, Nat.reduceLeDiff, Nat.reduceEqDiff, Int.reduceToNat, true_implies, false_implies, implies_true, and_true, true_and, not_true_eq_false, not_false_eq_true, Nat.zero_add, Nat.add_zero, nI_add, nI_ltI, nI_leI, nI_eq, pk_mul, pk_sub, u2_same, u2_row, u2_other]
    cases hs : shd tm (3 * i + e)
    · rw [hs] at sh
      simp (disch := first | assumption | rfl | exact zle_0 | exact zle_1 | exact zle_2 | exact zle_3 | exact zle_4 | exact zb_0 | exact zb_1 | exact zb01_B | omega) only [zT235_17, zr_ic_3, zT235_18, zr_icmp_ge, zT235_21, zr_iload_2, zT235_22, zr_aload_0, zT235_23, zr_iload_3, zT235_24, zr_iload_4, zT235_26, zr_iv_233, zT235_29, zr_if_eq, zT235_32, zT235_33, zT235_34, zT235_36, zr_iv_232, zT235_39, zr_iload_1, zT235_40, zr_iv_119, zT235_43, zT235_46, zr_ic_1, zT235_47, zr_goto, zT235_50, zr_ic_0, zT235_51, zr_iadd, zT235_52, zr_istore_2, zT235_53, zr_iinc_4_1, zT235_56, zcl_i, zcl_r, zcl_l, zcl_n, zv_some, zv_none, Nat.reduceAdd, Nat.reduceMul, Nat.reduceSub, Nat.reduceLT, Nat.reduceLeDiff, Nat.reduceEqDiff, Int.reduceToNat, true_implies, false_implies, implies_true, and_true, true_and, not_true_eq_false, not_false_eq_true, Nat.zero_add, Nat.add_zero, nI_add, nI_ltI, nI_leI, nI_eq, pk_mul, pk_sub, u2_same, u2_row, u2_other, sh, zB_eq0, ih', if_false, Bool.false_eq_true, Bool.false_and, olt_T, olt_F, ole_T, ole_F, oeq_T, oeq_F]
    · rw [hs] at sh
      cases hb : a_bit (tm (3 * i + e)) c
      · rw [hb] at bi
        simp (disch := first | assumption | rfl | exact zle_0 | exact zle_1 | exact zle_2 | exact zle_3 | exact zle_4 | exact zb_0 | exact zb_1 | exact zb01_B | omega) only [zT235_17, zr_ic_3, zT235_18, zr_icmp_ge, zT235_21, zr_iload_2, zT235_22, zr_aload_0, zT235_23, zr_iload_3, zT235_24, zr_iload_4, zT235_26, zr_iv_233, zT235_29, zr_if_eq, zT235_32, zT235_33, zT235_34, zT235_36, zr_iv_232, zT235_39, zr_iload_1, zT235_40, zr_iv_119, zT235_43, zT235_46, zr_ic_1, zT235_47, zr_goto, zT235_50, zr_ic_0, zT235_51, zr_iadd, zT235_52, zr_istore_2, zT235_53, zr_iinc_4_1, zT235_56, zcl_i, zcl_r, zcl_l, zcl_n, zv_some, zv_none, Nat.reduceAdd, Nat.reduceMul, Nat.reduceSub, Nat.reduceLT, Nat.reduceLeDiff, Nat.reduceEqDiff, Int.reduceToNat, true_implies, false_implies, implies_true, and_true, true_and, not_true_eq_false, not_false_eq_true, Nat.zero_add, Nat.add_zero, nI_add, nI_ltI, nI_leI, nI_eq, pk_mul, pk_sub, u2_same, u2_row, u2_other, sh, ta, bi, zB_eq0, ih', if_false, if_true, reduceCtorEq, Bool.true_and, Bool.false_eq_true, olt_T, olt_F, ole_T, ole_F, oeq_T, oeq_F]
      · rw [hb] at bi
        simp (disch := first | assumption | rfl | exact zle_0 | exact zle_1 | exact zle_2 | exact zle_3 | exact zle_4 | exact zb_0 | exact zb_1 | exact zb01_B | omega) only [zT235_17, zr_ic_3, zT235_18, zr_icmp_ge, zT235_21, zr_iload_2, zT235_22, zr_aload_0, zT235_23, zr_iload_3, zT235_24, zr_iload_4, zT235_26, zr_iv_233, zT235_29, zr_if_eq, zT235_32, zT235_33, zT235_34, zT235_36, zr_iv_232, zT235_39, zr_iload_1, zT235_40, zr_iv_119, zT235_43, zT235_46, zr_ic_1, zT235_47, zr_goto, zT235_50, zr_ic_0, zT235_51, zr_iadd, zT235_52, zr_istore_2, zT235_53, zr_iinc_4_1, zT235_56, zcl_i, zcl_r, zcl_l, zcl_n, zv_some, zv_none, Nat.reduceAdd, Nat.reduceMul, Nat.reduceSub, Nat.reduceLT, Nat.reduceLeDiff, Nat.reduceEqDiff, Int.reduceToNat, true_implies, false_implies, implies_true, and_true, true_and, not_true_eq_false, not_false_eq_true, Nat.zero_add, Nat.add_zero, nI_add, nI_ltI, nI_leI, nI_eq, pk_mul, pk_sub, u2_same, u2_row, u2_other, sh, ta, bi, zB_eq0, ih', if_false, if_true, reduceCtorEq, Bool.true_and, Bool.false_eq_true, olt_T, olt_F, ole_T, ole_F, oeq_T, oeq_F]
theorem sp_cbN (hf : z_FR fr) (h : z_RW fi n tm) {c : Nat} (hc : c < 6) : ∀ m i, i + m = n → ∀ acc (v : Option Value), TT 235 4 [some (.ref 71), some (.int (nI c)), some (.int (nI acc)), some (.int (nI i)), v] [] (151, fi, fl, fr) Q = Q (some (.int (nI (acc + cN (shB tm c) m i)))) (151, fi, fl, fr) := by
  have o71 : z_ok 151 71 19 = true := rfl; have o73 : z_ok 151 73 1 = true := rfl
  have hn := h.2.1
  have h45 := h.1
  intro m
  induction m with
  | zero =>
    intro i he acc v
    obtain rfl : i = n := by omega
    simp (disch := first | assumption | rfl | exact zle_0 | exact zle_1 | exact zle_2 | exact zle_3 | exact zle_4 | exact zb_0 | exact zb_1 | exact zb01_B | omega) only [zT235_4, zr_iload_3, zT235_5, zr_aload_0, zT235_6, zr_gf_70, zT235_9, zr_icmp_ge, zT235_65, zr_iload_2, zT235_66, zr_ret0, zcl_i, zcl_r, zcl_l, zcl_n, zv_some, zv_none, Nat.reduceAdd, Nat.reduceMul, Nat.reduceSub, Nat.reduceLT, Nat.reduceLeDiff, Nat.reduceEqDiff, Int.reduceToNat, true_implies, false_implies, implies_true, and_true, true_and, not_true_eq_false, not_false_eq_true, Nat.zero_add, Nat.add_zero, nI_add, nI_ltI, nI_leI, nI_eq, pk_mul, pk_sub, u2_same, u2_row, u2_other, hn, olt_T, olt_F, ole_T, ole_F, oeq_T, oeq_F]
    rfl
  | succ m ih =>
    intro i he acc v
    have ih' := ih (i + 1) (by omega)
    have s3 := sp_cb3 (fl := fl) (Q := Q) hf h hc (show i < n by omega) 3 0 rfl
    have r : cN (shB tm c) (m + 1) i = c3 (shB tm c) i 3 0 + cN (shB tm c) m (i + 1) := rfl
    rw [r, ← Nat.add_assoc]
    clear r
    generalize c3 (shB tm c) i 3 0 = x3 at s3 ⊢
    generalize cN (shB tm c) m (i + 1) = xN at ih' ⊢
    simp (disch := first | assumption | rfl | exact zle_0 | exact zle_1 | exact zle_2 | exact zle_3 | exact zle_4 | exact zb_0 | exact zb_1 | exact zb01_B | omega) only [zT235_4, zr_iload_3, zcl_i, zcl_r, zcl_l, zcl_n, zv_some, zv_none, Nat.reduceAdd, Nat.reduceMul, Nat.reduceSub, Nat.reduceLT, Nat.reduceLeDiff, Nat.reduceEqDiff, Int.reduceToNat, true_implies, false_implies, implies_true, and_true, true_and, not_true_eq_false, not_false_eq_true, Nat.zero_add, Nat.add_zero, nI_add, nI_ltI, nI_leI, nI_eq, pk_mul, pk_sub, u2_same, u2_row, u2_other]
    simp (disch := first | assumption | rfl | exact zle_0 | exact zle_1 | exact zle_2 | exact zle_3 | exact zle_4 | exact zb_0 | exact zb_1 | exact zb01_B | omega) only [zT235_5, zr_aload_0, zT235_6, zr_gf_70, zT235_9, zr_icmp_ge, zT235_12, zr_ic_0, zT235_13, zr_istore_4, zcl_i, zcl_r, zcl_l, zcl_n, zv_some, zv_none, Nat.reduceAdd, Nat.reduceMul, Nat.reduceSub, Nat.reduceLT, Nat.reduceLeDiff, Nat.reduceEqDiff, Int.reduceToNat, true_implies, false_implies, implies_true, and_true, true_and, not_true_eq_false, not_false_eq_true, Nat.zero_add, Nat.add_zero, nI_add, nI_ltI, nI_leI, nI_eq, pk_mul, pk_sub, u2_same, u2_row, u2_other, hn, olt_T, olt_F, ole_T, ole_F, oeq_T, oeq_F]
    rw [s3]
    simp (disch := first | assumption | rfl | exact zle_0 | exact zle_1 | exact zle_2 | exact zle_3 | exact zle_4 | exact zb_0 | exact zb_1 | exact zb01_B | omega) only [zT235_59, zr_iinc_3_1, zT235_62, zr_goto, zcl_i, zcl_r, zcl_l, zcl_n, zv_some, zv_none, Nat.reduceAdd, Nat.reduceMul, Nat.reduceSub, Nat.reduceLT, Nat.reduceLeDiff, Nat.reduceEqDiff, Int.reduceToNat, true_implies, false_implies, implies_true, and_true, true_and, not_true_eq_false, not_false_eq_true, Nat.zero_add, Nat.add_zero, nI_add, nI_ltI, nI_leI, nI_eq, pk_mul, pk_sub, u2_same, u2_row, u2_other, olt_T, olt_F, ole_T, ole_F, oeq_T, oeq_F]
    exact ih' _ _
theorem sp_countSharedBy (hf : z_FR fr) (h : z_RW fi n tm) {c : Nat} (hc : c < 6) : TT 235 0 [some (.ref 71), some (.int (nI c)), none, none, none] [] (151, fi, fl, fr) Q = Q (some (.int (nI (cN (shB tm c) n 0)))) (151, fi, fl, fr) := by
  have s := sp_cbN (fl := fl) (Q := Q) hf h hc n 0 (Nat.zero_add _)
  simp (disch := first | assumption | rfl | exact zle_0 | exact zle_1 | exact zle_2 | exact zle_3 | exact zle_4 | exact zb_0 | exact zb_1 | exact zb01_B | omega) only [zT235_0, zr_ic_0, zT235_1, zr_istore_2, zT235_2, zT235_3, zr_istore_3, zcl_i, zcl_r, zcl_l, zcl_n, zv_some, zv_none, Nat.reduceAdd, Nat.reduceMul, Nat.reduceSub, Nat.reduceLT, Nat.reduceLeDiff, Nat.reduceEqDiff, Int.reduceToNat, true_implies, false_implies, implies_true, and_true, true_and, not_true_eq_false, not_false_eq_true, Nat.zero_add, Nat.add_zero, nI_add, nI_ltI, nI_leI, nI_eq, pk_mul, pk_sub, u2_same, u2_row, u2_other, s]
end
