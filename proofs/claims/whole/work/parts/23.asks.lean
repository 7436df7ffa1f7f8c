/-! what is asked of a kitchen -/
theorem zB_eq0 {b : Bool} : (zB b = nI 0) = (b = false) := by cases b <;> simp [zB] <;> decide
theorem zB_eq1 {b : Bool} : (zB b = nI 1) = (b = true) := by cases b <;> simp [zB] <;> decide
theorem bool_nf {b : Bool} : (¬ b = false) = (b = true) := by cases b <;> simp
theorem bool_nt {b : Bool} : (¬ b = true) = (b = false) := by cases b <;> simp
theorem zBq {Q : Option Value → Mm → Prop} {M : Mm} {a b : Bool} (h : a = b) (hQ : Q (some (.int (zB a))) M) : Q (some (.int (zB b))) M := h ▸ hQ
def a_bit (b d : Nat) : Bool := decide (b / 2 ^ d % 2 = 1)
def a_done (w : Nat → Nat) (d : Nat) : Bool := decide (a_gone w d = a_tot w d)
section
variable {fi : Nat → Nat → Int32} {fl : Nat → Nat → Int64} {fr : Nat → Nat → Option Nat} {Q : Option Value → Mm → Prop} {w : Nat → Nat} {k : Nat} {M : Mm}
theorem sp_isIn {b d : Nat} (hb : b < 2 ^ 31) (hd : d < 32) : TT 119 0 [some (.int (nI b)), some (.int (nI d))] [] M Q = Q (some (.int (zB (a_bit b d)))) M := by
  refine T_exact (fun Q hQ => ?_) Q
  have h2 : b / 2 ^ d % 2 < 2 := Nat.mod_lt _ (by decide)
  obtain ⟨nx, fi, fl, fr⟩ := M
  simp (disch := first | assumption | rfl | exact zle_0 | exact zle_1 | exact zle_2 | exact zle_3 | exact zle_4 | exact zb_0 | exact zb_1 | exact zb01_B | omega) only [zT119_0, zr_iload_0, zT119_1, zr_iload_1, zT119_2, zr_ishr, zT119_3, zr_ic_1, zT119_4, zr_iand, zT119_5, zr_if_eq, zT119_8, zT119_9, zr_goto, zT119_12, zr_ic_0, zT119_13, zr_ret1_0, zr_ret1_1, zr_ret1_B, zcl_i, zcl_r, zcl_l, zcl_n, zv_some, zv_none, Nat.reduceAdd, Nat.reduceMul, Nat.reduceSub, Nat.reduceLT, Nat.reduceLeDiff, Nat.reduceEqDiff, Int.reduceToNat, true_implies, false_implies, implies_true, and_true, true_and, not_true_eq_false, not_false_eq_true, Nat.zero_add, Nat.add_zero, nI_add, nI_ltI, nI_leI, nI_eq, pk_mul, pk_sub, u2_same, u2_row, u2_other, b_shr, b_and, Nat.and_one_is_mod]
  unfold a_bit at hQ
  repeat' first | intro _ | apply And.intro
  · rename_i h
    rw [decide_eq_false (by omega)] at hQ
    exact hQ
  · rename_i h
    rw [decide_eq_true (by omega)] at hQ
    exact hQ
theorem a_pow4 {i : Nat} (h : i < 3) : 2 ^ (2 * i) ≤ 16 := by
  have : i = 0 ∨ i = 1 ∨ i = 2 := by omega
  rcases this with rfl | rfl | rfl <;> decide
theorem a_pow2 {i : Nat} (h : i < 3) : 2 ^ i ≤ 4 := by
  have : i = 0 ∨ i = 1 ∨ i = 2 := by omega
  rcases this with rfl | rfl | rfl <;> decide
/-- what a key says of a dish; a key with another step -/
def a_at (key d : Nat) : Nat := key / 2 ^ (2 * d) % 4
def a_put (key d s : Nat) : Nat := (key ^^^ (key &&& (3 * 2 ^ (2 * d)))) ||| (s * 2 ^ (2 * d))
theorem sp_keyWithStep {key d s : Nat} (hk : key < 64) (hd : d < 3) (hs : s < 4) : TT 120 0 [some (.int (nI key)), some (.int (nI d)), some (.int (nI s)), none] [] M Q = Q (some (.int (nI (a_put key d s)))) M := by
  refine T_exact (fun Q hQ => ?_) Q
  have h4 := a_pow4 hd
  obtain ⟨nx, fi, fl, fr⟩ := M
  have e : s * 2 ^ (2 * d) < 2 ^ 32 := Nat.lt_of_le_of_lt (Nat.mul_le_mul (Nat.le_of_lt_succ hs) h4) (by decide)
  simp (disch := first | assumption | rfl | exact zle_0 | exact zle_1 | exact zle_2 | exact zle_3 | exact zle_4 | exact zb_0 | exact zb_1 | exact zb01_B | omega) only [zT120_0, zr_ic_2, zT120_1, zr_iload_1, zT120_2, zr_imul, zT120_3, zr_istore_3, zT120_4, zr_iload_0, zT120_5, zr_ic_3, zT120_6, zr_iload_3, zT120_7, zr_ishl, zT120_8, zr_ic_m1, zT120_9, zr_ixor, zT120_10, zr_iand, zT120_11, zr_iload_2, zT120_12, zT120_13, zT120_14, zr_ior, zT120_15, zr_ret0, zcl_i, zcl_r, zcl_l, zcl_n, zv_some, zv_none, Nat.reduceAdd, Nat.reduceMul, Nat.reduceSub, Nat.reduceLT, Nat.reduceLeDiff, Nat.reduceEqDiff, Int.reduceToNat, true_implies, false_implies, implies_true, and_true, true_and, not_true_eq_false, not_false_eq_true, Nat.zero_add, Nat.add_zero, nI_add, nI_ltI, nI_leI, nI_eq, pk_mul, pk_sub, u2_same, u2_row, u2_other, b_shl, b_andn, b_or]
  exact hQ
theorem sp_stepInKey {key d : Nat} (hk : key < 64) (hd : d < 3) : TT 121 0 [some (.int (nI key)), some (.int (nI d))] [] M Q = Q (some (.int (nI (a_at key d)))) M := by
  refine T_exact (fun Q hQ => ?_) Q
  obtain ⟨nx, fi, fl, fr⟩ := M
  have e : key / 2 ^ (2 * d) &&& 3 = a_at key d := Nat.and_two_pow_sub_one_eq_mod _ 2
  simp (disch := first | assumption | rfl | exact zle_0 | exact zle_1 | exact zle_2 | exact zle_3 | exact zle_4 | exact zb_0 | exact zb_1 | exact zb01_B | omega) only [zT121_0, zr_iload_0, zT121_1, zr_ic_2, zT121_2, zr_iload_1, zT121_3, zr_imul, zT121_4, zr_ishr, zT121_5, zr_ic_3, zT121_6, zr_iand, zT121_7, zr_ret0, zcl_i, zcl_r, zcl_l, zcl_n, zv_some, zv_none, Nat.reduceAdd, Nat.reduceMul, Nat.reduceSub, Nat.reduceLT, Nat.reduceLeDiff, Nat.reduceEqDiff, Int.reduceToNat, true_implies, false_implies, implies_true, and_true, true_and, not_true_eq_false, not_false_eq_true, Nat.zero_add, Nat.add_zero, nI_add, nI_ltI, nI_leI, nI_eq, pk_mul, pk_sub, u2_same, u2_row, u2_other, b_shr, b_and, e]
  exact hQ
theorem a_put_at : ∀ key, key < 64 → ∀ d, d < 3 → ∀ s, s < 4 → a_put key d s < 64 ∧ ∀ j, j < 3 → a_at (a_put key d s) j = if j = d then s else a_at key j := by decide +kernel
theorem sp_hasCook (hk : z_ok 151 k 16 = true) {n : Nat} (hr : fi k 43 = nI n) (hn : n < 2 ^ 31) {x : Int32} : TT 184 0 [some (.ref k), some (.int x)] [] (151, fi, fl, fr) Q = Q (some (.int (zB (decide (0 ≤ x.toInt ∧ x.toInt < n))))) (151, fi, fl, fr) := by
  refine T_exact (fun Q hQ => ?_) Q
  simp (disch := first | assumption | rfl | exact zle_0 | exact zle_1 | exact zle_2 | exact zle_3 | exact zle_4 | exact zb_0 | exact zb_1 | exact zb01_B | omega) only [zT184_0, zr_iload_1, zT184_1, zr_if_lt, zT184_4, zT184_5, zr_aload_0, zT184_6, zr_gf_43, zT184_9, zr_icmp_ge, zT184_12, zr_ic_1, zT184_13, zr_goto, zT184_16, zr_ic_0, zT184_17, zr_ret1_0, zr_ret1_1, zr_ret1_B, zcl_i, zcl_r, zcl_l, zcl_n, zv_some, zv_none, Nat.reduceAdd, Nat.reduceMul, Nat.reduceSub, Nat.reduceLT, Nat.reduceLeDiff, Nat.reduceEqDiff, Int.reduceToNat, true_implies, false_implies, implies_true, and_true, true_and, not_true_eq_false, not_false_eq_true, Nat.zero_add, Nat.add_zero, nI_add, nI_ltI, nI_leI, nI_eq, pk_mul, pk_sub, u2_same, u2_row, u2_other, hr, Int32.lt_iff_toInt_lt, Int32.le_iff_toInt_le, nI_toInt]
  repeat' first | intro _ | apply And.intro
  · rw [decide_eq_false (by omega)] at hQ; exact hQ
  · rw [decide_eq_false (by omega)] at hQ; exact hQ
  · rw [decide_eq_true (by omega)] at hQ; exact hQ
theorem sp_hasDish (hk : z_ok 151 k 16 = true) {n : Nat} (hr : fi k 45 = nI n) (hn : n < 2 ^ 31) {x : Int32} : TT 187 0 [some (.ref k), some (.int x)] [] (151, fi, fl, fr) Q = Q (some (.int (zB (decide (0 ≤ x.toInt ∧ x.toInt < n))))) (151, fi, fl, fr) := by
  refine T_exact (fun Q hQ => ?_) Q
  simp (disch := first | assumption | rfl | exact zle_0 | exact zle_1 | exact zle_2 | exact zle_3 | exact zle_4 | exact zb_0 | exact zb_1 | exact zb01_B | omega) only [zT187_0, zr_iload_1, zT187_1, zr_if_lt, zT187_4, zT187_5, zr_aload_0, zT187_6, zr_gf_45, zT187_9, zr_icmp_ge, zT187_12, zr_ic_1, zT187_13, zr_goto, zT187_16, zr_ic_0, zT187_17, zr_ret1_0, zr_ret1_1, zr_ret1_B, zcl_i, zcl_r, zcl_l, zcl_n, zv_some, zv_none, Nat.reduceAdd, Nat.reduceMul, Nat.reduceSub, Nat.reduceLT, Nat.reduceLeDiff, Nat.reduceEqDiff, Int.reduceToNat, true_implies, false_implies, implies_true, and_true, true_and, not_true_eq_false, not_false_eq_true, Nat.zero_add, Nat.add_zero, nI_add, nI_ltI, nI_leI, nI_eq, pk_mul, pk_sub, u2_same, u2_row, u2_other, hr, Int32.lt_iff_toInt_lt, Int32.le_iff_toInt_le, nI_toInt]
  repeat' first | intro _ | apply And.intro
  · rw [decide_eq_false (by omega)] at hQ; exact hQ
  · rw [decide_eq_false (by omega)] at hQ; exact hQ
  · rw [decide_eq_true (by omega)] at hQ; exact hQ
theorem sp_kindOf (hk : z_Kok fr k) (hr : z_K0 fi k w) (h0 : w 0 ≤ 6) {c : Nat} (hc : c < w 0) : TT 185 0 [some (.ref k), some (.int (nI c))] [] (151, fi, fl, fr) Q = Q (some (.int (nI (w (1 + c))))) (151, fi, fl, fr) := by
  refine T_exact (fun Q hQ => ?_) Q
  have hh := fun Q => sp_hasCook (fl := fl) (fr := fr) (Q := Q) (x := nI c) hk.1 hr.1.1 (by omega)
  rw [decide_eq_true (by rw [nI_toInt (by omega)]; omega)] at hh
  obtain ⟨h1, ⟨h2, h3, h4, h5⟩, ⟨l1, l2, l3, l4⟩, ⟨f1, f2, f3, f4⟩, hd⟩ := hk
  have r := (hr.2.1 c hc).1
  simp (disch := first | assumption | rfl | exact zle_0 | exact zle_1 | exact zle_2 | exact zle_3 | exact zle_4 | exact zb_0 | exact zb_1 | exact zb01_B | omega) only [zT185_0, zr_aload_0, zT185_1, zr_iload_1, zT185_2, zr_iv_184, zT185_5, zr_if_eq, zT185_8, zT185_9, zr_gf_41, zr_or, zr_go, zf_19_41, zT185_12, zT185_13, zr_iald, zT185_14, zr_goto, zT185_17, zr_ic_m1, zT185_18, zr_ret0, zcl_i, zcl_r, zcl_l, zcl_n, zv_some, zv_none, Nat.reduceAdd, Nat.reduceMul, Nat.reduceSub, Nat.reduceLT, Nat.reduceLeDiff, Nat.reduceEqDiff, Int.reduceToNat, true_implies, false_implies, implies_true, and_true, true_and, not_true_eq_false, not_false_eq_true, Nat.zero_add, Nat.add_zero, nI_add, nI_ltI, nI_leI, nI_eq, pk_mul, pk_sub, u2_same, u2_row, u2_other, hh, zB_eq0, f1, r, reduceCtorEq]
  exact hQ
theorem sp_wageOf (hk : z_Kok fr k) (hr : z_K0 fi k w) (h0 : w 0 ≤ 6) {c : Nat} (hc : c < w 0) : TT 186 0 [some (.ref k), some (.int (nI c))] [] (151, fi, fl, fr) Q = Q (some (.int (nI (w (7 + c))))) (151, fi, fl, fr) := by
  refine T_exact (fun Q hQ => ?_) Q
  have hh := fun Q => sp_hasCook (fl := fl) (fr := fr) (Q := Q) (x := nI c) hk.1 hr.1.1 (by omega)
  rw [decide_eq_true (by rw [nI_toInt (by omega)]; omega)] at hh
  obtain ⟨h1, ⟨h2, h3, h4, h5⟩, ⟨l1, l2, l3, l4⟩, ⟨f1, f2, f3, f4⟩, hd⟩ := hk
  have r := (hr.2.1 c hc).2
  simp (disch := first | assumption | rfl | exact zle_0 | exact zle_1 | exact zle_2 | exact zle_3 | exact zle_4 | exact zb_0 | exact zb_1 | exact zb01_B | omega) only [zT186_0, zr_aload_0, zT186_1, zr_iload_1, zT186_2, zr_iv_184, zT186_5, zr_if_eq, zT186_8, zT186_9, zr_gf_42, zr_or, zr_go, zf_19_42, zT186_12, zT186_13, zr_iald, zT186_14, zr_goto, zT186_17, zr_ic_0, zT186_18, zr_ret0, zcl_i, zcl_r, zcl_l, zcl_n, zv_some, zv_none, Nat.reduceAdd, Nat.reduceMul, Nat.reduceSub, Nat.reduceLT, Nat.reduceLeDiff, Nat.reduceEqDiff, Int.reduceToNat, true_implies, false_implies, implies_true, and_true, true_and, not_true_eq_false, not_false_eq_true, Nat.zero_add, Nat.add_zero, nI_add, nI_ltI, nI_leI, nI_eq, pk_mul, pk_sub, u2_same, u2_row, u2_other, hh, zB_eq0, f2, r, reduceCtorEq]
  exact hQ
theorem sp_dishAt (hk : z_Kok fr k) {d : Nat} (hd : d < 3) : TT 188 0 [some (.ref k), some (.int (nI d))] [] (151, fi, fl, fr) Q = Q (some (.ref (k + 5 + 5 * d))) (151, fi, fl, fr) := by
  refine T_exact (fun Q hQ => ?_) Q
  obtain ⟨h1, ⟨h2, h3, h4, h5⟩, ⟨l1, l2, l3, l4⟩, ⟨f1, f2, f3, f4⟩, hd'⟩ := hk
  have r := (hd' d hd).1
  simp (disch := first | assumption | rfl | exact zle_0 | exact zle_1 | exact zle_2 | exact zle_3 | exact zle_4 | exact zb_0 | exact zb_1 | exact zb01_B | omega) only [zT188_0, zr_aload_0, zT188_1, zr_gf_44, zr_or, zr_go, zf_19_44, zT188_4, zr_iload_1, zT188_5, zr_if_lt, zT188_8, zT188_9, zr_ic_3, zT188_10, zr_icmp_ge, zT188_13, zT188_14, zr_goto, zT188_17, zr_ic_0, zT188_18, zr_aald4, zr_aald5, zT188_19, zr_aret, zcl_i, zcl_r, zcl_l, zcl_n, zv_some, zv_none, Nat.reduceAdd, Nat.reduceMul, Nat.reduceSub, Nat.reduceLT, Nat.reduceLeDiff, Nat.reduceEqDiff, Int.reduceToNat, true_implies, false_implies, implies_true, and_true, true_and, not_true_eq_false, not_false_eq_true, Nat.zero_add, Nat.add_zero, nI_add, nI_ltI, nI_leI, nI_eq, pk_mul, pk_sub, u2_same, u2_row, u2_other, f3, r, olt_T, olt_F, ole_T, ole_F, oeq_T, oeq_F]
  exact hQ
theorem sp_allDishes (hk : z_ok 151 k 16 = true) {n : Nat} (hr : fi k 45 = nI n) (hn : n ≤ 3) : TT 189 0 [some (.ref k)] [] (151, fi, fl, fr) Q = Q (some (.int (nI (2 ^ n - 1)))) (151, fi, fl, fr) := by
  refine T_exact (fun Q hQ => ?_) Q
  have h8 : 2 ^ n ≤ 2 ^ 3 := Nat.pow_le_pow_right (by decide) hn
  have h1 : 1 ≤ 2 ^ n := Nat.one_le_two_pow
  simp (disch := first | assumption | rfl | exact zle_0 | exact zle_1 | exact zle_2 | exact zle_3 | exact zle_4 | exact zb_0 | exact zb_1 | exact zb01_B | omega) only [zT189_0, zr_ic_1, zT189_1, zr_aload_0, zT189_2, zr_gf_45, zT189_5, zr_ishl, zT189_6, zT189_7, zr_isub, zT189_8, zr_ret0, zcl_i, zcl_r, zcl_l, zcl_n, zv_some, zv_none, Nat.reduceAdd, Nat.reduceMul, Nat.reduceSub, Nat.reduceLT, Nat.reduceLeDiff, Nat.reduceEqDiff, Int.reduceToNat, true_implies, false_implies, implies_true, and_true, true_and, not_true_eq_false, not_false_eq_true, Nat.zero_add, Nat.add_zero, nI_add, nI_ltI, nI_leI, nI_eq, pk_mul, pk_sub, u2_same, u2_row, u2_other, hr, b_shl, Nat.one_mul]
  exact hQ
theorem sp_hasDishes (hk : z_ok 151 k 16 = true) {n : Nat} (hr : fi k 45 = nI n) (hn : n ≤ 3) {x : Int32} : TT 190 0 [some (.ref k), some (.int x)] [] (151, fi, fl, fr) Q = Q (some (.int (zB (decide (0 ≤ x.toInt ∧ x.toInt < 2 ^ n))))) (151, fi, fl, fr) := by
  refine T_exact (fun Q hQ => ?_) Q
  have ha := fun Q => sp_allDishes (fl := fl) (fr := fr) (Q := Q) hk hr hn
  have hb := b_not (x := x) (b := 2 ^ n - 1) (k := n) (by omega) rfl
  simp (disch := first | assumption | rfl | exact zle_0 | exact zle_1 | exact zle_2 | exact zle_3 | exact zle_4 | exact zb_0 | exact zb_1 | exact zb01_B | omega) only [zT190_0, zr_iload_1, zT190_1, zr_aload_0, zT190_2, zr_iv_189, zT190_5, zr_ic_m1, zT190_6, zr_ixor, zT190_7, zr_iand, zT190_8, zr_if_ne, zT190_11, zr_ic_1, zT190_12, zr_goto, zT190_15, zr_ic_0, zT190_16, zr_ret1_0, zr_ret1_1, zr_ret1_B, zcl_i, zcl_r, zcl_l, zcl_n, zv_some, zv_none, Nat.reduceAdd, Nat.reduceMul, Nat.reduceSub, Nat.reduceLT, Nat.reduceLeDiff, Nat.reduceEqDiff, Int.reduceToNat, true_implies, false_implies, implies_true, and_true, true_and, not_true_eq_false, not_false_eq_true, Nat.zero_add, Nat.add_zero, nI_add, nI_ltI, nI_leI, nI_eq, pk_mul, pk_sub, u2_same, u2_row, u2_other, ha, hb]
  repeat' first | intro _ | apply And.intro
  · rename_i h; rw [decide_eq_false h] at hQ; exact hQ
  · rename_i h; rw [decide_eq_true (Classical.not_not.mp h)] at hQ; exact hQ
/-- one of these dishes is done: of n dishes from d on -/
def a_anyDone (w : Nat → Nat) (b : Nat) : Nat → Nat → Bool
  | 0, _ => false
  | n + 1, d => (a_bit b d && a_done w d) || a_anyDone w b n (d + 1)
theorem sp_anyDone_ (hk : z_Kok fr k) (hr : z_KR fi k w) (hw : a_WF w) {b : Nat} (hb : b < 2 ^ 31) : ∀ n d, d + n = w 13 → ∀ Q, TT 191 2 [some (.ref k), some (.int (nI b)), some (.int (nI d))] [] (151, fi, fl, fr) Q = Q (some (.int (zB (a_anyDone w b n d)))) (151, fi, fl, fr) := by
  intro n
  have h13 := hw.2.2.1
  have r13 := hr.1.2.1
  induction n with
  | zero =>
    intro d hd Q
    refine T_exact (fun Q hQ => ?_) Q
    have h1 := hk.1
    simp (disch := first | assumption | rfl | exact zle_0 | exact zle_1 | exact zle_2 | exact zle_3 | exact zle_4 | exact zb_0 | exact zb_1 | exact zb01_B | omega) only [zT191_0, zr_ic_0, zT191_1, zr_istore_2, zT191_2, zr_iload_2, zT191_3, zr_aload_0, zT191_4, zr_gf_45, zT191_7, zr_icmp_ge, zT191_10, zr_iload_1, zT191_11, zT191_12, zr_iv_119, zT191_15, zr_if_eq, zT191_18, zT191_19, zr_gf_44, zr_or, zr_go, zf_19_44, zT191_22, zT191_23, zr_aald4, zr_aald5, zT191_24, zr_iv_157, zT191_27, zT191_30, zr_ic_1, zT191_31, zr_ret1_0, zr_ret1_1, zr_ret1_B, zT191_32, zr_iinc_2_1, zT191_35, zr_goto, zT191_38, zT191_39, zcl_i, zcl_r, zcl_l, zcl_n, zv_some, zv_none, Nat.reduceAdd, Nat.reduceMul, Nat.reduceSub, Nat.reduceLT, Nat.reduceLeDiff, Nat.reduceEqDiff, Int.reduceToNat, true_implies, false_implies, implies_true, and_true, true_and, not_true_eq_false, not_false_eq_true, Nat.zero_add, Nat.add_zero, nI_add, nI_ltI, nI_leI, nI_eq, pk_mul, pk_sub, u2_same, u2_row, u2_other, r13, olt_T, olt_F, ole_T, ole_F, oeq_T, oeq_F]
    exact hQ
  | succ n ih =>
    intro d hd Q
    refine T_exact (fun Q hQ => ?_) Q
    have hd3 : d < 3 := by omega
    have hin := fun M Q => sp_isIn (M := M) (Q := Q) (d := d) hb (by omega)
    have hdn := fun Q => sp_isDone (fl := fl) (Q := Q) (hk.2.2.2.2 d hd3).2 (hr.2.2.1 d hd3) (hw.2.2.2.1 d hd3).1 (hw.2.2.2.1 d hd3).2.2
    have ih' := fun Q => ih (d + 1) (by omega) Q
    obtain ⟨h1, ⟨h2, h3, h4, h5⟩, ⟨l1, l2, l3, l4⟩, ⟨f1, f2, f3, f4⟩, hd'⟩ := hk
    have rd := (hd' d hd3).1
    have od := (hd' d hd3).2.1
    unfold a_anyDone a_done at hQ
    simp (disch := first | assumption | rfl | exact zle_0 | exact zle_1 | exact zle_2 | exact zle_3 | exact zle_4 | exact zb_0 | exact zb_1 | exact zb01_B | omega) only [zT191_2, zr_iload_2, zcl_i, zcl_r, zcl_l, zcl_n, zv_some, zv_none, Nat.reduceAdd, Nat.reduceMul, Nat.reduceSub, Nat.reduceLT, Nat.reduceLeDiff, Nat.reduceEqDiff, Int.reduceToNat, true_implies, false_implies, implies_true, and_true, true_and, not_true_eq_false, not_false_eq_true, Nat.zero_add, Nat.add_zero, nI_add, nI_ltI, nI_leI, nI_eq, pk_mul, pk_sub, u2_same, u2_row, u2_other]
    simp (disch := first | assumption | rfl | exact zle_0 | exact zle_1 | exact zle_2 | exact zle_3 | exact zle_4 | exact zb_0 | exact zb_1 | exact zb01_B | omega) only [zT191_0, zr_ic_0, zT191_1, zr_istore_2, zT191_3, zr_aload_0, zT191_4, zr_gf_45, zT191_7, zr_icmp_ge, zT191_10, zr_iload_1, zT191_11, zr_iload_2, zT191_12, zr_iv_119, zT191_15, zr_if_eq, zT191_18, zT191_19, zr_gf_44, zr_or, zr_go, zf_19_44, zT191_22, zT191_23, zr_aald4, zr_aald5, zT191_24, zr_iv_157, zT191_27, zT191_30, zr_ic_1, zT191_31, zr_ret1_0, zr_ret1_1, zr_ret1_B, zT191_32, zr_iinc_2_1, zT191_35, zr_goto, zT191_38, zT191_39, zcl_i, zcl_r, zcl_l, zcl_n, zv_some, zv_none, Nat.reduceAdd, Nat.reduceMul, Nat.reduceSub, Nat.reduceLT, Nat.reduceLeDiff, Nat.reduceEqDiff, Int.reduceToNat, true_implies, false_implies, implies_true, and_true, true_and, not_true_eq_false, not_false_eq_true, Nat.zero_add, Nat.add_zero, nI_add, nI_ltI, nI_leI, nI_eq, pk_mul, pk_sub, u2_same, u2_row, u2_other, r13, f3, rd, hin, hdn, ih', zB_eq0, olt_T, olt_F, ole_T, ole_F, oeq_T, oeq_F]
    cases hx : a_bit b d <;> cases hy : decide (a_gone w d = a_tot w d) <;> rw [hx, hy] at hQ <;> simp only [Bool.false_and, Bool.true_and, Bool.false_or, Bool.true_or, true_implies, false_implies, not_true_eq_false, not_false_eq_true, and_true, true_and, reduceCtorEq] at hQ ⊢ <;> exact hQ
theorem sp_anyDone (hk : z_Kok fr k) (hr : z_KR fi k w) (hw : a_WF w) {b : Nat} (hb : b < 2 ^ 31) : TT 191 0 [some (.ref k), some (.int (nI b)), none] [] (151, fi, fl, fr) Q = Q (some (.int (zB (a_anyDone w b (w 13) 0)))) (151, fi, fl, fr) := by
  refine T_exact (fun Q hQ => ?_) Q
  have h := fun Q => sp_anyDone_ (fl := fl) hk hr hw hb (w 13) 0 (by omega) Q
  simp (disch := first | assumption | rfl | exact zle_0 | exact zle_1 | exact zle_2 | exact zle_3 | exact zle_4 | exact zb_0 | exact zb_1 | exact zb01_B | omega) only [zT191_0, zr_ic_0, zT191_1, zr_istore_2, zcl_i, zcl_r, zcl_l, zcl_n, zv_some, zv_none, Nat.reduceAdd, Nat.reduceMul, Nat.reduceSub, Nat.reduceLT, Nat.reduceLeDiff, Nat.reduceEqDiff, Int.reduceToNat, true_implies, false_implies, implies_true, and_true, true_and, not_true_eq_false, not_false_eq_true, Nat.zero_add, Nat.add_zero, nI_add, nI_ltI, nI_leI, nI_eq, pk_mul, pk_sub, u2_same, u2_row, u2_other, h]
  exact hQ
def a_doneCount (w : Nat → Nat) : Nat → Nat → Nat → Nat
  | 0, _, s => s
  | n + 1, d, s => a_doneCount w n (d + 1) (s + if a_done w d then 1 else 0)
theorem sp_doneCount_ (hk : z_Kok fr k) (hr : z_KR fi k w) (hw : a_WF w) : ∀ n d, d + n = w 13 → ∀ s Q, TT 192 4 [some (.ref k), some (.int (nI s)), some (.int (nI d))] [] (151, fi, fl, fr) Q = Q (some (.int (nI (a_doneCount w n d s)))) (151, fi, fl, fr) := by
  intro n
  have h13 := hw.2.2.1
  have r13 := hr.1.2.1
  induction n with
  | zero =>
    intro d hd s Q
    refine T_exact (fun Q hQ => ?_) Q
    have h1 := hk.1
    simp (disch := first | assumption | rfl | exact zle_0 | exact zle_1 | exact zle_2 | exact zle_3 | exact zle_4 | exact zb_0 | exact zb_1 | exact zb01_B | omega) only [zT192_0, zr_ic_0, zT192_1, zr_istore_1, zT192_2, zT192_3, zr_istore_2, zT192_4, zr_iload_2, zT192_5, zr_aload_0, zT192_6, zr_gf_45, zT192_9, zr_icmp_ge, zT192_12, zr_iload_1, zT192_13, zT192_14, zr_gf_44, zr_or, zr_go, zf_19_44, zT192_17, zT192_18, zr_aald4, zr_aald5, zT192_19, zr_iv_157, zT192_22, zr_if_eq, zT192_25, zr_ic_1, zT192_26, zr_goto, zT192_29, zT192_30, zr_iadd, zT192_31, zT192_32, zr_iinc_2_1, zT192_35, zT192_38, zT192_39, zr_ret0, zcl_i, zcl_r, zcl_l, zcl_n, zv_some, zv_none, Nat.reduceAdd, Nat.reduceMul, Nat.reduceSub, Nat.reduceLT, Nat.reduceLeDiff, Nat.reduceEqDiff, Int.reduceToNat, true_implies, false_implies, implies_true, and_true, true_and, not_true_eq_false, not_false_eq_true, Nat.zero_add, Nat.add_zero, nI_add, nI_ltI, nI_leI, nI_eq, pk_mul, pk_sub, u2_same, u2_row, u2_other, r13, olt_T, olt_F, ole_T, ole_F, oeq_T, oeq_F]
    exact hQ
  | succ n ih =>
    intro d hd s Q
    refine T_exact (fun Q hQ => ?_) Q
    have hd3 : d < 3 := by omega
    have hdn := fun Q => sp_isDone (fl := fl) (Q := Q) (hk.2.2.2.2 d hd3).2 (hr.2.2.1 d hd3) (hw.2.2.2.1 d hd3).1 (hw.2.2.2.1 d hd3).2.2
    have ih' := fun s Q => ih (d + 1) (by omega) s Q
    obtain ⟨h1, ⟨h2, h3, h4, h5⟩, ⟨l1, l2, l3, l4⟩, ⟨f1, f2, f3, f4⟩, hd'⟩ := hk
    have rd := (hd' d hd3).1
    have od := (hd' d hd3).2.1
    unfold a_doneCount a_done at hQ
    simp (disch := first | assumption | rfl | exact zle_0 | exact zle_1 | exact zle_2 | exact zle_3 | exact zle_4 | exact zb_0 | exact zb_1 | exact zb01_B | omega) only [zT192_4, zr_iload_2, zcl_i, zcl_r, zcl_l, zcl_n, zv_some, zv_none, Nat.reduceAdd, Nat.reduceMul, Nat.reduceSub, Nat.reduceLT, Nat.reduceLeDiff, Nat.reduceEqDiff, Int.reduceToNat, true_implies, false_implies, implies_true, and_true, true_and, not_true_eq_false, not_false_eq_true, Nat.zero_add, Nat.add_zero, nI_add, nI_ltI, nI_leI, nI_eq, pk_mul, pk_sub, u2_same, u2_row, u2_other]
    simp (disch := first | assumption | rfl | exact zle_0 | exact zle_1 | exact zle_2 | exact zle_3 | exact zle_4 | exact zb_0 | exact zb_1 | exact zb01_B | omega) only [zT192_0, zr_ic_0, zT192_1, zr_istore_1, zT192_2, zT192_3, zr_istore_2, zT192_5, zr_aload_0, zT192_6, zr_gf_45, zT192_9, zr_icmp_ge, zT192_12, zr_iload_1, zT192_13, zT192_14, zr_gf_44, zr_or, zr_go, zf_19_44, zT192_17, zr_iload_2, zT192_18, zr_aald4, zr_aald5, zT192_19, zr_iv_157, zT192_22, zr_if_eq, zT192_25, zr_ic_1, zT192_26, zr_goto, zT192_29, zT192_30, zr_iadd, zT192_31, zT192_32, zr_iinc_2_1, zT192_35, zT192_38, zT192_39, zr_ret0, zcl_i, zcl_r, zcl_l, zcl_n, zv_some, zv_none, Nat.reduceAdd, Nat.reduceMul, Nat.reduceSub, Nat.reduceLT, Nat.reduceLeDiff, Nat.reduceEqDiff, Int.reduceToNat, true_implies, false_implies, implies_true, and_true, true_and, not_true_eq_false, not_false_eq_true, Nat.zero_add, Nat.add_zero, nI_add, nI_ltI, nI_leI, nI_eq, pk_mul, pk_sub, u2_same, u2_row, u2_other, r13, f3, rd, hdn, ih', zB_eq0, olt_T, olt_F, ole_T, ole_F, oeq_T, oeq_F]
    cases hy : decide (a_gone w d = a_tot w d) <;> rw [hy] at hQ <;> simp only [true_implies, false_implies, not_true_eq_false, not_false_eq_true, and_true, true_and, reduceCtorEq, if_true, if_false, Bool.false_eq_true, Nat.add_zero] at hQ ⊢ <;> exact hQ
theorem sp_doneCount (hk : z_Kok fr k) (hr : z_KR fi k w) (hw : a_WF w) : TT 192 0 [some (.ref k), none, none] [] (151, fi, fl, fr) Q = Q (some (.int (nI (a_doneCount w (w 13) 0 0)))) (151, fi, fl, fr) := by
  refine T_exact (fun Q hQ => ?_) Q
  have h := fun s Q => sp_doneCount_ (fl := fl) hk hr hw (w 13) 0 (by omega) s Q
  simp (disch := first | assumption | rfl | exact zle_0 | exact zle_1 | exact zle_2 | exact zle_3 | exact zle_4 | exact zb_0 | exact zb_1 | exact zb01_B | omega) only [zT192_0, zr_ic_0, zT192_1, zr_istore_1, zT192_2, zT192_3, zr_istore_2, zcl_i, zcl_r, zcl_l, zcl_n, zv_some, zv_none, Nat.reduceAdd, Nat.reduceMul, Nat.reduceSub, Nat.reduceLT, Nat.reduceLeDiff, Nat.reduceEqDiff, Int.reduceToNat, true_implies, false_implies, implies_true, and_true, true_and, not_true_eq_false, not_false_eq_true, Nat.zero_add, Nat.add_zero, nI_add, nI_ltI, nI_leI, nI_eq, pk_mul, pk_sub, u2_same, u2_row, u2_other, h]
  exact hQ
/-- the dishes that are within a step -/
def a_begun (w : Nat → Nat) : Nat → Nat → Nat → Nat
  | 0, _, s => s
  | n + 1, d, s => a_begun w n (d + 1) (if 0 < (a_stp w d (a_gone w d)).2 then s ||| 2 ^ d else s)
theorem sp_begun_ (hk : z_Kok fr k) (hr : z_KR fi k w) (hw : a_WF w) : ∀ n d, d + n = w 13 → ∀ s, s < 8 → ∀ Q, TT 193 4 [some (.ref k), some (.int (nI s)), some (.int (nI d))] [] (151, fi, fl, fr) Q = Q (some (.int (nI (a_begun w n d s)))) (151, fi, fl, fr) := by
  intro n
  have h13 := hw.2.2.1
  have r13 := hr.1.2.1
  induction n with
  | zero =>
    intro d hd s hs Q
    refine T_exact (fun Q hQ => ?_) Q
    have h1 := hk.1
    simp (disch := first | assumption | rfl | exact zle_0 | exact zle_1 | exact zle_2 | exact zle_3 | exact zle_4 | exact zb_0 | exact zb_1 | exact zb01_B | omega) only [zT193_0, zr_ic_0, zT193_1, zr_istore_1, zT193_2, zT193_3, zr_istore_2, zT193_4, zr_iload_2, zT193_5, zr_aload_0, zT193_6, zr_gf_45, zT193_9, zr_icmp_ge, zT193_12, zT193_13, zr_gf_44, zr_or, zr_go, zf_19_44, zT193_16, zT193_17, zr_aald4, zr_aald5, zT193_18, zT193_19, zT193_22, zT193_23, zT193_24, zr_gf_33, zT193_27, zr_iv_159, zT193_30, zr_if_le, zT193_33, zr_iload_1, zT193_34, zr_ic_1, zT193_35, zT193_36, zr_ishl, zT193_37, zr_ior, zT193_38, zT193_39, zr_iinc_2_1, zT193_42, zr_goto, zT193_45, zT193_46, zr_ret0, zcl_i, zcl_r, zcl_l, zcl_n, zv_some, zv_none, Nat.reduceAdd, Nat.reduceMul, Nat.reduceSub, Nat.reduceLT, Nat.reduceLeDiff, Nat.reduceEqDiff, Int.reduceToNat, true_implies, false_implies, implies_true, and_true, true_and, not_true_eq_false, not_false_eq_true, Nat.zero_add, Nat.add_zero, nI_add, nI_ltI, nI_leI, nI_eq, pk_mul, pk_sub, u2_same, u2_row, u2_other, r13, olt_T, olt_F, ole_T, ole_F, oeq_T, oeq_F]
    exact hQ
  | succ n ih =>
    intro d hd s hs Q
    refine T_exact (fun Q hQ => ?_) Q
    have hd3 : d < 3 := by omega
    have wd := (hw.2.2.2.1 d hd3)
    have hgl := a_tot_le wd.1
    have hsp := a_stp_spec wd.1 (a_gone w d)
    have hdn := fun Q => sp_minutesIn (fl := fl) (Q := Q) (hk.2.2.2.2 d hd3).2 (hr.2.2.1 d hd3) wd.1 (show a_gone w d < 1000 by omega)
    have ih1 := fun Q => ih (d + 1) (by omega) s hs Q
    have h8 : s ||| 2 ^ d < 8 := Nat.or_lt_two_pow (n := 3) hs (Nat.pow_lt_pow_right (by decide) hd3)
    have ih2 := fun Q => ih (d + 1) (by omega) (s ||| 2 ^ d) h8 Q
    have hp := a_pow2 hd3
    have rg := (hr.2.2.1 d hd3).2.1
    obtain ⟨h1, ⟨h2, h3, h4, h5⟩, ⟨l1, l2, l3, l4⟩, ⟨f1, f2, f3, f4⟩, hd'⟩ := hk
    have rd := (hd' d hd3).1
    have od := (hd' d hd3).2.1
    unfold a_begun at hQ
    simp (disch := first | assumption | rfl | exact zle_0 | exact zle_1 | exact zle_2 | exact zle_3 | exact zle_4 | exact zb_0 | exact zb_1 | exact zb01_B | omega) only [zT193_4, zr_iload_2, zcl_i, zcl_r, zcl_l, zcl_n, zv_some, zv_none, Nat.reduceAdd, Nat.reduceMul, Nat.reduceSub, Nat.reduceLT, Nat.reduceLeDiff, Nat.reduceEqDiff, Int.reduceToNat, true_implies, false_implies, implies_true, and_true, true_and, not_true_eq_false, not_false_eq_true, Nat.zero_add, Nat.add_zero, nI_add, nI_ltI, nI_leI, nI_eq, pk_mul, pk_sub, u2_same, u2_row, u2_other]
    simp (disch := first | assumption | rfl | exact zle_0 | exact zle_1 | exact zle_2 | exact zle_3 | exact zle_4 | exact zb_0 | exact zb_1 | exact zb01_B | omega) only [zT193_0, zr_ic_0, zT193_1, zr_istore_1, zT193_2, zT193_3, zr_istore_2, zT193_5, zr_aload_0, zT193_6, zr_gf_45, zT193_9, zr_icmp_ge, zT193_12, zT193_13, zr_gf_44, zr_or, zr_go, zf_19_44, zT193_16, zr_iload_2, zT193_17, zr_aald4, zr_aald5, zT193_18, zT193_19, zT193_22, zT193_23, zT193_24, zr_gf_33, zT193_27, zr_iv_159, zT193_30, zr_if_le, zT193_33, zr_iload_1, zT193_34, zr_ic_1, zT193_35, zT193_36, zr_ishl, zT193_37, zr_ior, zT193_38, zT193_39, zr_iinc_2_1, zT193_42, zr_goto, zT193_45, zT193_46, zr_ret0, zcl_i, zcl_r, zcl_l, zcl_n, zv_some, zv_none, Nat.reduceAdd, Nat.reduceMul, Nat.reduceSub, Nat.reduceLT, Nat.reduceLeDiff, Nat.reduceEqDiff, Int.reduceToNat, true_implies, false_implies, implies_true, and_true, true_and, not_true_eq_false, not_false_eq_true, Nat.zero_add, Nat.add_zero, nI_add, nI_ltI, nI_leI, nI_eq, pk_mul, pk_sub, u2_same, u2_row, u2_other, r13, f3, rd, rg, hdn, ih1, ih2, b_shl, b_or, Nat.one_mul, olt_T, olt_F, ole_T, ole_F, oeq_T, oeq_F]
    repeat' first | intro _ | apply And.intro
    · rename_i h; rw [if_neg (by omega)] at hQ; exact hQ
    · rename_i h; rw [if_pos (by omega)] at hQ; exact hQ
theorem sp_begun (hk : z_Kok fr k) (hr : z_KR fi k w) (hw : a_WF w) : TT 193 0 [some (.ref k), none, none] [] (151, fi, fl, fr) Q = Q (some (.int (nI (a_begun w (w 13) 0 0)))) (151, fi, fl, fr) := by
  refine T_exact (fun Q hQ => ?_) Q
  have h := fun Q => sp_begun_ (fl := fl) hk hr hw (w 13) 0 (by omega) 0 (by decide) Q
  simp (disch := first | assumption | rfl | exact zle_0 | exact zle_1 | exact zle_2 | exact zle_3 | exact zle_4 | exact zb_0 | exact zb_1 | exact zb01_B | omega) only [zT193_0, zr_ic_0, zT193_1, zr_istore_1, zT193_2, zT193_3, zr_istore_2, zcl_i, zcl_r, zcl_l, zcl_n, zv_some, zv_none, Nat.reduceAdd, Nat.reduceMul, Nat.reduceSub, Nat.reduceLT, Nat.reduceLeDiff, Nat.reduceEqDiff, Int.reduceToNat, true_implies, false_implies, implies_true, and_true, true_and, not_true_eq_false, not_false_eq_true, Nat.zero_add, Nat.add_zero, nI_add, nI_ltI, nI_leI, nI_eq, pk_mul, pk_sub, u2_same, u2_row, u2_other, h]
  exact hQ
/-- the key of a minute in which dishes go on with the steps they are at -/
def a_keyOf (w : Nat → Nat) (b : Nat) : Nat → Nat → Nat → Nat
  | 0, _, key => key
  | n + 1, d, key => a_keyOf w b n (d + 1) (if a_bit b d && !(a_done w d) then a_put key d (a_stp w d (a_gone w d)).1 else key)
theorem sp_keyOf_ (hk : z_Kok fr k) (hr : z_KR fi k w) (hw : a_WF w) {b : Nat} (hb : b < 2 ^ 31) : ∀ n d, d + n = w 13 → ∀ key, key < 64 → ∀ Q, TT 194 5 [some (.ref k), some (.int (nI b)), some (.int (nI key)), some (.int (nI d))] [] (151, fi, fl, fr) Q = Q (some (.int (nI (a_keyOf w b n d key)))) (151, fi, fl, fr) := by
  intro n
  have h13 := hw.2.2.1
  have r13 := hr.1.2.1
  induction n with
  | zero =>
    intro d hd key hkey Q
    refine T_exact (fun Q hQ => ?_) Q
    have h1 := hk.1
    simp (disch := first | assumption | rfl | exact zle_0 | exact zle_1 | exact zle_2 | exact zle_3 | exact zle_4 | exact zb_0 | exact zb_1 | exact zb01_B | omega) only [zT194_0, zr_ic_63, zT194_2, zr_istore_2, zT194_3, zr_ic_0, zT194_4, zr_istore_3, zT194_5, zr_iload_3, zT194_6, zr_aload_0, zT194_7, zr_gf_45, zT194_10, zr_icmp_ge, zT194_13, zr_iload_1, zT194_14, zT194_15, zr_iv_119, zT194_18, zr_if_eq, zT194_21, zT194_22, zr_gf_44, zr_or, zr_go, zf_19_44, zT194_25, zT194_26, zr_aald4, zr_aald5, zT194_27, zr_iv_157, zT194_30, zr_if_ne, zT194_33, zr_iload_2, zT194_34, zT194_35, zT194_36, zT194_39, zT194_40, zT194_41, zT194_42, zT194_45, zT194_46, zT194_47, zr_gf_33, zT194_50, zr_iv_158, zT194_53, zr_iv_120, zT194_56, zT194_57, zr_iinc_3_1, zT194_60, zr_goto, zT194_63, zT194_64, zr_ret0, zcl_i, zcl_r, zcl_l, zcl_n, zv_some, zv_none, Nat.reduceAdd, Nat.reduceMul, Nat.reduceSub, Nat.reduceLT, Nat.reduceLeDiff, Nat.reduceEqDiff, Int.reduceToNat, true_implies, false_implies, implies_true, and_true, true_and, not_true_eq_false, not_false_eq_true, Nat.zero_add, Nat.add_zero, nI_add, nI_ltI, nI_leI, nI_eq, pk_mul, pk_sub, u2_same, u2_row, u2_other, r13, olt_T, olt_F, ole_T, ole_F, oeq_T, oeq_F]
    exact hQ
  | succ n ih =>
    intro d hd key hkey Q
    refine T_exact (fun Q hQ => ?_) Q
    have hd3 : d < 3 := by omega
    have wd := (hw.2.2.2.1 d hd3)
    have hgl := a_tot_le wd.1
    have hst : (a_stp w d (a_gone w d)).1 < 4 := Nat.lt_succ_of_le (Nat.le_trans (a_stp_spec wd.1 (a_gone w d)).1 wd.1.1)
    have hin := fun M Q => sp_isIn (M := M) (Q := Q) (d := d) hb (by omega)
    have hdn := fun Q => sp_isDone (fl := fl) (Q := Q) (hk.2.2.2.2 d hd3).2 (hr.2.2.1 d hd3) wd.1 wd.2.2
    have hsa := fun Q => sp_stepAfter (fl := fl) (Q := Q) (hk.2.2.2.2 d hd3).2 (hr.2.2.1 d hd3) wd.1 (show a_gone w d < 1000 by omega)
    have hks := fun M Q => sp_keyWithStep (M := M) (Q := Q) hkey hd3 hst
    have ih1 := fun Q => ih (d + 1) (by omega) key hkey Q
    have ih2 := fun Q => ih (d + 1) (by omega) _ (a_put_at key hkey d hd3 _ hst).1 Q
    have rg := (hr.2.2.1 d hd3).2.1
    obtain ⟨h1, ⟨h2, h3, h4, h5⟩, ⟨l1, l2, l3, l4⟩, ⟨f1, f2, f3, f4⟩, hd'⟩ := hk
    have rd := (hd' d hd3).1
    have od := (hd' d hd3).2.1
    unfold a_keyOf a_done at hQ
    simp (disch := first | assumption | rfl | exact zle_0 | exact zle_1 | exact zle_2 | exact zle_3 | exact zle_4 | exact zb_0 | exact zb_1 | exact zb01_B | omega) only [zT194_5, zr_iload_3, zcl_i, zcl_r, zcl_l, zcl_n, zv_some, zv_none, Nat.reduceAdd, Nat.reduceMul, Nat.reduceSub, Nat.reduceLT, Nat.reduceLeDiff, Nat.reduceEqDiff, Int.reduceToNat, true_implies, false_implies, implies_true, and_true, true_and, not_true_eq_false, not_false_eq_true, Nat.zero_add, Nat.add_zero, nI_add, nI_ltI, nI_leI, nI_eq, pk_mul, pk_sub, u2_same, u2_row, u2_other]
    simp (disch := first | assumption | rfl | exact zle_0 | exact zle_1 | exact zle_2 | exact zle_3 | exact zle_4 | exact zb_0 | exact zb_1 | exact zb01_B | omega) only [zT194_0, zr_ic_63, zT194_2, zr_istore_2, zT194_3, zr_ic_0, zT194_4, zr_istore_3, zT194_6, zr_aload_0, zT194_7, zr_gf_45, zT194_10, zr_icmp_ge, zT194_13, zr_iload_1, zT194_14, zr_iload_3, zT194_15, zr_iv_119, zT194_18, zr_if_eq, zT194_21, zT194_22, zr_gf_44, zr_or, zr_go, zf_19_44, zT194_25, zT194_26, zr_aald4, zr_aald5, zT194_27, zr_iv_157, zT194_30, zr_if_ne, zT194_33, zr_iload_2, zT194_34, zT194_35, zT194_36, zT194_39, zT194_40, zT194_41, zT194_42, zT194_45, zT194_46, zT194_47, zr_gf_33, zT194_50, zr_iv_158, zT194_53, zr_iv_120, zT194_56, zT194_57, zr_iinc_3_1, zT194_60, zr_goto, zT194_63, zT194_64, zr_ret0, zcl_i, zcl_r, zcl_l, zcl_n, zv_some, zv_none, Nat.reduceAdd, Nat.reduceMul, Nat.reduceSub, Nat.reduceLT, Nat.reduceLeDiff, Nat.reduceEqDiff, Int.reduceToNat, true_implies, false_implies, implies_true, and_true, true_and, not_true_eq_false, not_false_eq_true, Nat.zero_add, Nat.add_zero, nI_add, nI_ltI, nI_leI, nI_eq, pk_mul, pk_sub, u2_same, u2_row, u2_other, r13, f3, rd, rg, hin, hdn, hsa, hks, ih1, ih2, zB_eq0, olt_T, olt_F, ole_T, ole_F, oeq_T, oeq_F]
    cases hx : a_bit b d <;> cases hy : decide (a_gone w d = a_tot w d) <;> rw [hx, hy] at hQ <;> simp only [Bool.not_true, Bool.not_false, Bool.false_and, Bool.true_and, Bool.false_or, Bool.true_or, Bool.false_eq_true, if_true, if_false, true_implies, false_implies, not_true_eq_false, not_false_eq_true, and_true, true_and, reduceCtorEq] at hQ ⊢ <;> exact hQ
theorem sp_keyOf (hk : z_Kok fr k) (hr : z_KR fi k w) (hw : a_WF w) {b : Nat} (hb : b < 2 ^ 31) : TT 194 0 [some (.ref k), some (.int (nI b)), none, none] [] (151, fi, fl, fr) Q = Q (some (.int (nI (a_keyOf w b (w 13) 0 63)))) (151, fi, fl, fr) := by
  refine T_exact (fun Q hQ => ?_) Q
  have h := fun Q => sp_keyOf_ (fl := fl) hk hr hw hb (w 13) 0 (by omega) 63 (by decide) Q
  simp (disch := first | assumption | rfl | exact zle_0 | exact zle_1 | exact zle_2 | exact zle_3 | exact zle_4 | exact zb_0 | exact zb_1 | exact zb01_B | omega) only [zT194_0, zr_ic_63, zT194_2, zr_istore_2, zT194_3, zr_ic_0, zT194_4, zr_istore_3, zcl_i, zcl_r, zcl_l, zcl_n, zv_some, zv_none, Nat.reduceAdd, Nat.reduceMul, Nat.reduceSub, Nat.reduceLT, Nat.reduceLeDiff, Nat.reduceEqDiff, Int.reduceToNat, true_implies, false_implies, implies_true, and_true, true_and, not_true_eq_false, not_false_eq_true, Nat.zero_add, Nat.add_zero, nI_add, nI_ltI, nI_leI, nI_eq, pk_mul, pk_sub, u2_same, u2_row, u2_other, h]
  exact hQ
end
