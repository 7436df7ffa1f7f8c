/-! what may go on in a state, in the model -/
def isSt (w : Nat → Nat) (s : Nat) : Prop := s < 4096 ∧ ∀ d, d < 3 → plc s d ≤ a_tot w d
def a_dni (w : Nat → Nat) (s : Nat) : Nat := msk (fun d => decide (plc s d = a_tot w d)) 3
def a_lf (w : Nat → Nat) (some_ s : Nat) : Nat := some_ ^^^ (some_ &&& a_dni w s)
def a_mu (w : Nat → Nat) (some_ s : Nat) : Nat := msk (fun d => a_bit (a_lf w some_ s) d && decide (0 < (a_stp w d (plc s d)).2)) (w 13)
def a_okS (w : Nat → Nat) (en : Nat → Bool) (some_ s set : Nat) : Bool := decide (set ^^^ (set &&& a_lf w some_ s) = 0) && (decide (a_mu w some_ s ^^^ (a_mu w some_ s &&& set) = 0) && en (a_keyS w s set))
def a_may (w : Nat → Nat) (en : Nat → Bool) (some_ s : Nat) : Nat := msk (fun set => a_okS w en some_ s set) 8
theorem a_bit_x {x y d : Nat} : a_bit (x ^^^ (x &&& y)) d = (a_bit x d && !a_bit y d) := by
  rw [a_bit_test, a_bit_test, a_bit_test, Nat.testBit_xor, Nat.testBit_and]
  cases x.testBit d <;> cases y.testBit d <;> rfl
theorem x_lt8 {x y : Nat} (hx : x < 8) : x ^^^ (x &&& y) < 8 := Nat.xor_lt_two_pow (n := 3) hx (Nat.lt_of_le_of_lt Nat.and_le_left hx)
theorem a_lf_lt {w : Nat → Nat} {some_ s : Nat} (h : some_ < 8) : a_lf w some_ s < 8 := x_lt8 h
theorem a_lf_bit {w : Nat → Nat} {some_ s d : Nat} (hd : d < 3) : a_bit (a_lf w some_ s) d = (a_bit some_ d && !decide (plc s d = a_tot w d)) := by
  unfold a_lf a_dni
  rw [a_bit_x, msk_bit, decide_eq_true hd, Bool.true_and]
theorem a_mu_lt {w : Nat → Nat} (h13 : w 13 ≤ 3) {some_ s : Nat} : a_mu w some_ s < 8 := Nat.lt_of_lt_of_le (msk_lt _ _) (show 2 ^ w 13 ≤ 2 ^ 3 from Nat.pow_le_pow_right (by decide) h13)
section
variable {fi fi' : Nat → Nat → Int32} {fl fl' : Nat → Nat → Int64} {fr : Nat → Nat → Option Nat} {Q : Option Value → Mm → Prop} {w : Nat → Nat} {k : Nat} {M : Mm} {ws : Nat → Nat → Nat} {nn tx : Nat → Nat} {n : Nat}
theorem sm_lesser {a b : Nat} (ha : a < 2 ^ 31) (hb : b < 2 ^ 31) : TT 6 0 [some (.int (nI a)), some (.int (nI b))] [] M Q = Q (some (.int (nI (min a b)))) M := by
  refine T_exact (fun Q hQ => ?_) Q
  obtain ⟨nx, fi, fl, fr⟩ := M
  by_cases c : a < b
  · rw [Nat.min_eq_left (by omega)] at hQ
    simp (disch := first | assumption | rfl | exact zle_0 | exact zle_1 | exact zle_2 | exact zle_3 | exact zle_4 | exact zb_0 | exact zb_1 | exact zb01_B | omega) only [zT6_0, zr_iload_0, zT6_1, zr_iload_1, zT6_2, zr_icmp_ge, zT6_5, zT6_6, zr_goto, zT6_9, zT6_10, zr_ret0, zcl_i, zcl_r, zcl_l, zcl_n, zv_some, zv_none, Nat.reduceAdd, Nat.reduceMul, Nat.reduceSub, Nat.reduceLT, Nat.reduceLeDiff, Nat.reduceEqDiff, Int.reduceToNat, true_implies, false_implies, implies_true, and_true, true_and, not_true_eq_false, not_false_eq_true, Nat.zero_add, Nat.add_zero, nI_add, nI_ltI, nI_leI, nI_eq, pk_mul, pk_sub, u2_same, u2_row, u2_other, olt_T, olt_F, ole_T, ole_F, oeq_T, oeq_F]
    exact hQ
  · rw [Nat.min_eq_right (by omega)] at hQ
    simp (disch := first | assumption | rfl | exact zle_0 | exact zle_1 | exact zle_2 | exact zle_3 | exact zle_4 | exact zb_0 | exact zb_1 | exact zb01_B | omega) only [zT6_0, zr_iload_0, zT6_1, zr_iload_1, zT6_2, zr_icmp_ge, zT6_5, zT6_6, zr_goto, zT6_9, zT6_10, zr_ret0, zcl_i, zcl_r, zcl_l, zcl_n, zv_some, zv_none, Nat.reduceAdd, Nat.reduceMul, Nat.reduceSub, Nat.reduceLT, Nat.reduceLeDiff, Nat.reduceEqDiff, Int.reduceToNat, true_implies, false_implies, implies_true, and_true, true_and, not_true_eq_false, not_false_eq_true, Nat.zero_add, Nat.add_zero, nI_add, nI_ltI, nI_leI, nI_eq, pk_mul, pk_sub, u2_same, u2_row, u2_other, olt_T, olt_F, ole_T, ole_F, oeq_T, oeq_F]
    exact hQ
theorem n_kn_sum {key : Nat} : ∀ n, n_sum (n_sr w) key n + n_sum (n_sl w) key n = n_sum (n_kn w) key n
  | 0 => rfl
  | n + 1 => by
    have ih : n_sum (n_sr w) key n + n_sum (n_sl w) key n = n_sum (n_kn w) key n := n_kn_sum n
    have e : n_sr w n (a_at key n) + n_sl w n (a_at key n) = n_kn w n (a_at key n) := by
      unfold n_sr n_sl n_kn
      by_cases c : a_at key n < a_sm w n
      · rw [if_pos c, if_pos c, if_pos c]
        omega
      · rw [if_neg c, if_neg c, if_neg c]
    show n_sum (n_sr w) key n + n_sr w n (a_at key n) + (n_sum (n_sl w) key n + n_sl w n (a_at key n)) = n_sum (n_kn w) key n + n_kn w n (a_at key n)
    omega
theorem n_sum_more {f : Nat → Nat → Nat} {key n : Nat} : ∀ m, (∀ d, n ≤ d → d < n + m → f d (a_at key d) = 0) → n_sum f key (n + m) = n_sum f key n
  | 0, _ => rfl
  | m + 1, h => by
    show n_sum f key (n + m) + f (n + m) (a_at key (n + m)) = _
    rw [n_sum_more m (fun d h1 h2 => h d h1 (by omega)), h (n + m) (by omega) (by omega), Nat.add_zero]
theorem sm_mg_ (hf : z_FR fr) (hw : a_WF w) (hr : z_MR fi 0 w) {s set : Nat} (hs : s < 4096) (h8 : set < 8) (hno : ∀ d, d < w 13 → a_bit set d = true → plc s d < a_tot w d)
    (hQ : ∀ v8 v9, TT 41 157 [some (.ref 133), some (.int (nI set)), some (.int (nI s)), some (.int (nI (n_sum (n_sr w) (a_keyS w s set) (w 13)))), some (.int (nI (n_sum (n_br w) (a_keyS w s set) (w 13)))), some (.int (nI (n_sum (n_sl w) (a_keyS w s set) (w 13)))), some (.int (nI (n_sum (n_bl w) (a_keyS w s set) (w 13)))), some (.int (nI (w 13))), v8, v9] [] (151, fi, fl, fr) Q) :
    ∀ m d, d + m = w 13 → ∀ v8 v9, TT 41 14 [some (.ref 133), some (.int (nI set)), some (.int (nI s)), some (.int (nI (n_sum (n_sr w) (a_keyS w s set) d))), some (.int (nI (n_sum (n_br w) (a_keyS w s set) d))), some (.int (nI (n_sum (n_sl w) (a_keyS w s set) d))), some (.int (nI (n_sum (n_bl w) (a_keyS w s set) d))), some (.int (nI d)), v8, v9] [] (151, fi, fl, fr) Q := by
  have o133 : z_ok 151 133 20 = true := rfl; have o134 : z_ok 151 134 1 = true := rfl
  have l134 : z_al 134 = 440 := rfl
  have h13 := hw.2.2.1
  have e13 := hr.at0 (i := 13) (by decide)
  intro m
  induction m with
  | zero =>
    intro d hd v8 v9
    obtain rfl : d = w 13 := by omega
    have o := hQ v8 v9
    simp (disch := first | assumption | rfl | exact zle_0 | exact zle_1 | exact zle_2 | exact zle_3 | exact zle_4 | exact zb_0 | exact zb_1 | exact zb01_B | omega) only [zT41_14, zr_iload_7, zT41_16, zr_aload_0, zT41_17, zr_gf_71, zr_or, zr_go, zf_133_71, zT41_20, zr_ic_13, zT41_22, zr_iald, zT41_23, zr_icmp_ge, zcl_i, zcl_r, zcl_l, zcl_n, zv_some, zv_none, Nat.reduceAdd, Nat.reduceMul, Nat.reduceSub, Nat.reduceLT, Nat.reduceLeDiff, Nat.reduceEqDiff, Int.reduceToNat, true_implies, false_implies, implies_true, and_true, true_and, not_true_eq_false, not_false_eq_true, Nat.zero_add, Nat.add_zero, nI_add, nI_ltI, nI_leI, nI_eq, pk_mul, pk_sub, u2_same, u2_row, u2_other, e13, olt_T, olt_F, ole_T, ole_F, oeq_T, oeq_F]
    exact o
  | succ m ih =>
    intro d hd v8 v9
    have d3 : d < 3 := by omega
    have wd := (hw.2.2.2.1 d d3).1
    have ih' := ih (d + 1) (by omega)
    have at1 := a_keyS_at hw (s := s) h8 d3
    have ha := fun M Q => sm_has (M := M) (Q := Q) (b := set) (d := d) (by omega) (by omega)
    have sr : ∀ f : Nat → Nat → Nat, n_sum f (a_keyS w s set) (d + 1) = n_sum f (a_keyS w s set) d + f d (a_at (a_keyS w s set) d) := fun _ => rfl
    rw [sr, sr, sr, sr] at ih'
    cases hb : a_bit set d
    · rw [hb] at ha
      rw [hb, if_neg (by decide)] at at1
      rw [at1] at ih'
      have sm3 := wd.1
      have z : n_sr w d 3 = 0 ∧ n_br w d 3 = 0 ∧ n_sl w d 3 = 0 ∧ n_bl w d 3 = 0 := by
        unfold n_sr n_br n_sl n_bl
        rw [if_neg (by omega), if_neg (by omega), if_neg (by omega), if_neg (by omega)]
        exact ⟨rfl, rfl, rfl, rfl⟩
      rw [z.1, z.2.1, z.2.2.1, z.2.2.2, Nat.add_zero, Nat.add_zero, Nat.add_zero, Nat.add_zero] at ih'
      simp (disch := first | assumption | rfl | exact zle_0 | exact zle_1 | exact zle_2 | exact zle_3 | exact zle_4 | exact zb_0 | exact zb_1 | exact zb01_B | omega) only [zT41_14, zr_iload_7, zcl_i, zcl_r, zcl_l, zcl_n, zv_some, zv_none, Nat.reduceAdd, Nat.reduceMul, Nat.reduceSub, Nat.reduceLT, Nat.reduceLeDiff, Nat.reduceEqDiff, Int.reduceToNat, true_implies, false_implies, implies_true, and_true, true_and, not_true_eq_false, not_false_eq_true, Nat.zero_add, Nat.add_zero, nI_add, nI_ltI, nI_leI, nI_eq, pk_mul, pk_sub, u2_same, u2_row, u2_other]
      simp (disch := first | assumption | rfl | exact zle_0 | exact zle_1 | exact zle_2 | exact zle_3 | exact zle_4 | exact zb_0 | exact zb_1 | exact zb01_B | omega) only [zT41_16, zr_aload_0, zT41_17, zr_gf_71, zr_or, zr_go, zf_133_71, zT41_20, zr_ic_13, zT41_22, zr_iald, zT41_23, zr_icmp_ge, zT41_26, zr_iload_1, zT41_27, zr_iload_7, zT41_29, zr_iv_5, zT41_32, zr_if_eq, zT41_151, zr_iinc_7_1, zT41_154, zr_goto, zcl_i, zcl_r, zcl_l, zcl_n, zv_some, zv_none, Nat.reduceAdd, Nat.reduceMul, Nat.reduceSub, Nat.reduceLT, Nat.reduceLeDiff, Nat.reduceEqDiff, Int.reduceToNat, true_implies, false_implies, implies_true, and_true, true_and, not_true_eq_false, not_false_eq_true, Nat.zero_add, Nat.add_zero, nI_add, nI_ltI, nI_leI, nI_eq, pk_mul, pk_sub, u2_same, u2_row, u2_other, e13, ha, zB_eq0, olt_T, olt_F, ole_T, ole_F, oeq_T, oeq_F]
      exact ih' _ _
    · rw [hb] at ha
      rw [hb, if_pos rfl] at at1
      have pl := hno d (by omega) hb
      have asp : a_sp w d (plc s d) = (a_stp w d (plc s d)).1 := by unfold a_sp; rw [if_pos pl]
      rw [asp] at at1
      rw [at1] at ih'
      have so := fun Q => sm_stepOf (fl := fl) (Q := Q) hf hr d3 wd (show plc s d < 1000 by have := plc_lt (s := s) (d := d); omega)
      have l8 := a_stp_lt8 wd (Nat.le_of_lt pl)
      obtain ⟨q1, q2, q3⟩ := a_stp_spec wd (plc s d)
      have lt : (a_stp w d (plc s d)).1 < a_sm w d := by
        rcases Nat.lt_or_ge (a_stp w d (plc s d)).1 (a_sm w d) with c | c
        · exact c
        · have e : (a_stp w d (plc s d)).1 = a_sm w d := by omega
          have t : a_tot w d = a_pre w d (a_sm w d) := by
            unfold a_tot a_pre
            rfl
          rw [e] at q2
          omega
      have bnd := wd.2 _ lt
      have sm3 := wd.1
      generalize (a_stp w d (plc s d)).1 = st at *
      generalize (a_stp w d (plc s d)).2 = sl at *
      have nz := nI_nz (c := 8) (by decide) (by decide)
      have dv := pk_div (a := 8 * st + sl) (d := 8) (by omega) (by decide) (by decide)
      rw [show (8 * st + sl) / 8 = st by omega] at dv
      have pe : s / 2 ^ (4 * d) &&& 15 = plc s d := Nat.and_two_pow_sub_one_eq_mod _ 4
      have w0 := hr.at0 (i := 17 + 12 * d + 4 * st) (by omega)
      have w1 := hr.at0 (i := 17 + 12 * d + 4 * st + 1) (by omega)
      have w2 := hr.at0 (i := 17 + 12 * d + 4 * st + 2) (by omega)
      rw [show w (17 + 12 * d + 4 * st) = a_st w d st 0 from rfl] at w0
      rw [show w (17 + 12 * d + 4 * st + 1) = a_st w d st 1 from rfl] at w1
      rw [show w (17 + 12 * d + 4 * st + 2) = a_st w d st 2 from rfl] at w2
      have z : n_sr w d st = min (a_st w d st 0) (a_st w d st 2) ∧ n_br w d st = a_st w d st 0 - min (a_st w d st 0) (a_st w d st 2) ∧ n_sl w d st = a_st w d st 2 - min (a_st w d st 0) (a_st w d st 2) ∧ n_bl w d st = a_st w d st 1 - (a_st w d st 2 - min (a_st w d st 0) (a_st w d st 2)) := by
        unfold n_sr n_br n_sl n_bl
        rw [if_pos lt, if_pos lt, if_pos lt, if_pos lt]
        exact ⟨rfl, rfl, rfl, rfl⟩
      rw [z.1, z.2.1, z.2.2.1, z.2.2.2] at ih'
      have le := fun M Q => sm_lesser (M := M) (Q := Q) (a := a_st w d st 0) (b := a_st w d st 2) (by omega) (by omega)
      have p0 := pk_sub (a := a_st w d st 0) (b := min (a_st w d st 0) (a_st w d st 2)) (by omega)
      have p2 := pk_sub (a := a_st w d st 2) (b := min (a_st w d st 0) (a_st w d st 2)) (by omega)
      have p1 := pk_sub (a := a_st w d st 1) (b := a_st w d st 2 - min (a_st w d st 0) (a_st w d st 2)) (by omega)
      generalize a_st w d st 0 = x0 at *
      generalize a_st w d st 1 = x1 at *
      generalize a_st w d st 2 = x2 at *
      generalize min x0 x2 = mn at *
      simp (disch := first | assumption | rfl | exact zle_0 | exact zle_1 | exact zle_2 | exact zle_3 | exact zle_4 | exact zb_0 | exact zb_1 | exact zb01_B | omega) only [zT41_14, zr_iload_7, zcl_i, zcl_r, zcl_l, zcl_n, zv_some, zv_none, Nat.reduceAdd, Nat.reduceMul, Nat.reduceSub, Nat.reduceLT, Nat.reduceLeDiff, Nat.reduceEqDiff, Int.reduceToNat, true_implies, false_implies, implies_true, and_true, true_and, not_true_eq_false, not_false_eq_true, Nat.zero_add, Nat.add_zero, nI_add, nI_ltI, nI_leI, nI_eq, pk_mul, pk_sub, u2_same, u2_row, u2_other]
      simp (disch := first | assumption | rfl | exact zle_0 | exact zle_1 | exact zle_2 | exact zle_3 | exact zle_4 | exact zb_0 | exact zb_1 | exact zb01_B | omega) only [zT41_16, zr_aload_0, zT41_17, zr_gf_71, zr_or, zr_go, zf_133_71, zT41_20, zr_ic_13, zT41_22, zr_iald, zT41_23, zr_icmp_ge, zT41_26, zr_iload_1, zT41_27, zr_iload_7, zT41_29, zr_iv_5, zT41_32, zr_if_eq, zT41_35, zr_ic_17, zT41_37, zr_ic_12, zT41_39, zT41_41, zr_imul, zT41_42, zr_iadd, zT41_43, zr_ic_4, zT41_44, zT41_45, zT41_47, zr_iload_2, zT41_48, zT41_49, zT41_51, zT41_52, zr_ishr, zT41_53, zr_ic_15, zT41_55, zr_iand, zT41_56, zr_iv_40, zT41_59, zr_ic_8, zT41_61, zr_idiv, zT41_62, zT41_63, zT41_64, zr_istore_8, zT41_66, zT41_67, zT41_70, zr_iload_8, zT41_72, zT41_73, zT41_74, zT41_77, zT41_79, zr_ic_2, zT41_80, zT41_81, zT41_82, zr_iv_6, zT41_85, zr_istore_9, zT41_87, zr_iload_3, zT41_88, zr_iload_9, zT41_90, zT41_91, zr_istore_3, zT41_92, zr_iload_4, zT41_94, zT41_95, zT41_98, zT41_100, zT41_101, zT41_103, zr_isub, zT41_104, zT41_105, zr_istore_4, zT41_107, zr_iload_5, zT41_109, zT41_110, zT41_113, zT41_115, zT41_116, zT41_117, zT41_118, zT41_120, zT41_121, zT41_122, zr_istore_5, zT41_124, zr_iload_6, zT41_126, zT41_127, zT41_130, zT41_132, zr_ic_1, zT41_133, zT41_134, zT41_135, zT41_136, zT41_139, zT41_141, zT41_142, zT41_143, zT41_144, zT41_146, zT41_147, zT41_148, zT41_149, zr_istore_6, zT41_151, zr_iinc_7_1, zT41_154, zr_goto, zcl_i, zcl_r, zcl_l, zcl_n, zv_some, zv_none, Nat.reduceAdd, Nat.reduceMul, Nat.reduceSub, Nat.reduceLT, Nat.reduceLeDiff, Nat.reduceEqDiff, Int.reduceToNat, true_implies, false_implies, implies_true, and_true, true_and, not_true_eq_false, not_false_eq_true, Nat.zero_add, Nat.add_zero, nI_add, nI_ltI, nI_leI, nI_eq, pk_mul, pk_sub, u2_same, u2_row, u2_other, e13, ha, zB_eq0, reduceCtorEq, b_shr, b_and, pe, so, dv, w0, w1, w2, le, p0, p1, p2, olt_T, olt_F, ole_T, ole_F, oeq_T, oeq_F]
      exact ih' _ _
theorem sm_mayGo (hf : z_FR fr) (hw : a_WF w) (hr : z_MR fi 0 w) {hl : Nat → Nat} {er el : Nat} (he : er ≤ 1 ∧ el ≤ 1) (hh : z_MH fi hl er el 6) {s set : Nat} (hs : s < 4096) (h8 : set < 8) (hno : ∀ d, d < w 13 → a_bit set d = true → plc s d < a_tot w d) :
    TT 41 0 [some (.ref 133), some (.int (nI set)), some (.int (nI s)), none, none, none, none, none, none, none] [] (151, fi, fl, fr) Q = Q (some (.int (zB (a_enough w hl er el (a_keyS w s set))))) (151, fi, fl, fr) := by
  refine T_exact (fun Q hQ => ?_) Q
  have o133 : z_ok 151 133 20 = true := rfl; have o134 : z_ok 151 134 1 = true := rfl
  have l134 : z_al 134 = 440 := rfl
  have h13 := hw.2.2.1
  have e53 := hr.at0 (i := 53) (by decide)
  have w53 := hw.2.2.2.2.1
  have zt : zB true = nI 1 := rfl
  have zf : zB false = nI 0 := rfl
  have more : ∀ f : Nat → Nat → Nat, (∀ d s, d < 3 → a_sm w d = 0 → f d s = 0) → n_sum f (a_keyS w s set) (w 13) = n_sum f (a_keyS w s set) 3 := by
    intro f hf0
    have := n_sum_more (f := f) (key := a_keyS w s set) (n := w 13) (3 - w 13) (fun d h1 h2 => hf0 d _ (by omega) ((hw.2.2.2.1 d (by omega)).2.1 h1))
    rw [show w 13 + (3 - w 13) = 3 by omega] at this
    exact this.symm
  have L := sm_mg_ (fi := fi) (fl := fl) (Q := Q) hf hw hr hs h8 hno (fun v8 v9 => by
    rw [more (n_sr w) (fun d s _ h => by unfold n_sr; rw [if_neg (by omega)]), more (n_br w) (fun d s _ h => by unfold n_br; rw [if_neg (by omega)]), more (n_sl w) (fun d s _ h => by unfold n_sl; rw [if_neg (by omega)]), more (n_bl w) (fun d s _ h => by unfold n_bl; rw [if_neg (by omega)])]
    have b1 := n_sum_le (f := n_sr w) (key := a_keyS w s set) (fun i s hi => (n_le hw hi).1)
    have b2 := n_sum_le (f := n_br w) (key := a_keyS w s set) (fun i s hi => (n_le hw hi).2.1)
    have b3 := n_sum_le (f := n_sl w) (key := a_keyS w s set) (fun i s hi => (n_le hw hi).2.2.1)
    have b4 := n_sum_le (f := n_bl w) (key := a_keyS w s set) (fun i s hi => (n_le hw hi).2.2.2.1)
    have c1 := a_cnt_le (hl := hl) hsr_le 6
    have c2 := a_cnt_le (hl := hl) hbr_le 6
    have c3 := a_cnt_le (hl := hl) hsl_le 6
    have c4 := a_cnt_le (hl := hl) hei_le 6
    have ks := n_kn_sum (w := w) (key := a_keyS w s set) 3
    unfold a_enough at hQ
    rw [← ks] at hQ
    obtain ⟨m1, m2, m3, m4, m5⟩ := hh
    have ae := fun Q => sm_areEnough (fi := fi) (fl := fl) (fr := fr) (Q := Q) (nsr := n_sum (n_sr w) (a_keyS w s set) 3) (nbr := n_sum (n_br w) (a_keyS w s set) 3) (nsl := n_sum (n_sl w) (a_keyS w s set) 3) (nbl := n_sum (n_bl w) (a_keyS w s set) 3) (sr := a_cnt hsr hl 6) (sl := a_cnt hsl hl 6) (br := a_cnt hbr hl 6 + er) (bl := el) (ei := a_cnt hei hl 6) (by omega) (by omega)
    generalize a_cov (a_cnt hsr hl 6) (a_cnt hbr hl 6 + er) (a_cnt hsl hl 6) el (a_cnt hei hl 6) (n_sum (n_sr w) (a_keyS w s set) 3) (n_sum (n_br w) (a_keyS w s set) 3) (n_sum (n_sl w) (a_keyS w s set) 3) (n_sum (n_bl w) (a_keyS w s set) 3) = cv at *
    generalize n_sum (n_sr w) (a_keyS w s set) 3 = y1 at *
    generalize n_sum (n_br w) (a_keyS w s set) 3 = y2 at *
    generalize n_sum (n_sl w) (a_keyS w s set) 3 = y3 at *
    generalize n_sum (n_bl w) (a_keyS w s set) 3 = y4 at *
    by_cases ck : y1 + y3 ≤ w 53
    · rw [decide_eq_true ck, Bool.true_and] at hQ
      cases cv
      · simp (disch := first | assumption | rfl | exact zle_0 | exact zle_1 | exact zle_2 | exact zle_3 | exact zle_4 | exact zb_0 | exact zb_1 | exact zb01_B | omega) only [zT41_157, zr_iload_3, zT41_158, zr_iload_5, zT41_160, zr_iadd, zT41_161, zr_aload_0, zT41_162, zr_gf_71, zr_or, zr_go, zf_133_71, zT41_165, zr_ic_53, zT41_167, zr_iald, zT41_168, zr_icmp_gt, zT41_171, zT41_172, zr_iload_4, zT41_174, zT41_176, zr_iload_6, zT41_178, zT41_179, zr_gf_81, zT41_182, zT41_183, zr_gf_82, zT41_186, zT41_187, zr_gf_83, zT41_190, zT41_191, zr_gf_84, zT41_194, zT41_195, zr_gf_85, zT41_198, zr_iv_38, zT41_201, zr_if_eq, zT41_204, zr_ic_1, zT41_205, zr_goto, zT41_208, zr_ic_0, zT41_209, zr_ret1_0, zr_ret1_1, zr_ret1_B, zcl_i, zcl_r, zcl_l, zcl_n, zv_some, zv_none, Nat.reduceAdd, Nat.reduceMul, Nat.reduceSub, Nat.reduceLT, Nat.reduceLeDiff, Nat.reduceEqDiff, Int.reduceToNat, true_implies, false_implies, implies_true, and_true, true_and, not_true_eq_false, not_false_eq_true, Nat.zero_add, Nat.add_zero, nI_add, nI_ltI, nI_leI, nI_eq, pk_mul, pk_sub, u2_same, u2_row, u2_other, e53, m1, m2, m3, m4, m5, ae, zB_eq0, olt_T, olt_F, ole_T, ole_F, oeq_T, oeq_F]
        exact hQ
      · simp (disch := first | assumption | rfl | exact zle_0 | exact zle_1 | exact zle_2 | exact zle_3 | exact zle_4 | exact zb_0 | exact zb_1 | exact zb01_B | omega) only [zT41_157, zr_iload_3, zT41_158, zr_iload_5, zT41_160, zr_iadd, zT41_161, zr_aload_0, zT41_162, zr_gf_71, zr_or, zr_go, zf_133_71, zT41_165, zr_ic_53, zT41_167, zr_iald, zT41_168, zr_icmp_gt, zT41_171, zT41_172, zr_iload_4, zT41_174, zT41_176, zr_iload_6, zT41_178, zT41_179, zr_gf_81, zT41_182, zT41_183, zr_gf_82, zT41_186, zT41_187, zr_gf_83, zT41_190, zT41_191, zr_gf_84, zT41_194, zT41_195, zr_gf_85, zT41_198, zr_iv_38, zT41_201, zr_if_eq, zT41_204, zr_ic_1, zT41_205, zr_goto, zT41_208, zr_ic_0, zT41_209, zr_ret1_0, zr_ret1_1, zr_ret1_B, zcl_i, zcl_r, zcl_l, zcl_n, zv_some, zv_none, Nat.reduceAdd, Nat.reduceMul, Nat.reduceSub, Nat.reduceLT, Nat.reduceLeDiff, Nat.reduceEqDiff, Int.reduceToNat, true_implies, false_implies, implies_true, and_true, true_and, not_true_eq_false, not_false_eq_true, Nat.zero_add, Nat.add_zero, nI_add, nI_ltI, nI_leI, nI_eq, pk_mul, pk_sub, u2_same, u2_row, u2_other, e53, m1, m2, m3, m4, m5, ae, zB_eq0, reduceCtorEq, olt_T, olt_F, ole_T, ole_F, oeq_T, oeq_F]
        exact hQ
    · rw [decide_eq_false ck, Bool.false_and] at hQ
      simp (disch := first | assumption | rfl | exact zle_0 | exact zle_1 | exact zle_2 | exact zle_3 | exact zle_4 | exact zb_0 | exact zb_1 | exact zb01_B | omega) only [zT41_157, zr_iload_3, zT41_158, zr_iload_5, zT41_160, zr_iadd, zT41_161, zr_aload_0, zT41_162, zr_gf_71, zr_or, zr_go, zf_133_71, zT41_165, zr_ic_53, zT41_167, zr_iald, zT41_168, zr_icmp_gt, zT41_171, zT41_172, zr_iload_4, zT41_174, zT41_176, zr_iload_6, zT41_178, zT41_179, zr_gf_81, zT41_182, zT41_183, zr_gf_82, zT41_186, zT41_187, zr_gf_83, zT41_190, zT41_191, zr_gf_84, zT41_194, zT41_195, zr_gf_85, zT41_198, zr_iv_38, zT41_201, zr_if_eq, zT41_204, zr_ic_1, zT41_205, zr_goto, zT41_208, zr_ic_0, zT41_209, zr_ret1_0, zr_ret1_1, zr_ret1_B, zcl_i, zcl_r, zcl_l, zcl_n, zv_some, zv_none, Nat.reduceAdd, Nat.reduceMul, Nat.reduceSub, Nat.reduceLT, Nat.reduceLeDiff, Nat.reduceEqDiff, Int.reduceToNat, true_implies, false_implies, implies_true, and_true, true_and, not_true_eq_false, not_false_eq_true, Nat.zero_add, Nat.add_zero, nI_add, nI_ltI, nI_leI, nI_eq, pk_mul, pk_sub, u2_same, u2_row, u2_other, e53, olt_T, olt_F, ole_T, ole_F, oeq_T, oeq_F]
      exact hQ) (w 13) 0 (Nat.zero_add _) none none
  simp (disch := first | assumption | rfl | exact zle_0 | exact zle_1 | exact zle_2 | exact zle_3 | exact zle_4 | exact zb_0 | exact zb_1 | exact zb01_B | omega) only [zT41_0, zr_ic_0, zT41_1, zr_istore_3, zT41_2, zT41_3, zr_istore_4, zT41_5, zT41_6, zr_istore_5, zT41_8, zT41_9, zr_istore_6, zT41_11, zT41_12, zr_istore_7, zcl_i, zcl_r, zcl_l, zcl_n, zv_some, zv_none, Nat.reduceAdd, Nat.reduceMul, Nat.reduceSub, Nat.reduceLT, Nat.reduceLeDiff, Nat.reduceEqDiff, Int.reduceToNat, true_implies, false_implies, implies_true, and_true, true_and, not_true_eq_false, not_false_eq_true, Nat.zero_add, Nat.add_zero, nI_add, nI_ltI, nI_leI, nI_eq, pk_mul, pk_sub, u2_same, u2_row, u2_other, olt_T, olt_F, ole_T, ole_F, oeq_T, oeq_F]
  exact L
theorem sm_stateNow (hf : z_FR fr) (hw : a_WF w) (hr : z_MR fi 0 w) : TT 42 0 [some (.ref 133)] [] (151, fi, fl, fr) Q = Q (some (.int (nI (a_S w)))) (151, fi, fl, fr) := by
  refine T_exact (fun Q hQ => ?_) Q
  have o133 : z_ok 151 133 20 = true := rfl; have o134 : z_ok 151 134 1 = true := rfl
  have l134 : z_al 134 = 440 := rfl
  have t : ∀ d, d < 3 → a_gone w d < 16 := fun d hd => by
    have := a_tot_le (hw.2.2.2.1 d hd).1
    have := (hw.2.2.2.1 d hd).2.2
    omega
  have t0 := t 0 (by decide)
  have t1 := t 1 (by decide)
  have t2 := t 2 (by decide)
  have e0 := hr.at0 (i := 55) (by decide)
  have e1 := hr.at0 (i := 56) (by decide)
  have e2 := hr.at0 (i := 57) (by decide)
  rw [show w 55 = a_gone w 0 from rfl] at e0
  rw [show w 56 = a_gone w 1 from rfl] at e1
  rw [show w 57 = a_gone w 2 from rfl] at e2
  have so := so3 _ t0 _ t1 _ t2
  have l1 : a_gone w 1 * 2 ^ 4 < 2 ^ 32 := by omega
  have l2 : a_gone w 2 * 2 ^ 8 < 2 ^ 32 := by omega
  unfold a_S at hQ
  rw [← so] at hQ
  simp (disch := first | assumption | rfl | exact zle_0 | exact zle_1 | exact zle_2 | exact zle_3 | exact zle_4 | exact zb_0 | exact zb_1 | exact zb01_B | omega) only [zT42_0, zr_aload_0, zT42_1, zr_gf_71, zr_or, zr_go, zf_133_71, zT42_4, zr_ic_55, zT42_6, zr_iald, zT42_7, zT42_8, zT42_11, zr_ic_56, zT42_13, zT42_14, zr_ic_4, zT42_15, zr_ishl, zT42_16, zr_ior, zT42_17, zT42_18, zT42_21, zr_ic_57, zT42_23, zT42_24, zr_ic_8, zT42_26, zT42_27, zT42_28, zr_ret0, zcl_i, zcl_r, zcl_l, zcl_n, zv_some, zv_none, Nat.reduceAdd, Nat.reduceMul, Nat.reduceSub, Nat.reduceLT, Nat.reduceLeDiff, Nat.reduceEqDiff, Int.reduceToNat, true_implies, false_implies, implies_true, and_true, true_and, not_true_eq_false, not_false_eq_true, Nat.zero_add, Nat.add_zero, nI_add, nI_ltI, nI_leI, nI_eq, pk_mul, pk_sub, u2_same, u2_row, u2_other, e0, e1, e2, b_shl, b_or, olt_T, olt_F, ole_T, ole_F, oeq_T, oeq_F]
  exact hQ
theorem sm_isState (hf : z_FR fr) (ht : ∀ d, d < 3 → fi 142 d = nI (a_tot w d)) (hw : a_WF w) {s : Nat} (hs : s < 4096) : TT 43 0 [some (.ref 133), some (.int (nI s))] [] (151, fi, fl, fr) Q = Q (some (.int (zB (decide (plc s 0 ≤ a_tot w 0 ∧ plc s 1 ≤ a_tot w 1 ∧ plc s 2 ≤ a_tot w 2))))) (151, fi, fl, fr) := by
  refine T_exact (fun Q hQ => ?_) Q
  have o133 : z_ok 151 133 20 = true := rfl; have o142 : z_ok 151 142 1 = true := rfl
  have l142 : z_al 142 = 3 := rfl
  have t0 := a_tot_le (hw.2.2.2.1 0 (by decide)).1
  have t1 := a_tot_le (hw.2.2.2.1 1 (by decide)).1
  have t2 := a_tot_le (hw.2.2.2.1 2 (by decide)).1
  have f0 := ht 0 (by decide)
  have f1 := ht 1 (by decide)
  have f2 := ht 2 (by decide)
  have p0 : s &&& 15 = plc s 0 := by
    rw [show (15 : Nat) = 2 ^ 4 - 1 from rfl, Nat.and_two_pow_sub_one_eq_mod]
    unfold plc
    simp
  have p1 : s / 2 ^ 4 &&& 15 = plc s 1 := Nat.and_two_pow_sub_one_eq_mod _ 4
  have p2 : s / 2 ^ 8 = plc s 2 := by
    unfold plc
    simp only [Nat.reduceMul, Nat.reducePow]
    omega
  have l0 := plc_lt (s := s) (d := 0)
  have l1 := plc_lt (s := s) (d := 1)
  have l2 := plc_lt (s := s) (d := 2)
  generalize plc s 0 = x0 at *
  generalize plc s 1 = x1 at *
  generalize plc s 2 = x2 at *
  generalize a_tot w 0 = y0 at *
  generalize a_tot w 1 = y1 at *
  generalize a_tot w 2 = y2 at *
  by_cases c0 : x0 ≤ y0
  · by_cases c1 : x1 ≤ y1
    · by_cases c2 : x2 ≤ y2
      · rw [decide_eq_true ⟨c0, c1, c2⟩] at hQ
        simp (disch := first | assumption | rfl | exact zle_0 | exact zle_1 | exact zle_2 | exact zle_3 | exact zle_4 | exact zb_0 | exact zb_1 | exact zb01_B | omega) only [zT43_0, zr_iload_1, zT43_1, zr_ic_15, zT43_3, zr_iand, zT43_4, zr_aload_0, zT43_5, zr_gf_88, zr_or, zr_go, zf_133_88, zT43_8, zr_ic_0, zT43_9, zr_iald, zT43_10, zr_icmp_gt, zT43_13, zT43_14, zr_ic_4, zT43_15, zr_ishr, zT43_16, zT43_18, zT43_19, zT43_20, zT43_23, zr_ic_1, zT43_24, zT43_25, zT43_28, zT43_29, zr_ic_8, zT43_31, zT43_32, zT43_33, zT43_36, zr_ic_2, zT43_37, zT43_38, zT43_41, zT43_42, zr_goto, zT43_45, zT43_46, zr_ret1_0, zr_ret1_1, zr_ret1_B, zcl_i, zcl_r, zcl_l, zcl_n, zv_some, zv_none, Nat.reduceAdd, Nat.reduceMul, Nat.reduceSub, Nat.reduceLT, Nat.reduceLeDiff, Nat.reduceEqDiff, Int.reduceToNat, true_implies, false_implies, implies_true, and_true, true_and, not_true_eq_false, not_false_eq_true, Nat.zero_add, Nat.add_zero, nI_add, nI_ltI, nI_leI, nI_eq, pk_mul, pk_sub, u2_same, u2_row, u2_other, f0, f1, f2, b_and, b_shr, p0, p1, p2, olt_T, olt_F, ole_T, ole_F, oeq_T, oeq_F]
        exact hQ
      · rw [decide_eq_false (fun q => c2 q.2.2)] at hQ
        simp (disch := first | assumption | rfl | exact zle_0 | exact zle_1 | exact zle_2 | exact zle_3 | exact zle_4 | exact zb_0 | exact zb_1 | exact zb01_B | omega) only [zT43_0, zr_iload_1, zT43_1, zr_ic_15, zT43_3, zr_iand, zT43_4, zr_aload_0, zT43_5, zr_gf_88, zr_or, zr_go, zf_133_88, zT43_8, zr_ic_0, zT43_9, zr_iald, zT43_10, zr_icmp_gt, zT43_13, zT43_14, zr_ic_4, zT43_15, zr_ishr, zT43_16, zT43_18, zT43_19, zT43_20, zT43_23, zr_ic_1, zT43_24, zT43_25, zT43_28, zT43_29, zr_ic_8, zT43_31, zT43_32, zT43_33, zT43_36, zr_ic_2, zT43_37, zT43_38, zT43_41, zT43_42, zr_goto, zT43_45, zT43_46, zr_ret1_0, zr_ret1_1, zr_ret1_B, zcl_i, zcl_r, zcl_l, zcl_n, zv_some, zv_none, Nat.reduceAdd, Nat.reduceMul, Nat.reduceSub, Nat.reduceLT, Nat.reduceLeDiff, Nat.reduceEqDiff, Int.reduceToNat, true_implies, false_implies, implies_true, and_true, true_and, not_true_eq_false, not_false_eq_true, Nat.zero_add, Nat.add_zero, nI_add, nI_ltI, nI_leI, nI_eq, pk_mul, pk_sub, u2_same, u2_row, u2_other, f0, f1, f2, b_and, b_shr, p0, p1, p2, olt_T, olt_F, ole_T, ole_F, oeq_T, oeq_F]
        exact hQ
    · rw [decide_eq_false (fun q => c1 q.2.1)] at hQ
      simp (disch := first | assumption | rfl | exact zle_0 | exact zle_1 | exact zle_2 | exact zle_3 | exact zle_4 | exact zb_0 | exact zb_1 | exact zb01_B | omega) only [zT43_0, zr_iload_1, zT43_1, zr_ic_15, zT43_3, zr_iand, zT43_4, zr_aload_0, zT43_5, zr_gf_88, zr_or, zr_go, zf_133_88, zT43_8, zr_ic_0, zT43_9, zr_iald, zT43_10, zr_icmp_gt, zT43_13, zT43_14, zr_ic_4, zT43_15, zr_ishr, zT43_16, zT43_18, zT43_19, zT43_20, zT43_23, zr_ic_1, zT43_24, zT43_25, zT43_28, zT43_29, zr_ic_8, zT43_31, zT43_32, zT43_33, zT43_36, zr_ic_2, zT43_37, zT43_38, zT43_41, zT43_42, zr_goto, zT43_45, zT43_46, zr_ret1_0, zr_ret1_1, zr_ret1_B, zcl_i, zcl_r, zcl_l, zcl_n, zv_some, zv_none, Nat.reduceAdd, Nat.reduceMul, Nat.reduceSub, Nat.reduceLT, Nat.reduceLeDiff, Nat.reduceEqDiff, Int.reduceToNat, true_implies, false_implies, implies_true, and_true, true_and, not_true_eq_false, not_false_eq_true, Nat.zero_add, Nat.add_zero, nI_add, nI_ltI, nI_leI, nI_eq, pk_mul, pk_sub, u2_same, u2_row, u2_other, f0, f1, f2, b_and, b_shr, p0, p1, p2, olt_T, olt_F, ole_T, ole_F, oeq_T, oeq_F]
      exact hQ
  · rw [decide_eq_false (fun q => c0 q.1)] at hQ
    simp (disch := first | assumption | rfl | exact zle_0 | exact zle_1 | exact zle_2 | exact zle_3 | exact zle_4 | exact zb_0 | exact zb_1 | exact zb01_B | omega) only [zT43_0, zr_iload_1, zT43_1, zr_ic_15, zT43_3, zr_iand, zT43_4, zr_aload_0, zT43_5, zr_gf_88, zr_or, zr_go, zf_133_88, zT43_8, zr_ic_0, zT43_9, zr_iald, zT43_10, zr_icmp_gt, zT43_13, zT43_14, zr_ic_4, zT43_15, zr_ishr, zT43_16, zT43_18, zT43_19, zT43_20, zT43_23, zr_ic_1, zT43_24, zT43_25, zT43_28, zT43_29, zr_ic_8, zT43_31, zT43_32, zT43_33, zT43_36, zr_ic_2, zT43_37, zT43_38, zT43_41, zT43_42, zr_goto, zT43_45, zT43_46, zr_ret1_0, zr_ret1_1, zr_ret1_B, zcl_i, zcl_r, zcl_l, zcl_n, zv_some, zv_none, Nat.reduceAdd, Nat.reduceMul, Nat.reduceSub, Nat.reduceLT, Nat.reduceLeDiff, Nat.reduceEqDiff, Int.reduceToNat, true_implies, false_implies, implies_true, and_true, true_and, not_true_eq_false, not_false_eq_true, Nat.zero_add, Nat.add_zero, nI_add, nI_ltI, nI_leI, nI_eq, pk_mul, pk_sub, u2_same, u2_row, u2_other, f0, f1, f2, b_and, b_shr, p0, p1, p2, olt_T, olt_F, ole_T, ole_F, oeq_T, oeq_F]
    exact hQ
theorem sm_di_ (hf : z_FR fr) (ht : ∀ d, d < 3 → fi 142 d = nI (a_tot w d)) (hw : a_WF w) {s : Nat} (hs : s < 4096) : ∀ m d, d + m = 3 → ∀ Q, TT 44 4 [some (.ref 133), some (.int (nI s)), some (.int (nI (msk (fun d => decide (plc s d = a_tot w d)) d))), some (.int (nI d))] [] (151, fi, fl, fr) Q = Q (some (.int (nI (a_dni w s)))) (151, fi, fl, fr) := by
  have o133 : z_ok 151 133 20 = true := rfl; have o142 : z_ok 151 142 1 = true := rfl
  have l142 : z_al 142 = 3 := rfl
  intro m
  induction m with
  | zero =>
    intro d hd Q
    obtain rfl : d = 3 := by omega
    simp (disch := first | assumption | rfl | exact zle_0 | exact zle_1 | exact zle_2 | exact zle_3 | exact zle_4 | exact zb_0 | exact zb_1 | exact zb01_B | omega) only [zT44_4, zr_iload_3, zT44_5, zr_ic_3, zT44_6, zr_icmp_ge, zT44_42, zr_iload_2, zT44_43, zr_ret0, zcl_i, zcl_r, zcl_l, zcl_n, zv_some, zv_none, Nat.reduceAdd, Nat.reduceMul, Nat.reduceSub, Nat.reduceLT, Nat.reduceLeDiff, Nat.reduceEqDiff, Int.reduceToNat, true_implies, false_implies, implies_true, and_true, true_and, not_true_eq_false, not_false_eq_true, Nat.zero_add, Nat.add_zero, nI_add, nI_ltI, nI_leI, nI_eq, pk_mul, pk_sub, u2_same, u2_row, u2_other, olt_T, olt_F, ole_T, ole_F, oeq_T, oeq_F]
    rfl
  | succ m ih =>
    intro d hd Q
    have d3 : d < 3 := by omega
    have ih' := ih (d + 1) (by omega)
    have f := ht d d3
    have t0 := a_tot_le (hw.2.2.2.1 d d3).1
    have pe : s / 2 ^ (4 * d) &&& 15 = plc s d := Nat.and_two_pow_sub_one_eq_mod _ 4
    have l0 := plc_lt (s := s) (d := d)
    have pw := a_pow2 d3
    rw [show msk (fun d => decide (plc s d = a_tot w d)) (d + 1) = if decide (plc s d = a_tot w d) = true then msk (fun d => decide (plc s d = a_tot w d)) d ||| 2 ^ d else msk (fun d => decide (plc s d = a_tot w d)) d from rfl] at ih'
    generalize msk (fun d => decide (plc s d = a_tot w d)) d = acc at *
    generalize a_dni w s = res at *
    simp (disch := first | assumption | rfl | exact zle_0 | exact zle_1 | exact zle_2 | exact zle_3 | exact zle_4 | exact zb_0 | exact zb_1 | exact zb01_B | omega) only [zT44_4, zr_iload_3, zcl_i, zcl_r, zcl_l, zcl_n, zv_some, zv_none, Nat.reduceAdd, Nat.reduceMul, Nat.reduceSub, Nat.reduceLT, Nat.reduceLeDiff, Nat.reduceEqDiff, Int.reduceToNat, true_implies, false_implies, implies_true, and_true, true_and, not_true_eq_false, not_false_eq_true, Nat.zero_add, Nat.add_zero, nI_add, nI_ltI, nI_leI, nI_eq, pk_mul, pk_sub, u2_same, u2_row, u2_other]
    by_cases c : plc s d = a_tot w d
    · rw [if_pos (decide_eq_true c)] at ih'
      simp (disch := first | assumption | rfl | exact zle_0 | exact zle_1 | exact zle_2 | exact zle_3 | exact zle_4 | exact zb_0 | exact zb_1 | exact zb01_B | omega) only [zT44_5, zr_ic_3, zT44_6, zr_icmp_ge, zT44_9, zr_iload_2, zT44_10, zr_iload_1, zT44_11, zr_ic_4, zT44_12, zr_iload_3, zT44_13, zr_imul, zT44_14, zr_ishr, zT44_15, zr_ic_15, zT44_17, zr_iand, zT44_18, zr_aload_0, zT44_19, zr_gf_88, zr_or, zr_go, zf_133_88, zT44_22, zT44_23, zr_iald, zT44_24, zr_icmp_ne, zT44_27, zr_ic_1, zT44_28, zT44_29, zr_ishl, zT44_30, zr_goto, zT44_33, zr_ic_0, zT44_34, zr_ior, zT44_35, zr_istore_2, zT44_36, zr_iinc_3_1, zT44_39, zcl_i, zcl_r, zcl_l, zcl_n, zv_some, zv_none, Nat.reduceAdd, Nat.reduceMul, Nat.reduceSub, Nat.reduceLT, Nat.reduceLeDiff, Nat.reduceEqDiff, Int.reduceToNat, true_implies, false_implies, implies_true, and_true, true_and, not_true_eq_false, not_false_eq_true, Nat.zero_add, Nat.add_zero, nI_add, nI_ltI, nI_leI, nI_eq, pk_mul, pk_sub, u2_same, u2_row, u2_other, f, b_and, b_shr, pe, b_shl, Nat.one_mul, b_or, ih', olt_T, olt_F, ole_T, ole_F, oeq_T, oeq_F]
    · rw [if_neg (by rw [decide_eq_false c]; decide)] at ih'
      simp (disch := first | assumption | rfl | exact zle_0 | exact zle_1 | exact zle_2 | exact zle_3 | exact zle_4 | exact zb_0 | exact zb_1 | exact zb01_B | omega) only [zT44_5, zr_ic_3, zT44_6, zr_icmp_ge, zT44_9, zr_iload_2, zT44_10, zr_iload_1, zT44_11, zr_ic_4, zT44_12, zr_iload_3, zT44_13, zr_imul, zT44_14, zr_ishr, zT44_15, zr_ic_15, zT44_17, zr_iand, zT44_18, zr_aload_0, zT44_19, zr_gf_88, zr_or, zr_go, zf_133_88, zT44_22, zT44_23, zr_iald, zT44_24, zr_icmp_ne, zT44_27, zr_ic_1, zT44_28, zT44_29, zr_ishl, zT44_30, zr_goto, zT44_33, zr_ic_0, zT44_34, zr_ior, zT44_35, zr_istore_2, zT44_36, zr_iinc_3_1, zT44_39, zcl_i, zcl_r, zcl_l, zcl_n, zv_some, zv_none, Nat.reduceAdd, Nat.reduceMul, Nat.reduceSub, Nat.reduceLT, Nat.reduceLeDiff, Nat.reduceEqDiff, Int.reduceToNat, true_implies, false_implies, implies_true, and_true, true_and, not_true_eq_false, not_false_eq_true, Nat.zero_add, Nat.add_zero, nI_add, nI_ltI, nI_leI, nI_eq, pk_mul, pk_sub, u2_same, u2_row, u2_other, f, b_and, b_shr, pe, b_or, Nat.or_zero, ih', olt_T, olt_F, ole_T, ole_F, oeq_T, oeq_F]
theorem sm_doneIn (hf : z_FR fr) (ht : ∀ d, d < 3 → fi 142 d = nI (a_tot w d)) (hw : a_WF w) {s : Nat} (hs : s < 4096) : TT 44 0 [some (.ref 133), some (.int (nI s)), none, none] [] (151, fi, fl, fr) Q = Q (some (.int (nI (a_dni w s)))) (151, fi, fl, fr) := by
  have L := sm_di_ (fl := fl) hf ht hw hs 3 0 rfl Q
  rw [show msk (fun d => decide (plc s d = a_tot w d)) 0 = 0 from rfl] at L
  simp (disch := first | assumption | rfl | exact zle_0 | exact zle_1 | exact zle_2 | exact zle_3 | exact zle_4 | exact zb_0 | exact zb_1 | exact zb01_B | omega) only [zT44_0, zr_ic_0, zT44_1, zr_istore_2, zT44_2, zT44_3, zr_istore_3, zcl_i, zcl_r, zcl_l, zcl_n, zv_some, zv_none, Nat.reduceAdd, Nat.reduceMul, Nat.reduceSub, Nat.reduceLT, Nat.reduceLeDiff, Nat.reduceEqDiff, Int.reduceToNat, true_implies, false_implies, implies_true, and_true, true_and, not_true_eq_false, not_false_eq_true, Nat.zero_add, Nat.add_zero, nI_add, nI_ltI, nI_leI, nI_eq, pk_mul, pk_sub, u2_same, u2_row, u2_other]
  exact L
theorem nx_ow_ : ∀ set, set < 8 → (set &&& 1) + (set / 2 ^ 1 &&& 1) * 16 + (set / 2 ^ 2 &&& 1) * 256 = (z_stT 3).getD set 0 := by decide +kernel
theorem sm_onward {s set : Nat} (hs : s < 4096) (h8 : set < 8) : TT 45 0 [some (.int (nI s)), some (.int (nI set))] [] M Q = Q (some (.int (nI (nx s set)))) M := by
  refine T_exact (fun Q hQ => ?_) Q
  obtain ⟨nx', fi, fl, fr⟩ := M
  have e := nx_ow_ set h8
  unfold nx at hQ
  rw [← e, ← Nat.add_assoc, ← Nat.add_assoc] at hQ
  simp (disch := first | assumption | rfl | exact zle_0 | exact zle_1 | exact zle_2 | exact zle_3 | exact zle_4 | exact zb_0 | exact zb_1 | exact zb01_B | omega) only [zT45_0, zr_iload_0, zT45_1, zr_iload_1, zT45_2, zr_ic_1, zT45_3, zr_iand, zT45_4, zr_iadd, zT45_5, zT45_6, zT45_7, zr_ishr, zT45_8, zT45_9, zT45_10, zr_ic_16, zT45_12, zr_imul, zT45_13, zT45_14, zT45_15, zr_ic_2, zT45_16, zT45_17, zT45_18, zT45_19, zr_ic_256, zT45_22, zT45_23, zT45_24, zr_ret0, zcl_i, zcl_r, zcl_l, zcl_n, zv_some, zv_none, Nat.reduceAdd, Nat.reduceMul, Nat.reduceSub, Nat.reduceLT, Nat.reduceLeDiff, Nat.reduceEqDiff, Int.reduceToNat, true_implies, false_implies, implies_true, and_true, true_and, not_true_eq_false, not_false_eq_true, Nat.zero_add, Nat.add_zero, nI_add, nI_ltI, nI_leI, nI_eq, pk_mul, pk_sub, u2_same, u2_row, u2_other, b_and, b_shr, olt_T, olt_F, ole_T, ole_F, oeq_T, oeq_F]
  exact hQ
end
