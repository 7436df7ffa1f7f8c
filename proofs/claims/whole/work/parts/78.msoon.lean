/-! the model's soonest -/
section
variable {fi fi' : Nat → Nat → Int32} {fl fl' : Nat → Nat → Int64} {fr : Nat → Nat → Option Nat} {Q : Option Value → Mm → Prop} {w : Nat → Nat} {k : Nat} {M : Mm} {ws : Nat → Nat → Nat} {nn tx : Nat → Nat} {n : Nat}
theorem nx_gt : ∀ q, q < 8 → 1 ≤ q → 0 < (z_stT 3).getD q 0 := by decide +kernel
theorem sm_z_ (hf : z_FR fr) {s some_ : Nat} (hs : s < 4096) : ∀ m set, set + m = 8 → TT 47 47 [some (.ref 133), some (.int (nI some_)), some (.int (nI s)), some (.int (nI set))] [] (151, u2 fi 141 s (nI 0), fl, fr) Q = TT 47 108 [some (.ref 133), some (.int (nI some_)), some (.int (nI s)), some (.int (nI 8))] [] (151, u2 fi 141 s (nI 0), fl, fr) Q := by
  have o133 : z_ok 151 133 20 = true := rfl; have o141 : z_ok 151 141 1 = true := rfl
  have l141 : z_al 141 = 4096 := rfl
  intro m
  induction m with
  | zero =>
    intro set h
    obtain rfl : set = 8 := by omega
    simp (disch := first | assumption | rfl | exact zle_0 | exact zle_1 | exact zle_2 | exact zle_3 | exact zle_4 | exact zb_0 | exact zb_1 | exact zb01_B | omega) only [zT47_47, zr_iload_3, zT47_48, zr_ic_8, zT47_50, zr_icmp_ge, zcl_i, zcl_r, zcl_l, zcl_n, zv_some, zv_none, Nat.reduceAdd, Nat.reduceMul, Nat.reduceSub, Nat.reduceLT, Nat.reduceLeDiff, Nat.reduceEqDiff, Int.reduceToNat, true_implies, false_implies, implies_true, and_true, true_and, not_true_eq_false, not_false_eq_true, Nat.zero_add, Nat.add_zero, nI_add, nI_ltI, nI_leI, nI_eq, pk_mul, pk_sub, u2_same, u2_row, u2_other, olt_T, olt_F, ole_T, ole_F, oeq_T, oeq_F]
  | succ m ih =>
    intro set h
    have ih' := ih (set + 1) (by omega)
    simp (disch := first | assumption | rfl | exact zle_0 | exact zle_1 | exact zle_2 | exact zle_3 | exact zle_4 | exact zb_0 | exact zb_1 | exact zb01_B | omega) only [zT47_47, zr_iload_3, zcl_i, zcl_r, zcl_l, zcl_n, zv_some, zv_none, Nat.reduceAdd, Nat.reduceMul, Nat.reduceSub, Nat.reduceLT, Nat.reduceLeDiff, Nat.reduceEqDiff, Int.reduceToNat, true_implies, false_implies, implies_true, and_true, true_and, not_true_eq_false, not_false_eq_true, Nat.zero_add, Nat.add_zero, nI_add, nI_ltI, nI_leI, nI_eq, pk_mul, pk_sub, u2_same, u2_row, u2_other]
    simp (disch := first | assumption | rfl | exact zle_0 | exact zle_1 | exact zle_2 | exact zle_3 | exact zle_4 | exact zb_0 | exact zb_1 | exact zb01_B | omega) only [zT47_48, zr_ic_8, zT47_50, zr_icmp_ge, zT47_53, zr_aload_0, zT47_54, zr_gf_87, zr_or, zr_go, zf_133_87, zT47_57, zr_iload_2, zT47_58, zr_iald, zT47_59, zr_if_eq, zT47_102, zr_iinc_3_1, zT47_105, zr_goto, zcl_i, zcl_r, zcl_l, zcl_n, zv_some, zv_none, Nat.reduceAdd, Nat.reduceMul, Nat.reduceSub, Nat.reduceLT, Nat.reduceLeDiff, Nat.reduceEqDiff, Int.reduceToNat, true_implies, false_implies, implies_true, and_true, true_and, not_true_eq_false, not_false_eq_true, Nat.zero_add, Nat.add_zero, nI_add, nI_ltI, nI_leI, nI_eq, pk_mul, pk_sub, u2_same, u2_row, u2_other, ih', olt_T, olt_F, ole_T, ole_F, oeq_T, oeq_F]
theorem sm_v_ (hf : z_FR fr) {s some_ mk : Nat} {g : Nat → Nat} (hs : s < 4096) (hm : fi 140 s = nI mk) (hmk : mk < 256) (hg : ∀ q, 1 ≤ q → q < 8 → a_bit mk q = true → nx s q < 4096 ∧ fi 141 (nx s q) = nI (g q) ∧ g q ≤ 100000)
    (hQ : ∀ V, V ≤ 100000 → (∀ q, 1 ≤ q → q < 8 → a_bit mk q = true → V ≤ g q + 1) → (V = 100000 ∨ ∃ q, 1 ≤ q ∧ q < 8 ∧ a_bit mk q = true ∧ V = g q + 1) → TT 47 108 [some (.ref 133), some (.int (nI some_)), some (.int (nI s)), some (.int (nI 8))] [] (151, u2 fi 141 s (nI V), fl, fr) Q) :
    ∀ m set, set + m = 8 → 1 ≤ set → ∀ V, 1 ≤ V → V ≤ 100000 → (∀ q, 1 ≤ q → q < set → a_bit mk q = true → V ≤ g q + 1) → (V = 100000 ∨ ∃ q, 1 ≤ q ∧ q < set ∧ a_bit mk q = true ∧ V = g q + 1) → TT 47 47 [some (.ref 133), some (.int (nI some_)), some (.int (nI s)), some (.int (nI set))] [] (151, u2 fi 141 s (nI V), fl, fr) Q := by
  have o133 : z_ok 151 133 20 = true := rfl; have o140 : z_ok 151 140 1 = true := rfl; have o141 : z_ok 151 141 1 = true := rfl
  have l140 : z_al 140 = 4096 := rfl; have l141 : z_al 141 = 4096 := rfl
  intro m
  induction m with
  | zero =>
    intro set h h1 V v1 v2 v3 v4
    obtain rfl : set = 8 := by omega
    have o := hQ V v2 v3 v4
    simp (disch := first | assumption | rfl | exact zle_0 | exact zle_1 | exact zle_2 | exact zle_3 | exact zle_4 | exact zb_0 | exact zb_1 | exact zb01_B | omega) only [zT47_47, zr_iload_3, zT47_48, zr_ic_8, zT47_50, zr_icmp_ge, zcl_i, zcl_r, zcl_l, zcl_n, zv_some, zv_none, Nat.reduceAdd, Nat.reduceMul, Nat.reduceSub, Nat.reduceLT, Nat.reduceLeDiff, Nat.reduceEqDiff, Int.reduceToNat, true_implies, false_implies, implies_true, and_true, true_and, not_true_eq_false, not_false_eq_true, Nat.zero_add, Nat.add_zero, nI_add, nI_ltI, nI_leI, nI_eq, pk_mul, pk_sub, u2_same, u2_row, u2_other, olt_T, olt_F, ole_T, ole_F, oeq_T, oeq_F]
    exact o
  | succ m ih =>
    intro set h h1 V v1 v2 v3 v4
    have s8 : set < 8 := by omega
    have ha := fun M Q => sm_has (M := M) (Q := Q) (b := mk) (d := set) (by omega) (by omega)
    cases hb : a_bit mk set
    · rw [hb] at ha
      have o := ih (set + 1) (by omega) (by omega) V v1 v2 (fun q q1 q2 qb => by
        by_cases e : q = set
        · subst e; rw [hb] at qb; exact absurd qb (by decide)
        · exact v3 q q1 (by omega) qb) (v4.imp id (fun ⟨q, q1, q2, q3⟩ => ⟨q, q1, by omega, q3⟩))
      simp (disch := first | assumption | rfl | exact zle_0 | exact zle_1 | exact zle_2 | exact zle_3 | exact zle_4 | exact zb_0 | exact zb_1 | exact zb01_B | omega) only [zT47_47, zr_iload_3, zcl_i, zcl_r, zcl_l, zcl_n, zv_some, zv_none, Nat.reduceAdd, Nat.reduceMul, Nat.reduceSub, Nat.reduceLT, Nat.reduceLeDiff, Nat.reduceEqDiff, Int.reduceToNat, true_implies, false_implies, implies_true, and_true, true_and, not_true_eq_false, not_false_eq_true, Nat.zero_add, Nat.add_zero, nI_add, nI_ltI, nI_leI, nI_eq, pk_mul, pk_sub, u2_same, u2_row, u2_other]
      simp (disch := first | assumption | rfl | exact zle_0 | exact zle_1 | exact zle_2 | exact zle_3 | exact zle_4 | exact zb_0 | exact zb_1 | exact zb01_B | omega) only [zT47_48, zr_ic_8, zT47_50, zr_icmp_ge, zT47_53, zr_aload_0, zT47_54, zr_gf_87, zr_or, zr_go, zf_133_87, zT47_57, zr_iload_2, zT47_58, zr_iald, zT47_59, zr_if_eq, zT47_62, zT47_63, zr_gf_86, zf_133_86, zT47_66, zT47_67, zT47_68, zr_iload_3, zT47_69, zr_iv_5, zT47_72, zT47_75, zT47_76, zT47_79, zT47_80, zT47_81, zT47_84, zT47_85, zT47_86, zT47_87, zT47_90, zT47_91, zT47_92, zr_iv_45, zT47_95, zT47_96, zr_ic_1, zT47_97, zr_iadd, zT47_98, zr_iv_6, zT47_101, zr_iast, zT47_102, zr_iinc_3_1, zT47_105, zr_goto, zcl_i, zcl_r, zcl_l, zcl_n, zv_some, zv_none, Nat.reduceAdd, Nat.reduceMul, Nat.reduceSub, Nat.reduceLT, Nat.reduceLeDiff, Nat.reduceEqDiff, Int.reduceToNat, true_implies, false_implies, implies_true, and_true, true_and, not_true_eq_false, not_false_eq_true, Nat.zero_add, Nat.add_zero, nI_add, nI_ltI, nI_leI, nI_eq, pk_mul, pk_sub, u2_same, u2_row, u2_other, hm, ha, zB_eq0, olt_T, olt_F, ole_T, ole_F, oeq_T, oeq_F]
      exact o
    · rw [hb] at ha
      obtain ⟨n4, ng, gl⟩ := hg set h1 s8 hb
      have ow := fun M Q => sm_onward (M := M) (Q := Q) hs s8
      have ngt := nx_gt set s8 h1
      have nne : nx s set ≠ s := by unfold nx; omega
      have le := fun M Q => sm_lesser (M := M) (Q := Q) (a := V) (b := g set + 1) (by omega) (by omega)
      have o := ih (set + 1) (by omega) (by omega) (min V (g set + 1)) (by omega) (by omega) (fun q q1 q2 qb => by
        by_cases e : q = set
        · subst e; omega
        · have := v3 q q1 (by omega) qb; omega) (by
        by_cases c : V ≤ g set + 1
        · rw [Nat.min_eq_left c]
          exact v4.imp id (fun ⟨q, q1, q2, q3⟩ => ⟨q, q1, by omega, q3⟩)
        · rw [Nat.min_eq_right (by omega)]
          exact Or.inr ⟨set, h1, by omega, hb, rfl⟩)
      simp (disch := first | assumption | rfl | exact zle_0 | exact zle_1 | exact zle_2 | exact zle_3 | exact zle_4 | exact zb_0 | exact zb_1 | exact zb01_B | omega) only [zT47_47, zr_iload_3, zcl_i, zcl_r, zcl_l, zcl_n, zv_some, zv_none, Nat.reduceAdd, Nat.reduceMul, Nat.reduceSub, Nat.reduceLT, Nat.reduceLeDiff, Nat.reduceEqDiff, Int.reduceToNat, true_implies, false_implies, implies_true, and_true, true_and, not_true_eq_false, not_false_eq_true, Nat.zero_add, Nat.add_zero, nI_add, nI_ltI, nI_leI, nI_eq, pk_mul, pk_sub, u2_same, u2_row, u2_other]
      simp (disch := first | assumption | rfl | exact zle_0 | exact zle_1 | exact zle_2 | exact zle_3 | exact zle_4 | exact zb_0 | exact zb_1 | exact zb01_B | omega) only [zT47_48, zr_ic_8, zT47_50, zr_icmp_ge, zT47_53, zr_aload_0, zT47_54, zr_gf_87, zr_or, zr_go, zf_133_87, zT47_57, zr_iload_2, zT47_58, zr_iald, zT47_59, zr_if_eq, zT47_62, zT47_63, zr_gf_86, zf_133_86, zT47_66, zT47_67, zT47_68, zr_iload_3, zT47_69, zr_iv_5, zT47_72, zT47_75, zT47_76, zT47_79, zT47_80, zT47_81, zT47_84, zT47_85, zT47_86, zT47_87, zT47_90, zT47_91, zT47_92, zr_iv_45, zT47_95, zT47_96, zr_ic_1, zT47_97, zr_iadd, zT47_98, zr_iv_6, zT47_101, zr_iast, zT47_102, zr_iinc_3_1, zT47_105, zr_goto, zcl_i, zcl_r, zcl_l, zcl_n, zv_some, zv_none, Nat.reduceAdd, Nat.reduceMul, Nat.reduceSub, Nat.reduceLT, Nat.reduceLeDiff, Nat.reduceEqDiff, Int.reduceToNat, true_implies, false_implies, implies_true, and_true, true_and, not_true_eq_false, not_false_eq_true, Nat.zero_add, Nat.add_zero, nI_add, nI_ltI, nI_leI, nI_eq, pk_mul, pk_sub, u2_same, u2_row, u2_other, hm, ha, zB_eq0, reduceCtorEq, ow, ng, le, u2_u2, olt_T, olt_F, ole_T, ole_F, oeq_T, oeq_F]
      exact o
/-- all that a search leaves -/
def z_MP (fi : Nat → Nat → Int32) (w : Nat → Nat) (en : Nat → Bool) (some_ : Nat) : Prop := (∀ d, d < 3 → fi 142 d = nI (a_tot w d)) ∧ (∀ s, s < 4096 → fi 140 s = nI (a_mayA w en some_ s)) ∧ ∀ s, isSt w s → fi 141 s = nI (gF 100000 (a_FW w en (a_fill w some_ s)))
theorem a_FW2 (hw : a_WF w) {en : Nat → Bool} {s : Nat} (hs : isSt w s) : a_FW w en s ≤ 45 ∨ a_FW w en s = 100 := by
  unfold a_FW
  rcases a_F_spec (E := a_E w) (a_sys2 hw (en := en)) hs with h | h
  · exact Or.inr h.1
  · exact Or.inl h.1
theorem gF2 (hw : a_WF w) {en : Nat → Bool} {s : Nat} (hs : isSt w s) : gF 100000 (a_FW w en s) ≤ 100000 := by
  unfold gF
  rcases a_FW2 hw hs (en := en) with h | h <;> split <;> omega
theorem a_may_lt {en : Nat → Bool} {some_ s : Nat} : a_mayA w en some_ s < 256 := by
  unfold a_mayA
  split
  · exact msk_lt _ 8
  · decide
theorem sm_so_ (hf : z_FR fr) (hw : a_WF w) {hl : Nat → Nat} {er el : Nat} {some_ : Nat} (h8 : some_ < 8)
    (hQ : ∀ fi', z_MP fi' w (a_enough w hl er el) some_ → (∀ j, j ≠ 141 → fi' j = fi j) → ∀ v2 v3, TT 47 114 [some (.ref 133), some (.int (nI some_)), v2, v3] [] (151, fi', fl, fr) Q) :
    ∀ n, n ≤ 4096 → ∀ f1 x, x = (if n = 0 then nM 1 else nI (n - 1)) → (∀ d, d < 3 → f1 142 d = nI (a_tot w d)) → (∀ s, s < 4096 → f1 140 s = nI (a_mayA w (a_enough w hl er el) some_ s)) → (∀ t, n ≤ t → isSt w t → f1 141 t = nI (gF 100000 (a_FW w (a_enough w hl er el) (a_fill w some_ t)))) → (∀ j, j ≠ 141 → f1 j = fi j) → ∀ v3, TT 47 9 [some (.ref 133), some (.int (nI some_)), some (.int x), v3] [] (151, f1, fl, fr) Q := by
  have o133 : z_ok 151 133 20 = true := rfl; have o140 : z_ok 151 140 1 = true := rfl; have o141 : z_ok 151 141 1 = true := rfl; have o142 : z_ok 151 142 1 = true := rfl
  have l140 : z_al 140 = 4096 := rfl; have l141 : z_al 141 = 4096 := rfl; have l142 : z_al 142 = 3 := rfl
  intro n
  induction n with
  | zero =>
    intro hn f1 x hx ht hm h1 h2 v3
    rw [if_pos rfl] at hx
    subst hx
    have neg := nM_neg (k := 1) (by decide) (by decide)
    have o := hQ f1 ⟨ht, hm, fun s hs => h1 s (Nat.zero_le _) hs⟩ h2 (some (.int (nM 1))) v3
    simp (disch := first | assumption | rfl | exact zle_0 | exact zle_1 | exact zle_2 | exact zle_3 | exact zle_4 | exact zb_0 | exact zb_1 | exact zb01_B | omega) only [zT47_9, zr_iload_2, zT47_10, zr_if_lt, zcl_i, zcl_r, zcl_l, zcl_n, zv_some, zv_none, Nat.reduceAdd, Nat.reduceMul, Nat.reduceSub, Nat.reduceLT, Nat.reduceLeDiff, Nat.reduceEqDiff, Int.reduceToNat, true_implies, false_implies, implies_true, and_true, true_and, not_true_eq_false, not_false_eq_true, Nat.zero_add, Nat.add_zero, nI_add, nI_ltI, nI_leI, nI_eq, pk_mul, pk_sub, u2_same, u2_row, u2_other, neg, olt_T, olt_F, ole_T, ole_F, oeq_T, oeq_F]
    exact o
  | succ s ih =>
    intro hn f1 x hx ht hm h1 h2 v3
    rw [if_neg (by omega), Nat.add_sub_cancel] at hx
    subst hx
    have s4 : s < 4096 := by omega
    have ist := fun Q => sm_isState (fl := fl) (Q := Q) hf ht hw s4
    have dn := fun Q => sm_doneIn (fl := fl) (Q := Q) hf ht hw s4
    rw [show decide (plc s 0 ≤ a_tot w 0 ∧ plc s 1 ≤ a_tot w 1 ∧ plc s 2 ≤ a_tot w 2) = a_st3 w s from rfl] at ist
    have dec : nI s + nM 1 = (if s = 0 then nM 1 else nI (s - 1)) := by
      by_cases c : s = 0
      · subst c; rfl
      · rw [if_neg c]; exact nI_addM (by omega)
    have back : ∀ V, (isSt w s → V = gF 100000 (a_FW w (a_enough w hl er el) (a_fill w some_ s))) → ∀ v3, TT 47 9 [some (.ref 133), some (.int (nI some_)), some (.int (if s = 0 then nM 1 else nI (s - 1))), v3] [] (151, u2 f1 141 s (nI V), fl, fr) Q := by
      intro V hV v3
      refine ih (by omega) _ _ rfl (fun d hd => by rw [u2_other (by decide)]; exact ht d hd) (fun t ht' => by rw [u2_other (by decide)]; exact hm t ht') (fun t t1 t2 => ?_) (fun j hj => by rw [u2_ne hj]; exact h2 j hj) v3
      by_cases e : t = s
      · subst e; rw [u2_same, hV t2]
      · rw [u2_row e]; exact h1 t (by omega) t2
    have e140 := hm s s4
    have mlt := a_may_lt (w := w) (en := a_enough w hl er el) (some_ := some_) (s := s)
    have sx : some_ ^^^ (some_ &&& a_dni w s) < 8 := x_lt8 h8
    by_cases c : a_st3 w s = true
    · have hst := (a_st3_iff s4).mp c
      rw [c] at ist
      have hfi := isSt_fill hw hst (some_ := some_)
      have fe := a_fill_E hw h8 hst
      by_cases c2 : some_ ^^^ (some_ &&& a_dni w s) = 0
      · have eE := fe.mp c2
        have z := sm_z_ (fi := f1) (fl := fl) (Q := Q) (some_ := some_) hf s4 7 1 rfl
        have o := back 0 (fun _ => by unfold a_FW; rw [eE, a_F_E (a_sys2 hw) (isSt_E hw)]; rfl)
        simp (disch := first | assumption | rfl | exact zle_0 | exact zle_1 | exact zle_2 | exact zle_3 | exact zle_4 | exact zb_0 | exact zb_1 | exact zb01_B | omega) only [zT47_9, zr_iload_2, zcl_i, zcl_r, zcl_l, zcl_n, zv_some, zv_none, Nat.reduceAdd, Nat.reduceMul, Nat.reduceSub, Nat.reduceLT, Nat.reduceLeDiff, Nat.reduceEqDiff, Int.reduceToNat, true_implies, false_implies, implies_true, and_true, true_and, not_true_eq_false, not_false_eq_true, Nat.zero_add, Nat.add_zero, nI_add, nI_ltI, nI_leI, nI_eq, pk_mul, pk_sub, u2_same, u2_row, u2_other]
        simp (disch := first | assumption | rfl | exact zle_0 | exact zle_1 | exact zle_2 | exact zle_3 | exact zle_4 | exact zb_0 | exact zb_1 | exact zb01_B | omega) only [zT47_10, zr_if_lt, zT47_13, zr_aload_0, zT47_14, zr_gf_87, zr_or, zr_go, zf_133_87, zT47_17, zr_iload_2, zT47_18, zT47_19, zT47_20, zr_iv_43, zT47_23, zr_if_eq, zT47_26, zr_iload_1, zT47_27, zT47_28, zT47_29, zr_iv_44, zT47_32, zr_ic_m1, zT47_33, zr_ixor, zT47_34, zr_iand, zT47_35, zr_if_ne, zT47_38, zr_ic_0, zT47_39, zr_goto, zT47_42, zr_ic_100000, zT47_44, zr_iast, zT47_45, zr_ic_1, zT47_46, zr_istore_3, zcl_i, zcl_r, zcl_l, zcl_n, zv_some, zv_none, Nat.reduceAdd, Nat.reduceMul, Nat.reduceSub, Nat.reduceLT, Nat.reduceLeDiff, Nat.reduceEqDiff, Int.reduceToNat, true_implies, false_implies, implies_true, and_true, true_and, not_true_eq_false, not_false_eq_true, Nat.zero_add, Nat.add_zero, nI_add, nI_ltI, nI_leI, nI_eq, pk_mul, pk_sub, u2_same, u2_row, u2_other, ist, dn, zB_eq0, reduceCtorEq, b_andn, c2, olt_T, olt_F, ole_T, ole_F, oeq_T, oeq_F]
        rw [z]
        simp (disch := first | assumption | rfl | exact zle_0 | exact zle_1 | exact zle_2 | exact zle_3 | exact zle_4 | exact zb_0 | exact zb_1 | exact zb01_B | omega) only [zT47_108, zr_iinc_2_m1, zT47_111, zr_goto, zcl_i, zcl_r, zcl_l, zcl_n, zv_some, zv_none, Nat.reduceAdd, Nat.reduceMul, Nat.reduceSub, Nat.reduceLT, Nat.reduceLeDiff, Nat.reduceEqDiff, Int.reduceToNat, true_implies, false_implies, implies_true, and_true, true_and, not_true_eq_false, not_false_eq_true, Nat.zero_add, Nat.add_zero, nI_add, nI_ltI, nI_leI, nI_eq, pk_mul, pk_sub, u2_same, u2_row, u2_other, dec, olt_T, olt_F, ole_T, ole_F, oeq_T, oeq_F]
        exact o _
      · have nE : a_fill w some_ s ≠ a_E w := fun q => c2 (fe.mpr q)
        have hmv : ∀ q, q < 8 → a_bit (a_mayA w (a_enough w hl er el) some_ s) q = a_mv w (a_enough w hl er el) (a_fill w some_ s) q := by
          intro q q8
          unfold a_mayA
          rw [if_pos c]
          exact a_may_mv hw h8 hst q8
        have nxt : ∀ q, 1 ≤ q → q < 8 → a_mv w (a_enough w hl er el) (a_fill w some_ s) q = true → isSt w (nx s q) ∧ a_fill w some_ (nx s q) = nx (a_fill w some_ s) q := fun q q1 q8 hb => a_fill_nx hw hst q8 ((a_mv_iff hw q8).mp hb).1
        have V := sm_v_ (fi := f1) (fl := fl) (Q := Q) (some_ := some_) hf s4 e140 mlt (g := fun q => gF 100000 (a_FW w (a_enough w hl er el) (nx (a_fill w some_ s) q))) (fun q q1 q8 qb => by
          rw [hmv q q8] at qb
          obtain ⟨n1, n2⟩ := nxt q q1 q8 qb
          have gt := nx_gt q q8 q1
          refine ⟨n1.1, ?_, ?_⟩
          · rw [h1 _ (by unfold nx; omega) n1, n2]
          · rw [← n2]; exact gF2 hw (isSt_fill hw n1)) (fun V v1 v2 v3 => by
          have key := a_F_min (E := a_E w) (a_sys2 hw (en := a_enough w hl er el)) (s := a_fill w some_ s) (V := V) (N := 100000) (by decide) hfi nE v1 (fun q q1 q8 hb => v2 q q1 q8 (by rw [hmv q q8]; exact hb)) (v3.imp id (fun ⟨q, q1, q8, q3, q4⟩ => ⟨q, q1, q8, by rw [← hmv q q8]; exact q3, q4⟩))
          have o := back V (fun _ => key)
          simp (disch := first | assumption | rfl | exact zle_0 | exact zle_1 | exact zle_2 | exact zle_3 | exact zle_4 | exact zb_0 | exact zb_1 | exact zb01_B | omega) only [zT47_108, zr_iinc_2_m1, zT47_111, zr_goto, zcl_i, zcl_r, zcl_l, zcl_n, zv_some, zv_none, Nat.reduceAdd, Nat.reduceMul, Nat.reduceSub, Nat.reduceLT, Nat.reduceLeDiff, Nat.reduceEqDiff, Int.reduceToNat, true_implies, false_implies, implies_true, and_true, true_and, not_true_eq_false, not_false_eq_true, Nat.zero_add, Nat.add_zero, nI_add, nI_ltI, nI_leI, nI_eq, pk_mul, pk_sub, u2_same, u2_row, u2_other, dec, olt_T, olt_F, ole_T, ole_F, oeq_T, oeq_F]
          exact o _) 7 1 rfl (Nat.le_refl _) 100000 (by decide) (Nat.le_refl _) (fun q q1 q2 => by omega) (Or.inl rfl)
        simp (disch := first | assumption | rfl | exact zle_0 | exact zle_1 | exact zle_2 | exact zle_3 | exact zle_4 | exact zb_0 | exact zb_1 | exact zb01_B | omega) only [zT47_9, zr_iload_2, zcl_i, zcl_r, zcl_l, zcl_n, zv_some, zv_none, Nat.reduceAdd, Nat.reduceMul, Nat.reduceSub, Nat.reduceLT, Nat.reduceLeDiff, Nat.reduceEqDiff, Int.reduceToNat, true_implies, false_implies, implies_true, and_true, true_and, not_true_eq_false, not_false_eq_true, Nat.zero_add, Nat.add_zero, nI_add, nI_ltI, nI_leI, nI_eq, pk_mul, pk_sub, u2_same, u2_row, u2_other]
        simp (disch := first | assumption | rfl | exact zle_0 | exact zle_1 | exact zle_2 | exact zle_3 | exact zle_4 | exact zb_0 | exact zb_1 | exact zb01_B | omega) only [zT47_10, zr_if_lt, zT47_13, zr_aload_0, zT47_14, zr_gf_87, zr_or, zr_go, zf_133_87, zT47_17, zr_iload_2, zT47_18, zT47_19, zT47_20, zr_iv_43, zT47_23, zr_if_eq, zT47_26, zr_iload_1, zT47_27, zT47_28, zT47_29, zr_iv_44, zT47_32, zr_ic_m1, zT47_33, zr_ixor, zT47_34, zr_iand, zT47_35, zr_if_ne, zT47_38, zr_ic_0, zT47_39, zr_goto, zT47_42, zr_ic_100000, zT47_44, zr_iast, zT47_45, zr_ic_1, zT47_46, zr_istore_3, zcl_i, zcl_r, zcl_l, zcl_n, zv_some, zv_none, Nat.reduceAdd, Nat.reduceMul, Nat.reduceSub, Nat.reduceLT, Nat.reduceLeDiff, Nat.reduceEqDiff, Int.reduceToNat, true_implies, false_implies, implies_true, and_true, true_and, not_true_eq_false, not_false_eq_true, Nat.zero_add, Nat.add_zero, nI_add, nI_ltI, nI_leI, nI_eq, pk_mul, pk_sub, u2_same, u2_row, u2_other, ist, dn, zB_eq0, reduceCtorEq, b_andn, olt_T, olt_F, ole_T, ole_F, oeq_T, oeq_F]
        exact V
    · have c' : a_st3 w s = false := by simpa using c
      rw [c'] at ist
      have m0 : a_mayA w (a_enough w hl er el) some_ s = 0 := by unfold a_mayA; rw [if_neg c]
      rw [m0] at e140
      have b0 : ∀ q, a_bit 0 q = false := fun q => by rw [a_bit_test]; simp
      have V := sm_v_ (fi := f1) (fl := fl) (Q := Q) (some_ := some_) hf s4 e140 (by decide) (g := fun _ => 0) (fun q q1 q8 qb => by rw [b0] at qb; exact absurd qb (by decide)) (fun V v1 v2 v3 => by
        have o := back V (fun hst => absurd ((a_st3_iff s4).mpr hst) c)
        simp (disch := first | assumption | rfl | exact zle_0 | exact zle_1 | exact zle_2 | exact zle_3 | exact zle_4 | exact zb_0 | exact zb_1 | exact zb01_B | omega) only [zT47_108, zr_iinc_2_m1, zT47_111, zr_goto, zcl_i, zcl_r, zcl_l, zcl_n, zv_some, zv_none, Nat.reduceAdd, Nat.reduceMul, Nat.reduceSub, Nat.reduceLT, Nat.reduceLeDiff, Nat.reduceEqDiff, Int.reduceToNat, true_implies, false_implies, implies_true, and_true, true_and, not_true_eq_false, not_false_eq_true, Nat.zero_add, Nat.add_zero, nI_add, nI_ltI, nI_leI, nI_eq, pk_mul, pk_sub, u2_same, u2_row, u2_other, dec, olt_T, olt_F, ole_T, ole_F, oeq_T, oeq_F]
        exact o _) 7 1 rfl (Nat.le_refl _) 100000 (by decide) (Nat.le_refl _) (fun q q1 q2 => by omega) (Or.inl rfl)
      simp (disch := first | assumption | rfl | exact zle_0 | exact zle_1 | exact zle_2 | exact zle_3 | exact zle_4 | exact zb_0 | exact zb_1 | exact zb01_B | omega) only [zT47_9, zr_iload_2, zcl_i, zcl_r, zcl_l, zcl_n, zv_some, zv_none, Nat.reduceAdd, Nat.reduceMul, Nat.reduceSub, Nat.reduceLT, Nat.reduceLeDiff, Nat.reduceEqDiff, Int.reduceToNat, true_implies, false_implies, implies_true, and_true, true_and, not_true_eq_false, not_false_eq_true, Nat.zero_add, Nat.add_zero, nI_add, nI_ltI, nI_leI, nI_eq, pk_mul, pk_sub, u2_same, u2_row, u2_other]
      simp (disch := first | assumption | rfl | exact zle_0 | exact zle_1 | exact zle_2 | exact zle_3 | exact zle_4 | exact zb_0 | exact zb_1 | exact zb01_B | omega) only [zT47_10, zr_if_lt, zT47_13, zr_aload_0, zT47_14, zr_gf_87, zr_or, zr_go, zf_133_87, zT47_17, zr_iload_2, zT47_18, zT47_19, zT47_20, zr_iv_43, zT47_23, zr_if_eq, zT47_26, zr_iload_1, zT47_27, zT47_28, zT47_29, zr_iv_44, zT47_32, zr_ic_m1, zT47_33, zr_ixor, zT47_34, zr_iand, zT47_35, zr_if_ne, zT47_38, zr_ic_0, zT47_39, zr_goto, zT47_42, zr_ic_100000, zT47_44, zr_iast, zT47_45, zr_ic_1, zT47_46, zr_istore_3, zcl_i, zcl_r, zcl_l, zcl_n, zv_some, zv_none, Nat.reduceAdd, Nat.reduceMul, Nat.reduceSub, Nat.reduceLT, Nat.reduceLeDiff, Nat.reduceEqDiff, Int.reduceToNat, true_implies, false_implies, implies_true, and_true, true_and, not_true_eq_false, not_false_eq_true, Nat.zero_add, Nat.add_zero, nI_add, nI_ltI, nI_leI, nI_eq, pk_mul, pk_sub, u2_same, u2_row, u2_other, ist, zB_eq0, olt_T, olt_F, ole_T, ole_F, oeq_T, oeq_F]
      exact V
/-- but for what a search writes -/
def z_fs (fi fi' : Nat → Nat → Int32) : Prop := ∀ j, j ≠ 140 → j ≠ 141 → j ≠ 142 → fi' j = fi j
theorem a_fill_S (hw : a_WF w) {some_ : Nat} : a_fill w some_ (a_S w) = a_fs w some_ := by
  unfold a_fill a_fs
  rw [a_S_plc hw (by decide), a_S_plc hw (by decide), a_S_plc hw (by decide)]
theorem sm_findSoonest (hf : z_FR fr) (hw : a_WF w) (hr : z_MR fi 0 w) {hl : Nat → Nat} {er el : Nat} (he : er ≤ 1 ∧ el ≤ 1) (hh : z_MH fi hl er el 6) {some_ : Nat} (h8 : some_ < 8)
    (hQ : ∀ fi', z_MP fi' w (a_enough w hl er el) some_ → z_fs fi fi' → Q (some (.int (iF (a_FW w (a_enough w hl er el) (a_fs w some_))))) (151, fi', fl, fr)) :
    TT 47 0 [some (.ref 133), some (.int (nI some_)), none, none] [] (151, fi, fl, fr) Q := by
  have o133 : z_ok 151 133 20 = true := rfl; have o141 : z_ok 151 141 1 = true := rfl
  have l141 : z_al 141 = 4096 := rfl
  simp (disch := first | assumption | rfl | exact zle_0 | exact zle_1 | exact zle_2 | exact zle_3 | exact zle_4 | exact zb_0 | exact zb_1 | exact zb01_B | omega) only [zT47_0, zr_aload_0, zT47_1, zr_iload_1, zT47_2, zr_iv_46, zcl_i, zcl_r, zcl_l, zcl_n, zv_some, zv_none, Nat.reduceAdd, Nat.reduceMul, Nat.reduceSub, Nat.reduceLT, Nat.reduceLeDiff, Nat.reduceEqDiff, Int.reduceToNat, true_implies, false_implies, implies_true, and_true, true_and, not_true_eq_false, not_false_eq_true, Nat.zero_add, Nat.add_zero, nI_add, nI_ltI, nI_leI, nI_eq, pk_mul, pk_sub, u2_same, u2_row, u2_other]
  refine sm_findMay hf hw hr he hh h8 (fun f1 g1 g2 g3 => ?_)
  have L := sm_so_ (fi := f1) (fl := fl) (Q := Q) (hl := hl) (er := er) (el := el) hf hw h8 (fun f2 k1 k2 v2 v3 => by
    have fs : z_fs fi f2 := fun j a b c => by rw [k2 j b]; exact g3 j a c
    have hr2 : z_MR f2 0 w := hr.fr1 (fs 134 (by decide) (by decide) (by decide))
    have sn := fun Q => sm_stateNow (fl := fl) (Q := Q) hf hw hr2
    have bS := isSt_box (a_box_S hw)
    have s4 := bS.1
    have e := k1.2.2 _ bS
    rw [a_fill_S hw] at e
    have bf : isSt w (a_fs w some_) := isSt_box (a_box_fs hw)
    have fle := a_FW2 hw bf (en := a_enough w hl er el)
    have o := hQ f2 k1 fs
    unfold gF at e
    unfold iF at o
    generalize a_FW w (a_enough w hl er el) (a_fs w some_) = F at *
    by_cases c : F = 100
    · rw [if_pos c] at e o
      simp (disch := first | assumption | rfl | exact zle_0 | exact zle_1 | exact zle_2 | exact zle_3 | exact zle_4 | exact zb_0 | exact zb_1 | exact zb01_B | omega) only [zT47_114, zr_aload_0, zT47_115, zr_gf_87, zr_or, zr_go, zf_133_87, zT47_118, zT47_119, zr_iv_42, zT47_122, zr_iald, zT47_123, zr_istore_2, zT47_124, zr_iload_2, zT47_125, zr_ic_100000, zT47_127, zr_icmp_lt, zT47_130, zr_ic_m1, zT47_131, zr_goto, zT47_134, zT47_135, zr_ret0, zcl_i, zcl_r, zcl_l, zcl_n, zv_some, zv_none, Nat.reduceAdd, Nat.reduceMul, Nat.reduceSub, Nat.reduceLT, Nat.reduceLeDiff, Nat.reduceEqDiff, Int.reduceToNat, true_implies, false_implies, implies_true, and_true, true_and, not_true_eq_false, not_false_eq_true, Nat.zero_add, Nat.add_zero, nI_add, nI_ltI, nI_leI, nI_eq, pk_mul, pk_sub, u2_same, u2_row, u2_other, sn, e, olt_T, olt_F, ole_T, ole_F, oeq_T, oeq_F]
      exact o
    · rw [if_neg c] at e o
      simp (disch := first | assumption | rfl | exact zle_0 | exact zle_1 | exact zle_2 | exact zle_3 | exact zle_4 | exact zb_0 | exact zb_1 | exact zb01_B | omega) only [zT47_114, zr_aload_0, zT47_115, zr_gf_87, zr_or, zr_go, zf_133_87, zT47_118, zT47_119, zr_iv_42, zT47_122, zr_iald, zT47_123, zr_istore_2, zT47_124, zr_iload_2, zT47_125, zr_ic_100000, zT47_127, zr_icmp_lt, zT47_130, zr_ic_m1, zT47_131, zr_goto, zT47_134, zT47_135, zr_ret0, zcl_i, zcl_r, zcl_l, zcl_n, zv_some, zv_none, Nat.reduceAdd, Nat.reduceMul, Nat.reduceSub, Nat.reduceLT, Nat.reduceLeDiff, Nat.reduceEqDiff, Int.reduceToNat, true_implies, false_implies, implies_true, and_true, true_and, not_true_eq_false, not_false_eq_true, Nat.zero_add, Nat.add_zero, nI_add, nI_ltI, nI_leI, nI_eq, pk_mul, pk_sub, u2_same, u2_row, u2_other, sn, e, olt_T, olt_F, ole_T, ole_F, oeq_T, oeq_F]
      exact o) 4096 (Nat.le_refl _) f1 (nI 4095) rfl g1 g2 (fun t h1 h2 => by have := h2.1; omega) (fun _ _ => rfl) none
  simp (disch := first | assumption | rfl | exact zle_0 | exact zle_1 | exact zle_2 | exact zle_3 | exact zle_4 | exact zb_0 | exact zb_1 | exact zb01_B | omega) only [zT47_5, zr_ic_4095, zT47_8, zr_istore_2, zcl_i, zcl_r, zcl_l, zcl_n, zv_some, zv_none, Nat.reduceAdd, Nat.reduceMul, Nat.reduceSub, Nat.reduceLT, Nat.reduceLeDiff, Nat.reduceEqDiff, Int.reduceToNat, true_implies, false_implies, implies_true, and_true, true_and, not_true_eq_false, not_false_eq_true, Nat.zero_add, Nat.add_zero, nI_add, nI_ltI, nI_leI, nI_eq, pk_mul, pk_sub, u2_same, u2_row, u2_other, olt_T, olt_F, ole_T, ole_F, oeq_T, oeq_F]
  exact L
end
