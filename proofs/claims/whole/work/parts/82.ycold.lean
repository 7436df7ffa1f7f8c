/-! the model's cold: the code -/
section
variable {fi fi' : Nat → Nat → Int32} {fl fl' : Nat → Nat → Int64} {fr : Nat → Nat → Option Nat} {Q : Option Value → Mm → Prop} {w : Nat → Nat} {k : Nat} {M : Mm} {ws : Nat → Nat → Nat} {nn tx : Nat → Nat} {n : Nat}
theorem dni_7 (hw : a_WF w) {s : Nat} (hs : isSt w s) : (a_dni w s = 7) ↔ s = a_E w := by
  have dl : a_dni w s < 8 := msk_lt _ 3
  have t : ∀ x, x < 8 → ((7 ^^^ (7 &&& x) = 0) ↔ x = 7) := by decide +kernel
  have e := a_fill_E hw (some_ := 7) (by decide) hs
  rw [a_fill_all hw hs (fun d hd => Or.inl (by
    have : d = 0 ∨ d = 1 ∨ d = 2 := by omega
    rcases this with rfl | rfl | rfl <;> decide))] at e
  rw [← t _ dl]
  exact e
theorem yc_a (hf : z_FR fr) (hw : a_WF w) {x : Int32} {v3 v4 v5 v6 : Option Value} (ht : ∀ d, d < 3 → fi 142 d = nI (a_tot w d))
    (hQ : ∀ fi', (∀ s, isSt w s → fi' 147 s = nI (mC w 0 s)) → (∀ j, j ≠ 147 → fi' j = fi j) → TT 57 93 [some (.ref 133), some (.int x), some (.int (nI 4096)), v3, v4, v5, v6] [] (151, fi', fl, fr) Q) :
    ∀ m s, s + m = 4096 → ∀ f1, (∀ t, t < s → isSt w t → f1 147 t = nI (mC w 0 t)) → (∀ j, j ≠ 147 → f1 j = fi j) → TT 57 50 [some (.ref 133), some (.int x), some (.int (nI s)), v3, v4, v5, v6] [] (151, f1, fl, fr) Q := by
  have o133 : z_ok 151 133 20 = true := rfl; have o147 : z_ok 151 147 1 = true := rfl
  have l147 : z_al 147 = 4096 := rfl
  intro m
  induction m with
  | zero =>
    intro s hs f1 h1 h2
    obtain rfl : s = 4096 := by omega
    have o := hQ f1 (fun t ht => h1 t ht.1 ht) h2
    simp (disch := first | assumption | rfl | exact zle_0 | exact zle_1 | exact zle_2 | exact zle_3 | exact zle_4 | exact zb_0 | exact zb_1 | exact zb01_B | omega) only [zT57_50, zr_iload_2, zT57_51, zr_ic_4096, zT57_54, zr_icmp_ge, zcl_i, zcl_r, zcl_l, zcl_n, zv_some, zv_none, Nat.reduceAdd, Nat.reduceMul, Nat.reduceSub, Nat.reduceLT, Nat.reduceLeDiff, Nat.reduceEqDiff, Int.reduceToNat, true_implies, false_implies, implies_true, and_true, true_and, not_true_eq_false, not_false_eq_true, Nat.zero_add, Nat.add_zero, nI_add, nI_ltI, nI_leI, nI_eq, pk_mul, pk_sub, u2_same, u2_row, u2_other, olt_T, olt_F, ole_T, ole_F, oeq_T, oeq_F]
    exact o
  | succ m ih =>
    intro s hs f1 h1 h2
    have s4 : s < 4096 := by omega
    have ht1 : ∀ d, d < 3 → f1 142 d = nI (a_tot w d) := fun d hd => by rw [h2 142 (by decide)]; exact ht d hd
    have ist := fun Q => sm_isState (fl := fl) (Q := Q) hf ht1 hw s4
    have dn := fun Q => sm_doneIn (fl := fl) (Q := Q) hf ht1 hw s4
    rw [show decide (plc s 0 ≤ a_tot w 0 ∧ plc s 1 ≤ a_tot w 1 ∧ plc s 2 ≤ a_tot w 2) = a_st3 w s from rfl] at ist
    have dl : a_dni w s < 8 := msk_lt _ 3
    have nx1 : ∀ x, (isSt w s → x = mC w 0 s) → TT 57 50 _ [] (151, u2 f1 147 s (nI x), fl, fr) Q := fun x hx => ih (s + 1) (by omega) _ (fun t t1 t2 => by
      by_cases e : t = s
      · subst e; rw [u2_same, hx t2]
      · rw [u2_row e]; exact h1 t (by omega) t2) (fun j hj => by rw [u2_ne hj]; exact h2 j hj)
    cases c : a_st3 w s
    · rw [c] at ist
      have o := nx1 100000 (fun h => by rw [(a_st3_iff s4).mpr h] at c; exact absurd c (by decide))
      simp (disch := first | assumption | rfl | exact zle_0 | exact zle_1 | exact zle_2 | exact zle_3 | exact zle_4 | exact zb_0 | exact zb_1 | exact zb01_B | omega) only [zT57_50, zr_iload_2, zcl_i, zcl_r, zcl_l, zcl_n, zv_some, zv_none, Nat.reduceAdd, Nat.reduceMul, Nat.reduceSub, Nat.reduceLT, Nat.reduceLeDiff, Nat.reduceEqDiff, Int.reduceToNat, true_implies, false_implies, implies_true, and_true, true_and, not_true_eq_false, not_false_eq_true, Nat.zero_add, Nat.add_zero, nI_add, nI_ltI, nI_leI, nI_eq, pk_mul, pk_sub, u2_same, u2_row, u2_other]
      simp (disch := first | assumption | rfl | exact zle_0 | exact zle_1 | exact zle_2 | exact zle_3 | exact zle_4 | exact zb_0 | exact zb_1 | exact zb01_B | omega) only [zT57_51, zr_ic_4096, zT57_54, zr_icmp_ge, zT57_57, zr_aload_0, zT57_58, zr_gf_94, zr_or, zr_go, zf_133_94, zT57_61, zr_iload_2, zT57_62, zT57_63, zT57_64, zr_iv_43, zT57_67, zr_if_eq, zT57_70, zT57_71, zT57_72, zr_iv_44, zT57_75, zr_ic_7, zT57_77, zr_icmp_ne, zT57_80, zr_ic_0, zT57_81, zr_goto, zT57_84, zr_ic_100000, zT57_86, zr_iast, zT57_87, zr_iinc_2_1, zT57_90, zcl_i, zcl_r, zcl_l, zcl_n, zv_some, zv_none, Nat.reduceAdd, Nat.reduceMul, Nat.reduceSub, Nat.reduceLT, Nat.reduceLeDiff, Nat.reduceEqDiff, Int.reduceToNat, true_implies, false_implies, implies_true, and_true, true_and, not_true_eq_false, not_false_eq_true, Nat.zero_add, Nat.add_zero, nI_add, nI_ltI, nI_leI, nI_eq, pk_mul, pk_sub, u2_same, u2_row, u2_other, ist, zB_eq0, olt_T, olt_F, ole_T, ole_F, oeq_T, oeq_F]
      exact o
    · rw [c] at ist
      have hst := (a_st3_iff s4).mp c
      have d7 := dni_7 hw hst
      by_cases c2 : a_dni w s = 7
      · have o := nx1 0 (fun _ => by unfold mC; rw [if_pos (d7.mp c2)])
        simp (disch := first | assumption | rfl | exact zle_0 | exact zle_1 | exact zle_2 | exact zle_3 | exact zle_4 | exact zb_0 | exact zb_1 | exact zb01_B | omega) only [zT57_50, zr_iload_2, zcl_i, zcl_r, zcl_l, zcl_n, zv_some, zv_none, Nat.reduceAdd, Nat.reduceMul, Nat.reduceSub, Nat.reduceLT, Nat.reduceLeDiff, Nat.reduceEqDiff, Int.reduceToNat, true_implies, false_implies, implies_true, and_true, true_and, not_true_eq_false, not_false_eq_true, Nat.zero_add, Nat.add_zero, nI_add, nI_ltI, nI_leI, nI_eq, pk_mul, pk_sub, u2_same, u2_row, u2_other]
        simp (disch := first | assumption | rfl | exact zle_0 | exact zle_1 | exact zle_2 | exact zle_3 | exact zle_4 | exact zb_0 | exact zb_1 | exact zb01_B | omega) only [zT57_51, zr_ic_4096, zT57_54, zr_icmp_ge, zT57_57, zr_aload_0, zT57_58, zr_gf_94, zr_or, zr_go, zf_133_94, zT57_61, zr_iload_2, zT57_62, zT57_63, zT57_64, zr_iv_43, zT57_67, zr_if_eq, zT57_70, zT57_71, zT57_72, zr_iv_44, zT57_75, zr_ic_7, zT57_77, zr_icmp_ne, zT57_80, zr_ic_0, zT57_81, zr_goto, zT57_84, zr_ic_100000, zT57_86, zr_iast, zT57_87, zr_iinc_2_1, zT57_90, zcl_i, zcl_r, zcl_l, zcl_n, zv_some, zv_none, Nat.reduceAdd, Nat.reduceMul, Nat.reduceSub, Nat.reduceLT, Nat.reduceLeDiff, Nat.reduceEqDiff, Int.reduceToNat, true_implies, false_implies, implies_true, and_true, true_and, not_true_eq_false, not_false_eq_true, Nat.zero_add, Nat.add_zero, nI_add, nI_ltI, nI_leI, nI_eq, pk_mul, pk_sub, u2_same, u2_row, u2_other, ist, zB_eq0, reduceCtorEq, dn, c2, olt_T, olt_F, ole_T, ole_F, oeq_T, oeq_F]
        exact o
      · have o := nx1 100000 (fun _ => by unfold mC; rw [if_neg (fun q => c2 (d7.mpr q))])
        simp (disch := first | assumption | rfl | exact zle_0 | exact zle_1 | exact zle_2 | exact zle_3 | exact zle_4 | exact zb_0 | exact zb_1 | exact zb01_B | omega) only [zT57_50, zr_iload_2, zcl_i, zcl_r, zcl_l, zcl_n, zv_some, zv_none, Nat.reduceAdd, Nat.reduceMul, Nat.reduceSub, Nat.reduceLT, Nat.reduceLeDiff, Nat.reduceEqDiff, Int.reduceToNat, true_implies, false_implies, implies_true, and_true, true_and, not_true_eq_false, not_false_eq_true, Nat.zero_add, Nat.add_zero, nI_add, nI_ltI, nI_leI, nI_eq, pk_mul, pk_sub, u2_same, u2_row, u2_other]
        simp (disch := first | assumption | rfl | exact zle_0 | exact zle_1 | exact zle_2 | exact zle_3 | exact zle_4 | exact zb_0 | exact zb_1 | exact zb01_B | omega) only [zT57_51, zr_ic_4096, zT57_54, zr_icmp_ge, zT57_57, zr_aload_0, zT57_58, zr_gf_94, zr_or, zr_go, zf_133_94, zT57_61, zr_iload_2, zT57_62, zT57_63, zT57_64, zr_iv_43, zT57_67, zr_if_eq, zT57_70, zT57_71, zT57_72, zr_iv_44, zT57_75, zr_ic_7, zT57_77, zr_icmp_ne, zT57_80, zr_ic_0, zT57_81, zr_goto, zT57_84, zr_ic_100000, zT57_86, zr_iast, zT57_87, zr_iinc_2_1, zT57_90, zcl_i, zcl_r, zcl_l, zcl_n, zv_some, zv_none, Nat.reduceAdd, Nat.reduceMul, Nat.reduceSub, Nat.reduceLT, Nat.reduceLeDiff, Nat.reduceEqDiff, Int.reduceToNat, true_implies, false_implies, implies_true, and_true, true_and, not_true_eq_false, not_false_eq_true, Nat.zero_add, Nat.add_zero, nI_add, nI_ltI, nI_leI, nI_eq, pk_mul, pk_sub, u2_same, u2_row, u2_other, ist, zB_eq0, reduceCtorEq, dn, olt_T, olt_F, ole_T, ole_F, oeq_T, oeq_F]
        exact o
theorem yc_b (hf : z_FR fr) {x y : Int32} {v4 v5 v6 : Option Value}
    (hQ : ∀ fi', (∀ s, s < 4096 → fi' 148 s = fi 147 s) → (∀ j, j ≠ 148 → fi' j = fi j) → TT 57 127 [some (.ref 133), some (.int x), some (.int y), some (.int (nI 4096)), v4, v5, v6] [] (151, fi', fl, fr) Q) :
    ∀ m s, s + m = 4096 → ∀ f1, (∀ t, t < s → f1 148 t = fi 147 t) → (∀ j, j ≠ 148 → f1 j = fi j) → TT 57 102 [some (.ref 133), some (.int x), some (.int y), some (.int (nI s)), v4, v5, v6] [] (151, f1, fl, fr) Q := by
  have o133 : z_ok 151 133 20 = true := rfl; have o147 : z_ok 151 147 1 = true := rfl; have o148 : z_ok 151 148 1 = true := rfl
  have l147 : z_al 147 = 4096 := rfl; have l148 : z_al 148 = 4096 := rfl
  intro m
  induction m with
  | zero =>
    intro s hs f1 h1 h2
    obtain rfl : s = 4096 := by omega
    have o := hQ f1 h1 h2
    simp (disch := first | assumption | rfl | exact zle_0 | exact zle_1 | exact zle_2 | exact zle_3 | exact zle_4 | exact zb_0 | exact zb_1 | exact zb01_B | omega) only [zT57_102, zr_iload_3, zT57_103, zr_ic_4096, zT57_106, zr_icmp_ge, zcl_i, zcl_r, zcl_l, zcl_n, zv_some, zv_none, Nat.reduceAdd, Nat.reduceMul, Nat.reduceSub, Nat.reduceLT, Nat.reduceLeDiff, Nat.reduceEqDiff, Int.reduceToNat, true_implies, false_implies, implies_true, and_true, true_and, not_true_eq_false, not_false_eq_true, Nat.zero_add, Nat.add_zero, nI_add, nI_ltI, nI_leI, nI_eq, pk_mul, pk_sub, u2_same, u2_row, u2_other, olt_T, olt_F, ole_T, ole_F, oeq_T, oeq_F]
    exact o
  | succ m ih =>
    intro s hs f1 h1 h2
    have s4 : s < 4096 := by omega
    have e := h2 147 (by decide)
    have nx1 := ih (s + 1) (by omega) (u2 f1 148 s (f1 147 s)) (fun t t1 => by
      by_cases q : t = s
      · subst q; rw [u2_same, e]
      · rw [u2_row q]; exact h1 t (by omega)) (fun j hj => by rw [u2_ne hj]; exact h2 j hj)
    simp (disch := first | assumption | rfl | exact zle_0 | exact zle_1 | exact zle_2 | exact zle_3 | exact zle_4 | exact zb_0 | exact zb_1 | exact zb01_B | omega) only [zT57_102, zr_iload_3, zcl_i, zcl_r, zcl_l, zcl_n, zv_some, zv_none, Nat.reduceAdd, Nat.reduceMul, Nat.reduceSub, Nat.reduceLT, Nat.reduceLeDiff, Nat.reduceEqDiff, Int.reduceToNat, true_implies, false_implies, implies_true, and_true, true_and, not_true_eq_false, not_false_eq_true, Nat.zero_add, Nat.add_zero, nI_add, nI_ltI, nI_leI, nI_eq, pk_mul, pk_sub, u2_same, u2_row, u2_other]
    simp (disch := first | assumption | rfl | exact zle_0 | exact zle_1 | exact zle_2 | exact zle_3 | exact zle_4 | exact zb_0 | exact zb_1 | exact zb01_B | omega) only [zT57_103, zr_ic_4096, zT57_106, zr_icmp_ge, zT57_109, zr_aload_0, zT57_110, zr_gf_95, zr_or, zr_go, zf_133_95, zT57_113, zr_iload_3, zT57_114, zT57_115, zr_gf_94, zf_133_94, zT57_118, zT57_119, zr_iald, zT57_120, zr_iast, zT57_121, zr_iinc_3_1, zT57_124, zr_goto, zcl_i, zcl_r, zcl_l, zcl_n, zv_some, zv_none, Nat.reduceAdd, Nat.reduceMul, Nat.reduceSub, Nat.reduceLT, Nat.reduceLeDiff, Nat.reduceEqDiff, Int.reduceToNat, true_implies, false_implies, implies_true, and_true, true_and, not_true_eq_false, not_false_eq_true, Nat.zero_add, Nat.add_zero, nI_add, nI_ltI, nI_leI, nI_eq, pk_mul, pk_sub, u2_same, u2_row, u2_other, olt_T, olt_F, ole_T, ole_F, oeq_T, oeq_F]
    exact nx1
theorem yc_c (hf : z_FR fr) (hw : a_WF w) {x : Int32} {L s mk : Nat} {g : Nat → Nat} (h60 : L ≤ 60) (hs : s < 4096) (ht : ∀ d, d < 3 → fi 142 d = nI (a_tot w d)) (hm : fi 140 s = nI mk) (hmk : mk < 256)
    (hg : ∀ q, q < 8 → a_bit mk q = true → nx s q < 4096 ∧ fi 148 (nx s q) = nI (g q) ∧ g q ≤ 100000)
    (hQ : ∀ V v5 v6, V ≤ 100000 → (∀ q, q < 8 → a_bit mk q = true → V ≤ g q + pop (a_dni w (nx s q) &&& q) * L) → (V = 100000 ∨ ∃ q, q < 8 ∧ a_bit mk q = true ∧ V = g q + pop (a_dni w (nx s q) &&& q) * L) → TT 57 225 [some (.ref 133), some (.int x), some (.int (nI (L + 1))), some (.int (nI s)), some (.int (nI 8)), v5, v6] [] (151, u2 fi 147 s (nI V), fl, fr) Q) :
    ∀ m q, q + m = 8 → ∀ V v5 v6, V ≤ 100000 → (∀ j, j < q → a_bit mk j = true → V ≤ g j + pop (a_dni w (nx s j) &&& j) * L) → (V = 100000 ∨ ∃ j, j < q ∧ a_bit mk j = true ∧ V = g j + pop (a_dni w (nx s j) &&& j) * L) → TT 57 147 [some (.ref 133), some (.int x), some (.int (nI (L + 1))), some (.int (nI s)), some (.int (nI q)), v5, v6] [] (151, u2 fi 147 s (nI V), fl, fr) Q := by
  have o133 : z_ok 151 133 20 = true := rfl; have o140 : z_ok 151 140 1 = true := rfl; have o147 : z_ok 151 147 1 = true := rfl; have o148 : z_ok 151 148 1 = true := rfl
  have l140 : z_al 140 = 4096 := rfl; have l147 : z_al 147 = 4096 := rfl; have l148 : z_al 148 = 4096 := rfl
  intro m
  induction m with
  | zero =>
    intro q h V v5 v6 v2 v3 v4
    obtain rfl : q = 8 := by omega
    have o := hQ V v5 v6 v2 v3 v4
    simp (disch := first | assumption | rfl | exact zle_0 | exact zle_1 | exact zle_2 | exact zle_3 | exact zle_4 | exact zb_0 | exact zb_1 | exact zb01_B | omega) only [zT57_147, zr_iload_4, zT57_149, zr_ic_8, zT57_151, zr_icmp_ge, zcl_i, zcl_r, zcl_l, zcl_n, zv_some, zv_none, Nat.reduceAdd, Nat.reduceMul, Nat.reduceSub, Nat.reduceLT, Nat.reduceLeDiff, Nat.reduceEqDiff, Int.reduceToNat, true_implies, false_implies, implies_true, and_true, true_and, not_true_eq_false, not_false_eq_true, Nat.zero_add, Nat.add_zero, nI_add, nI_ltI, nI_leI, nI_eq, pk_mul, pk_sub, u2_same, u2_row, u2_other, olt_T, olt_F, ole_T, ole_F, oeq_T, oeq_F]
    exact o
  | succ m ih =>
    intro q h V v5 v6 v2 v3 v4
    have q8 : q < 8 := by omega
    have ha := fun M Q => sm_has (M := M) (Q := Q) (b := mk) (d := q) (by omega) (by omega)
    cases hb : a_bit mk q
    · rw [hb] at ha
      have o := ih (q + 1) (by omega) V v5 v6 v2 (fun j j1 j2 => by
        by_cases e : j = q
        · subst e; rw [hb] at j2; exact absurd j2 (by decide)
        · exact v3 j (by omega) j2) (v4.imp id (fun ⟨j, j1, j2⟩ => ⟨j, by omega, j2⟩))
      simp (disch := first | assumption | rfl | exact zle_0 | exact zle_1 | exact zle_2 | exact zle_3 | exact zle_4 | exact zb_0 | exact zb_1 | exact zb01_B | omega) only [zT57_147, zr_iload_4, zcl_i, zcl_r, zcl_l, zcl_n, zv_some, zv_none, Nat.reduceAdd, Nat.reduceMul, Nat.reduceSub, Nat.reduceLT, Nat.reduceLeDiff, Nat.reduceEqDiff, Int.reduceToNat, true_implies, false_implies, implies_true, and_true, true_and, not_true_eq_false, not_false_eq_true, Nat.zero_add, Nat.add_zero, nI_add, nI_ltI, nI_leI, nI_eq, pk_mul, pk_sub, u2_same, u2_row, u2_other]
      simp (disch := first | assumption | rfl | exact zle_0 | exact zle_1 | exact zle_2 | exact zle_3 | exact zle_4 | exact zb_0 | exact zb_1 | exact zb01_B | omega) only [zT57_149, zr_ic_8, zT57_151, zr_icmp_ge, zT57_154, zr_aload_0, zT57_155, zr_gf_86, zr_or, zr_go, zf_133_86, zT57_158, zr_iload_3, zT57_159, zr_iald, zT57_160, zr_iload_4, zT57_162, zr_iv_5, zT57_165, zr_if_eq, zT57_168, zT57_169, zT57_171, zr_iv_45, zT57_174, zr_istore_5, zT57_176, zT57_177, zr_iload_5, zT57_179, zr_iv_44, zT57_182, zT57_184, zr_iand, zT57_185, zr_iv_8, zT57_188, zr_istore_6, zT57_190, zT57_191, zr_gf_94, zf_133_94, zT57_194, zT57_195, zT57_196, zT57_199, zT57_200, zT57_201, zT57_202, zr_gf_95, zf_133_95, zT57_205, zT57_207, zT57_208, zr_iload_6, zT57_210, zr_iload_2, zT57_211, zr_ic_1, zT57_212, zr_isub, zT57_213, zr_imul, zT57_214, zr_iadd, zT57_215, zr_iv_6, zT57_218, zr_iast, zT57_219, zr_iinc_4_1, zT57_222, zr_goto, zcl_i, zcl_r, zcl_l, zcl_n, zv_some, zv_none, Nat.reduceAdd, Nat.reduceMul, Nat.reduceSub, Nat.reduceLT, Nat.reduceLeDiff, Nat.reduceEqDiff, Int.reduceToNat, true_implies, false_implies, implies_true, and_true, true_and, not_true_eq_false, not_false_eq_true, Nat.zero_add, Nat.add_zero, nI_add, nI_ltI, nI_leI, nI_eq, pk_mul, pk_sub, u2_same, u2_row, u2_other, hm, ha, zB_eq0, olt_T, olt_F, ole_T, ole_F, oeq_T, oeq_F]
      exact o
    · rw [hb] at ha
      obtain ⟨n4, ng, gl⟩ := hg q q8 hb
      have ow := fun M Q => sm_onward (M := M) (Q := Q) hs q8
      have dn := fun Q => sm_doneIn (fi := u2 fi 147 s (nI V)) (fl := fl) (Q := Q) hf (fun d hd => by rw [u2_other (by decide)]; exact ht d hd) hw n4
      have dl : a_dni w (nx s q) < 8 := msk_lt _ 3
      have al : a_dni w (nx s q) &&& q < 8 := Nat.lt_of_le_of_lt Nat.and_le_left dl
      have on := fun M Q => sm_ones (M := M) (Q := Q) al
      have p3 := pop_lt8 _ al
      have o := fun v5 v6 => ih (q + 1) (by omega) (min V (g q + pop (a_dni w (nx s q) &&& q) * L)) v5 v6 (by omega) (fun j j1 j2 => by
        by_cases e : j = q
        · subst e; omega
        · have := v3 j (by omega) j2; omega) (by
        by_cases c : V ≤ g q + pop (a_dni w (nx s q) &&& q) * L
        · rw [Nat.min_eq_left c]
          exact v4.imp id (fun ⟨j, j1, j2⟩ => ⟨j, by omega, j2⟩)
        · rw [Nat.min_eq_right (by omega)]
          exact Or.inr ⟨q, by omega, hb, rfl⟩)
      generalize a_dni w (nx s q) = dd at *
      have ba : nI dd &&& nI q = nI (dd &&& q) := b_and
      have pl : pop (dd &&& q) * L ≤ 3 * 60 := Nat.mul_le_mul (by omega) h60
      have ps : nI (L + 1) - nI 1 = nI L := pk_sub (a := L + 1) (b := 1) (by omega)
      have pm : nI (pop (dd &&& q)) * nI L = nI (pop (dd &&& q) * L) := pk_mul _ _
      generalize pop (dd &&& q) * L = pL at *
      have le := fun M Q => sm_lesser (M := M) (Q := Q) (a := V) (b := g q + pL) (by omega) (by omega)
      simp (disch := first | assumption | rfl | exact zle_0 | exact zle_1 | exact zle_2 | exact zle_3 | exact zle_4 | exact zb_0 | exact zb_1 | exact zb01_B | omega) only [zT57_147, zr_iload_4, zcl_i, zcl_r, zcl_l, zcl_n, zv_some, zv_none, Nat.reduceAdd, Nat.reduceMul, Nat.reduceSub, Nat.reduceLT, Nat.reduceLeDiff, Nat.reduceEqDiff, Int.reduceToNat, true_implies, false_implies, implies_true, and_true, true_and, not_true_eq_false, not_false_eq_true, Nat.zero_add, Nat.add_zero, nI_add, nI_ltI, nI_leI, nI_eq, pk_mul, pk_sub, u2_same, u2_row, u2_other]
      simp (disch := first | assumption | rfl | exact zle_0 | exact zle_1 | exact zle_2 | exact zle_3 | exact zle_4 | exact zb_0 | exact zb_1 | exact zb01_B | omega) only [zT57_149, zr_ic_8, zT57_151, zr_icmp_ge, zT57_154, zr_aload_0, zT57_155, zr_gf_86, zr_or, zr_go, zf_133_86, zT57_158, zr_iload_3, zT57_159, zr_iald, zT57_160, zr_iload_4, zT57_162, zr_iv_5, zT57_165, zr_if_eq, zT57_168, zT57_169, zT57_171, zr_iv_45, zT57_174, zr_istore_5, zT57_176, zT57_177, zr_iload_5, zT57_179, zr_iv_44, zT57_182, zT57_184, zr_iand, zT57_185, zr_iv_8, zT57_188, zr_istore_6, zT57_190, zT57_191, zr_gf_94, zf_133_94, zT57_194, zT57_195, zT57_196, zT57_199, zT57_200, zT57_201, zT57_202, zr_gf_95, zf_133_95, zT57_205, zT57_207, zT57_208, zr_iload_6, zT57_210, zr_iload_2, zT57_211, zr_ic_1, zT57_212, zr_isub, zT57_213, zr_imul, zT57_214, zr_iadd, zT57_215, zr_iv_6, zT57_218, zr_iast, zT57_219, zr_iinc_4_1, zT57_222, zr_goto, zcl_i, zcl_r, zcl_l, zcl_n, zv_some, zv_none, Nat.reduceAdd, Nat.reduceMul, Nat.reduceSub, Nat.reduceLT, Nat.reduceLeDiff, Nat.reduceEqDiff, Int.reduceToNat, true_implies, false_implies, implies_true, and_true, true_and, not_true_eq_false, not_false_eq_true, Nat.zero_add, Nat.add_zero, nI_add, nI_ltI, nI_leI, nI_eq, pk_mul, pk_sub, u2_same, u2_row, u2_other, hm, ha, zB_eq0, reduceCtorEq, ow, ng, dn, ba, on, ps, pm, le, u2_u2, olt_T, olt_F, ole_T, ole_F, oeq_T, oeq_F]
      exact o _ _
theorem yc_d (hf : z_FR fr) (hw : a_WF w) {x : Int32} {L : Nat} (h60 : L ≤ 60) (ht : ∀ d, d < 3 → fi 142 d = nI (a_tot w d)) (hm : ∀ s, s < 4096 → fi 140 s = nI (a_mayA w (a_en w (w 54)) (a_all w) s)) (h8 : ∀ s, isSt w s → fi 148 s = nI (mC w L s))
    (hQ : ∀ fi' v4 v5 v6, (∀ s, isSt w s → fi' 147 s = nI (mC w (L + 1) s)) → (∀ j, j ≠ 147 → fi' j = fi j) → TT 57 231 [some (.ref 133), some (.int x), some (.int (nI (L + 1))), some (.int (nI 4096)), v4, v5, v6] [] (151, fi', fl, fr) Q) :
    ∀ m s, s + m = 4096 → ∀ f1 v4 v5 v6, (∀ t, t < s → isSt w t → f1 147 t = nI (mC w (L + 1) t)) → (∀ j, j ≠ 147 → f1 j = fi j) → TT 57 129 [some (.ref 133), some (.int x), some (.int (nI (L + 1))), some (.int (nI s)), v4, v5, v6] [] (151, f1, fl, fr) Q := by
  have o133 : z_ok 151 133 20 = true := rfl; have o147 : z_ok 151 147 1 = true := rfl
  have l147 : z_al 147 = 4096 := rfl
  intro m
  induction m with
  | zero =>
    intro s hs f1 v4 v5 v6 h1 h2
    obtain rfl : s = 4096 := by omega
    have o := hQ f1 v4 v5 v6 (fun t ht => h1 t ht.1 ht) h2
    simp (disch := first | assumption | rfl | exact zle_0 | exact zle_1 | exact zle_2 | exact zle_3 | exact zle_4 | exact zb_0 | exact zb_1 | exact zb01_B | omega) only [zT57_129, zr_iload_3, zT57_130, zr_ic_4096, zT57_133, zr_icmp_ge, zcl_i, zcl_r, zcl_l, zcl_n, zv_some, zv_none, Nat.reduceAdd, Nat.reduceMul, Nat.reduceSub, Nat.reduceLT, Nat.reduceLeDiff, Nat.reduceEqDiff, Int.reduceToNat, true_implies, false_implies, implies_true, and_true, true_and, not_true_eq_false, not_false_eq_true, Nat.zero_add, Nat.add_zero, nI_add, nI_ltI, nI_leI, nI_eq, pk_mul, pk_sub, u2_same, u2_row, u2_other, olt_T, olt_F, ole_T, ole_F, oeq_T, oeq_F]
    exact o
  | succ m ih =>
    intro s hs f1 v4 v5 v6 h1 h2
    have s4 : s < 4096 := by omega
    have ht1 : ∀ d, d < 3 → f1 142 d = nI (a_tot w d) := fun d hd => by rw [h2 142 (by decide)]; exact ht d hd
    have e140 : f1 140 s = nI (a_mayA w (a_en w (w 54)) (a_all w) s) := by rw [h2 140 (by decide)]; exact hm s s4
    have al8 := all_lt w hw.2.2.1
    have bits : ∀ q, q < 8 → a_bit (a_mayA w (a_en w (w 54)) (a_all w) s) q = true → isSt w s ∧ a_mvN w s q = true := by
      intro q q8 hb
      unfold a_mayA at hb
      by_cases c : a_st3 w s = true
      · have hst := (a_st3_iff s4).mp c
        rw [if_pos c] at hb
        rw [show a_en w (w 54) = a_enough w (a_hands w (w 54)) 0 0 from rfl, a_may_mv hw al8 hst q8, fill_all hw hst] at hb
        exact ⟨hst, hb⟩
      · rw [if_neg c, a_bit_test] at hb
        simp at hb
    have bits2 : isSt w s → ∀ q, q < 8 → a_mvN w s q = true → a_bit (a_mayA w (a_en w (w 54)) (a_all w) s) q = true := by
      intro hst q q8 hb
      unfold a_mayA
      rw [if_pos ((a_st3_iff s4).mpr hst), show a_en w (w 54) = a_enough w (a_hands w (w 54)) 0 0 from rfl, a_may_mv hw al8 hst q8, fill_all hw hst]
      exact hb
    have nxt : ∀ q, q < 8 → a_bit (a_mayA w (a_en w (w 54)) (a_all w) s) q = true → isSt w (nx s q) := by
      intro q q8 hb
      obtain ⟨hst, mv⟩ := bits q q8 hb
      by_cases c0 : q = 0
      · subst c0; rw [nx_0]; exact hst
      · exact ((a_sys2 hw (en := a_en w (w 54))).2 s q hst (by omega) q8 mv).1
    have back : ∀ V v5 v6, V ≤ 100000 → (∀ q, q < 8 → a_bit (a_mayA w (a_en w (w 54)) (a_all w) s) q = true → V ≤ mC w L (nx s q) + pop (a_dni w (nx s q) &&& q) * L) → (V = 100000 ∨ ∃ q, q < 8 ∧ a_bit (a_mayA w (a_en w (w 54)) (a_all w) s) q = true ∧ V = mC w L (nx s q) + pop (a_dni w (nx s q) &&& q) * L) → TT 57 225 [some (.ref 133), some (.int x), some (.int (nI (L + 1))), some (.int (nI s)), some (.int (nI 8)), v5, v6] [] (151, u2 f1 147 s (nI V), fl, fr) Q := by
      intro V v5 v6 v1 v2 v3
      have key : isSt w s → V = mC w (L + 1) s := fun hst => by
        show V = lst 100000 (fun q => mC w L (nx s q) + pop (a_dni w (nx s q) &&& q) * L) (a_mvN w s) 8 0
        exact lst_un v1 (fun j j1 j2 jo => v2 j (by omega) (bits2 hst j (by omega) jo)) (v3.imp id (fun ⟨q, q8, q1, q2⟩ => ⟨q, Nat.zero_le _, by omega, (bits q q8 q1).2, q2⟩))
      have o := ih (s + 1) (by omega) (u2 f1 147 s (nI V)) (some (.int (nI 8))) v5 v6 (fun t t1 t2 => by
        by_cases e : t = s
        · subst e; rw [u2_same, key t2]
        · rw [u2_row e]; exact h1 t (by omega) t2) (fun j hj => by rw [u2_ne hj]; exact h2 j hj)
      simp (disch := first | assumption | rfl | exact zle_0 | exact zle_1 | exact zle_2 | exact zle_3 | exact zle_4 | exact zb_0 | exact zb_1 | exact zb01_B | omega) only [zT57_225, zr_iinc_3_1, zT57_228, zr_goto, zcl_i, zcl_r, zcl_l, zcl_n, zv_some, zv_none, Nat.reduceAdd, Nat.reduceMul, Nat.reduceSub, Nat.reduceLT, Nat.reduceLeDiff, Nat.reduceEqDiff, Int.reduceToNat, true_implies, false_implies, implies_true, and_true, true_and, not_true_eq_false, not_false_eq_true, Nat.zero_add, Nat.add_zero, nI_add, nI_ltI, nI_leI, nI_eq, pk_mul, pk_sub, u2_same, u2_row, u2_other, olt_T, olt_F, ole_T, ole_F, oeq_T, oeq_F]
      exact o
    have L2 := yc_c (fi := f1) (fl := fl) (Q := Q) (x := x) (g := fun q => mC w L (nx s q)) hf hw h60 s4 ht1 e140 a_may_lt (fun q q8 hb => ⟨(nxt q q8 hb).1, by rw [h2 148 (by decide)]; exact h8 _ (nxt q q8 hb), mC_le L _⟩) back 8 0 rfl 100000 v5 v6 (Nat.le_refl _) (fun j hj => absurd hj (Nat.not_lt_zero _)) (Or.inl rfl)
    simp (disch := first | assumption | rfl | exact zle_0 | exact zle_1 | exact zle_2 | exact zle_3 | exact zle_4 | exact zb_0 | exact zb_1 | exact zb01_B | omega) only [zT57_129, zr_iload_3, zcl_i, zcl_r, zcl_l, zcl_n, zv_some, zv_none, Nat.reduceAdd, Nat.reduceMul, Nat.reduceSub, Nat.reduceLT, Nat.reduceLeDiff, Nat.reduceEqDiff, Int.reduceToNat, true_implies, false_implies, implies_true, and_true, true_and, not_true_eq_false, not_false_eq_true, Nat.zero_add, Nat.add_zero, nI_add, nI_ltI, nI_leI, nI_eq, pk_mul, pk_sub, u2_same, u2_row, u2_other]
    simp (disch := first | assumption | rfl | exact zle_0 | exact zle_1 | exact zle_2 | exact zle_3 | exact zle_4 | exact zb_0 | exact zb_1 | exact zb01_B | omega) only [zT57_130, zr_ic_4096, zT57_133, zr_icmp_ge, zT57_136, zr_aload_0, zT57_137, zr_gf_94, zr_or, zr_go, zf_133_94, zT57_140, zr_iload_3, zT57_141, zr_ic_100000, zT57_143, zr_iast, zT57_144, zr_ic_0, zT57_145, zr_istore_4, zcl_i, zcl_r, zcl_l, zcl_n, zv_some, zv_none, Nat.reduceAdd, Nat.reduceMul, Nat.reduceSub, Nat.reduceLT, Nat.reduceLeDiff, Nat.reduceEqDiff, Int.reduceToNat, true_implies, false_implies, implies_true, and_true, true_and, not_true_eq_false, not_false_eq_true, Nat.zero_add, Nat.add_zero, nI_add, nI_ltI, nI_leI, nI_eq, pk_mul, pk_sub, u2_same, u2_row, u2_other, olt_T, olt_F, ole_T, ole_F, oeq_T, oeq_F]
    exact L2
theorem yc_e (hf : z_FR fr) (hw : a_WF w) {nine : Nat} (h60 : nine ≤ 60) (ht : ∀ d, d < 3 → fi 142 d = nI (a_tot w d)) (hm : ∀ s, s < 4096 → fi 140 s = nI (a_mayA w (a_en w (w 54)) (a_all w) s))
    (hQ : ∀ fi' v3 v4 v5 v6, (∀ s, isSt w s → fi' 147 s = nI (mC w nine s)) → (∀ j, j ≠ 147 → j ≠ 148 → fi' j = fi j) → TT 57 237 [some (.ref 133), some (.int (nI nine)), some (.int (nI (nine + 1))), v3, v4, v5, v6] [] (151, fi', fl, fr) Q) :
    ∀ m L, L + m = nine → ∀ f1 v3 v4 v5 v6, (∀ t, isSt w t → f1 147 t = nI (mC w L t)) → (∀ j, j ≠ 147 → j ≠ 148 → f1 j = fi j) → TT 57 95 [some (.ref 133), some (.int (nI nine)), some (.int (nI (L + 1))), v3, v4, v5, v6] [] (151, f1, fl, fr) Q := by
  have o133 : z_ok 151 133 20 = true := rfl; have o147 : z_ok 151 147 1 = true := rfl; have o148 : z_ok 151 148 1 = true := rfl
  have l147 : z_al 147 = 4096 := rfl; have l148 : z_al 148 = 4096 := rfl
  intro m
  induction m with
  | zero =>
    intro L hL f1 v3 v4 v5 v6 h1 h2
    obtain rfl : L = nine := by omega
    have o := hQ f1 v3 v4 v5 v6 h1 h2
    simp (disch := first | assumption | rfl | exact zle_0 | exact zle_1 | exact zle_2 | exact zle_3 | exact zle_4 | exact zb_0 | exact zb_1 | exact zb01_B | omega) only [zT57_95, zr_iload_2, zT57_96, zr_iload_1, zT57_97, zr_icmp_gt, zcl_i, zcl_r, zcl_l, zcl_n, zv_some, zv_none, Nat.reduceAdd, Nat.reduceMul, Nat.reduceSub, Nat.reduceLT, Nat.reduceLeDiff, Nat.reduceEqDiff, Int.reduceToNat, true_implies, false_implies, implies_true, and_true, true_and, not_true_eq_false, not_false_eq_true, Nat.zero_add, Nat.add_zero, nI_add, nI_ltI, nI_leI, nI_eq, pk_mul, pk_sub, u2_same, u2_row, u2_other, olt_T, olt_F, ole_T, ole_F, oeq_T, oeq_F]
    exact o
  | succ m ih =>
    intro L hL f1 v3 v4 v5 v6 h1 h2
    have B := yc_b (fi := f1) (fl := fl) (Q := Q) (x := nI nine) (y := nI (L + 1)) (v4 := v4) (v5 := v5) (v6 := v6) hf (fun f2 g1 g2 => by
      have D := yc_d (fi := f2) (fl := fl) (Q := Q) (x := nI nine) (L := L) hf hw (by omega) (fun d hd => by rw [g2 142 (by decide), h2 142 (by decide) (by decide)]; exact ht d hd) (fun s hs => by rw [g2 140 (by decide), h2 140 (by decide) (by decide)]; exact hm s hs) (fun s hs => by rw [g1 s hs.1]; exact h1 s hs) (fun f3 v4 v5 v6 k1 k2 => by
        have o := ih (L + 1) (by omega) f3 (some (.int (nI 4096))) v4 v5 v6 k1 (fun j j1 j2 => by rw [k2 j j1, g2 j j2]; exact h2 j j1 j2)
        simp (disch := first | assumption | rfl | exact zle_0 | exact zle_1 | exact zle_2 | exact zle_3 | exact zle_4 | exact zb_0 | exact zb_1 | exact zb01_B | omega) only [zT57_231, zr_iinc_2_1, zT57_234, zr_goto, zcl_i, zcl_r, zcl_l, zcl_n, zv_some, zv_none, Nat.reduceAdd, Nat.reduceMul, Nat.reduceSub, Nat.reduceLT, Nat.reduceLeDiff, Nat.reduceEqDiff, Int.reduceToNat, true_implies, false_implies, implies_true, and_true, true_and, not_true_eq_false, not_false_eq_true, Nat.zero_add, Nat.add_zero, nI_add, nI_ltI, nI_leI, nI_eq, pk_mul, pk_sub, u2_same, u2_row, u2_other, olt_T, olt_F, ole_T, ole_F, oeq_T, oeq_F]
        exact o) 4096 0 rfl f2 v4 v5 v6 (fun t ht => absurd ht (Nat.not_lt_zero _)) (fun _ _ => rfl)
      simp (disch := first | assumption | rfl | exact zle_0 | exact zle_1 | exact zle_2 | exact zle_3 | exact zle_4 | exact zb_0 | exact zb_1 | exact zb01_B | omega) only [zT57_127, zr_ic_0, zT57_128, zr_istore_3, zcl_i, zcl_r, zcl_l, zcl_n, zv_some, zv_none, Nat.reduceAdd, Nat.reduceMul, Nat.reduceSub, Nat.reduceLT, Nat.reduceLeDiff, Nat.reduceEqDiff, Int.reduceToNat, true_implies, false_implies, implies_true, and_true, true_and, not_true_eq_false, not_false_eq_true, Nat.zero_add, Nat.add_zero, nI_add, nI_ltI, nI_leI, nI_eq, pk_mul, pk_sub, u2_same, u2_row, u2_other, olt_T, olt_F, ole_T, ole_F, oeq_T, oeq_F]
      exact D) 4096 0 rfl f1 (fun t ht => absurd ht (Nat.not_lt_zero _)) (fun _ _ => rfl)
    simp (disch := first | assumption | rfl | exact zle_0 | exact zle_1 | exact zle_2 | exact zle_3 | exact zle_4 | exact zb_0 | exact zb_1 | exact zb01_B | omega) only [zT57_95, zr_iload_2, zcl_i, zcl_r, zcl_l, zcl_n, zv_some, zv_none, Nat.reduceAdd, Nat.reduceMul, Nat.reduceSub, Nat.reduceLT, Nat.reduceLeDiff, Nat.reduceEqDiff, Int.reduceToNat, true_implies, false_implies, implies_true, and_true, true_and, not_true_eq_false, not_false_eq_true, Nat.zero_add, Nat.add_zero, nI_add, nI_ltI, nI_leI, nI_eq, pk_mul, pk_sub, u2_same, u2_row, u2_other]
    simp (disch := first | assumption | rfl | exact zle_0 | exact zle_1 | exact zle_2 | exact zle_3 | exact zle_4 | exact zb_0 | exact zb_1 | exact zb01_B | omega) only [zT57_96, zr_iload_1, zT57_97, zr_icmp_gt, zT57_100, zr_ic_0, zT57_101, zr_istore_3, zcl_i, zcl_r, zcl_l, zcl_n, zv_some, zv_none, Nat.reduceAdd, Nat.reduceMul, Nat.reduceSub, Nat.reduceLT, Nat.reduceLeDiff, Nat.reduceEqDiff, Int.reduceToNat, true_implies, false_implies, implies_true, and_true, true_and, not_true_eq_false, not_false_eq_true, Nat.zero_add, Nat.add_zero, nI_add, nI_ltI, nI_leI, nI_eq, pk_mul, pk_sub, u2_same, u2_row, u2_other, olt_T, olt_F, ole_T, ole_F, oeq_T, oeq_F]
    exact B
theorem yc_f (hf : z_FR fr) (hw : a_WF w) (hr : z_MR fi 0 w) {nine : Nat} (h60 : nine ≤ 60) (ht : ∀ d, d < 3 → fi 142 d = nI (a_tot w d)) {v4 v5 v6 : Option Value}
    (hQ : TT 57 281 [some (.ref 133), some (.int (nI nine)), some (.int (nI (nine * a_dn w (a_S w) (w 13) 0))), some (.int (nI (w 13))), v4, v5, v6] [] (151, fi, fl, fr) Q) :
    ∀ m d acc, d + m = w 13 → acc + nine * a_dn w (a_S w) m d = nine * a_dn w (a_S w) (w 13) 0 → TT 57 241 [some (.ref 133), some (.int (nI nine)), some (.int (nI acc)), some (.int (nI d)), v4, v5, v6] [] (151, fi, fl, fr) Q := by
  have o133 : z_ok 151 133 20 = true := rfl; have o134 : z_ok 151 134 1 = true := rfl
  have l134 : z_al 134 = 440 := rfl
  have h13 := hw.2.2.1
  have e13 := hr.at0 (i := 13) (by decide)
  have bS := (isSt_box (a_box_S hw)).1
  have sn := fun Q => sm_stateNow (fl := fl) (Q := Q) hf hw hr
  have dn := fun Q => sm_doneIn (fl := fl) (Q := Q) hf ht hw bS
  have dl : a_dni w (a_S w) < 8 := msk_lt _ 3
  have tot : nine * a_dn w (a_S w) (w 13) 0 ≤ 60 * 3 := Nat.mul_le_mul h60 (by have := a_dn_le (w := w) (s := a_S w) (w 13) 0; omega)
  intro m
  induction m with
  | zero =>
    intro d acc hd ha
    obtain rfl : d = w 13 := by omega
    obtain rfl : acc = nine * a_dn w (a_S w) (w 13) 0 := by
      rw [← ha]; rfl
    simp (disch := first | assumption | rfl | exact zle_0 | exact zle_1 | exact zle_2 | exact zle_3 | exact zle_4 | exact zb_0 | exact zb_1 | exact zb01_B | omega) only [zT57_241, zr_iload_3, zT57_242, zr_aload_0, zT57_243, zr_gf_71, zr_or, zr_go, zf_133_71, zT57_246, zr_ic_13, zT57_248, zr_iald, zT57_249, zr_icmp_ge, zcl_i, zcl_r, zcl_l, zcl_n, zv_some, zv_none, Nat.reduceAdd, Nat.reduceMul, Nat.reduceSub, Nat.reduceLT, Nat.reduceLeDiff, Nat.reduceEqDiff, Int.reduceToNat, true_implies, false_implies, implies_true, and_true, true_and, not_true_eq_false, not_false_eq_true, Nat.zero_add, Nat.add_zero, nI_add, nI_ltI, nI_leI, nI_eq, pk_mul, pk_sub, u2_same, u2_row, u2_other, e13, olt_T, olt_F, ole_T, ole_F, oeq_T, oeq_F]
    exact hQ
  | succ m ih =>
    intro d acc hd ha
    have d3 : d < 3 := by omega
    have hs := fun M Q => sm_has (M := M) (Q := Q) (b := a_dni w (a_S w)) (d := d) (by omega) (by omega)
    have bd : a_bit (a_dni w (a_S w)) d = decide (plc (a_S w) d = a_tot w d) := by
      unfold a_dni
      rw [msk_bit, decide_eq_true d3, Bool.true_and]
    rw [show a_dn w (a_S w) (m + 1) d = (if plc (a_S w) d = a_tot w d then 1 else 0) + a_dn w (a_S w) m (d + 1) from rfl] at ha
    rw [bd] at hs
    have acl : acc ≤ 200 := by omega
    by_cases c : plc (a_S w) d = a_tot w d
    · rw [if_pos c, Nat.mul_add, Nat.mul_one] at ha
      rw [decide_eq_true c] at hs
      have o := ih (d + 1) (acc + nine) (by omega) (by omega)
      simp (disch := first | assumption | rfl | exact zle_0 | exact zle_1 | exact zle_2 | exact zle_3 | exact zle_4 | exact zb_0 | exact zb_1 | exact zb01_B | omega) only [zT57_241, zr_iload_3, zcl_i, zcl_r, zcl_l, zcl_n, zv_some, zv_none, Nat.reduceAdd, Nat.reduceMul, Nat.reduceSub, Nat.reduceLT, Nat.reduceLeDiff, Nat.reduceEqDiff, Int.reduceToNat, true_implies, false_implies, implies_true, and_true, true_and, not_true_eq_false, not_false_eq_true, Nat.zero_add, Nat.add_zero, nI_add, nI_ltI, nI_leI, nI_eq, pk_mul, pk_sub, u2_same, u2_row, u2_other]
      simp (disch := first | assumption | rfl | exact zle_0 | exact zle_1 | exact zle_2 | exact zle_3 | exact zle_4 | exact zb_0 | exact zb_1 | exact zb01_B | omega) only [zT57_242, zr_aload_0, zT57_243, zr_gf_71, zr_or, zr_go, zf_133_71, zT57_246, zr_ic_13, zT57_248, zr_iald, zT57_249, zr_icmp_ge, zT57_252, zr_iload_2, zT57_253, zT57_254, zT57_255, zr_iv_42, zT57_258, zr_iv_44, zT57_261, zr_iload_3, zT57_262, zr_iv_5, zT57_265, zr_if_eq, zT57_268, zr_iload_1, zT57_269, zr_goto, zT57_272, zr_ic_0, zT57_273, zr_iadd, zT57_274, zr_istore_2, zT57_275, zr_iinc_3_1, zT57_278, zcl_i, zcl_r, zcl_l, zcl_n, zv_some, zv_none, Nat.reduceAdd, Nat.reduceMul, Nat.reduceSub, Nat.reduceLT, Nat.reduceLeDiff, Nat.reduceEqDiff, Int.reduceToNat, true_implies, false_implies, implies_true, and_true, true_and, not_true_eq_false, not_false_eq_true, Nat.zero_add, Nat.add_zero, nI_add, nI_ltI, nI_leI, nI_eq, pk_mul, pk_sub, u2_same, u2_row, u2_other, e13, sn, dn, hs, zB_eq0, reduceCtorEq, olt_T, olt_F, ole_T, ole_F, oeq_T, oeq_F]
      exact o
    · rw [if_neg c, Nat.zero_add] at ha
      rw [decide_eq_false c] at hs
      have o := ih (d + 1) acc (by omega) ha
      simp (disch := first | assumption | rfl | exact zle_0 | exact zle_1 | exact zle_2 | exact zle_3 | exact zle_4 | exact zb_0 | exact zb_1 | exact zb01_B | omega) only [zT57_241, zr_iload_3, zcl_i, zcl_r, zcl_l, zcl_n, zv_some, zv_none, Nat.reduceAdd, Nat.reduceMul, Nat.reduceSub, Nat.reduceLT, Nat.reduceLeDiff, Nat.reduceEqDiff, Int.reduceToNat, true_implies, false_implies, implies_true, and_true, true_and, not_true_eq_false, not_false_eq_true, Nat.zero_add, Nat.add_zero, nI_add, nI_ltI, nI_leI, nI_eq, pk_mul, pk_sub, u2_same, u2_row, u2_other]
      simp (disch := first | assumption | rfl | exact zle_0 | exact zle_1 | exact zle_2 | exact zle_3 | exact zle_4 | exact zb_0 | exact zb_1 | exact zb01_B | omega) only [zT57_242, zr_aload_0, zT57_243, zr_gf_71, zr_or, zr_go, zf_133_71, zT57_246, zr_ic_13, zT57_248, zr_iald, zT57_249, zr_icmp_ge, zT57_252, zr_iload_2, zT57_253, zT57_254, zT57_255, zr_iv_42, zT57_258, zr_iv_44, zT57_261, zr_iload_3, zT57_262, zr_iv_5, zT57_265, zr_if_eq, zT57_268, zr_iload_1, zT57_269, zr_goto, zT57_272, zr_ic_0, zT57_273, zr_iadd, zT57_274, zr_istore_2, zT57_275, zr_iinc_3_1, zT57_278, zcl_i, zcl_r, zcl_l, zcl_n, zv_some, zv_none, Nat.reduceAdd, Nat.reduceMul, Nat.reduceSub, Nat.reduceLT, Nat.reduceLeDiff, Nat.reduceEqDiff, Int.reduceToNat, true_implies, false_implies, implies_true, and_true, true_and, not_true_eq_false, not_false_eq_true, Nat.zero_add, Nat.add_zero, nI_add, nI_ltI, nI_leI, nI_eq, pk_mul, pk_sub, u2_same, u2_row, u2_other, e13, sn, dn, hs, zB_eq0, olt_T, olt_F, ole_T, ole_F, oeq_T, oeq_F]
      exact o
theorem ym_cold (hf : z_FR fr) (h : z_MS fi fl ws nn tx) (hg : z_G ws nn) {x : Int32} (hQ : z_MQ fi fr Q (r_cold ws nn x).1 ws (r_cold ws nn x).2 tx) : TT 57 0 [some (.ref 133), some (.int x), none, none, none, none, none] [] (151, fi, fl, fr) Q := by
  have o133 : z_ok 151 133 20 = true := rfl; have o134 : z_ok 151 134 1 = true := rfl; have o147 : z_ok 151 147 1 = true := rfl
  have l134 : z_al 134 = 440 := rfl; have l147 : z_al 147 = 4096 := rfl
  have td := fun fi a Q => sm_told (fi := fi) (fl := fl) (Q := Q) hf (a := a)
  have si := fun M Q v lo hi => sm_in (M := M) (Q := Q) (v := v) (lo := lo) (hi := hi)
  have l60 : (lN 60).toInt = 60 := by decide
  have h54 := hg.1.1.2.2.2.2.2.1
  have e54 := h.1.1.at0 (i := 54) (by decide)
  unfold r_cold at hQ
  by_cases c : 0 ≤ x.toInt ∧ x.toInt ≤ 60
  · rw [if_pos c] at hQ
    obtain ⟨j, j2, rfl, ej⟩ := i3 (n := 60) c
    rw [ej] at hQ
    have rest : ∀ f1, z_MS f1 fl ws nn tx → z_MH f1 (a_but (ws 0) (ws 0 54) 6) 0 0 6 → z_sr fi f1 → TT 57 40 [some (.ref 133), some (.int (nI j)), none, none, none, none, none] [] (151, f1, fl, fr) Q := by
      intro f1 g1 g2 g3
      have al := fun Q => sm_allDishes (fl := fl) (Q := Q) hf hg.1.1 g1.1.1
      simp (disch := first | assumption | rfl | exact zle_0 | exact zle_1 | exact zle_2 | exact zle_3 | exact zle_4 | exact zb_0 | exact zb_1 | exact zb01_B | omega) only [zT57_40, zr_aload_0, zT57_41, zT57_42, zr_iv_48, zT57_45, zr_iv_46, zcl_i, zcl_r, zcl_l, zcl_n, zv_some, zv_none, Nat.reduceAdd, Nat.reduceMul, Nat.reduceSub, Nat.reduceLT, Nat.reduceLeDiff, Nat.reduceEqDiff, Int.reduceToNat, true_implies, false_implies, implies_true, and_true, true_and, not_true_eq_false, not_false_eq_true, Nat.zero_add, Nat.add_zero, nI_add, nI_ltI, nI_leI, nI_eq, pk_mul, pk_sub, u2_same, u2_row, u2_other, al, olt_T, olt_F, ole_T, ole_F, oeq_T, oeq_F]
      refine sm_findMay hf hg.1.1 g1.1.1 (by decide) g2 (all_lt _ hg.1.1.2.2.1) (fun f2 k1 k2 k3 => ?_)
      rw [en_but hg.1.1] at k2
      have s2 : z_fs f1 f2 := fun j a b c => k3 j a c
      have A := yc_a (fi := f2) (fl := fl) (Q := Q) (x := nI j) (v3 := none) (v4 := none) (v5 := none) (v6 := none) hf hg.1.1 k1 (fun f3 q1 q2 => by
        have E := yc_e (fi := f3) (fl := fl) (Q := Q) hf hg.1.1 j2 (fun d hd => by rw [q2 142 (by decide)]; exact k1 d hd) (fun s hs => by rw [q2 140 (by decide)]; exact k2 s hs) (fun f4 v3 v4 v5 v6 r1 r2 => by
          have s4 : z_sr f2 f4 := ⟨⟨by rw [r2 133 (by decide) (by decide), q2 133 (by decide)], by rw [r2 133 (by decide) (by decide), q2 133 (by decide)], by rw [r2 133 (by decide) (by decide), q2 133 (by decide)]⟩, fun i hi => by rw [r2 i (by omega) (by omega), q2 i (by omega)]⟩
          have s5 : z_sr fi f4 := (g3.tr s2.sr).tr s4
          have m4 : z_MS f4 fl ws nn tx := h.sr s5
          have o := hQ f4 fl m4 (fun i hi => s5.2 i (by omega))
          have bS := isSt_box (a_box_S hg.1.1)
          have b4 := bS.1
          have eS := r1 _ bS
          have sn := fun Q => sm_stateNow (fl := fl) (Q := Q) hf hg.1.1 m4.1.1
          have rel := mC_rel hg.1.1 j j2 _ bS
          have F := yc_f (fi := f4) (fl := fl) (Q := Q) (v4 := v4) (v5 := v5) (v6 := v6) hf hg.1.1 m4.1.1 j2 (fun d hd => by rw [r2 142 (by decide) (by decide), q2 142 (by decide)]; exact k1 d hd) (by
            generalize a_C (ws 0) j (a_S (ws 0)) = C at *
            generalize j * a_dn (ws 0) (a_S (ws 0)) (ws 0 13) 0 = al at *
            rcases Nat.lt_or_ge j (a_FN (ws 0) (a_S (ws 0))) with cc | cc
            · obtain ⟨p1, p2⟩ := rel.2 cc
              rw [if_neg (by omega)] at o
              rw [p1] at eS
              simp (disch := first | assumption | rfl | exact zle_0 | exact zle_1 | exact zle_2 | exact zle_3 | exact zle_4 | exact zb_0 | exact zb_1 | exact zb01_B | omega) only [zT57_281, zr_aload_0, zT57_282, zr_gf_94, zr_or, zr_go, zf_133_94, zT57_285, zT57_286, zr_iv_42, zT57_289, zr_iald, zT57_290, zr_istore_3, zT57_291, zr_iload_3, zT57_292, zr_ic_100000, zT57_294, zr_icmp_lt, zT57_297, zr_ic_m1, zT57_298, zr_goto, zT57_301, zT57_302, zr_iload_2, zT57_303, zr_iadd, zT57_304, zr_ret0, zcl_i, zcl_r, zcl_l, zcl_n, zv_some, zv_none, Nat.reduceAdd, Nat.reduceMul, Nat.reduceSub, Nat.reduceLT, Nat.reduceLeDiff, Nat.reduceEqDiff, Int.reduceToNat, true_implies, false_implies, implies_true, and_true, true_and, not_true_eq_false, not_false_eq_true, Nat.zero_add, Nat.add_zero, nI_add, nI_ltI, nI_leI, nI_eq, pk_mul, pk_sub, u2_same, u2_row, u2_other, sn, eS, olt_T, olt_F, ole_T, ole_F, oeq_T, oeq_F]
              exact o
            · obtain ⟨p1, p2⟩ := rel.1 cc
              rw [if_pos (by omega), p1] at o
              simp (disch := first | assumption | rfl | exact zle_0 | exact zle_1 | exact zle_2 | exact zle_3 | exact zle_4 | exact zb_0 | exact zb_1 | exact zb01_B | omega) only [zT57_281, zr_aload_0, zT57_282, zr_gf_94, zr_or, zr_go, zf_133_94, zT57_285, zT57_286, zr_iv_42, zT57_289, zr_iald, zT57_290, zr_istore_3, zT57_291, zr_iload_3, zT57_292, zr_ic_100000, zT57_294, zr_icmp_lt, zT57_297, zr_ic_m1, zT57_298, zr_goto, zT57_301, zT57_302, zr_iload_2, zT57_303, zr_iadd, zT57_304, zr_ret0, zcl_i, zcl_r, zcl_l, zcl_n, zv_some, zv_none, Nat.reduceAdd, Nat.reduceMul, Nat.reduceSub, Nat.reduceLT, Nat.reduceLeDiff, Nat.reduceEqDiff, Int.reduceToNat, true_implies, false_implies, implies_true, and_true, true_and, not_true_eq_false, not_false_eq_true, Nat.zero_add, Nat.add_zero, nI_add, nI_ltI, nI_leI, nI_eq, pk_mul, pk_sub, u2_same, u2_row, u2_other, sn, eS, olt_T, olt_F, ole_T, ole_F, oeq_T, oeq_F]
              exact o) (ws 0 13) 0 0 (Nat.zero_add _) (Nat.zero_add _)
          simp (disch := first | assumption | rfl | exact zle_0 | exact zle_1 | exact zle_2 | exact zle_3 | exact zle_4 | exact zb_0 | exact zb_1 | exact zb01_B | omega) only [zT57_237, zr_ic_0, zT57_238, zr_istore_2, zT57_239, zT57_240, zr_istore_3, zcl_i, zcl_r, zcl_l, zcl_n, zv_some, zv_none, Nat.reduceAdd, Nat.reduceMul, Nat.reduceSub, Nat.reduceLT, Nat.reduceLeDiff, Nat.reduceEqDiff, Int.reduceToNat, true_implies, false_implies, implies_true, and_true, true_and, not_true_eq_false, not_false_eq_true, Nat.zero_add, Nat.add_zero, nI_add, nI_ltI, nI_leI, nI_eq, pk_mul, pk_sub, u2_same, u2_row, u2_other, olt_T, olt_F, ole_T, ole_F, oeq_T, oeq_F]
          exact F) j 0 (Nat.zero_add _) f3 none none none none q1 (fun _ _ _ => rfl)
        simp (disch := first | assumption | rfl | exact zle_0 | exact zle_1 | exact zle_2 | exact zle_3 | exact zle_4 | exact zb_0 | exact zb_1 | exact zb01_B | omega) only [zT57_93, zr_ic_1, zT57_94, zr_istore_2, zcl_i, zcl_r, zcl_l, zcl_n, zv_some, zv_none, Nat.reduceAdd, Nat.reduceMul, Nat.reduceSub, Nat.reduceLT, Nat.reduceLeDiff, Nat.reduceEqDiff, Int.reduceToNat, true_implies, false_implies, implies_true, and_true, true_and, not_true_eq_false, not_false_eq_true, Nat.zero_add, Nat.add_zero, nI_add, nI_ltI, nI_leI, nI_eq, pk_mul, pk_sub, u2_same, u2_row, u2_other, olt_T, olt_F, ole_T, ole_F, oeq_T, oeq_F]
        exact E) 4096 0 rfl f2 (fun t ht => absurd ht (Nat.not_lt_zero _)) (fun _ _ => rfl)
      simp (disch := first | assumption | rfl | exact zle_0 | exact zle_1 | exact zle_2 | exact zle_3 | exact zle_4 | exact zb_0 | exact zb_1 | exact zb01_B | omega) only [zT57_48, zr_ic_0, zT57_49, zr_istore_2, zcl_i, zcl_r, zcl_l, zcl_n, zv_some, zv_none, Nat.reduceAdd, Nat.reduceMul, Nat.reduceSub, Nat.reduceLT, Nat.reduceLeDiff, Nat.reduceEqDiff, Int.reduceToNat, true_implies, false_implies, implies_true, and_true, true_and, not_true_eq_false, not_false_eq_true, Nat.zero_add, Nat.add_zero, nI_add, nI_ltI, nI_leI, nI_eq, pk_mul, pk_sub, u2_same, u2_row, u2_other, olt_T, olt_F, ole_T, ole_F, oeq_T, oeq_F]
      exact A
    have : ws 0 54 = 0 ∨ ws 0 54 = 1 := by omega
    rcases this with e | e
    · rw [e] at e54 rest
      simp (disch := first | assumption | rfl | exact zle_0 | exact zle_1 | exact zle_2 | exact zle_3 | exact zle_4 | exact zb_0 | exact zb_1 | exact zb01_B | omega) only [zT57_0, zr_iload_1, zT57_1, zr_i2l, zT57_2, zr_ldc2, zT57_3, zT57_6, zr_iv_2, zT57_9, zr_if_ne, zT57_12, zr_aload_0, zT57_13, zr_ic_m2, zT57_15, zr_iv_3, zT57_18, zr_ret0, zT57_19, zT57_20, zr_ic_m1, zT57_21, zT57_22, zr_gf_71, zr_or, zr_go, zf_133_71, zT57_25, zr_ic_54, zT57_27, zr_iald, zT57_28, zr_ic_1, zT57_29, zr_icmp_ne, zT57_32, zT57_33, zr_goto, zT57_36, zr_ic_0, zT57_37, zr_iv_37, zcl_i, zcl_r, zcl_l, zcl_n, zv_some, zv_none, Nat.reduceAdd, Nat.reduceMul, Nat.reduceSub, Nat.reduceLT, Nat.reduceLeDiff, Nat.reduceEqDiff, Int.reduceToNat, true_implies, false_implies, implies_true, and_true, true_and, not_true_eq_false, not_false_eq_true, Nat.zero_add, Nat.add_zero, nI_add, nI_ltI, nI_leI, nI_eq, pk_mul, pk_sub, u2_same, u2_row, u2_other, si, x64, l0, l60, dcd_T c, zB_eq0, reduceCtorEq, e54, olt_T, olt_F, ole_T, ole_F, oeq_T, oeq_F]
      exact ym_gather hf h hg (by decide) hx6 (fun f1 g1 g2 g3 => rest f1 g1 g2 g3)
    · rw [e] at e54 rest
      simp (disch := first | assumption | rfl | exact zle_0 | exact zle_1 | exact zle_2 | exact zle_3 | exact zle_4 | exact zb_0 | exact zb_1 | exact zb01_B | omega) only [zT57_0, zr_iload_1, zT57_1, zr_i2l, zT57_2, zr_ldc2, zT57_3, zT57_6, zr_iv_2, zT57_9, zr_if_ne, zT57_12, zr_aload_0, zT57_13, zr_ic_m2, zT57_15, zr_iv_3, zT57_18, zr_ret0, zT57_19, zT57_20, zr_ic_m1, zT57_21, zT57_22, zr_gf_71, zr_or, zr_go, zf_133_71, zT57_25, zr_ic_54, zT57_27, zr_iald, zT57_28, zr_ic_1, zT57_29, zr_icmp_ne, zT57_32, zT57_33, zr_goto, zT57_36, zr_ic_0, zT57_37, zr_iv_37, zcl_i, zcl_r, zcl_l, zcl_n, zv_some, zv_none, Nat.reduceAdd, Nat.reduceMul, Nat.reduceSub, Nat.reduceLT, Nat.reduceLeDiff, Nat.reduceEqDiff, Int.reduceToNat, true_implies, false_implies, implies_true, and_true, true_and, not_true_eq_false, not_false_eq_true, Nat.zero_add, Nat.add_zero, nI_add, nI_ltI, nI_leI, nI_eq, pk_mul, pk_sub, u2_same, u2_row, u2_other, si, x64, l0, l60, dcd_T c, zB_eq0, reduceCtorEq, e54, olt_T, olt_F, ole_T, ole_F, oeq_T, oeq_F]
      exact ym_gather hf h hg (by decide) hx6 (fun f1 g1 g2 g3 => rest f1 g1 g2 g3)
  · rw [if_neg c] at hQ
    have o := z_MQ.ref (Or.inl rfl) h hQ
    simp (disch := first | assumption | rfl | exact zle_0 | exact zle_1 | exact zle_2 | exact zle_3 | exact zle_4 | exact zb_0 | exact zb_1 | exact zb01_B | omega) only [zT57_0, zr_iload_1, zT57_1, zr_i2l, zT57_2, zr_ldc2, zT57_3, zT57_6, zr_iv_2, zT57_9, zr_if_ne, zT57_12, zr_aload_0, zT57_13, zr_ic_m2, zT57_15, zr_iv_3, zT57_18, zr_ret0, zcl_i, zcl_r, zcl_l, zcl_n, zv_some, zv_none, Nat.reduceAdd, Nat.reduceMul, Nat.reduceSub, Nat.reduceLT, Nat.reduceLeDiff, Nat.reduceEqDiff, Int.reduceToNat, true_implies, false_implies, implies_true, and_true, true_and, not_true_eq_false, not_false_eq_true, Nat.zero_add, Nat.add_zero, nI_add, nI_ltI, nI_leI, nI_eq, pk_mul, pk_sub, u2_same, u2_row, u2_other, si, x64, l0, l60, dcd_F c, zB_eq0, td, olt_T, olt_F, ole_T, ole_F, oeq_T, oeq_F]
    exact o
end
