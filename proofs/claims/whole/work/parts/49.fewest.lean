/-! the fewest minutes are counted -/
theorem inc.idx {hi : Nat} : ∀ {l : List Nat} {lo i j a b : Nat}, inc hi lo l → l[i]? = some a → l[j]? = some b → j ≤ i → b ≤ a
  | [], lo, i, j, a, b, h, h1, h2, h3 => absurd h1 (by simp)
  | s :: t, lo, i, j, a, b, h, h1, h2, h3 => by
    cases i with
    | zero =>
      obtain rfl : j = 0 := by omega
      rw [h1] at h2
      rw [Option.some.inj h2]
      exact Nat.le_refl _
    | succ i =>
      cases j with
      | zero =>
        have e : s = b := by simpa using h2
        rw [List.getElem?_cons_succ] at h1
        have := (inc.mem h.2.2 a (List.mem_of_getElem? h1)).1
        omega
      | succ j =>
        rw [List.getElem?_cons_succ] at h1 h2
        exact inc.idx h.2.2 h1 h2 (by omega)
/-- how a class keeps the fewest -/
def gF (K v : Nat) : Nat := if v = 100 then K else v
section
variable {fi : Nat → Nat → Int32} {fl : Nat → Nat → Int64} {fr : Nat → Nat → Option Nat} {Q : Option Value → Mm → Prop} {w : Nat → Nat} {k : Nat} {M : Mm}
theorem sp_behind {s set : Nat} (h8 : set < 8) (hn : nx s set < 4096) : TT 218 0 [some (.int (nI s)), some (.int (nI set)), none] [] (151, fi, fl, fr) Q = Q (some (.int (nI (nx s set)))) (151, fi, fl, fr) := by
  refine T_exact (fun Q hQ => ?_) Q
  unfold nx at *
  simp (disch := first | assumption | rfl | exact zle_0 | exact zle_1 | exact zle_2 | exact zle_3 | exact zle_4 | exact zb_0 | exact zb_1 | exact zb01_B | omega) only [zT218_0, zr_iload_0, zT218_1, zr_ldc, zs_3, zT218_4, zr_iload_1, zT218_5, zr_iald, zT218_6, zr_iadd, zT218_7, zr_istore_2, zT218_8, zr_iload_2, zT218_9, zr_ic_4096, zT218_12, zr_icmp_ge, zT218_15, zT218_16, zr_goto, zT218_19, zT218_20, zr_ret0, zcl_i, zcl_r, zcl_l, zcl_n, zv_some, zv_none, Nat.reduceAdd, Nat.reduceMul, Nat.reduceSub, Nat.reduceLT, Nat.reduceLeDiff, Nat.reduceEqDiff, Int.reduceToNat, true_implies, false_implies, implies_true, and_true, true_and, not_true_eq_false, not_false_eq_true, Nat.zero_add, Nat.add_zero, nI_add, nI_ltI, nI_leI, nI_eq, pk_mul, pk_sub, u2_same, u2_row, u2_other, olt_T, olt_F, ole_T, ole_F, oeq_T, oeq_F]
  exact hQ
theorem sp_least_ (hf : z_FR fr) {s arr mk first : Nat} {num : Nat → Nat} (oa : z_ok 151 arr 1 = true) (la : z_al arr = 4096) (hmk : mk < 256)
    (hnum : ∀ q, first ≤ q → q < 8 → a_bit mk q = true → nx s q < 4096 ∧ fi arr (nx s q) = nI (num (nx s q)) ∧ num (nx s q) < 2 ^ 30)
    (hQ : ∀ L, L ≤ 1000000 → (∀ q, first ≤ q → q < 8 → a_bit mk q = true → L ≤ num (nx s q)) → (L = 1000000 ∨ ∃ q, first ≤ q ∧ q < 8 ∧ a_bit mk q = true ∧ L = num (nx s q)) → Q (some (.int (nI L))) (151, fi, fl, fr)) :
    ∀ m set, set + m = 8 → first ≤ set → ∀ L, L ≤ 1000000 → (∀ q, first ≤ q → q < set → a_bit mk q = true → L ≤ num (nx s q)) → (L = 1000000 ∨ ∃ q, first ≤ q ∧ q < set ∧ a_bit mk q = true ∧ L = num (nx s q)) →
    TT 222 17 [some (.ref 70), some (.ref arr), some (.int (nI s)), some (.int (nI first)), some (.int (nI L)), some (.int (nI (mk / 2 ^ set))), some (.int (nI set))] [] (151, fi, fl, fr) Q := by
  intro m
  induction m with
  | zero =>
    intro set hs hfs L l1 l2 l3
    obtain rfl : set = 8 := by omega
    have := hQ L l1 l2 l3
    simp (disch := first | assumption | rfl | exact zle_0 | exact zle_1 | exact zle_2 | exact zle_3 | exact zle_4 | exact zb_0 | exact zb_1 | exact zb01_B | omega) only [zT222_17, zr_iload_6, zT222_19, zr_ic_8, zT222_21, zr_icmp_ge, zT222_63, zr_iload_4, zT222_65, zr_ret0, zcl_i, zcl_r, zcl_l, zcl_n, zv_some, zv_none, Nat.reduceAdd, Nat.reduceMul, Nat.reduceSub, Nat.reduceLT, Nat.reduceLeDiff, Nat.reduceEqDiff, Int.reduceToNat, true_implies, false_implies, implies_true, and_true, true_and, not_true_eq_false, not_false_eq_true, Nat.zero_add, Nat.add_zero, nI_add, nI_ltI, nI_leI, nI_eq, pk_mul, pk_sub, u2_same, u2_row, u2_other, olt_T, olt_F, ole_T, ole_F, oeq_T, oeq_F]
    exact this
  | succ m ih =>
    intro set hs hfs L l1 l2 l3
    have mle : mk / 2 ^ set ≤ mk := Nat.div_le_self _ _
    have nxt : mk / 2 ^ set / 2 ^ 1 = mk / 2 ^ (set + 1) := by rw [Nat.div_div_eq_div_mul, ← Nat.pow_add]
    have bt : a_bit mk set = decide (mk / 2 ^ set % 2 = 1) := rfl
    have m2 : mk / 2 ^ set % 2 < 2 := Nat.mod_lt _ (by decide)
    by_cases o0 : mk / 2 ^ set = 0
    · have := hQ L l1 (fun q q1 q2 qb => by
        by_cases c : q < set
        · exact l2 q q1 c qb
        · have : mk / 2 ^ q = 0 := by
            rw [show q = set + (q - set) by omega, Nat.pow_add, ← Nat.div_div_eq_div_mul, o0, Nat.zero_div]
          unfold a_bit at qb
          rw [this] at qb
          exact absurd qb (by decide)) (l3.imp id (fun ⟨q, q1, q2, q3⟩ => ⟨q, q1, by omega, q3⟩))
      rw [o0]
      simp (disch := first | assumption | rfl | exact zle_0 | exact zle_1 | exact zle_2 | exact zle_3 | exact zle_4 | exact zb_0 | exact zb_1 | exact zb01_B | omega) only [zT222_17, zr_iload_6, zT222_19, zr_ic_8, zT222_21, zr_icmp_ge, zT222_24, zr_iload_5, zT222_26, zr_if_eq, zT222_63, zr_iload_4, zT222_65, zr_ret0, zcl_i, zcl_r, zcl_l, zcl_n, zv_some, zv_none, Nat.reduceAdd, Nat.reduceMul, Nat.reduceSub, Nat.reduceLT, Nat.reduceLeDiff, Nat.reduceEqDiff, Int.reduceToNat, true_implies, false_implies, implies_true, and_true, true_and, not_true_eq_false, not_false_eq_true, Nat.zero_add, Nat.add_zero, nI_add, nI_ltI, nI_leI, nI_eq, pk_mul, pk_sub, u2_same, u2_row, u2_other, olt_T, olt_F, ole_T, ole_F, oeq_T, oeq_F]
      exact this
    · simp (disch := first | assumption | rfl | exact zle_0 | exact zle_1 | exact zle_2 | exact zle_3 | exact zle_4 | exact zb_0 | exact zb_1 | exact zb01_B | omega) only [zT222_17, zr_iload_6, zcl_i, zcl_r, zcl_l, zcl_n, zv_some, zv_none, Nat.reduceAdd, Nat.reduceMul, Nat.reduceSub, Nat.reduceLT, Nat.reduceLeDiff, Nat.reduceEqDiff, Int.reduceToNat, true_implies, false_implies, implies_true, and_true, true_and, not_true_eq_false, not_false_eq_true, Nat.zero_add, Nat.add_zero, nI_add, nI_ltI, nI_leI, nI_eq, pk_mul, pk_sub, u2_same, u2_row, u2_other]
      by_cases ob : mk / 2 ^ set % 2 = 1
      · have hb : a_bit mk set = true := by rw [bt]; exact decide_eq_true ob
        obtain ⟨n1, n2, n3⟩ := hnum set hfs (by omega) hb
        have bh := fun fi Q => sp_behind (fi := fi) (fl := fl) (fr := fr) (Q := Q) (show set < 8 by omega) n1
        by_cases c : num (nx s set) < L
        · have ih' := ih (set + 1) (by omega) (by omega) (num (nx s set)) (by omega) (fun q q1 q2 qb => by
            by_cases e : q = set
            · subst e; exact Nat.le_refl _
            · exact Nat.le_trans (Nat.le_of_lt c) (l2 q q1 (by omega) qb)) (Or.inr ⟨set, hfs, by omega, hb, rfl⟩)
          simp (disch := first | assumption | rfl | exact zle_0 | exact zle_1 | exact zle_2 | exact zle_3 | exact zle_4 | exact zb_0 | exact zb_1 | exact zb01_B | omega) only [zT222_19, zr_ic_8, zT222_21, zr_icmp_ge, zT222_24, zr_iload_5, zT222_26, zr_if_eq, zT222_29, zT222_31, zr_ic_1, zT222_32, zr_iand, zT222_33, zT222_36, zr_iload_4, zT222_38, zr_aload_1, zT222_39, zr_iload_2, zT222_40, zr_iload_6, zT222_42, zr_iv_218, zT222_45, zr_iald, zT222_46, zr_fsub, zT222_49, zr_istore_4, zT222_51, zT222_53, zT222_54, zr_ishr, zT222_55, zr_istore_5, zT222_57, zr_iinc_6_1, zT222_60, zr_goto, zcl_i, zcl_r, zcl_l, zcl_n, zv_some, zv_none, Nat.reduceAdd, Nat.reduceMul, Nat.reduceSub, Nat.reduceLT, Nat.reduceLeDiff, Nat.reduceEqDiff, Int.reduceToNat, true_implies, false_implies, implies_true, and_true, true_and, not_true_eq_false, not_false_eq_true, Nat.zero_add, Nat.add_zero, nI_add, nI_ltI, nI_leI, nI_eq, pk_mul, pk_sub, u2_same, u2_row, u2_other, b_and, Nat.and_one_is_mod, ob, bh, n2, b_shr, nxt, if_true, olt_T, olt_F, ole_T, ole_F, oeq_T, oeq_F]
          exact ih'
        · have ih' := ih (set + 1) (by omega) (by omega) L l1 (fun q q1 q2 qb => by
            by_cases e : q = set
            · subst e; omega
            · exact l2 q q1 (by omega) qb) (l3.imp id (fun ⟨q, q1, q2, q3⟩ => ⟨q, q1, by omega, q3⟩))
          simp (disch := first | assumption | rfl | exact zle_0 | exact zle_1 | exact zle_2 | exact zle_3 | exact zle_4 | exact zb_0 | exact zb_1 | exact zb01_B | omega) only [zT222_19, zr_ic_8, zT222_21, zr_icmp_ge, zT222_24, zr_iload_5, zT222_26, zr_if_eq, zT222_29, zT222_31, zr_ic_1, zT222_32, zr_iand, zT222_33, zT222_36, zr_iload_4, zT222_38, zr_aload_1, zT222_39, zr_iload_2, zT222_40, zr_iload_6, zT222_42, zr_iv_218, zT222_45, zr_iald, zT222_46, zr_fsub, zT222_49, zr_istore_4, zT222_51, zT222_53, zT222_54, zr_ishr, zT222_55, zr_istore_5, zT222_57, zr_iinc_6_1, zT222_60, zr_goto, zcl_i, zcl_r, zcl_l, zcl_n, zv_some, zv_none, Nat.reduceAdd, Nat.reduceMul, Nat.reduceSub, Nat.reduceLT, Nat.reduceLeDiff, Nat.reduceEqDiff, Int.reduceToNat, true_implies, false_implies, implies_true, and_true, true_and, not_true_eq_false, not_false_eq_true, Nat.zero_add, Nat.add_zero, nI_add, nI_ltI, nI_leI, nI_eq, pk_mul, pk_sub, u2_same, u2_row, u2_other, b_and, Nat.and_one_is_mod, ob, bh, n2, b_shr, nxt, if_false, olt_T, olt_F, ole_T, ole_F, oeq_T, oeq_F]
          exact ih'
      · have hb : a_bit mk set = false := by rw [bt]; exact decide_eq_false ob
        have o2 : mk / 2 ^ set % 2 = 0 := by omega
        have ih' := ih (set + 1) (by omega) (by omega) L l1 (fun q q1 q2 qb => by
            by_cases e : q = set
            · subst e; rw [hb] at qb; exact absurd qb (by decide)
            · exact l2 q q1 (by omega) qb) (l3.imp id (fun ⟨q, q1, q2, q3⟩ => ⟨q, q1, by omega, q3⟩))
        simp (disch := first | assumption | rfl | exact zle_0 | exact zle_1 | exact zle_2 | exact zle_3 | exact zle_4 | exact zb_0 | exact zb_1 | exact zb01_B | omega) only [zT222_19, zr_ic_8, zT222_21, zr_icmp_ge, zT222_24, zr_iload_5, zT222_26, zr_if_eq, zT222_29, zT222_31, zr_ic_1, zT222_32, zr_iand, zT222_33, zT222_36, zr_iload_4, zT222_38, zr_aload_1, zT222_39, zr_iload_2, zT222_40, zr_iload_6, zT222_42, zr_iv_218, zT222_45, zr_iald, zT222_46, zr_fsub, zT222_49, zr_istore_4, zT222_51, zT222_53, zT222_54, zr_ishr, zT222_55, zr_istore_5, zT222_57, zr_iinc_6_1, zT222_60, zr_goto, zcl_i, zcl_r, zcl_l, zcl_n, zv_some, zv_none, Nat.reduceAdd, Nat.reduceMul, Nat.reduceSub, Nat.reduceLT, Nat.reduceLeDiff, Nat.reduceEqDiff, Int.reduceToNat, true_implies, false_implies, implies_true, and_true, true_and, not_true_eq_false, not_false_eq_true, Nat.zero_add, Nat.add_zero, nI_add, nI_ltI, nI_leI, nI_eq, pk_mul, pk_sub, u2_same, u2_row, u2_other, b_and, Nat.and_one_is_mod, o2, b_shr, nxt, olt_T, olt_F, ole_T, ole_F, oeq_T, oeq_F]
        exact ih'
theorem sp_least (hf : z_FR fr) {s arr mk first : Nat} {num : Nat → Nat} (hs : s < 4096) (oa : z_ok 151 arr 1 = true) (la : z_al arr = 4096) (hm : fi 81 s = nI mk) (hmk : mk < 256) (hfirst : first ≤ 1)
    (hnum : ∀ q, first ≤ q → q < 8 → a_bit mk q = true → nx s q < 4096 ∧ fi arr (nx s q) = nI (num (nx s q)) ∧ num (nx s q) < 2 ^ 30)
    (hQ : ∀ L, L ≤ 1000000 → (∀ q, first ≤ q → q < 8 → a_bit mk q = true → L ≤ num (nx s q)) → (L = 1000000 ∨ ∃ q, first ≤ q ∧ q < 8 ∧ a_bit mk q = true ∧ L = num (nx s q)) → Q (some (.int (nI L))) (151, fi, fl, fr)) :
    TT 222 0 [some (.ref 70), some (.ref arr), some (.int (nI s)), some (.int (nI first)), none, none, none] [] (151, fi, fl, fr) Q := by
  have o70 : z_ok 151 70 18 = true := rfl; have o81 : z_ok 151 81 1 = true := rfl
  have l81 : z_al 81 = 4096 := rfl
  have L := sp_least_ (fl := fl) hf oa la hmk hnum hQ (8 - first) first (by omega) (Nat.le_refl _) 1000000 (Nat.le_refl _) (fun q q1 q2 => by omega) (Or.inl rfl)
  simp (disch := first | assumption | rfl | exact zle_0 | exact zle_1 | exact zle_2 | exact zle_3 | exact zle_4 | exact zb_0 | exact zb_1 | exact zb01_B | omega) only [zT222_0, zr_ic_1000000, zT222_2, zr_istore_4, zT222_4, zr_aload_0, zT222_5, zr_gf_65, zr_or, zr_go, zf_70_65, zT222_8, zr_iload_2, zT222_9, zr_iald, zT222_10, zr_iload_3, zT222_11, zr_ishr, zT222_12, zr_istore_5, zT222_14, zT222_15, zr_istore_6, zcl_i, zcl_r, zcl_l, zcl_n, zv_some, zv_none, Nat.reduceAdd, Nat.reduceMul, Nat.reduceSub, Nat.reduceLT, Nat.reduceLeDiff, Nat.reduceEqDiff, Int.reduceToNat, true_implies, false_implies, implies_true, and_true, true_and, not_true_eq_false, not_false_eq_true, Nat.zero_add, Nat.add_zero, nI_add, nI_ltI, nI_leI, nI_eq, pk_mul, pk_sub, u2_same, u2_row, u2_other, hm, b_shr, olt_T, olt_F, ole_T, ole_F, oeq_T, oeq_F]
  exact L
theorem sp_lastState (hf : z_FR fr) (hw : a_WF w) (h : z_PL fi w 3) : TT 220 0 [some (.ref 70)] [] (151, fi, fl, fr) Q = Q (some (.int (nI (a_E w)))) (151, fi, fl, fr) := by
  refine T_exact (fun Q hQ => ?_) Q
  have o70 : z_ok 151 70 18 = true := rfl; have o75 : z_ok 151 75 1 = true := rfl
  have l75 : z_al 75 = 3 := rfl
  have t0 := a_tot_le (hw.2.2.2.1 0 (by decide)).1
  have t1 := a_tot_le (hw.2.2.2.1 1 (by decide)).1
  have t2 := a_tot_le (hw.2.2.2.1 2 (by decide)).1
  have e0 := (h 0 (by decide)).2.1
  have e1 := (h 1 (by decide)).2.1
  have e2 := (h 2 (by decide)).2.1
  have so := fun M Q => sp_stateOf (M := M) (Q := Q) (show a_tot w 0 < 16 by omega) (show a_tot w 1 < 16 by omega) (show a_tot w 2 < 16 by omega)
  unfold a_E at hQ
  simp (disch := first | assumption | rfl | exact zle_0 | exact zle_1 | exact zle_2 | exact zle_3 | exact zle_4 | exact zb_0 | exact zb_1 | exact zb01_B | omega) only [zT220_0, zr_aload_0, zT220_1, zr_gf_58, zr_or, zr_go, zf_70_58, zT220_4, zr_ic_0, zT220_5, zr_iald, zT220_6, zT220_7, zT220_10, zr_ic_1, zT220_11, zT220_12, zT220_13, zT220_16, zr_ic_2, zT220_17, zT220_18, zr_iv_213, zT220_21, zr_ret0, zcl_i, zcl_r, zcl_l, zcl_n, zv_some, zv_none, Nat.reduceAdd, Nat.reduceMul, Nat.reduceSub, Nat.reduceLT, Nat.reduceLeDiff, Nat.reduceEqDiff, Int.reduceToNat, true_implies, false_implies, implies_true, and_true, true_and, not_true_eq_false, not_false_eq_true, Nat.zero_add, Nat.add_zero, nI_add, nI_ltI, nI_leI, nI_eq, pk_mul, pk_sub, u2_same, u2_row, u2_other, e0, e1, e2, so]
  exact hQ
theorem sp_firstState (hf : z_FR fr) (hw : a_WF w) (h : z_PL fi w 3) : TT 219 0 [some (.ref 70)] [] (151, fi, fl, fr) Q = Q (some (.int (nI (a_S w)))) (151, fi, fl, fr) := by
  refine T_exact (fun Q hQ => ?_) Q
  have o70 : z_ok 151 70 18 = true := rfl; have o74 : z_ok 151 74 1 = true := rfl
  have l74 : z_al 74 = 3 := rfl
  have t0 := a_tot_le (hw.2.2.2.1 0 (by decide)).1
  have t1 := a_tot_le (hw.2.2.2.1 1 (by decide)).1
  have t2 := a_tot_le (hw.2.2.2.1 2 (by decide)).1
  have g0 := (hw.2.2.2.1 0 (by decide)).2.2
  have g1 := (hw.2.2.2.1 1 (by decide)).2.2
  have g2 := (hw.2.2.2.1 2 (by decide)).2.2
  have e0 := (h 0 (by decide)).1
  have e1 := (h 1 (by decide)).1
  have e2 := (h 2 (by decide)).1
  have so := fun M Q => sp_stateOf (M := M) (Q := Q) (show a_gone w 0 < 16 by omega) (show a_gone w 1 < 16 by omega) (show a_gone w 2 < 16 by omega)
  unfold a_S at hQ
  simp (disch := first | assumption | rfl | exact zle_0 | exact zle_1 | exact zle_2 | exact zle_3 | exact zle_4 | exact zb_0 | exact zb_1 | exact zb01_B | omega) only [zT219_0, zr_aload_0, zT219_1, zr_gf_57, zr_or, zr_go, zf_70_57, zT219_4, zr_ic_0, zT219_5, zr_iald, zT219_6, zT219_7, zT219_10, zr_ic_1, zT219_11, zT219_12, zT219_13, zT219_16, zr_ic_2, zT219_17, zT219_18, zr_iv_213, zT219_21, zr_ret0, zcl_i, zcl_r, zcl_l, zcl_n, zv_some, zv_none, Nat.reduceAdd, Nat.reduceMul, Nat.reduceSub, Nat.reduceLT, Nat.reduceLeDiff, Nat.reduceEqDiff, Int.reduceToNat, true_implies, false_implies, implies_true, and_true, true_and, not_true_eq_false, not_false_eq_true, Nat.zero_add, Nat.add_zero, nI_add, nI_ltI, nI_leI, nI_eq, pk_mul, pk_sub, u2_same, u2_row, u2_other, e0, e1, e2, so]
  exact hQ
theorem z_SL.frame {fi' : Nat → Nat → Int32} {en : Nat → Bool} (h : z_SL fi w en) (h1 : fi' 70 64 = fi 70 64) (h2 : fi' 80 = fi 80) (h3 : fi' 81 = fi 81) : z_SL fi' w en := by
  unfold z_SL at *
  rw [h1, h2, h3]
  exact h
def a_FW (w : Nat → Nat) (en : Nat → Bool) (s : Nat) : Nat := a_F (a_mv w en) (a_E w) s
def z_FW (fi : Nat → Nat → Int32) (w : Nat → Nat) (en : Nat → Bool) : Prop := ∀ s ∈ a_SL w, fi 82 s = nI (gF 1000001 (a_FW w en s))
theorem a_FW_le {en : Nat → Bool} (hw : a_WF w) {s : Nat} (hb : a_box w s) : a_FW w en s ≤ 45 ∨ a_FW w en s = 100 := by
  unfold a_FW
  rcases a_F_spec (E := a_E w) (a_sys hw (en := en)) hb with h | h
  · exact Or.inr h.1
  · exact Or.inl h.1
theorem gF_lt {en : Nat → Bool} (hw : a_WF w) {s : Nat} (hb : a_box w s) : gF 1000001 (a_FW w en s) < 2 ^ 30 := by
  unfold gF
  rcases a_FW_le hw hb (en := en) with h | h <;> split <;> omega
theorem sp_cf_ (hf : z_FR fr) (hw : a_WF w) {en : Nat → Bool} : ∀ n, n ≤ (a_SL w).length → ∀ (fi : Nat → Nat → Int32) (v1 : Int32) (v2 : Option Value), v1 = (if n = 0 then nM 1 else nI (n - 1)) → z_PL fi w 3 → z_SL fi w en → (∀ j t, n ≤ j → (a_SL w)[j]? = some t → fi 82 t = nI (gF 1000001 (a_FW w en t))) →
    (∀ fi', z_FW fi' w en → (∀ j, j ≠ 82 → fi' j = fi j) → Q none (151, fi', fl, fr)) →
    TT 221 7 [some (.ref 70), some (.int v1), v2] [] (151, fi, fl, fr) Q := by
  have o70 : z_ok 151 70 18 = true := rfl; have o75 : z_ok 151 75 1 = true := rfl; have o80 : z_ok 151 80 1 = true := rfl; have o81 : z_ok 151 81 1 = true := rfl; have o82 : z_ok 151 82 1 = true := rfl
  have l75 : z_al 75 = 3 := rfl; have l80 : z_al 80 = 4096 := rfl; have l81 : z_al 81 = 4096 := rfl; have l82 : z_al 82 = 4096 := rfl
  have slen := (a_SL_inc hw).len
  intro n
  induction n with
  | zero =>
    intro hn fi v1 v2 hv hp hs hI hQ
    rw [if_pos rfl] at hv
    subst hv
    have neg := nM_neg (k := 1) (by decide) (by decide)
    have := hQ fi (fun s hs => by
      obtain ⟨j, hj⟩ := List.mem_iff_getElem?.mp hs
      exact hI j s (Nat.zero_le _) hj) (fun _ _ => rfl)
    simp (disch := first | assumption | rfl | exact zle_0 | exact zle_1 | exact zle_2 | exact zle_3 | exact zle_4 | exact zb_0 | exact zb_1 | exact zb01_B | omega) only [zT221_7, zr_iload_1, zT221_8, zr_if_lt, zT221_54, zr_return, zcl_i, zcl_r, zcl_l, zcl_n, zv_some, zv_none, Nat.reduceAdd, Nat.reduceMul, Nat.reduceSub, Nat.reduceLT, Nat.reduceLeDiff, Nat.reduceEqDiff, Int.reduceToNat, true_implies, false_implies, implies_true, and_true, true_and, not_true_eq_false, not_false_eq_true, Nat.zero_add, Nat.add_zero, nI_add, nI_ltI, nI_leI, nI_eq, pk_mul, pk_sub, u2_same, u2_row, u2_other, neg, olt_T, olt_F, ole_T, ole_F, oeq_T, oeq_F]
    exact this
  | succ n ih =>
    intro hn fi v1 v2 hv hp hs hI hQ
    rw [if_neg (by omega), Nat.add_sub_cancel] at hv
    subst hv
    obtain ⟨s, hsn⟩ : ∃ s, (a_SL w)[n]? = some s := ⟨_, List.getElem?_eq_getElem (by omega)⟩
    have smem := List.mem_of_getElem? hsn
    have sbox := (a_SL_mem hw).mp smem
    have s4 := sbox.1
    have e80 := hs.2.1 n s hsn
    have e81 := hs.2.2 s smem
    have ls := fun fi (hp : z_PL fi w 3) Q => sp_lastState (fl := fl) (Q := Q) hf hw hp
    have ls0 := ls _ hp
    have el := (a_box_E hw).1
    have back : ∀ v1, v1 = (if n = 0 then nM 1 else nI (n - 1)) → ∀ v2, TT 221 7 [some (.ref 70), some (.int v1), v2] [] (151, u2 fi 82 s (nI (gF 1000001 (a_FW w en s))), fl, fr) Q := by
      intro v1 hv v2
      refine ih (by omega) _ v1 v2 hv (hp.frame (fun j j1 j2 => by simp (disch := omega) only [u2_ne])) (hs.frame (by simp (disch := omega) only [u2_other]) (by simp (disch := omega) only [u2_ne]) (by simp (disch := omega) only [u2_ne])) (fun j t hj ht => ?_) (fun fi' g1 g2 => hQ fi' g1 (fun j hj => ?_))
      · by_cases e : t = s
        · subst e; rw [u2_same]
        · rw [u2_row e]
          have : j ≠ n := by
            rintro rfl
            rw [hsn] at ht
            exact e (Option.some.inj ht).symm
          exact hI j t (by omega) ht
      · rw [g2 j hj]; simp (disch := omega) only [u2_ne]
    have dec : nI n + nM 1 = (if n = 0 then nM 1 else nI (n - 1)) := by
      by_cases c : n = 0
      · subst c; rfl
      · rw [if_neg c]; exact nI_addM (by omega)
    have back' := back _ dec
    simp (disch := first | assumption | rfl | exact zle_0 | exact zle_1 | exact zle_2 | exact zle_3 | exact zle_4 | exact zb_0 | exact zb_1 | exact zb01_B | omega) only [zT221_7, zr_iload_1, zcl_i, zcl_r, zcl_l, zcl_n, zv_some, zv_none, Nat.reduceAdd, Nat.reduceMul, Nat.reduceSub, Nat.reduceLT, Nat.reduceLeDiff, Nat.reduceEqDiff, Int.reduceToNat, true_implies, false_implies, implies_true, and_true, true_and, not_true_eq_false, not_false_eq_true, Nat.zero_add, Nat.add_zero, nI_add, nI_ltI, nI_leI, nI_eq, pk_mul, pk_sub, u2_same, u2_row, u2_other]
    by_cases c : s = a_E w
    · have f0 : gF 1000001 (a_FW w en s) = 0 := by
        unfold a_FW
        rw [c, a_F_E (a_sys hw) (a_box_E hw)]
        rfl
      rw [f0] at back'
      rw [← c] at ls0
      simp (disch := first | assumption | rfl | exact zle_0 | exact zle_1 | exact zle_2 | exact zle_3 | exact zle_4 | exact zb_0 | exact zb_1 | exact zb01_B | omega) only [zT221_8, zr_if_lt, zT221_11, zr_aload_0, zT221_12, zr_gf_63, zr_or, zr_go, zf_70_63, zT221_15, zr_iload_1, zT221_16, zr_iald, zT221_17, zr_istore_2, zT221_18, zT221_19, zr_gf_66, zf_70_66, zT221_22, zr_iload_2, zT221_23, zT221_24, zT221_25, zr_iv_220, zT221_28, zr_icmp_ne, zT221_31, zr_ic_0, zT221_32, zr_goto, zT221_35, zr_ic_1, zT221_36, zT221_37, zT221_38, zT221_41, zT221_42, zT221_43, zr_iv_222, zT221_46, zr_iadd, zT221_47, zr_iast, zT221_48, zr_iinc_1_m1, zT221_51, zcl_i, zcl_r, zcl_l, zcl_n, zv_some, zv_none, Nat.reduceAdd, Nat.reduceMul, Nat.reduceSub, Nat.reduceLT, Nat.reduceLeDiff, Nat.reduceEqDiff, Int.reduceToNat, true_implies, false_implies, implies_true, and_true, true_and, not_true_eq_false, not_false_eq_true, Nat.zero_add, Nat.add_zero, nI_add, nI_ltI, nI_leI, nI_eq, pk_mul, pk_sub, u2_same, u2_row, u2_other, e80, ls0, olt_T, olt_F, ole_T, ole_F, oeq_T, oeq_F]
      exact back' _
    · simp (disch := first | assumption | rfl | exact zle_0 | exact zle_1 | exact zle_2 | exact zle_3 | exact zle_4 | exact zb_0 | exact zb_1 | exact zb01_B | omega) only [zT221_8, zr_if_lt, zT221_11, zr_aload_0, zT221_12, zr_gf_63, zr_or, zr_go, zf_70_63, zT221_15, zr_iload_1, zT221_16, zr_iald, zT221_17, zr_istore_2, zT221_18, zT221_19, zr_gf_66, zf_70_66, zT221_22, zr_iload_2, zT221_23, zT221_24, zT221_25, zr_iv_220, zT221_28, zr_icmp_ne, zT221_31, zr_ic_0, zT221_32, zr_goto, zT221_35, zr_ic_1, zT221_36, zT221_37, zT221_38, zT221_41, zT221_42, zT221_43, zr_iv_222, zcl_i, zcl_r, zcl_l, zcl_n, zv_some, zv_none, Nat.reduceAdd, Nat.reduceMul, Nat.reduceSub, Nat.reduceLT, Nat.reduceLeDiff, Nat.reduceEqDiff, Int.reduceToNat, true_implies, false_implies, implies_true, and_true, true_and, not_true_eq_false, not_false_eq_true, Nat.zero_add, Nat.add_zero, nI_add, nI_ltI, nI_leI, nI_eq, pk_mul, pk_sub, u2_same, u2_row, u2_other, e80, ls0, olt_T, olt_F, ole_T, ole_F, oeq_T, oeq_F]
      refine sp_least hf (num := fun t => gF 1000001 (a_FW w en t)) s4 o82 l82 e81 a_mvm_lt (Nat.le_refl _) (fun q q1 q8 qb => ?_) (fun L l1 l2 l3 => ?_)
      · obtain ⟨b2, r2⟩ := (a_sys hw (en := en)).2 s q sbox q1 q8 qb
        refine ⟨b2.1, ?_, gF_lt hw b2⟩
        obtain ⟨j, hj⟩ := List.mem_iff_getElem?.mp ((a_SL_mem hw).mpr b2)
        refine hI j _ ?_ hj
        rcases Nat.lt_or_ge n j with x | x
        · exact x
        · have := inc.idx (a_SL_inc hw) hsn hj x
          have r := plc_sum s4
          have : s < nx s q := by
            unfold nx
            have : ∀ q, q < 8 → 1 ≤ q → 0 < (z_stT 3).getD q 0 := by decide +kernel
            have := this q q8 q1
            omega
          omega
      · have key := a_F_least (E := a_E w) (a_sys hw (en := en)) (s := s) (L := L) (N := 1000000) (K := 1000001) (by decide) (by decide) sbox c l1 l2 l3
        have key' : 1 + L = gF 1000001 (a_FW w en s) := by rw [Nat.add_comm]; exact key
        rw [← key'] at back'
        simp (disch := first | assumption | rfl | exact zle_0 | exact zle_1 | exact zle_2 | exact zle_3 | exact zle_4 | exact zb_0 | exact zb_1 | exact zb01_B | omega) only [zT221_46, zr_iadd, zT221_47, zr_iast, zT221_48, zr_iinc_1_m1, zT221_51, zr_goto, zcl_i, zcl_r, zcl_l, zcl_n, zv_some, zv_none, Nat.reduceAdd, Nat.reduceMul, Nat.reduceSub, Nat.reduceLT, Nat.reduceLeDiff, Nat.reduceEqDiff, Int.reduceToNat, true_implies, false_implies, implies_true, and_true, true_and, not_true_eq_false, not_false_eq_true, Nat.zero_add, Nat.add_zero, nI_add, nI_ltI, nI_leI, nI_eq, pk_mul, pk_sub, u2_same, u2_row, u2_other, olt_T, olt_F, ole_T, ole_F, oeq_T, oeq_F]
        exact back' _
theorem a_SL_pos (hw : a_WF w) : 0 < (a_SL w).length := List.length_pos_of_mem ((a_SL_mem hw).mpr (a_box_E hw))
theorem sp_countFewest (hf : z_FR fr) (hw : a_WF w) {en : Nat → Bool} (hp : z_PL fi w 3) (hs : z_SL fi w en)
    (hQ : ∀ fi', z_FW fi' w en → (∀ j, j ≠ 82 → fi' j = fi j) → Q none (151, fi', fl, fr)) :
    TT 221 0 [some (.ref 70), none, none] [] (151, fi, fl, fr) Q := by
  have o70 : z_ok 151 70 18 = true := rfl
  have c := hs.1
  have p := a_SL_pos hw
  simp (disch := first | assumption | rfl | exact zle_0 | exact zle_1 | exact zle_2 | exact zle_3 | exact zle_4 | exact zb_0 | exact zb_1 | exact zb01_B | omega) only [zT221_0, zr_aload_0, zT221_1, zr_gf_64, zT221_4, zr_ic_1, zT221_5, zr_isub, zT221_6, zr_istore_1, zcl_i, zcl_r, zcl_l, zcl_n, zv_some, zv_none, Nat.reduceAdd, Nat.reduceMul, Nat.reduceSub, Nat.reduceLT, Nat.reduceLeDiff, Nat.reduceEqDiff, Int.reduceToNat, true_implies, false_implies, implies_true, and_true, true_and, not_true_eq_false, not_false_eq_true, Nat.zero_add, Nat.add_zero, nI_add, nI_ltI, nI_leI, nI_eq, pk_mul, pk_sub, u2_same, u2_row, u2_other, c, olt_T, olt_F, ole_T, ole_F, oeq_T, oeq_F]
  exact sp_cf_ hf hw (a_SL w).length (Nat.le_refl _) fi _ _ (by rw [if_neg (by omega)]) hp hs (fun j t hj ht => by
    rw [List.getElem?_eq_none hj] at ht
    exact absurd ht (by simp)) hQ
def iF (v : Nat) : Int32 := if v = 100 then nM 1 else nI v
theorem sp_minutesFor (hf : z_FR fr) (hw : a_WF w) {en : Nat → Bool} (hp : z_PL fi w 3) (hs : z_FW fi w en) {set : Nat} (h8 : set < 8) : TT 223 0 [some (.ref 70), some (.int (nI set)), none, none, none, none] [] (151, fi, fl, fr) Q = Q (some (.int (iF (a_FW w en (a_fs w set))))) (151, fi, fl, fr) := by
  refine T_exact (fun Q hQ => ?_) Q
  have o70 : z_ok 151 70 18 = true := rfl; have o74 : z_ok 151 74 1 = true := rfl; have o75 : z_ok 151 75 1 = true := rfl; have o82 : z_ok 151 82 1 = true := rfl
  have l74 : z_al 74 = 3 := rfl; have l75 : z_al 75 = 3 := rfl; have l82 : z_al 82 = 4096 := rfl
  have bx := a_box_fs hw (set := set)
  have fs := hs _ ((a_SL_mem hw).mpr bx)
  have b4 := bx.1
  have i0 := fun M Q => sp_isIn (M := M) (Q := Q) (b := set) (d := 0) (by omega) (by decide)
  have i1 := fun M Q => sp_isIn (M := M) (Q := Q) (b := set) (d := 1) (by omega) (by decide)
  have i2 := fun M Q => sp_isIn (M := M) (Q := Q) (b := set) (d := 2) (by omega) (by decide)
  have n0 := (hp 0 (by decide)).1
  have n1 := (hp 1 (by decide)).1
  have n2 := (hp 2 (by decide)).1
  have e0 := (hp 0 (by decide)).2.1
  have e1 := (hp 1 (by decide)).2.1
  have e2 := (hp 2 (by decide)).2.1
  have t : ∀ d, d < 3 → a_gone w d < 16 ∧ a_tot w d < 16 := fun d hd => by
    have := a_tot_le (hw.2.2.2.1 d hd).1
    have := (hw.2.2.2.1 d hd).2.2
    omega
  have t0 := t 0 (by decide)
  have t1 := t 1 (by decide)
  have t2 := t 2 (by decide)
  have so := fun (M : Mm) (Q : Option Value → Mm → Prop) i j k (hi : i < 16) (hj : j < 16) (hk : k < 16) => sp_stateOf (M := M) (Q := Q) hi hj hk
  have out : ∀ v, fi 82 (a_fs w set) = nI v → v = gF 1000001 (a_FW w en (a_fs w set)) → ((v < 1000000 → Q (some (.int (nI v))) (151, fi, fl, fr)) ∧ (¬ v < 1000000 → Q (some (.int (nM 1))) (151, fi, fl, fr))) := by
    intro v _ hv
    unfold gF at hv
    unfold iF at hQ
    rcases a_FW_le hw bx (en := en) with h | h
    · rw [if_neg (by omega)] at hv hQ
      exact ⟨fun _ => by rw [hv]; exact hQ, fun q => by omega⟩
    · rw [if_pos h] at hv hQ
      exact ⟨fun q => by omega, fun _ => hQ⟩
  have out' := out _ fs rfl
  have vl := gF_lt hw bx (en := en)
  clear out hQ hs
  generalize gF 1000001 (a_FW w en (a_fs w set)) = v at *
  unfold a_fs at fs b4
  cases x0 : a_bit set 0 <;> cases x1 : a_bit set 1 <;> cases x2 : a_bit set 2 <;> rw [x0] at i0 fs b4 <;> rw [x1] at i1 fs b4 <;> rw [x2] at i2 fs b4 <;> simp only [if_true, if_false, Bool.false_eq_true] at fs b4
  all_goals
    simp (disch := first | assumption | rfl | exact zle_0 | exact zle_1 | exact zle_2 | exact zle_3 | exact zle_4 | exact zb_0 | exact zb_1 | exact zb01_B | omega) only [zT223_0, zr_iload_1, zT223_1, zr_ic_0, zT223_2, zr_iv_119, zT223_5, zr_if_eq, zT223_8, zr_aload_0, zT223_9, zr_gf_57, zr_or, zr_go, zf_70_57, zT223_12, zT223_13, zr_iald, zT223_14, zr_goto, zT223_17, zT223_18, zr_gf_58, zf_70_58, zT223_21, zT223_22, zT223_23, zr_istore_2, zT223_24, zT223_25, zr_ic_1, zT223_26, zT223_29, zT223_32, zT223_33, zT223_36, zT223_37, zT223_38, zT223_41, zT223_42, zT223_45, zT223_46, zT223_47, zr_istore_3, zT223_48, zT223_49, zr_ic_2, zT223_50, zT223_53, zT223_56, zT223_57, zT223_60, zT223_61, zT223_62, zT223_65, zT223_66, zT223_69, zT223_70, zT223_71, zr_istore_4, zT223_73, zT223_74, zr_gf_66, zf_70_66, zT223_77, zr_iload_2, zT223_78, zr_iload_3, zT223_79, zr_iload_4, zT223_81, zr_iv_213, zT223_84, zT223_85, zr_istore_5, zT223_87, zr_iload_5, zT223_89, zr_ic_1000000, zT223_91, zr_icmp_ge, zT223_94, zT223_96, zT223_99, zr_ic_m1, zT223_100, zr_ret0, zcl_i, zcl_r, zcl_l, zcl_n, zv_some, zv_none, Nat.reduceAdd, Nat.reduceMul, Nat.reduceSub, Nat.reduceLT, Nat.reduceLeDiff, Nat.reduceEqDiff, Int.reduceToNat, true_implies, false_implies, implies_true, and_true, true_and, not_true_eq_false, not_false_eq_true, Nat.zero_add, Nat.add_zero, nI_add, nI_ltI, nI_leI, nI_eq, pk_mul, pk_sub, u2_same, u2_row, u2_other, i0, i1, i2, n0, n1, n2, e0, e1, e2, so, fs, zB_eq0, reduceCtorEq]
    by_cases c : v < 1000000
    · simp (disch := first | assumption | rfl | exact zle_0 | exact zle_1 | exact zle_2 | exact zle_3 | exact zle_4 | exact zb_0 | exact zb_1 | exact zb01_B | omega) only [zT223_0, zr_iload_1, zT223_1, zr_ic_0, zT223_2, zr_iv_119, zT223_5, zr_if_eq, zT223_8, zr_aload_0, zT223_9, zr_gf_57, zr_or, zr_go, zf_70_57, zT223_12, zT223_13, zr_iald, zT223_14, zr_goto, zT223_17, zT223_18, zr_gf_58, zf_70_58, zT223_21, zT223_22, zT223_23, zr_istore_2, zT223_24, zT223_25, zr_ic_1, zT223_26, zT223_29, zT223_32, zT223_33, zT223_36, zT223_37, zT223_38, zT223_41, zT223_42, zT223_45, zT223_46, zT223_47, zr_istore_3, zT223_48, zT223_49, zr_ic_2, zT223_50, zT223_53, zT223_56, zT223_57, zT223_60, zT223_61, zT223_62, zT223_65, zT223_66, zT223_69, zT223_70, zT223_71, zr_istore_4, zT223_73, zT223_74, zr_gf_66, zf_70_66, zT223_77, zr_iload_2, zT223_78, zr_iload_3, zT223_79, zr_iload_4, zT223_81, zr_iv_213, zT223_84, zT223_85, zr_istore_5, zT223_87, zr_iload_5, zT223_89, zr_ic_1000000, zT223_91, zr_icmp_ge, zT223_94, zT223_96, zT223_99, zr_ic_m1, zT223_100, zr_ret0, zcl_i, zcl_r, zcl_l, zcl_n, zv_some, zv_none, Nat.reduceAdd, Nat.reduceMul, Nat.reduceSub, Nat.reduceLT, Nat.reduceLeDiff, Nat.reduceEqDiff, Int.reduceToNat, true_implies, false_implies, implies_true, and_true, true_and, not_true_eq_false, not_false_eq_true, Nat.zero_add, Nat.add_zero, nI_add, nI_ltI, nI_leI, nI_eq, pk_mul, pk_sub, u2_same, u2_row, u2_other, olt_T, olt_F, ole_T, ole_F, oeq_T, oeq_F]
      exact out'.1 c
    · simp (disch := first | assumption | rfl | exact zle_0 | exact zle_1 | exact zle_2 | exact zle_3 | exact zle_4 | exact zb_0 | exact zb_1 | exact zb01_B | omega) only [zT223_0, zr_iload_1, zT223_1, zr_ic_0, zT223_2, zr_iv_119, zT223_5, zr_if_eq, zT223_8, zr_aload_0, zT223_9, zr_gf_57, zr_or, zr_go, zf_70_57, zT223_12, zT223_13, zr_iald, zT223_14, zr_goto, zT223_17, zT223_18, zr_gf_58, zf_70_58, zT223_21, zT223_22, zT223_23, zr_istore_2, zT223_24, zT223_25, zr_ic_1, zT223_26, zT223_29, zT223_32, zT223_33, zT223_36, zT223_37, zT223_38, zT223_41, zT223_42, zT223_45, zT223_46, zT223_47, zr_istore_3, zT223_48, zT223_49, zr_ic_2, zT223_50, zT223_53, zT223_56, zT223_57, zT223_60, zT223_61, zT223_62, zT223_65, zT223_66, zT223_69, zT223_70, zT223_71, zr_istore_4, zT223_73, zT223_74, zr_gf_66, zf_70_66, zT223_77, zr_iload_2, zT223_78, zr_iload_3, zT223_79, zr_iload_4, zT223_81, zr_iv_213, zT223_84, zT223_85, zr_istore_5, zT223_87, zr_iload_5, zT223_89, zr_ic_1000000, zT223_91, zr_icmp_ge, zT223_94, zT223_96, zT223_99, zr_ic_m1, zT223_100, zr_ret0, zcl_i, zcl_r, zcl_l, zcl_n, zv_some, zv_none, Nat.reduceAdd, Nat.reduceMul, Nat.reduceSub, Nat.reduceLT, Nat.reduceLeDiff, Nat.reduceEqDiff, Int.reduceToNat, true_implies, false_implies, implies_true, and_true, true_and, not_true_eq_false, not_false_eq_true, Nat.zero_add, Nat.add_zero, nI_add, nI_ltI, nI_leI, nI_eq, pk_mul, pk_sub, u2_same, u2_row, u2_other, olt_T, olt_F, ole_T, ole_F, oeq_T, oeq_F]
      exact out'.2 c
theorem z_FW.frame {fi' : Nat → Nat → Int32} {en : Nat → Bool} (h : z_FW fi w en) (h1 : fi' 82 = fi 82) : z_FW fi' w en := by
  unfold z_FW at *
  rw [h1]
  exact h
/-- all that a survey lays ready -/
def z_SV (fi : Nat → Nat → Int32) (w : Nat → Nat) (en : Nat → Bool) : Prop := z_PL fi w 3 ∧ z_SL fi w en ∧ z_FW fi w en
theorem sp_survey (hf : z_FR fr) (hw : a_WF w) {hl : Nat → Nat} {th : Nat → Bool} {er el : Nat} (he : er ≤ 1 ∧ el ≤ 1) (hr : z_KR fi 19 w) (hc : z_CR fi hl th er el 6)
    (hQ : ∀ fi', z_SV fi' w (a_enough w hl er el) → (∀ j, (j < 61 ∨ (61 < j ∧ j < 67) ∨ (67 < j ∧ j < 70) ∨ (70 < j ∧ j < 74) ∨ 82 < j) → fi' j = fi j) → (∀ f, f ≠ 64 → fi' 70 f = fi 70 f) → Q (some (.int (iF (a_FW w (a_enough w hl er el) (a_S w))))) (151, fi', fl, fr)) :
    TT 209 0 [some (.ref 70)] [] (151, fi, fl, fr) Q := by
  have o70 : z_ok 151 70 18 = true := rfl
  simp (disch := first | assumption | rfl | exact zle_0 | exact zle_1 | exact zle_2 | exact zle_3 | exact zle_4 | exact zb_0 | exact zb_1 | exact zb01_B | omega) only [zT209_0, zr_aload_0, zT209_1, zr_iv_210, zcl_i, zcl_r, zcl_l, zcl_n, zv_some, zv_none, Nat.reduceAdd, Nat.reduceMul, Nat.reduceSub, Nat.reduceLT, Nat.reduceLeDiff, Nat.reduceEqDiff, Int.reduceToNat, true_implies, false_implies, implies_true, and_true, true_and, not_true_eq_false, not_false_eq_true, Nat.zero_add, Nat.add_zero, nI_add, nI_ltI, nI_leI, nI_eq, pk_mul, pk_sub, u2_same, u2_row, u2_other]
  refine sp_layPlaces hf hw hr (fun f1 h1 h2 => ?_)
  simp (disch := first | assumption | rfl | exact zle_0 | exact zle_1 | exact zle_2 | exact zle_3 | exact zle_4 | exact zb_0 | exact zb_1 | exact zb01_B | omega) only [zT209_4, zr_aload_0, zT209_5, zr_iv_211, zcl_i, zcl_r, zcl_l, zcl_n, zv_some, zv_none, Nat.reduceAdd, Nat.reduceMul, Nat.reduceSub, Nat.reduceLT, Nat.reduceLeDiff, Nat.reduceEqDiff, Int.reduceToNat, true_implies, false_implies, implies_true, and_true, true_and, not_true_eq_false, not_false_eq_true, Nat.zero_add, Nat.add_zero, nI_add, nI_ltI, nI_leI, nI_eq, pk_mul, pk_sub, u2_same, u2_row, u2_other]
  refine sp_layOpen hf hw he (hr.fr (fun j j1 j2 => h2 j (by omega))) (hc.frame (fun j j1 j2 => h2 j (by omega))) (fun f2 h3 h4 => ?_)
  have p2 : z_PL f2 w 3 := h1.frame (fun j j1 j2 => h4 j (by omega) (by omega) (by omega) (by omega))
  simp (disch := first | assumption | rfl | exact zle_0 | exact zle_1 | exact zle_2 | exact zle_3 | exact zle_4 | exact zb_0 | exact zb_1 | exact zb01_B | omega) only [zT209_8, zr_aload_0, zT209_9, zr_iv_215, zcl_i, zcl_r, zcl_l, zcl_n, zv_some, zv_none, Nat.reduceAdd, Nat.reduceMul, Nat.reduceSub, Nat.reduceLT, Nat.reduceLeDiff, Nat.reduceEqDiff, Int.reduceToNat, true_implies, false_implies, implies_true, and_true, true_and, not_true_eq_false, not_false_eq_true, Nat.zero_add, Nat.add_zero, nI_add, nI_ltI, nI_leI, nI_eq, pk_mul, pk_sub, u2_same, u2_row, u2_other]
  refine sp_layStates hf hw p2 h3 (fun f3 h5 h6 => ?_)
  have p3 : z_PL f3 w 3 := p2.frame (fun j j1 j2 => h6.1 j (by omega) (by omega) (by omega))
  simp (disch := first | assumption | rfl | exact zle_0 | exact zle_1 | exact zle_2 | exact zle_3 | exact zle_4 | exact zb_0 | exact zb_1 | exact zb01_B | omega) only [zT209_12, zr_aload_0, zT209_13, zr_iv_221, zcl_i, zcl_r, zcl_l, zcl_n, zv_some, zv_none, Nat.reduceAdd, Nat.reduceMul, Nat.reduceSub, Nat.reduceLT, Nat.reduceLeDiff, Nat.reduceEqDiff, Int.reduceToNat, true_implies, false_implies, implies_true, and_true, true_and, not_true_eq_false, not_false_eq_true, Nat.zero_add, Nat.add_zero, nI_add, nI_ltI, nI_leI, nI_eq, pk_mul, pk_sub, u2_same, u2_row, u2_other]
  refine sp_countFewest hf hw p3 h5 (fun f4 h7 h8 => ?_)
  have p4 : z_PL f4 w 3 := p3.frame (fun j j1 j2 => h8 j (by omega))
  have s4 : z_SL f4 w (a_enough w hl er el) := h5.frame (by rw [h8 70 (by decide)]) (h8 80 (by decide)) (h8 81 (by decide))
  have mf := fun Q => sp_minutesFor (fl := fl) (Q := Q) hf hw p4 h7 (show 7 < 8 by decide)
  rw [a_fs7] at mf
  simp (disch := first | assumption | rfl | exact zle_0 | exact zle_1 | exact zle_2 | exact zle_3 | exact zle_4 | exact zb_0 | exact zb_1 | exact zb01_B | omega) only [zT209_16, zr_aload_0, zT209_17, zr_ic_7, zT209_19, zr_iv_223, zT209_22, zr_ret0, zcl_i, zcl_r, zcl_l, zcl_n, zv_some, zv_none, Nat.reduceAdd, Nat.reduceMul, Nat.reduceSub, Nat.reduceLT, Nat.reduceLeDiff, Nat.reduceEqDiff, Int.reduceToNat, true_implies, false_implies, implies_true, and_true, true_and, not_true_eq_false, not_false_eq_true, Nat.zero_add, Nat.add_zero, nI_add, nI_ltI, nI_leI, nI_eq, pk_mul, pk_sub, u2_same, u2_row, u2_other, mf]
  refine hQ f4 ⟨p4, s4, h7⟩ (fun j hj => ?_) (fun f hff => ?_)
  · rw [h8 j (by omega), h6.1 j (by omega) (by omega) (by omega), h4 j (by omega) (by omega) (by omega) (by omega), h2 j (by omega)]
  · rw [h8 70 (by decide), h6.2 f hff, h4 70 (by decide) (by decide) (by decide) (by decide), h2 70 (by decide)]
end
