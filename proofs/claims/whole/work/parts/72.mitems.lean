/-! the model's items -/
section
variable {fi fi' : Nat → Nat → Int32} {fl fl' : Nat → Nat → Int64} {fr : Nat → Nat → Option Nat} {Q : Option Value → Mm → Prop} {w : Nat → Nat} {k : Nat} {M : Mm} {ws : Nat → Nat → Nat} {tx : Nat → Nat} {n : Nat}
/-- but for where, whether a fault, how many items -/
def z_fa (fi fi' : Nat → Nat → Int32) : Prop := (∀ f, f ≠ 79 → f ≠ 80 → fi' 133 f = fi 133 f) ∧ ∀ j, j ≠ 133 → fi' j = fi j
theorem z_fa.id_ : z_fa fi fi := ⟨fun _ _ _ => rfl, fun _ _ => rfl⟩
theorem z_fa.at_ {x : Int32} (h : z_fa fi fi') : z_fa fi (u2 fi' 133 79 x) := ⟨fun f h1 h2 => by rw [u2_row h1]; exact h.1 f h1 h2, fun j hj => by rw [u2_ne hj]; exact h.2 j hj⟩
theorem z_fa.ft {x : Int32} (h : z_fa fi fi') : z_fa fi (u2 fi' 133 80 x) := ⟨fun f h1 h2 => by rw [u2_row h2]; exact h.1 f h1 h2, fun j hj => by rw [u2_ne hj]; exact h.2 j hj⟩
theorem z_fa.MT (h : z_fa fi fi') (ht : z_MT fi tx n) : z_MT fi' tx n := ht.frame (h.1 _ (by decide) (by decide)) (h.2 136 (by decide))
theorem sm_tn_ (hf : z_FR fr) {p e : Nat} (he : e = ren tx n 48 57 p) (hp : p ≤ n)
    (hQ : ∀ fi', fi' 133 79 = nI e → fi' 133 80 = fi 133 80 → z_fa fi fi' → TT 32 102 [some (.ref 133), some (.int (nI p)), some (.int (nI (a_val tx (min (e - p) 2) p 0)))] [] (151, fi', fl, fr) Q) :
    ∀ m q, q + m = e → p ≤ q → ∀ f1 : Nat → Nat → Int32, z_MT f1 tx n → f1 133 79 = nI q → f1 133 80 = fi 133 80 → z_fa fi f1 → TT 32 24 [some (.ref 133), some (.int (nI p)), some (.int (nI (a_val tx (min (q - p) 2) p 0)))] [] (151, f1, fl, fr) Q := by
  have o133 : z_ok 151 133 20 = true := rfl; have o136 : z_ok 151 136 1 = true := rfl
  have l136 : z_al 136 = 200 := rfl
  obtain ⟨r1, r2, r3, r4⟩ := ren_spec (tx := tx) (n := n) (lo := 48) (hi := 57) (n - p) p rfl
  rw [← he] at r1 r2 r3 r4
  have r2' := r2 hp
  have si := fun M Q v lo hi => sm_in (M := M) (Q := Q) (v := v) (lo := lo) (hi := hi)
  have l48 : (lN 48).toInt = 48 := by decide
  have l57 : (lN 57).toInt = 57 := by decide
  intro m
  induction m with
  | zero =>
    intro q hq hpp f1 ht hat g0 g1
    obtain rfl : q = e := by omega
    have h200 := ht.1
    have ln := ht.2.1
    have o := hQ f1 hat g0 g1
    by_cases c : q < n
    · have tp := ht.2.2 q c
      have t2 := tp.2
      have ti := nI_toInt (show tx q < 2 ^ 31 by omega)
      have nd : ¬ ((48 : Int) ≤ (tx q : Int) ∧ (tx q : Int) ≤ 57) := by omega
      simp (disch := first | assumption | rfl | exact zle_0 | exact zle_1 | exact zle_2 | exact zle_3 | exact zle_4 | exact zb_0 | exact zb_1 | exact zb01_B | omega) only [zT32_24, zr_aload_0, zT32_25, zr_gf_79, zT32_28, zT32_29, zr_gf_74, zT32_32, zr_icmp_ge, zT32_35, zT32_36, zr_gf_73, zr_or, zr_go, zf_133_73, zT32_39, zT32_40, zT32_43, zr_iald, zT32_44, zr_i2l, zT32_45, zr_ldc2, zT32_48, zT32_51, zr_iv_2, zT32_54, zr_if_eq, zcl_i, zcl_r, zcl_l, zcl_n, zv_some, zv_none, Nat.reduceAdd, Nat.reduceMul, Nat.reduceSub, Nat.reduceLT, Nat.reduceLeDiff, Nat.reduceEqDiff, Int.reduceToNat, true_implies, false_implies, implies_true, and_true, true_and, not_true_eq_false, not_false_eq_true, Nat.zero_add, Nat.add_zero, nI_add, nI_ltI, nI_leI, nI_eq, pk_mul, pk_sub, u2_same, u2_row, u2_other, hat, ln, t2, si, x64, ti, l48, l57, dcd_F nd, zB_eq0, olt_T, olt_F, ole_T, ole_F, oeq_T, oeq_F]
      exact o
    · simp (disch := first | assumption | rfl | exact zle_0 | exact zle_1 | exact zle_2 | exact zle_3 | exact zle_4 | exact zb_0 | exact zb_1 | exact zb01_B | omega) only [zT32_24, zr_aload_0, zT32_25, zr_gf_79, zT32_28, zT32_29, zr_gf_74, zT32_32, zr_icmp_ge, zcl_i, zcl_r, zcl_l, zcl_n, zv_some, zv_none, Nat.reduceAdd, Nat.reduceMul, Nat.reduceSub, Nat.reduceLT, Nat.reduceLeDiff, Nat.reduceEqDiff, Int.reduceToNat, true_implies, false_implies, implies_true, and_true, true_and, not_true_eq_false, not_false_eq_true, Nat.zero_add, Nat.add_zero, nI_add, nI_ltI, nI_leI, nI_eq, pk_mul, pk_sub, u2_same, u2_row, u2_other, hat, ln, olt_T, olt_F, ole_T, ole_F, oeq_T, oeq_F]
      exact o
  | succ m ih =>
    intro q hq hpp f1 ht hat g0 g1
    have h200 := ht.1
    have ln := ht.2.1
    obtain ⟨c, t48, t57⟩ := r3 q hpp (by omega)
    have tp := ht.2.2 q c
    have t2 := tp.2
    have ti := nI_toInt (show tx q < 2 ^ 31 by omega)
    have yd : (48 : Int) ≤ (tx q : Int) ∧ (tx q : Int) ≤ 57 := by omega
    have ih' := ih (q + 1) (by omega) (by omega) (u2 f1 133 79 (nI (q + 1))) (ht.frame (by simp (disch := decide) only [u2_row]) (by simp (disch := decide) only [u2_ne])) u2_same (by rw [u2_row (by decide)]; exact g0) g1.at_
    by_cases c2 : q - p < 2
    · have ev : a_val tx (min (q + 1 - p) 2) p 0 = 10 * a_val tx (min (q - p) 2) p 0 + tx q - 48 := by
        have : q - p = 0 ∨ q - p = 1 := by omega
        rcases this with c3 | c3
        · rw [show q + 1 - p = 1 by omega, c3, show q = p by omega]
          rfl
        · rw [show q + 1 - p = 2 by omega, c3, show q = p + 1 by omega]
          rfl
      rw [ev] at ih'
      generalize a_val tx (min (q - p) 2) p 0 = v at *
      simp (disch := first | assumption | rfl | exact zle_0 | exact zle_1 | exact zle_2 | exact zle_3 | exact zle_4 | exact zb_0 | exact zb_1 | exact zb01_B | omega) only [zT32_24, zr_aload_0, zcl_i, zcl_r, zcl_l, zcl_n, zv_some, zv_none, Nat.reduceAdd, Nat.reduceMul, Nat.reduceSub, Nat.reduceLT, Nat.reduceLeDiff, Nat.reduceEqDiff, Int.reduceToNat, true_implies, false_implies, implies_true, and_true, true_and, not_true_eq_false, not_false_eq_true, Nat.zero_add, Nat.add_zero, nI_add, nI_ltI, nI_leI, nI_eq, pk_mul, pk_sub, u2_same, u2_row, u2_other]
      simp (disch := first | assumption | rfl | exact zle_0 | exact zle_1 | exact zle_2 | exact zle_3 | exact zle_4 | exact zb_0 | exact zb_1 | exact zb01_B | omega) only [zT32_25, zr_gf_79, zT32_28, zr_aload_0, zT32_29, zr_gf_74, zT32_32, zr_icmp_ge, zT32_35, zT32_36, zr_gf_73, zr_or, zr_go, zf_133_73, zT32_39, zT32_40, zT32_43, zr_iald, zT32_44, zr_i2l, zT32_45, zr_ldc2, zT32_48, zT32_51, zr_iv_2, zT32_54, zr_if_eq, zT32_57, zT32_58, zT32_61, zr_iload_1, zT32_62, zr_isub, zT32_63, zr_ic_2, zT32_64, zT32_67, zr_ic_10, zT32_69, zr_iload_2, zT32_70, zr_imul, zT32_71, zT32_72, zT32_75, zT32_76, zT32_79, zT32_80, zr_iadd, zT32_81, zr_ic_48, zT32_83, zT32_84, zr_goto, zT32_87, zT32_88, zr_istore_2, zT32_89, zT32_90, zr_dup_r, zr_dup_i, zT32_91, zT32_94, zr_ic_1, zT32_95, zT32_96, zr_pf_79, zT32_99, zcl_i, zcl_r, zcl_l, zcl_n, zv_some, zv_none, Nat.reduceAdd, Nat.reduceMul, Nat.reduceSub, Nat.reduceLT, Nat.reduceLeDiff, Nat.reduceEqDiff, Int.reduceToNat, true_implies, false_implies, implies_true, and_true, true_and, not_true_eq_false, not_false_eq_true, Nat.zero_add, Nat.add_zero, nI_add, nI_ltI, nI_leI, nI_eq, pk_mul, pk_sub, u2_same, u2_row, u2_other, hat, ln, t2, si, x64, ti, l48, l57, dcd_T yd, zB_eq0, reduceCtorEq, olt_T, olt_F, ole_T, ole_F, oeq_T, oeq_F]
      exact ih'
    · rw [Nat.min_eq_right (show 2 ≤ q + 1 - p by omega)] at ih'
      rw [Nat.min_eq_right (show 2 ≤ q - p by omega)]
      generalize a_val tx 2 p 0 = v at *
      simp (disch := first | assumption | rfl | exact zle_0 | exact zle_1 | exact zle_2 | exact zle_3 | exact zle_4 | exact zb_0 | exact zb_1 | exact zb01_B | omega) only [zT32_24, zr_aload_0, zcl_i, zcl_r, zcl_l, zcl_n, zv_some, zv_none, Nat.reduceAdd, Nat.reduceMul, Nat.reduceSub, Nat.reduceLT, Nat.reduceLeDiff, Nat.reduceEqDiff, Int.reduceToNat, true_implies, false_implies, implies_true, and_true, true_and, not_true_eq_false, not_false_eq_true, Nat.zero_add, Nat.add_zero, nI_add, nI_ltI, nI_leI, nI_eq, pk_mul, pk_sub, u2_same, u2_row, u2_other]
      simp (disch := first | assumption | rfl | exact zle_0 | exact zle_1 | exact zle_2 | exact zle_3 | exact zle_4 | exact zb_0 | exact zb_1 | exact zb01_B | omega) only [zT32_25, zr_gf_79, zT32_28, zr_aload_0, zT32_29, zr_gf_74, zT32_32, zr_icmp_ge, zT32_35, zT32_36, zr_gf_73, zr_or, zr_go, zf_133_73, zT32_39, zT32_40, zT32_43, zr_iald, zT32_44, zr_i2l, zT32_45, zr_ldc2, zT32_48, zT32_51, zr_iv_2, zT32_54, zr_if_eq, zT32_57, zT32_58, zT32_61, zr_iload_1, zT32_62, zr_isub, zT32_63, zr_ic_2, zT32_64, zT32_67, zr_ic_10, zT32_69, zr_iload_2, zT32_70, zr_imul, zT32_71, zT32_72, zT32_75, zT32_76, zT32_79, zT32_80, zr_iadd, zT32_81, zr_ic_48, zT32_83, zT32_84, zr_goto, zT32_87, zT32_88, zr_istore_2, zT32_89, zT32_90, zr_dup_r, zr_dup_i, zT32_91, zT32_94, zr_ic_1, zT32_95, zT32_96, zr_pf_79, zT32_99, zcl_i, zcl_r, zcl_l, zcl_n, zv_some, zv_none, Nat.reduceAdd, Nat.reduceMul, Nat.reduceSub, Nat.reduceLT, Nat.reduceLeDiff, Nat.reduceEqDiff, Int.reduceToNat, true_implies, false_implies, implies_true, and_true, true_and, not_true_eq_false, not_false_eq_true, Nat.zero_add, Nat.add_zero, nI_add, nI_ltI, nI_leI, nI_eq, pk_mul, pk_sub, u2_same, u2_row, u2_other, hat, ln, t2, si, x64, ti, l48, l57, dcd_T yd, zB_eq0, reduceCtorEq, olt_T, olt_F, ole_T, ole_F, oeq_T, oeq_F]
      exact ih'
theorem sm_takeNumber (hf : z_FR fr) (ht : z_MT fi tx n) {p : Nat} (hat : fi 133 79 = nI p) (hpn : p ≤ n)
    (hQ1 : a_num tx n (sk tx n p) = none → ∀ fi' x, fi' 133 80 = nI (sk tx n p) → z_fa fi fi' → Q (some (.int x)) (151, fi', fl, fr))
    (hQ2 : ∀ v q, a_num tx n (sk tx n p) = some (v, q) → ∀ fi' e, e ≤ n → q = sk tx n e → fi' 133 79 = nI e → fi' 133 80 = fi 133 80 → z_fa fi fi' → Q (some (.int (nI v))) (151, fi', fl, fr)) :
    TT 32 0 [some (.ref 133), none, none] [] (151, fi, fl, fr) Q := by
  have o133 : z_ok 151 133 20 = true := rfl; have o136 : z_ok 151 136 1 = true := rfl
  have en := fun Q => sm_end (fl := fl) (Q := Q) hf hpn ht hat
  have sn : sk tx n p ≤ n := (ren_le hpn).2
  have h200 := ht.1
  have ht1 : z_MT (u2 fi 133 79 (nI (sk tx n p))) tx n := ht.frame (by simp (disch := decide) only [u2_row]) (by simp (disch := decide) only [u2_ne])
  have ln1 := ht1.2.1
  have ln := ht.2.1
  generalize hs : sk tx n p = s at *
  by_cases c : s = n
  · rw [decide_eq_true c] at en
    have e : a_num tx n s = none := by
      unfold a_num
      rw [ren_end (by omega), if_pos (Or.inl rfl)]
    have o := hQ1 e (u2 (u2 fi 133 79 (nI s)) 133 80 (nI n)) (nM 1) (by rw [u2_same, c]) (z_fa.id_.at_.ft)
    simp (disch := first | assumption | rfl | exact zle_0 | exact zle_1 | exact zle_2 | exact zle_3 | exact zle_4 | exact zb_0 | exact zb_1 | exact zb01_B | omega) only [zT32_0, zr_aload_0, zT32_1, zr_iv_28, zT32_4, zr_if_eq, zT32_7, zT32_8, zT32_9, zr_gf_74, zT32_12, zr_pf_80, zT32_15, zr_ic_m1, zT32_16, zr_ret0, zcl_i, zcl_r, zcl_l, zcl_n, zv_some, zv_none, Nat.reduceAdd, Nat.reduceMul, Nat.reduceSub, Nat.reduceLT, Nat.reduceLeDiff, Nat.reduceEqDiff, Int.reduceToNat, true_implies, false_implies, implies_true, and_true, true_and, not_true_eq_false, not_false_eq_true, Nat.zero_add, Nat.add_zero, nI_add, nI_ltI, nI_leI, nI_eq, pk_mul, pk_sub, u2_same, u2_row, u2_other, en, zB_eq0, reduceCtorEq, ln, olt_T, olt_F, ole_T, ole_F, oeq_T, oeq_F]
    exact o
  · rw [decide_eq_false c] at en
    have L := sm_tn_ (fi := u2 fi 133 79 (nI s)) (fl := fl) (Q := Q) hf rfl sn (fun f1 g1 g2 g3 => by
      obtain ⟨r1, r2, r3, r4⟩ := ren_spec (tx := tx) (n := n) (lo := 48) (hi := 57) (n - s) s rfl
      have r2' := r2 sn
      unfold a_num at hQ1 hQ2
      generalize ren tx n 48 57 s = e at *
      have g3' : z_fa fi f1 := ⟨fun f h1 h2 => by rw [g3.1 f h1 h2, u2_row h1], fun j hj => by rw [g3.2 j hj, u2_ne hj]⟩
      have g2' : f1 133 80 = fi 133 80 := by rw [g2, u2_row (by decide)]
      by_cases cb : e = s ∨ 2 < e - s
      · rw [if_pos cb] at hQ1
        have o := fun x => hQ1 rfl (u2 f1 133 80 (nI s)) x (by rw [u2_same]) g3'.ft
        by_cases c1 : e = s
        · simp (disch := first | assumption | rfl | exact zle_0 | exact zle_1 | exact zle_2 | exact zle_3 | exact zle_4 | exact zb_0 | exact zb_1 | exact zb01_B | omega) only [zT32_102, zr_aload_0, zT32_103, zT32_104, zr_gf_79, zT32_107, zr_iload_1, zT32_108, zr_icmp_eq, zT32_111, zT32_112, zT32_115, zT32_116, zr_isub, zT32_117, zr_ic_2, zT32_118, zr_icmp_le, zT32_121, zT32_122, zr_goto, zT32_125, zT32_126, zr_gf_80, zT32_129, zr_pf_80, zT32_132, zr_iload_2, zT32_133, zr_ret0, zcl_i, zcl_r, zcl_l, zcl_n, zv_some, zv_none, Nat.reduceAdd, Nat.reduceMul, Nat.reduceSub, Nat.reduceLT, Nat.reduceLeDiff, Nat.reduceEqDiff, Int.reduceToNat, true_implies, false_implies, implies_true, and_true, true_and, not_true_eq_false, not_false_eq_true, Nat.zero_add, Nat.add_zero, nI_add, nI_ltI, nI_leI, nI_eq, pk_mul, pk_sub, u2_same, u2_row, u2_other, g1, olt_T, olt_F, ole_T, ole_F, oeq_T, oeq_F]
          exact o _
        · simp (disch := first | assumption | rfl | exact zle_0 | exact zle_1 | exact zle_2 | exact zle_3 | exact zle_4 | exact zb_0 | exact zb_1 | exact zb01_B | omega) only [zT32_102, zr_aload_0, zT32_103, zT32_104, zr_gf_79, zT32_107, zr_iload_1, zT32_108, zr_icmp_eq, zT32_111, zT32_112, zT32_115, zT32_116, zr_isub, zT32_117, zr_ic_2, zT32_118, zr_icmp_le, zT32_121, zT32_122, zr_goto, zT32_125, zT32_126, zr_gf_80, zT32_129, zr_pf_80, zT32_132, zr_iload_2, zT32_133, zr_ret0, zcl_i, zcl_r, zcl_l, zcl_n, zv_some, zv_none, Nat.reduceAdd, Nat.reduceMul, Nat.reduceSub, Nat.reduceLT, Nat.reduceLeDiff, Nat.reduceEqDiff, Int.reduceToNat, true_implies, false_implies, implies_true, and_true, true_and, not_true_eq_false, not_false_eq_true, Nat.zero_add, Nat.add_zero, nI_add, nI_ltI, nI_leI, nI_eq, pk_mul, pk_sub, u2_same, u2_row, u2_other, g1, olt_T, olt_F, ole_T, ole_F, oeq_T, oeq_F]
          exact o _
      · rw [if_neg cb] at hQ2
        have o := hQ2 _ _ rfl (u2 f1 133 80 (fi 133 80)) e r2' rfl (by rw [u2_row (by decide)]; exact g1) u2_same g3'.ft
        rw [Nat.min_eq_left (show e - s ≤ 2 by omega)]
        simp (disch := first | assumption | rfl | exact zle_0 | exact zle_1 | exact zle_2 | exact zle_3 | exact zle_4 | exact zb_0 | exact zb_1 | exact zb01_B | omega) only [zT32_102, zr_aload_0, zT32_103, zT32_104, zr_gf_79, zT32_107, zr_iload_1, zT32_108, zr_icmp_eq, zT32_111, zT32_112, zT32_115, zT32_116, zr_isub, zT32_117, zr_ic_2, zT32_118, zr_icmp_le, zT32_121, zT32_122, zr_goto, zT32_125, zT32_126, zr_gf_80, zT32_129, zr_pf_80, zT32_132, zr_iload_2, zT32_133, zr_ret0, zcl_i, zcl_r, zcl_l, zcl_n, zv_some, zv_none, Nat.reduceAdd, Nat.reduceMul, Nat.reduceSub, Nat.reduceLT, Nat.reduceLeDiff, Nat.reduceEqDiff, Int.reduceToNat, true_implies, false_implies, implies_true, and_true, true_and, not_true_eq_false, not_false_eq_true, Nat.zero_add, Nat.add_zero, nI_add, nI_ltI, nI_leI, nI_eq, pk_mul, pk_sub, u2_same, u2_row, u2_other, g1, g2', olt_T, olt_F, ole_T, ole_F, oeq_T, oeq_F]
        exact o) (ren tx n 48 57 s - s) s (by have := (ren_le (tx := tx) (lo := 48) (hi := 57) sn).1; omega) (Nat.le_refl _) _ ht1 u2_same rfl z_fa.id_
    rw [Nat.sub_self, show a_val tx (min 0 2) s 0 = 0 from rfl] at L
    have at1 : u2 fi 133 79 (nI s) 133 79 = nI s := u2_same
    simp (disch := first | assumption | rfl | exact zle_0 | exact zle_1 | exact zle_2 | exact zle_3 | exact zle_4 | exact zb_0 | exact zb_1 | exact zb01_B | omega) only [zT32_0, zr_aload_0, zT32_1, zr_iv_28, zT32_4, zr_if_eq, zT32_7, zT32_8, zT32_9, zr_gf_74, zT32_12, zr_pf_80, zT32_15, zr_ic_m1, zT32_16, zr_ret0, zT32_17, zT32_18, zr_gf_79, zT32_21, zr_istore_1, zT32_22, zr_ic_0, zT32_23, zr_istore_2, zcl_i, zcl_r, zcl_l, zcl_n, zv_some, zv_none, Nat.reduceAdd, Nat.reduceMul, Nat.reduceSub, Nat.reduceLT, Nat.reduceLeDiff, Nat.reduceEqDiff, Int.reduceToNat, true_implies, false_implies, implies_true, and_true, true_and, not_true_eq_false, not_false_eq_true, Nat.zero_add, Nat.add_zero, nI_add, nI_ltI, nI_leI, nI_eq, pk_mul, pk_sub, u2_same, u2_row, u2_other, en, zB_eq0, at1, olt_T, olt_F, ole_T, ole_F, oeq_T, oeq_F]
    exact L
theorem sm_numbersOf {x : Nat} (hx : x ≤ 5) : TT 30 0 [some (.int (a_wI x))] [] M Q = Q (some (.int (nI (if x = 5 then 0 else nb x)))) M := by
  refine T_exact (fun Q hQ => ?_) Q
  obtain ⟨nx, fi, fl, fr⟩ := M
  have m0 : (nM 1 = nI 0) = False := nM_eqI' (by decide) (by decide) (by decide)
  have m2 : (nM 1 = nI 2) = False := nM_eqI' (by decide) (by decide) (by decide)
  have m3 : (nM 1 = nI 3) = False := nM_eqI' (by decide) (by decide) (by decide)
  have : x = 0 ∨ x = 1 ∨ x = 2 ∨ x = 3 ∨ x = 4 ∨ x = 5 := by omega
  unfold a_wI
  rcases this with rfl | rfl | rfl | rfl | rfl | rfl
  all_goals
    simp (disch := first | assumption | rfl | exact zle_0 | exact zle_1 | exact zle_2 | exact zle_3 | exact zle_4 | exact zb_0 | exact zb_1 | exact zb01_B | omega) only [zT30_0, zr_iload_0, zT30_1, zr_if_ne, zT30_4, zr_ic_2, zT30_5, zr_goto, zT30_8, zT30_9, zT30_10, zr_icmp_ne, zT30_13, zr_ic_5, zT30_14, zT30_17, zT30_18, zr_ic_3, zT30_19, zT30_22, zr_ic_1, zT30_23, zT30_26, zr_ic_0, zT30_27, zr_ret0, zcl_i, zcl_r, zcl_l, zcl_n, zv_some, zv_none, Nat.reduceAdd, Nat.reduceMul, Nat.reduceSub, Nat.reduceLT, Nat.reduceLeDiff, Nat.reduceEqDiff, Int.reduceToNat, true_implies, false_implies, implies_true, and_true, true_and, not_true_eq_false, not_false_eq_true, Nat.zero_add, Nat.add_zero, nI_add, nI_ltI, nI_leI, nI_eq, pk_mul, pk_sub, u2_same, u2_row, u2_other, m0, m2, m3, if_true, if_false, olt_T, olt_F, ole_T, ole_F, oeq_T, oeq_F]
    exact hQ
/-- the items so far -/
def z_Jt (fi : Nat → Nat → Int32) (Is : List (Nat × List Nat)) : Prop := ∀ i x l, Is[i]? = some (x, l) → fi 138 i = nI x ∧ ∀ j y, l[j]? = some y → fi 139 (5 * i + j) = nI y
/-- as z_fa, and numbers from a place on -/
def z_fb (fi fi' : Nat → Nat → Int32) (c : Nat) : Prop := (∀ f, f ≠ 79 → f ≠ 80 → fi' 133 f = fi 133 f) ∧ (∀ j, j ≠ 133 → j ≠ 139 → fi' j = fi j) ∧ ∀ j, j < c → fi' 139 j = fi 139 j
theorem sm_nums_ (hf : z_FR fr) {x it : Nat} (hx : x < 5) (hit : it < 50) :
    ∀ k i, i + k = nb x → ∀ (fi : Nat → Nat → Int32) (p : Nat), z_MT fi tx n → fi 133 79 = nI p → p ≤ n → fi 133 78 = nI it → fi 133 80 = nM 1 →
    (∀ r, a_nums tx n k (sk tx n p) = (none, r) → ∀ fi' v, fi' 133 80 = nI r → z_fb fi fi' (5 * it + i) → TT 33 56 [some (.ref 133), some (.int (nI x)), v] [] (151, fi', fl, fr) Q) →
    (∀ l r, a_nums tx n k (sk tx n p) = (some l, r) → ∀ fi' v e, e ≤ n → r = sk tx n e → fi' 133 79 = nI e → fi' 133 80 = nM 1 → (∀ j y, l[j]? = some y → fi' 139 (5 * it + i + j) = nI y) → z_fb fi fi' (5 * it + i) → TT 33 56 [some (.ref 133), some (.int (nI x)), v] [] (151, fi', fl, fr) Q) →
    TT 33 17 [some (.ref 133), some (.int (nI x)), some (.int (nI i))] [] (151, fi, fl, fr) Q := by
  have o133 : z_ok 151 133 20 = true := rfl; have o138 : z_ok 151 138 1 = true := rfl; have o139 : z_ok 151 139 1 = true := rfl
  have l138 : z_al 138 = 50 := rfl; have l139 : z_al 139 = 250 := rfl
  have n5 := nb_le x hx
  have no := fun M Q => sm_numbersOf (M := M) (Q := Q) (x := x) (by omega)
  rw [show a_wI x = nI x by unfold a_wI; rw [if_neg (by omega)], if_neg (show ¬ x = 5 by omega)] at no
  intro k
  induction k with
  | zero =>
    intro i hi fi p ht hat hpn hit' hft hQ1 hQ2
    obtain rfl : i = nb x := by omega
    have o := hQ2 [] (sk tx n p) rfl fi (some (.int (nI (nb x)))) p hpn rfl hat hft (fun j y hj => absurd hj (by simp)) ⟨fun _ _ _ => rfl, fun _ _ _ => rfl, fun _ _ => rfl⟩
    simp (disch := first | assumption | rfl | exact zle_0 | exact zle_1 | exact zle_2 | exact zle_3 | exact zle_4 | exact zb_0 | exact zb_1 | exact zb01_B | omega) only [zT33_17, zr_iload_2, zT33_18, zr_iload_1, zT33_19, zr_iv_30, zT33_22, zr_icmp_ge, zcl_i, zcl_r, zcl_l, zcl_n, zv_some, zv_none, Nat.reduceAdd, Nat.reduceMul, Nat.reduceSub, Nat.reduceLT, Nat.reduceLeDiff, Nat.reduceEqDiff, Int.reduceToNat, true_implies, false_implies, implies_true, and_true, true_and, not_true_eq_false, not_false_eq_true, Nat.zero_add, Nat.add_zero, nI_add, nI_ltI, nI_leI, nI_eq, pk_mul, pk_sub, u2_same, u2_row, u2_other, no, olt_T, olt_F, ole_T, ole_F, oeq_T, oeq_F]
    exact o
  | succ k ih =>
    intro i hi fi p ht hat hpn hit' hft hQ1 hQ2
    have h200 := ht.1
    have sn : sk tx n p ≤ n := (ren_le hpn).2
    have em : 5 * it + i < 250 := by omega
    simp (disch := first | assumption | rfl | exact zle_0 | exact zle_1 | exact zle_2 | exact zle_3 | exact zle_4 | exact zb_0 | exact zb_1 | exact zb01_B | omega) only [zT33_17, zr_iload_2, zcl_i, zcl_r, zcl_l, zcl_n, zv_some, zv_none, Nat.reduceAdd, Nat.reduceMul, Nat.reduceSub, Nat.reduceLT, Nat.reduceLeDiff, Nat.reduceEqDiff, Int.reduceToNat, true_implies, false_implies, implies_true, and_true, true_and, not_true_eq_false, not_false_eq_true, Nat.zero_add, Nat.add_zero, nI_add, nI_ltI, nI_leI, nI_eq, pk_mul, pk_sub, u2_same, u2_row, u2_other]
    simp (disch := first | assumption | rfl | exact zle_0 | exact zle_1 | exact zle_2 | exact zle_3 | exact zle_4 | exact zb_0 | exact zb_1 | exact zb01_B | omega) only [zT33_18, zr_iload_1, zT33_19, zr_iv_30, zT33_22, zr_icmp_ge, zT33_25, zr_aload_0, zT33_26, zr_gf_80, zT33_29, zr_ic_m1, zT33_30, zr_icmp_ne, zT33_33, zT33_34, zr_gf_77, zr_or, zr_go, zf_133_77, zT33_37, zr_ic_5, zT33_38, zT33_39, zr_gf_78, zT33_42, zr_imul, zT33_43, zr_iload_2, zT33_44, zr_iadd, zT33_45, zT33_46, zr_iv_32, zcl_i, zcl_r, zcl_l, zcl_n, zv_some, zv_none, Nat.reduceAdd, Nat.reduceMul, Nat.reduceSub, Nat.reduceLT, Nat.reduceLeDiff, Nat.reduceEqDiff, Int.reduceToNat, true_implies, false_implies, implies_true, and_true, true_and, not_true_eq_false, not_false_eq_true, Nat.zero_add, Nat.add_zero, nI_add, nI_ltI, nI_leI, nI_eq, pk_mul, pk_sub, u2_same, u2_row, u2_other, no, hft, hit', olt_T, olt_F, ole_T, ole_F, oeq_T, oeq_F]
    refine sm_takeNumber hf ht hat hpn (fun h1 f1 x1 g1 g2 => ?_) (fun v q h1 f1 e e1 e2 g1 g2 g3 => ?_)
    · have e1 : a_nums tx n (k + 1) (sk tx n p) = (none, sk tx n p) := by rw [a_nums, h1]
      have nm := nM_eqI (k := 1) (a := sk tx n p) (by decide) (by decide) (by omega)
      have ft1 : ∀ y, u2 f1 139 (5 * it + i) y 133 80 = nI (sk tx n p) := fun y => by rw [u2_other (by decide)]; exact g1
      have fb : ∀ y, z_fb fi (u2 f1 139 (5 * it + i) y) (5 * it + i) := fun y => ⟨fun f h1 h2 => by rw [u2_other (by decide)]; exact g2.1 f h1 h2, fun j j1 j2 => by rw [u2_ne j2]; exact g2.2 j j1, fun j hj => by rw [u2_row (by omega), g2.2 139 (by decide)]⟩
      have o := fun v => hQ1 _ e1 (u2 f1 139 (5 * it + i) x1) v (ft1 x1) (fb x1)
      by_cases cn : i + 1 = nb x
      · simp (disch := first | assumption | rfl | exact zle_0 | exact zle_1 | exact zle_2 | exact zle_3 | exact zle_4 | exact zb_0 | exact zb_1 | exact zb01_B | omega) only [zT33_49, zr_iast, zT33_50, zr_iinc_2_1, zT33_53, zr_goto, zcl_i, zcl_r, zcl_l, zcl_n, zv_some, zv_none, Nat.reduceAdd, Nat.reduceMul, Nat.reduceSub, Nat.reduceLT, Nat.reduceLeDiff, Nat.reduceEqDiff, Int.reduceToNat, true_implies, false_implies, implies_true, and_true, true_and, not_true_eq_false, not_false_eq_true, Nat.zero_add, Nat.add_zero, nI_add, nI_ltI, nI_leI, nI_eq, pk_mul, pk_sub, u2_same, u2_row, u2_other, olt_T, olt_F, ole_T, ole_F, oeq_T, oeq_F]
        simp (disch := first | assumption | rfl | exact zle_0 | exact zle_1 | exact zle_2 | exact zle_3 | exact zle_4 | exact zb_0 | exact zb_1 | exact zb01_B | omega) only [zT33_17, zr_iload_2, zT33_18, zr_iload_1, zT33_19, zr_iv_30, zT33_22, zr_icmp_ge, zcl_i, zcl_r, zcl_l, zcl_n, zv_some, zv_none, Nat.reduceAdd, Nat.reduceMul, Nat.reduceSub, Nat.reduceLT, Nat.reduceLeDiff, Nat.reduceEqDiff, Int.reduceToNat, true_implies, false_implies, implies_true, and_true, true_and, not_true_eq_false, not_false_eq_true, Nat.zero_add, Nat.add_zero, nI_add, nI_ltI, nI_leI, nI_eq, pk_mul, pk_sub, u2_same, u2_row, u2_other, no, olt_T, olt_F, ole_T, ole_F, oeq_T, oeq_F]
        exact o _
      · have ftx := ft1 x1
        simp (disch := first | assumption | rfl | exact zle_0 | exact zle_1 | exact zle_2 | exact zle_3 | exact zle_4 | exact zb_0 | exact zb_1 | exact zb01_B | omega) only [zT33_49, zr_iast, zT33_50, zr_iinc_2_1, zT33_53, zr_goto, zcl_i, zcl_r, zcl_l, zcl_n, zv_some, zv_none, Nat.reduceAdd, Nat.reduceMul, Nat.reduceSub, Nat.reduceLT, Nat.reduceLeDiff, Nat.reduceEqDiff, Int.reduceToNat, true_implies, false_implies, implies_true, and_true, true_and, not_true_eq_false, not_false_eq_true, Nat.zero_add, Nat.add_zero, nI_add, nI_ltI, nI_leI, nI_eq, pk_mul, pk_sub, u2_same, u2_row, u2_other, olt_T, olt_F, ole_T, ole_F, oeq_T, oeq_F]
        simp (disch := first | assumption | rfl | exact zle_0 | exact zle_1 | exact zle_2 | exact zle_3 | exact zle_4 | exact zb_0 | exact zb_1 | exact zb01_B | omega) only [zT33_17, zr_iload_2, zT33_18, zr_iload_1, zT33_19, zr_iv_30, zT33_22, zr_icmp_ge, zT33_25, zr_aload_0, zT33_26, zr_gf_80, zT33_29, zr_ic_m1, zT33_30, zr_icmp_ne, zcl_i, zcl_r, zcl_l, zcl_n, zv_some, zv_none, Nat.reduceAdd, Nat.reduceMul, Nat.reduceSub, Nat.reduceLT, Nat.reduceLeDiff, Nat.reduceEqDiff, Int.reduceToNat, true_implies, false_implies, implies_true, and_true, true_and, not_true_eq_false, not_false_eq_true, Nat.zero_add, Nat.add_zero, nI_add, nI_ltI, nI_leI, nI_eq, pk_mul, pk_sub, u2_same, u2_row, u2_other, no, g1, nm, olt_T, olt_F, ole_T, ole_F, oeq_T, oeq_F]
        exact o _
    · have e3 : a_nums tx n (k + 1) (sk tx n p) = match a_nums tx n k q with
          | (none, r) => (none, r)
          | (some l, r) => (some (v :: l), r) := by
        rw [a_nums, h1]; rfl
      subst e2
      simp (disch := first | assumption | rfl | exact zle_0 | exact zle_1 | exact zle_2 | exact zle_3 | exact zle_4 | exact zb_0 | exact zb_1 | exact zb01_B | omega) only [zT33_49, zr_iast, zT33_50, zr_iinc_2_1, zT33_53, zr_goto, zcl_i, zcl_r, zcl_l, zcl_n, zv_some, zv_none, Nat.reduceAdd, Nat.reduceMul, Nat.reduceSub, Nat.reduceLT, Nat.reduceLeDiff, Nat.reduceEqDiff, Int.reduceToNat, true_implies, false_implies, implies_true, and_true, true_and, not_true_eq_false, not_false_eq_true, Nat.zero_add, Nat.add_zero, nI_add, nI_ltI, nI_leI, nI_eq, pk_mul, pk_sub, u2_same, u2_row, u2_other, olt_T, olt_F, ole_T, ole_F, oeq_T, oeq_F]
      have ht1 : z_MT (u2 f1 139 (5 * it + i) (nI v)) tx n := (g3.MT ht).frame (by simp (disch := decide) only [u2_other]) (by simp (disch := decide) only [u2_ne])
      refine ih (i + 1) (by omega) _ e ht1 (by rw [u2_other (by decide)]; exact g1) e1 (by rw [u2_other (by decide), g3.1 _ (by decide) (by decide)]; exact hit') (by rw [u2_other (by decide), g2]; exact hft) (fun r h2 f2 v2 k1 k2 => hQ1 r (by rw [e3, h2]) f2 v2 k1 ⟨fun f f1 f2 => ?_, fun j j1 j2 => ?_, fun j hj => ?_⟩) (fun l r h2 f2 v2 e' e1' e2' k1 k2 k3 k4 => hQ2 (v :: l) r (by rw [e3, h2]) f2 v2 e' e1' e2' k1 k2 (fun j y hj => ?_) ⟨fun f f1 f2 => ?_, fun j j1 j2 => ?_, fun j hj => ?_⟩)
      · rw [k2.1 f f1 f2, u2_other (by decide)]; exact g3.1 f f1 f2
      · rw [k2.2.1 j j1 j2, u2_ne j2]; exact g3.2 j j1
      · rw [k2.2.2 j (by omega), u2_row (by omega), g3.2 139 (by decide)]
      · cases j with
        | zero =>
          rw [k4.2.2 _ (by omega), Nat.add_zero, u2_same]
          have : v = y := by simpa using hj
          rw [this]
        | succ j =>
          rw [List.getElem?_cons_succ] at hj
          have := k3 j y hj
          rw [show 5 * it + i + (j + 1) = 5 * it + (i + 1) + j by omega]
          exact this
      · rw [k4.1 f f1 f2, u2_other (by decide)]; exact g3.1 f f1 f2
      · rw [k4.2.1 j j1 j2, u2_ne j2]; exact g3.2 j j1
      · rw [k4.2.2 j (by omega), u2_row (by omega), g3.2 139 (by decide)]
/-- after an item: what may have changed -/
def z_fc (fi fi' : Nat → Nat → Int32) (it : Nat) : Prop := (∀ f, f ≠ 79 → f ≠ 80 → f ≠ 78 → fi' 133 f = fi 133 f) ∧ (∀ j, j ≠ 133 → j ≠ 138 → j ≠ 139 → fi' j = fi j) ∧ (∀ j, j < it → fi' 138 j = fi 138 j) ∧ ∀ j, j < 5 * it → fi' 139 j = fi 139 j
theorem sm_takeItem (hf : z_FR fr) (ht : z_MT fi tx n) {p it : Nat} (hat : fi 133 79 = nI p) (hpn : p ≤ n) (hit : it < 50) (hi : fi 133 78 = nI it) (hft : fi 133 80 = nM 1)
    (hQ1 : ∀ r, a_item tx n p = (none, r) → r ≤ n → ∀ fi', fi' 133 80 = nI r → z_fc fi fi' it → Q none (151, fi', fl, fr))
    (hQ2 : ∀ x l r, a_item tx n p = (some (x, l), r) → ∀ fi', fi' 133 79 = nI r → fi' 133 80 = nM 1 → fi' 133 78 = nI (it + 1) → fi' 138 it = nI x → (∀ j y, l[j]? = some y → fi' 139 (5 * it + j) = nI y) → z_fc fi fi' it → Q none (151, fi', fl, fr)) :
    TT 33 0 [some (.ref 133), none, none] [] (151, fi, fl, fr) Q := by
  have o133 : z_ok 151 133 20 = true := rfl; have o136 : z_ok 151 136 1 = true := rfl; have o138 : z_ok 151 138 1 = true := rfl; have o139 : z_ok 151 139 1 = true := rfl
  have l136 : z_al 136 = 200 := rfl; have l138 : z_al 138 = 50 := rfl; have l139 : z_al 139 = 250 := rfl
  have h200 := ht.1
  have hb : ∀ i, i < n → tx i < 256 := fun i hi => (ht.2.2 i hi).1
  obtain ⟨e1, e2⟩ := ren_le (tx := tx) (lo := 97) (hi := 122) hpn
  obtain ⟨s1, s2⟩ := ren_le (tx := tx) (lo := 32) (hi := 32) e2
  /- the end of it: place and number of items go on -/
  have fin : ∀ f1 (v1 v2 : Option Value) (q : Int32), f1 133 78 = nI it → (Q none (151, u2 (u2 f1 133 79 (f1 133 79 + nI 1)) 133 78 (nI (it + 1)), fl, fr)) → TT 33 93 [some (.ref 133), v1, v2] [] (151, f1, fl, fr) Q := by
    intro f1 v1 v2 q h1 h2
    simp (disch := first | assumption | rfl | exact zle_0 | exact zle_1 | exact zle_2 | exact zle_3 | exact zle_4 | exact zb_0 | exact zb_1 | exact zb01_B | omega) only [zT33_93, zr_aload_0, zT33_94, zr_dup_r, zr_dup_i, zT33_95, zr_gf_79, zT33_98, zr_ic_1, zT33_99, zr_iadd, zT33_100, zr_pf_79, zT33_103, zT33_104, zT33_105, zr_gf_78, zT33_108, zT33_109, zT33_110, zr_pf_78, zT33_113, zr_return, zcl_i, zcl_r, zcl_l, zcl_n, zv_some, zv_none, Nat.reduceAdd, Nat.reduceMul, Nat.reduceSub, Nat.reduceLT, Nat.reduceLeDiff, Nat.reduceEqDiff, Int.reduceToNat, true_implies, false_implies, implies_true, and_true, true_and, not_true_eq_false, not_false_eq_true, Nat.zero_add, Nat.add_zero, nI_add, nI_ltI, nI_leI, nI_eq, pk_mul, pk_sub, u2_same, u2_row, u2_other, h1, olt_T, olt_F, ole_T, ole_F, oeq_T, oeq_F]
    exact h2
  simp (disch := first | assumption | rfl | exact zle_0 | exact zle_1 | exact zle_2 | exact zle_3 | exact zle_4 | exact zb_0 | exact zb_1 | exact zb01_B | omega) only [zT33_0, zr_aload_0, zT33_1, zr_iv_31, zcl_i, zcl_r, zcl_l, zcl_n, zv_some, zv_none, Nat.reduceAdd, Nat.reduceMul, Nat.reduceSub, Nat.reduceLT, Nat.reduceLeDiff, Nat.reduceEqDiff, Int.reduceToNat, true_implies, false_implies, implies_true, and_true, true_and, not_true_eq_false, not_false_eq_true, Nat.zero_add, Nat.add_zero, nI_add, nI_ltI, nI_leI, nI_eq, pk_mul, pk_sub, u2_same, u2_row, u2_other, olt_T, olt_F, ole_T, ole_F, oeq_T, oeq_F]
  refine sm_takeWord hf ht hat hpn (fun f1 g1 g2 g3 g4 => ?_)
  have w5 := wd_le (tx := tx) (p := p) (e := ren tx n 97 122 p)
  rw [show wd_ tx p (ren tx n 97 122 p) = a_wdAt tx n p from rfl] at w5
  have it1 : f1 133 78 = nI it := by rw [g3 _ (by decide) (by decide)]; exact hi
  have eI : a_item tx n p = if a_wdAt tx n p = 5 then (none, p) else
      match a_nums tx n (nb (a_wdAt tx n p)) (sk tx n (ren tx n 97 122 p)) with
      | (none, r) => (none, r)
      | (some l, r) => if r < n ∧ tx r = 59 then (some (a_wdAt tx n p, l), r + 1) else (none, r) := by
    unfold a_item; rfl
  generalize a_wdAt tx n p = x at *
  by_cases c : x = 5
  · rw [if_pos c] at eI g2
    subst c
    have no := fun M Q => sm_numbersOf (M := M) (Q := Q) (x := 5) (by decide)
    rw [if_pos rfl] at no
    have nm := nM_eqI (k := 1) (a := p) (by decide) (by decide) (by omega)
    have ft2 : u2 f1 138 it (a_wI 5) 133 80 = nI p := by rw [u2_other (by decide)]; exact g2
    have it2 : u2 f1 138 it (a_wI 5) 133 78 = nI it := by rw [u2_other (by decide)]; exact it1
    have F := fun v1 v2 => fin (u2 f1 138 it (a_wI 5)) v1 v2 0 it2
    simp (disch := first | assumption | rfl | exact zle_0 | exact zle_1 | exact zle_2 | exact zle_3 | exact zle_4 | exact zb_0 | exact zb_1 | exact zb01_B | omega) only [zT33_4, zr_istore_1, zT33_5, zr_aload_0, zT33_6, zr_gf_76, zr_or, zr_go, zf_133_76, zT33_9, zT33_10, zr_gf_78, zT33_13, zr_iload_1, zT33_14, zr_iast, zT33_15, zr_ic_0, zT33_16, zr_istore_2, zcl_i, zcl_r, zcl_l, zcl_n, zv_some, zv_none, Nat.reduceAdd, Nat.reduceMul, Nat.reduceSub, Nat.reduceLT, Nat.reduceLeDiff, Nat.reduceEqDiff, Int.reduceToNat, true_implies, false_implies, implies_true, and_true, true_and, not_true_eq_false, not_false_eq_true, Nat.zero_add, Nat.add_zero, nI_add, nI_ltI, nI_leI, nI_eq, pk_mul, pk_sub, u2_same, u2_row, u2_other, it1, olt_T, olt_F, ole_T, ole_F, oeq_T, oeq_F]
    simp (disch := first | assumption | rfl | exact zle_0 | exact zle_1 | exact zle_2 | exact zle_3 | exact zle_4 | exact zb_0 | exact zb_1 | exact zb01_B | omega) only [zT33_17, zr_iload_2, zT33_18, zr_iload_1, zT33_19, zr_iv_30, zT33_22, zr_icmp_ge, zT33_56, zr_aload_0, zT33_57, zr_gf_80, zT33_60, zr_ic_m1, zT33_61, zr_icmp_ne, zcl_i, zcl_r, zcl_l, zcl_n, zv_some, zv_none, Nat.reduceAdd, Nat.reduceMul, Nat.reduceSub, Nat.reduceLT, Nat.reduceLeDiff, Nat.reduceEqDiff, Int.reduceToNat, true_implies, false_implies, implies_true, and_true, true_and, not_true_eq_false, not_false_eq_true, Nat.zero_add, Nat.add_zero, nI_add, nI_ltI, nI_leI, nI_eq, pk_mul, pk_sub, u2_same, u2_row, u2_other, no, g2, nm, olt_T, olt_F, ole_T, ole_F, oeq_T, oeq_F]
    refine F _ _ (hQ1 p eI hpn _ ?_ ⟨fun f f1' f2 f3 => ?_, fun j j1 j2 j3 => ?_, fun j hj => ?_, fun j hj => ?_⟩)
    · simp (disch := decide) only [u2_row, u2_other]; exact g2
    · simp (disch := first | assumption | decide) only [u2_row, u2_other]; exact g3 f f1' f2
    · simp (disch := assumption) only [u2_ne]; exact g4 j j1
    · simp (disch := omega) only [u2_other, u2_row]; rw [g4 138 (by decide)]
    · simp (disch := omega) only [u2_other]; rw [g4 139 (by decide)]
  · rw [if_neg c] at eI g2
    have wI : a_wI x = nI x := by unfold a_wI; rw [if_neg c]
    rw [wI]
    have it2 : u2 f1 138 it (nI x) 133 78 = nI it := by rw [u2_other (by decide)]; exact it1
    have ft2 : u2 f1 138 it (nI x) 133 80 = nM 1 := by rw [u2_other (by decide), g2]; exact hft
    have fa1 : z_fa fi f1 := ⟨g3, g4⟩
    have ht2 : z_MT (u2 f1 138 it (nI x)) tx n := (fa1.MT ht).frame (by simp (disch := decide) only [u2_other]) (by simp (disch := decide) only [u2_ne])
    simp (disch := first | assumption | rfl | exact zle_0 | exact zle_1 | exact zle_2 | exact zle_3 | exact zle_4 | exact zb_0 | exact zb_1 | exact zb01_B | omega) only [zT33_4, zr_istore_1, zT33_5, zr_aload_0, zT33_6, zr_gf_76, zr_or, zr_go, zf_133_76, zT33_9, zT33_10, zr_gf_78, zT33_13, zr_iload_1, zT33_14, zr_iast, zT33_15, zr_ic_0, zT33_16, zr_istore_2, zcl_i, zcl_r, zcl_l, zcl_n, zv_some, zv_none, Nat.reduceAdd, Nat.reduceMul, Nat.reduceSub, Nat.reduceLT, Nat.reduceLeDiff, Nat.reduceEqDiff, Int.reduceToNat, true_implies, false_implies, implies_true, and_true, true_and, not_true_eq_false, not_false_eq_true, Nat.zero_add, Nat.add_zero, nI_add, nI_ltI, nI_leI, nI_eq, pk_mul, pk_sub, u2_same, u2_row, u2_other, it1, olt_T, olt_F, ole_T, ole_F, oeq_T, oeq_F]
    refine sm_nums_ hf (show x < 5 by omega) hit (nb x) 0 (Nat.zero_add _) _ (ren tx n 97 122 p) ht2 (by rw [u2_other (by decide)]; exact g1) e2 it2 ft2 (fun r h2 f2 v2 k1 k2 => ?_) (fun l r h2 f2 v2 e e1' e2' k1 k2 k3 k4 => ?_)
    · have r2 : r ≤ n := by
        have nr : ∀ k p a r, p ≤ n → a_nums tx n k p = (a, r) → r ≤ n := by
          intro k
          induction k with
          | zero => intro p a r hp h; rw [a_nums] at h; have : p = r := congrArg Prod.snd h; omega
          | succ k ih =>
            intro p a r hp h
            rw [a_nums] at h
            cases h1 : a_num tx n p with
            | none => rw [h1] at h; have : p = r := congrArg Prod.snd h; omega
            | some vq =>
              obtain ⟨v, q⟩ := vq
              rw [h1] at h
              dsimp only at h
              obtain ⟨-, v2, v3⟩ := a_num_q hb hp h1
              cases h2 : a_nums tx n k q with
              | mk a' b' =>
                rw [h2] at h
                have := ih q a' b' v3 h2
                cases a' with
                | none => have : b' = r := congrArg Prod.snd h; omega
                | some l2 => have : b' = r := congrArg Prod.snd h; omega
        exact nr _ _ _ _ s2 h2
      rw [h2] at eI
      have nm := nM_eqI (k := 1) (a := r) (by decide) (by decide) (by omega)
      have it3 : f2 133 78 = nI it := by rw [k2.1 _ (by decide) (by decide)]; exact it2
      simp (disch := first | assumption | rfl | exact zle_0 | exact zle_1 | exact zle_2 | exact zle_3 | exact zle_4 | exact zb_0 | exact zb_1 | exact zb01_B | omega) only [zT33_56, zr_aload_0, zT33_57, zr_gf_80, zT33_60, zr_ic_m1, zT33_61, zr_icmp_ne, zcl_i, zcl_r, zcl_l, zcl_n, zv_some, zv_none, Nat.reduceAdd, Nat.reduceMul, Nat.reduceSub, Nat.reduceLT, Nat.reduceLeDiff, Nat.reduceEqDiff, Int.reduceToNat, true_implies, false_implies, implies_true, and_true, true_and, not_true_eq_false, not_false_eq_true, Nat.zero_add, Nat.add_zero, nI_add, nI_ltI, nI_leI, nI_eq, pk_mul, pk_sub, u2_same, u2_row, u2_other, k1, nm, olt_T, olt_F, ole_T, ole_F, oeq_T, oeq_F]
      refine fin f2 _ _ 0 it3 (hQ1 r eI r2 _ ?_ ⟨fun f f1' f2' f3 => ?_, fun j j1 j2 j3 => ?_, fun j hj => ?_, fun j hj => ?_⟩)
      · simp (disch := decide) only [u2_row]; exact k1
      · simp (disch := assumption) only [u2_row]; rw [k2.1 f f1' f2', u2_other (by decide)]; exact g3 f f1' f2'
      · simp (disch := assumption) only [u2_ne]; rw [k2.2.1 j j1 j3, u2_ne j2]; exact g4 j j1
      · simp (disch := omega) only [u2_other]; rw [k2.2.1 138 (by decide) (by decide), u2_row (by omega), g4 138 (by decide)]
      · simp (disch := omega) only [u2_other]; rw [k2.2.2 j (by omega), u2_other (by decide), g4 139 (by decide)]
    · rw [h2] at eI
      dsimp only at eI
      have it3 : f2 133 78 = nI it := by rw [k4.1 _ (by decide) (by decide)]; exact it2
      have ht3 : z_MT f2 tx n := ht2.frame (k4.1 _ (by decide) (by decide)) (k4.2.1 136 (by decide) (by decide))
      have en := fun Q => sm_end (fl := fl) (Q := Q) hf e1' ht3 k1
      have rn : sk tx n e ≤ n := (ren_le e1').2
      rw [← e2'] at en rn
      have at4 : u2 f2 133 79 (nI r) 133 79 = nI r := u2_same
      have it4 : ∀ y, u2 (u2 f2 133 79 (nI r)) 133 80 y 133 78 = nI it := fun y => by rw [u2_row (by decide), u2_row (by decide)]; exact it3
      have it5 : u2 f2 133 79 (nI r) 133 78 = nI it := by rw [u2_row (by decide)]; exact it3
      have bad : ¬ (r < n ∧ tx r = 59) → ∀ v1 v2, TT 33 93 [some (.ref 133), v1, v2] [] (151, u2 (u2 f2 133 79 (nI r)) 133 80 (nI r), fl, fr) Q := by
        intro hne v1 v2
        rw [if_neg hne] at eI
        refine fin _ _ _ 0 (it4 _) (hQ1 r eI rn _ ?_ ⟨fun f f1' f2' f3 => ?_, fun j j1 j2 j3 => ?_, fun j hj => ?_, fun j hj => ?_⟩)
        · simp (disch := decide) only [u2_row, u2_same]
        · simp (disch := assumption) only [u2_row]; rw [k4.1 f f1' f2', u2_other (by decide)]; exact g3 f f1' f2'
        · simp (disch := assumption) only [u2_ne]; rw [k4.2.1 j j1 j3, u2_ne j2]; exact g4 j j1
        · simp (disch := omega) only [u2_other]; rw [k4.2.1 138 (by decide) (by decide), u2_row (by omega), g4 138 (by decide)]
        · simp (disch := omega) only [u2_other]; rw [k4.2.2 j (by omega), u2_other (by decide), g4 139 (by decide)]
      by_cases c3 : r = n
      · rw [decide_eq_true c3] at en
        have o := bad (by omega)
        simp (disch := first | assumption | rfl | exact zle_0 | exact zle_1 | exact zle_2 | exact zle_3 | exact zle_4 | exact zb_0 | exact zb_1 | exact zb01_B | omega) only [zT33_56, zr_aload_0, zT33_57, zr_gf_80, zT33_60, zr_ic_m1, zT33_61, zr_icmp_ne, zT33_64, zT33_65, zr_iv_28, zT33_68, zr_if_ne, zT33_71, zT33_72, zr_gf_73, zr_or, zr_go, zf_133_73, zT33_75, zT33_76, zr_gf_79, zT33_79, zr_iald, zT33_80, zr_ic_59, zT33_82, zr_icmp_eq, zT33_85, zT33_86, zT33_87, zT33_90, zr_pf_80, zcl_i, zcl_r, zcl_l, zcl_n, zv_some, zv_none, Nat.reduceAdd, Nat.reduceMul, Nat.reduceSub, Nat.reduceLT, Nat.reduceLeDiff, Nat.reduceEqDiff, Int.reduceToNat, true_implies, false_implies, implies_true, and_true, true_and, not_true_eq_false, not_false_eq_true, Nat.zero_add, Nat.add_zero, nI_add, nI_ltI, nI_leI, nI_eq, pk_mul, pk_sub, u2_same, u2_row, u2_other, k2, en, zB_eq0, reduceCtorEq, at4, olt_T, olt_F, ole_T, ole_F, oeq_T, oeq_F]
        exact o _ _
      · rw [decide_eq_false c3] at en
        have rl : r < n := by omega
        have tr := ht3.2.2 r rl
        have t2 := tr.2
        have t1 := tr.1
        by_cases c4 : tx r = 59
        · rw [if_pos ⟨rl, c4⟩] at eI
          simp (disch := first | assumption | rfl | exact zle_0 | exact zle_1 | exact zle_2 | exact zle_3 | exact zle_4 | exact zb_0 | exact zb_1 | exact zb01_B | omega) only [zT33_56, zr_aload_0, zT33_57, zr_gf_80, zT33_60, zr_ic_m1, zT33_61, zr_icmp_ne, zT33_64, zT33_65, zr_iv_28, zT33_68, zr_if_ne, zT33_71, zT33_72, zr_gf_73, zr_or, zr_go, zf_133_73, zT33_75, zT33_76, zr_gf_79, zT33_79, zr_iald, zT33_80, zr_ic_59, zT33_82, zr_icmp_eq, zT33_85, zT33_86, zT33_87, zT33_90, zr_pf_80, zcl_i, zcl_r, zcl_l, zcl_n, zv_some, zv_none, Nat.reduceAdd, Nat.reduceMul, Nat.reduceSub, Nat.reduceLT, Nat.reduceLeDiff, Nat.reduceEqDiff, Int.reduceToNat, true_implies, false_implies, implies_true, and_true, true_and, not_true_eq_false, not_false_eq_true, Nat.zero_add, Nat.add_zero, nI_add, nI_ltI, nI_leI, nI_eq, pk_mul, pk_sub, u2_same, u2_row, u2_other, k2, en, zB_eq0, reduceCtorEq, at4, t2, olt_T, olt_F, ole_T, ole_F, oeq_T, oeq_F]
          refine fin _ _ _ 0 it5 ?_
          rw [at4, nI_add]
          refine hQ2 x l (r + 1) eI _ ?_ ?_ u2_same ?_ (fun j y hj => ?_) ⟨fun f f1' f2' f3 => ?_, fun j j1 j2 j3 => ?_, fun j hj => ?_, fun j hj => ?_⟩
          · simp (disch := decide) only [u2_row, u2_same]
          · simp (disch := decide) only [u2_row]; exact k2
          · simp (disch := decide) only [u2_other]; rw [k4.2.1 138 (by decide) (by decide), u2_same]
          · simp (disch := decide) only [u2_other]; exact k3 j y hj
          · simp (disch := assumption) only [u2_row]; rw [k4.1 f f1' f2', u2_other (by decide)]; exact g3 f f1' f2'
          · simp (disch := assumption) only [u2_ne]; rw [k4.2.1 j j1 j3, u2_ne j2]; exact g4 j j1
          · simp (disch := omega) only [u2_other]; rw [k4.2.1 138 (by decide) (by decide), u2_row (by omega), g4 138 (by decide)]
          · simp (disch := omega) only [u2_other]; rw [k4.2.2 j (by omega), u2_other (by decide), g4 139 (by decide)]
        · have o := bad (fun q => c4 q.2)
          simp (disch := first | assumption | rfl | exact zle_0 | exact zle_1 | exact zle_2 | exact zle_3 | exact zle_4 | exact zb_0 | exact zb_1 | exact zb01_B | omega) only [zT33_56, zr_aload_0, zT33_57, zr_gf_80, zT33_60, zr_ic_m1, zT33_61, zr_icmp_ne, zT33_64, zT33_65, zr_iv_28, zT33_68, zr_if_ne, zT33_71, zT33_72, zr_gf_73, zr_or, zr_go, zf_133_73, zT33_75, zT33_76, zr_gf_79, zT33_79, zr_iald, zT33_80, zr_ic_59, zT33_82, zr_icmp_eq, zT33_85, zT33_86, zT33_87, zT33_90, zr_pf_80, zcl_i, zcl_r, zcl_l, zcl_n, zv_some, zv_none, Nat.reduceAdd, Nat.reduceMul, Nat.reduceSub, Nat.reduceLT, Nat.reduceLeDiff, Nat.reduceEqDiff, Int.reduceToNat, true_implies, false_implies, implies_true, and_true, true_and, not_true_eq_false, not_false_eq_true, Nat.zero_add, Nat.add_zero, nI_add, nI_ltI, nI_leI, nI_eq, pk_mul, pk_sub, u2_same, u2_row, u2_other, k2, en, zB_eq0, reduceCtorEq, at4, t2, olt_T, olt_F, ole_T, ole_F, oeq_T, oeq_F]
          exact o _ _
end
