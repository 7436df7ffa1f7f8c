/-! limbs times a small number -/
section
variable {fi : Nat → Nat → Int32} {fl : Nat → Nat → Int64} {fr : Nat → Nat → Option Nat} {Q : Option Value → Mm → Prop} {w : Nat → Nat} {k : Nat} {M : Mm}
theorem LB_eq : LB = 1073741824 := rfl
theorem lN_nz {k : Nat} (h0 : 0 < k) (h : k < 2 ^ 63) : ¬ lN k = 0 := by
  have := pk_lEQ (a := k) (b := 0) h (by decide)
  intro e
  have q : lN k = lN 0 := e
  rw [this] at q
  omega
theorem sp_mul_ {a n v f : Nat} (h1 : z_ok 151 a 17 = true) (h2 : z_ok 151 (a + 1) 1 = true) (l : z_al (a + 1) = 8) (hfr : fr a 50 = some (a + 1)) (hn : n ≤ 8) (f0 : 0 < f) (hf : f ≤ 200) :
    ∀ m i, i + m = n → ∀ (fi : Nat → Nat → Int32), fi a 51 = nI n → (∀ j, j < i → fi (a + 1) j = nI (v * f / LB ^ j % LB)) → (∀ j, i ≤ j → j < n → fi (a + 1) j = nI (v / LB ^ j % LB)) →
    (∀ fi', fi' a 51 = nI n → (∀ j, j < n → fi' (a + 1) j = nI (v * f / LB ^ j % LB)) → (∀ j, j ≠ a + 1 → fi' j = fi j) → TT 202 70 [some (.ref a), some (.int (nI f)), some (.long (lN (v % LB ^ n * f / LB ^ n))), none, some (.int (nI n))] [] (151, fi', fl, fr) Q) →
    TT 202 15 [some (.ref a), some (.int (nI f)), some (.long (lN (v % LB ^ i * f / LB ^ i))), none, some (.int (nI i))] [] (151, fi, fl, fr) Q := by
  intro m
  induction m with
  | zero =>
    intro i hi fi hl hd1 hd2 hQ
    obtain rfl : i = n := by omega
    have := hQ fi hl hd1 (fun _ _ => rfl)
    simp (disch := first | assumption | rfl | exact zle_0 | exact zle_1 | exact zle_2 | exact zle_3 | exact zle_4 | exact zb_0 | exact zb_1 | exact zb01_B | omega) only [zT202_15, zr_iload_4, zT202_17, zr_aload_0, zT202_18, zr_gf_51, zT202_21, zr_icmp_ge, zcl_i, zcl_r, zcl_l, zcl_n, zv_some, zv_none, Nat.reduceAdd, Nat.reduceMul, Nat.reduceSub, Nat.reduceLT, Nat.reduceLeDiff, Nat.reduceEqDiff, Int.reduceToNat, true_implies, false_implies, implies_true, and_true, true_and, not_true_eq_false, not_false_eq_true, Nat.zero_add, Nat.add_zero, nI_add, nI_ltI, nI_leI, nI_eq, pk_mul, pk_sub, u2_same, u2_row, u2_other, hl, olt_T, olt_F, ole_T, ole_F, oeq_T, oeq_F]
    exact this
  | succ m ih =>
    intro i hi fi hl hd1 hd2 hQ
    have d := hd2 i (Nat.le_refl _) (by omega)
    have dl : v / LB ^ i % LB < 1073741824 := Nat.mod_lt _ (by decide)
    have cl := lb_small v f i f0
    have il := nI_l (show v / LB ^ i % LB < 2 ^ 31 by omega)
    have ifl := nI_l (show f < 2 ^ 31 by omega)
    have st := lb_step v f i
    have tl : v / LB ^ i % LB * f ≤ 1073741824 * 200 := Nat.mul_le_mul (Nat.le_of_lt dl) hf
    have rm := pk_lRem (a := v % LB ^ (i + 1) * f / LB ^ i) (b := 1073741824) (by omega) (by decide) (by decide)
    have dv := pk_lDiv (a := v % LB ^ (i + 1) * f / LB ^ i) (b := 1073741824) (by omega) (by decide) (by decide)
    have nz := lN_nz (k := 1073741824) (by decide) (by decide)
    rw [← LB_eq] at rm dv nz
    rw [lb_mod] at rm
    rw [lb_div] at dv
    rw [dv, lN_mul] at rm
    simp (disch := first | assumption | rfl | exact zle_0 | exact zle_1 | exact zle_2 | exact zle_3 | exact zle_4 | exact zb_0 | exact zb_1 | exact zb01_B | omega) only [zT202_15, zr_iload_4, zcl_i, zcl_r, zcl_l, zcl_n, zv_some, zv_none, Nat.reduceAdd, Nat.reduceMul, Nat.reduceSub, Nat.reduceLT, Nat.reduceLeDiff, Nat.reduceEqDiff, Int.reduceToNat, true_implies, false_implies, implies_true, and_true, true_and, not_true_eq_false, not_false_eq_true, Nat.zero_add, Nat.add_zero, nI_add, nI_ltI, nI_leI, nI_eq, pk_mul, pk_sub, u2_same, u2_row, u2_other]
    simp (disch := first | assumption | rfl | exact zle_0 | exact zle_1 | exact zle_2 | exact zle_3 | exact zle_4 | exact zb_0 | exact zb_1 | exact zb01_B | omega) only [zT202_17, zr_aload_0, zT202_18, zr_gf_51, zT202_21, zr_icmp_ge, zT202_24, zr_iload_4, zT202_26, zr_ic_8, zT202_28, zT202_31, zr_lload_2, zT202_32, zT202_33, zr_gf_50, zr_or, zr_go, zf_89_50, zf_91_50, zT202_36, zT202_38, zr_iald, zT202_39, zr_i2l, zT202_40, zr_iload_1, zT202_41, zT202_42, zr_lmul, zT202_43, zr_ladd, zT202_44, zr_lstore_2, zT202_45, zT202_46, zT202_49, zT202_51, zT202_52, zr_ldc2, zT202_55, zr_lrem, zT202_56, zr_l2i, zT202_57, zr_iast, zT202_58, zT202_59, zT202_62, zr_ldiv, zT202_63, zT202_64, zr_iinc_4_1, zT202_67, zr_goto, zcl_i, zcl_r, zcl_l, zcl_n, zv_some, zv_none, Nat.reduceAdd, Nat.reduceMul, Nat.reduceSub, Nat.reduceLT, Nat.reduceLeDiff, Nat.reduceEqDiff, Int.reduceToNat, true_implies, false_implies, implies_true, and_true, true_and, not_true_eq_false, not_false_eq_true, Nat.zero_add, Nat.add_zero, nI_add, nI_ltI, nI_leI, nI_eq, pk_mul, pk_sub, u2_same, u2_row, u2_other, hl, hfr, d, il, ifl, lN_mul, lN_add, st, ← LB_eq, rm, dv, lN_i, olt_T, olt_F, ole_T, ole_F, oeq_T, oeq_F]
    refine ih (i + 1) (by omega) _ (by rw [u2_other (by omega)]; exact hl) (fun j hj => ?_) (fun j hj hj2 => ?_) (fun fi' g1 g2 g3 => hQ fi' g1 g2 (fun j hj => by rw [g3 j hj, u2_ne hj]))
    · by_cases e : j = i
      · subst e; rw [u2_same]
      · rw [u2_row e]; exact hd1 j (by omega)
    · rw [u2_row (by omega)]; exact hd2 j (by omega) hj2
/-- how many limbs -/
def a_len (v : Nat) : Nat := if v = 0 then 0 else v.log2 / 30 + 1
theorem lb_pow (n : Nat) : LB ^ n = 2 ^ (30 * n) := by
  show (2 ^ 30) ^ n = _
  rw [← Nat.pow_mul]
theorem a_len_lt (v : Nat) : v < LB ^ a_len v := by
  unfold a_len
  by_cases h : v = 0
  · rw [if_pos h, h]; decide
  · rw [if_neg h, lb_pow]
    exact Nat.lt_of_lt_of_le Nat.lt_log2_self (Nat.pow_le_pow_right (by decide) (by omega))
theorem a_len_le (v : Nat) (h0 : 0 < a_len v) : LB ^ (a_len v - 1) ≤ v := by
  unfold a_len at *
  by_cases h : v = 0
  · rw [if_pos h] at h0; omega
  · rw [if_neg h, lb_pow]
    exact Nat.le_trans (Nat.pow_le_pow_right (by decide) (by omega)) (Nat.log2_self_le h)
theorem a_len_un {n v : Nat} (h1 : v < LB ^ n) (h2 : 0 < n → LB ^ (n - 1) ≤ v) : n = a_len v := by
  have e1 := a_len_lt v
  have e2 := a_len_le v
  have key : ∀ a b, a < b → v < LB ^ a → LB ^ (b - 1) ≤ v → False := fun a b hab x y => by
    have : LB ^ a ≤ LB ^ (b - 1) := Nat.pow_le_pow_right (by decide) (by omega)
    omega
  rcases Nat.lt_trichotomy n (a_len v) with h | h | h
  · exact (key _ _ h h1 (e2 (by omega))).elim
  · exact h
  · exact (key _ _ h e1 (h2 (by omega))).elim
theorem a_len_8 {v n : Nat} (h : v < LB ^ n) : a_len v ≤ n := by
  rcases Nat.lt_or_ge n (a_len v) with q | q
  · have e2 := a_len_le v (by omega)
    have : LB ^ n ≤ LB ^ (a_len v - 1) := Nat.pow_le_pow_right (by decide) (by omega)
    omega
  · exact q
/-- the limbs at a are the number v -/
def z_Lv (fi : Nat → Nat → Int32) (a v : Nat) : Prop := fi a 51 = nI (a_len v) ∧ v < LB ^ 8 ∧ ∀ i, i < a_len v → fi (a + 1) i = nI (v / LB ^ i % LB)
theorem lg_gt {a : Nat} (h0 : 0 < a) (h : a < 2 ^ 63) : lg_cmp (lN a) (lN 0) = nI 1 := by
  unfold lg_cmp
  have : lN 0 < lN a := (pk_lLT (by decide) h).mpr h0
  rw [if_pos this]
  rfl
theorem lg_eq : lg_cmp (lN 0) (lN 0) = nI 0 := by decide +kernel
theorem sp_mul {a v f : Nat} (h1 : z_ok 151 a 17 = true) (h2 : z_ok 151 (a + 1) 1 = true) (l : z_al (a + 1) = 8) (hfr : fr a 50 = some (a + 1)) (h : z_Lv fi a v) (f0 : 0 < f) (hf : f ≤ 200) (hv : v * f < LB ^ 8)
    (hQ : ∀ fi', z_Lv fi' a (v * f) → (∀ j, j ≠ a → j ≠ a + 1 → fi' j = fi j) → Q none (151, fi', fl, fr)) :
    TT 202 0 [some (.ref a), some (.int (nI f)), none, none, none] [] (151, fi, fl, fr) Q := by
  obtain ⟨hl, hv8, hd⟩ := h
  have hn := a_len_8 hv8
  have c0 : v % LB ^ 0 * f / LB ^ 0 = 0 := by simp [Nat.mod_one]
  have vm : v % LB ^ a_len v = v := Nat.mod_eq_of_lt (a_len_lt v)
  simp (disch := first | assumption | rfl | exact zle_0 | exact zle_1 | exact zle_2 | exact zle_3 | exact zle_4 | exact zb_0 | exact zb_1 | exact zb01_B | omega) only [zT202_0, zr_iload_1, zT202_1, zr_if_ne, zT202_4, zr_aload_0, zT202_5, zr_ic_0, zT202_6, zr_iv_200, zT202_9, zr_return, zT202_10, zr_ldc2, zT202_11, zr_lstore_2, zT202_12, zT202_13, zr_istore_4, zcl_i, zcl_r, zcl_l, zcl_n, zv_some, zv_none, Nat.reduceAdd, Nat.reduceMul, Nat.reduceSub, Nat.reduceLT, Nat.reduceLeDiff, Nat.reduceEqDiff, Int.reduceToNat, true_implies, false_implies, implies_true, and_true, true_and, not_true_eq_false, not_false_eq_true, Nat.zero_add, Nat.add_zero, nI_add, nI_ltI, nI_leI, nI_eq, pk_mul, pk_sub, u2_same, u2_row, u2_other, olt_T, olt_F, ole_T, ole_F, oeq_T, oeq_F]
  have L := fun H => sp_mul_ (fl := fl) (fr := fr) (Q := Q) h1 h2 l hfr hn f0 hf (a_len v) 0 (Nat.zero_add _) fi hl (fun j hj => absurd hj (Nat.not_lt_zero _)) (fun j _ hj => hd j hj) H
  simp only [c0, vm] at L
  refine L (fun fi' g1 g2 g3 => ?_)
  have cs := lb_small v f (a_len v) f0
  rw [vm] at cs
  have vlt := a_len_lt v
  by_cases hc : v * f / LB ^ a_len v = 0
  · rw [hc]
    simp (disch := first | assumption | rfl | exact zle_0 | exact zle_1 | exact zle_2 | exact zle_3 | exact zle_4 | exact zb_0 | exact zb_1 | exact zb01_B | omega) only [zT202_70, zr_lload_2, zT202_71, zr_ldc2, zT202_72, zr_lcmp, zT202_73, zr_if_le, zT202_76, zr_aload_0, zT202_77, zr_gf_51, zT202_80, zr_ic_8, zT202_82, zr_icmp_ge, zT202_85, zT202_86, zr_gf_50, zr_or, zr_go, zf_89_50, zf_91_50, zT202_89, zT202_90, zT202_93, zT202_94, zr_l2i, zT202_95, zr_iast, zT202_96, zT202_97, zr_dup_r, zr_dup_i, zT202_98, zT202_101, zr_ic_1, zT202_102, zr_iadd, zT202_103, zr_pf_51, zT202_106, zr_return, zcl_i, zcl_r, zcl_l, zcl_n, zv_some, zv_none, Nat.reduceAdd, Nat.reduceMul, Nat.reduceSub, Nat.reduceLT, Nat.reduceLeDiff, Nat.reduceEqDiff, Int.reduceToNat, true_implies, false_implies, implies_true, and_true, true_and, not_true_eq_false, not_false_eq_true, Nat.zero_add, Nat.add_zero, nI_add, nI_ltI, nI_leI, nI_eq, pk_mul, pk_sub, u2_same, u2_row, u2_other, lg_eq, olt_T, olt_F, ole_T, ole_F, oeq_T, oeq_F]
    have e : a_len v = a_len (v * f) := a_len_un ((Nat.div_eq_zero_iff_lt (lb_pos _)).mp hc) (fun h => Nat.le_trans (a_len_le v h) (Nat.le_mul_of_pos_right _ f0))
    refine hQ fi' ⟨by rw [← e]; exact g1, hv, fun i hi => g2 i (by omega)⟩ (fun j j1 j2 => g3 j j2)
  · have c1 : 0 < v * f / LB ^ a_len v := Nat.pos_of_ne_zero hc
    have big : LB ^ a_len v ≤ v * f := (Nat.div_pos_iff.mp c1).2
    have n8 : a_len v < 8 := by
      rcases Nat.lt_or_ge (a_len v) 8 with q | q
      · exact q
      · have : LB ^ 8 ≤ LB ^ a_len v := Nat.pow_le_pow_right (by decide) q
        omega
    have gt := lg_gt c1 (Nat.lt_of_lt_of_le cs (by omega))
    have up : v * f < LB ^ (a_len v + 1) := by
      rw [Nat.pow_succ']
      exact (Nat.div_lt_iff_lt_mul (lb_pos (a_len v))).mp (show v * f / LB ^ a_len v < LB from Nat.lt_of_lt_of_le cs (Nat.le_trans hf (by decide)))
    have e : a_len v + 1 = a_len (v * f) := a_len_un up (fun _ => big)
    simp (disch := first | assumption | rfl | exact zle_0 | exact zle_1 | exact zle_2 | exact zle_3 | exact zle_4 | exact zb_0 | exact zb_1 | exact zb01_B | omega) only [zT202_70, zr_lload_2, zT202_71, zr_ldc2, zT202_72, zr_lcmp, zT202_73, zr_if_le, zT202_76, zr_aload_0, zT202_77, zr_gf_51, zT202_80, zr_ic_8, zT202_82, zr_icmp_ge, zT202_85, zT202_86, zr_gf_50, zr_or, zr_go, zf_89_50, zf_91_50, zT202_89, zT202_90, zT202_93, zT202_94, zr_l2i, zT202_95, zr_iast, zT202_96, zT202_97, zr_dup_r, zr_dup_i, zT202_98, zT202_101, zr_ic_1, zT202_102, zr_iadd, zT202_103, zr_pf_51, zT202_106, zr_return, zcl_i, zcl_r, zcl_l, zcl_n, zv_some, zv_none, Nat.reduceAdd, Nat.reduceMul, Nat.reduceSub, Nat.reduceLT, Nat.reduceLeDiff, Nat.reduceEqDiff, Int.reduceToNat, true_implies, false_implies, implies_true, and_true, true_and, not_true_eq_false, not_false_eq_true, Nat.zero_add, Nat.add_zero, nI_add, nI_ltI, nI_leI, nI_eq, pk_mul, pk_sub, u2_same, u2_row, u2_other, gt, g1, hfr, lN_i, olt_T, olt_F, ole_T, ole_F, oeq_T, oeq_F]
    refine hQ _ ⟨?_, hv, fun i hi => ?_⟩ (fun j j1 j2 => ?_)
    · rw [u2_same, ← e]
    · rw [u2_other (by omega)]
      by_cases q : i = a_len v
      · subst q
        rw [u2_same, Nat.mod_eq_of_lt (show v * f / LB ^ a_len v < LB from Nat.lt_of_lt_of_le cs (Nat.le_trans hf (by decide)))]
      · rw [u2_row q]; exact g2 i (by omega)
    · simp (disch := omega) only [u2_ne]
      exact g3 j j2
theorem sp_mul0 {a : Nat} (h1 : z_ok 151 a 17 = true) (h2 : z_ok 151 (a + 1) 1 = true) (l : z_al (a + 1) = 8) (hfr : fr a 50 = some (a + 1))
    (hQ : ∀ fi', z_Lv fi' a 0 → (∀ j, j ≠ a → j ≠ a + 1 → fi' j = fi j) → Q none (151, fi', fl, fr)) :
    TT 202 0 [some (.ref a), some (.int (nI 0)), none, none, none] [] (151, fi, fl, fr) Q := by
  simp (disch := first | assumption | rfl | exact zle_0 | exact zle_1 | exact zle_2 | exact zle_3 | exact zle_4 | exact zb_0 | exact zb_1 | exact zb01_B | omega) only [zT202_0, zr_iload_1, zT202_1, zr_if_ne, zT202_4, zr_aload_0, zT202_5, zr_ic_0, zT202_6, zr_iv_200, zT202_9, zr_return, zT200_0, zT200_1, zr_gf_50, zr_or, zr_go, zf_89_50, zf_91_50, zT200_4, zT200_5, zT200_6, zr_iast, zT200_7, zT200_8, zT200_9, zT200_12, zT200_13, zr_goto, zT200_16, zr_ic_1, zT200_17, zr_pf_51, zT200_20, zcl_i, zcl_r, zcl_l, zcl_n, zv_some, zv_none, Nat.reduceAdd, Nat.reduceMul, Nat.reduceSub, Nat.reduceLT, Nat.reduceLeDiff, Nat.reduceEqDiff, Int.reduceToNat, true_implies, false_implies, implies_true, and_true, true_and, not_true_eq_false, not_false_eq_true, Nat.zero_add, Nat.add_zero, nI_add, nI_ltI, nI_leI, nI_eq, pk_mul, pk_sub, u2_same, u2_row, u2_other, hfr, olt_T, olt_F, ole_T, ole_F, oeq_T, oeq_F]
  refine hQ _ ⟨?_, by decide, fun i hi => absurd hi (Nat.not_lt_zero _)⟩ (fun j j1 j2 => ?_)
  · simp (disch := omega) only [u2_same]; rfl
  · simp (disch := omega) only [u2_ne]
theorem sp_set {a x : Nat} (h1 : z_ok 151 a 17 = true) (h2 : z_ok 151 (a + 1) 1 = true) (l : z_al (a + 1) = 8) (hfr : fr a 50 = some (a + 1)) (hx : x ≤ 1)
    (hQ : ∀ fi', z_Lv fi' a x → (∀ j, j ≠ a → j ≠ a + 1 → fi' j = fi j) → Q none (151, fi', fl, fr)) :
    TT 200 0 [some (.ref a), some (.int (nI x))] [] (151, fi, fl, fr) Q := by
  have hx' : x = 0 ∨ x = 1 := by omega
  rcases hx' with rfl | rfl
  · simp (disch := first | assumption | rfl | exact zle_0 | exact zle_1 | exact zle_2 | exact zle_3 | exact zle_4 | exact zb_0 | exact zb_1 | exact zb01_B | omega) only [zT200_0, zr_aload_0, zT200_1, zr_gf_50, zr_or, zr_go, zf_89_50, zf_91_50, zT200_4, zr_ic_0, zT200_5, zr_iload_1, zT200_6, zr_iast, zT200_7, zT200_8, zT200_9, zr_if_ne, zT200_12, zT200_13, zr_goto, zT200_16, zr_ic_1, zT200_17, zr_pf_51, zT200_20, zr_return, zcl_i, zcl_r, zcl_l, zcl_n, zv_some, zv_none, Nat.reduceAdd, Nat.reduceMul, Nat.reduceSub, Nat.reduceLT, Nat.reduceLeDiff, Nat.reduceEqDiff, Int.reduceToNat, true_implies, false_implies, implies_true, and_true, true_and, not_true_eq_false, not_false_eq_true, Nat.zero_add, Nat.add_zero, nI_add, nI_ltI, nI_leI, nI_eq, pk_mul, pk_sub, u2_same, u2_row, u2_other, hfr, olt_T, olt_F, ole_T, ole_F, oeq_T, oeq_F]
    refine hQ _ ⟨?_, by decide, fun i hi => absurd hi (Nat.not_lt_zero _)⟩ (fun j j1 j2 => ?_)
    · simp (disch := omega) only [u2_same]; rfl
    · simp (disch := omega) only [u2_ne]
  · simp (disch := first | assumption | rfl | exact zle_0 | exact zle_1 | exact zle_2 | exact zle_3 | exact zle_4 | exact zb_0 | exact zb_1 | exact zb01_B | omega) only [zT200_0, zr_aload_0, zT200_1, zr_gf_50, zr_or, zr_go, zf_89_50, zf_91_50, zT200_4, zr_ic_0, zT200_5, zr_iload_1, zT200_6, zr_iast, zT200_7, zT200_8, zT200_9, zr_if_ne, zT200_12, zT200_13, zr_goto, zT200_16, zr_ic_1, zT200_17, zr_pf_51, zT200_20, zr_return, zcl_i, zcl_r, zcl_l, zcl_n, zv_some, zv_none, Nat.reduceAdd, Nat.reduceMul, Nat.reduceSub, Nat.reduceLT, Nat.reduceLeDiff, Nat.reduceEqDiff, Int.reduceToNat, true_implies, false_implies, implies_true, and_true, true_and, not_true_eq_false, not_false_eq_true, Nat.zero_add, Nat.add_zero, nI_add, nI_ltI, nI_leI, nI_eq, pk_mul, pk_sub, u2_same, u2_row, u2_other, hfr, olt_T, olt_F, ole_T, ole_F, oeq_T, oeq_F]
    refine hQ _ ⟨?_, by decide, fun i hi => ?_⟩ (fun j j1 j2 => ?_)
    · simp (disch := omega) only [u2_same]; rfl
    · have : i < 1 := hi
      obtain rfl : i = 0 := by omega
      simp (disch := omega) only [u2_other, u2_same]; rfl
    · simp (disch := omega) only [u2_ne]
theorem sp_isZero {a v : Nat} (h1 : z_ok 151 a 17 = true) (h : z_Lv fi a v) : TT 201 0 [some (.ref a)] [] (151, fi, fl, fr) Q = Q (some (.int (zB (decide (v = 0))))) (151, fi, fl, fr) := by
  refine T_exact (fun Q hQ => ?_) Q
  obtain ⟨hl, hv8, hd⟩ := h
  have hn := a_len_8 hv8
  by_cases e : v = 0
  · subst e
    have hl' : fi a 51 = nI 0 := hl
    simp (disch := first | assumption | rfl | exact zle_0 | exact zle_1 | exact zle_2 | exact zle_3 | exact zle_4 | exact zb_0 | exact zb_1 | exact zb01_B | omega) only [zT201_0, zr_aload_0, zT201_1, zr_gf_51, zT201_4, zr_if_ne, zT201_7, zr_ic_1, zT201_8, zr_goto, zT201_11, zr_ic_0, zT201_12, zr_ret1_0, zr_ret1_1, zr_ret1_B, zcl_i, zcl_r, zcl_l, zcl_n, zv_some, zv_none, Nat.reduceAdd, Nat.reduceMul, Nat.reduceSub, Nat.reduceLT, Nat.reduceLeDiff, Nat.reduceEqDiff, Int.reduceToNat, true_implies, false_implies, implies_true, and_true, true_and, not_true_eq_false, not_false_eq_true, Nat.zero_add, Nat.add_zero, nI_add, nI_ltI, nI_leI, nI_eq, pk_mul, pk_sub, u2_same, u2_row, u2_other, hl', olt_T, olt_F, ole_T, ole_F, oeq_T, oeq_F]
    exact hQ
  · have : 0 < a_len v := by unfold a_len; rw [if_neg e]; omega
    rw [decide_eq_false e] at hQ
    simp (disch := first | assumption | rfl | exact zle_0 | exact zle_1 | exact zle_2 | exact zle_3 | exact zle_4 | exact zb_0 | exact zb_1 | exact zb01_B | omega) only [zT201_0, zr_aload_0, zT201_1, zr_gf_51, zT201_4, zr_if_ne, zT201_7, zr_ic_1, zT201_8, zr_goto, zT201_11, zr_ic_0, zT201_12, zr_ret1_0, zr_ret1_1, zr_ret1_B, zcl_i, zcl_r, zcl_l, zcl_n, zv_some, zv_none, Nat.reduceAdd, Nat.reduceMul, Nat.reduceSub, Nat.reduceLT, Nat.reduceLeDiff, Nat.reduceEqDiff, Int.reduceToNat, true_implies, false_implies, implies_true, and_true, true_and, not_true_eq_false, not_false_eq_true, Nat.zero_add, Nat.add_zero, nI_add, nI_ltI, nI_leI, nI_eq, pk_mul, pk_sub, u2_same, u2_row, u2_other, hl, olt_T, olt_F, ole_T, ole_F, oeq_T, oeq_F]
    exact hQ
theorem sp_limbAt {a v : Nat} (h1 : z_ok 151 a 17 = true) (h2 : z_ok 151 (a + 1) 1 = true) (l : z_al (a + 1) = 8) (hfr : fr a 50 = some (a + 1)) (h : z_Lv fi a v) {i : Nat} (hi : i < 2 ^ 31) : TT 203 0 [some (.ref a), some (.int (nI i))] [] (151, fi, fl, fr) Q = Q (some (.int (if i < a_len v then nI (v / LB ^ i % LB) else nM 1))) (151, fi, fl, fr) := by
  refine T_exact (fun Q hQ => ?_) Q
  obtain ⟨hl, hv8, hd⟩ := h
  have hn := a_len_8 hv8
  by_cases e : i < a_len v
  · rw [if_pos e] at hQ
    have d := hd i e
    simp (disch := first | assumption | rfl | exact zle_0 | exact zle_1 | exact zle_2 | exact zle_3 | exact zle_4 | exact zb_0 | exact zb_1 | exact zb01_B | omega) only [zT203_0, zr_iload_1, zT203_1, zr_if_lt, zT203_4, zT203_5, zr_aload_0, zT203_6, zr_gf_51, zT203_9, zr_icmp_ge, zT203_12, zT203_13, zr_ic_8, zT203_15, zT203_18, zT203_19, zr_gf_50, zr_or, zr_go, zf_89_50, zf_91_50, zT203_22, zT203_23, zr_iald, zT203_24, zr_goto, zT203_27, zr_ic_m1, zT203_28, zr_ret0, zcl_i, zcl_r, zcl_l, zcl_n, zv_some, zv_none, Nat.reduceAdd, Nat.reduceMul, Nat.reduceSub, Nat.reduceLT, Nat.reduceLeDiff, Nat.reduceEqDiff, Int.reduceToNat, true_implies, false_implies, implies_true, and_true, true_and, not_true_eq_false, not_false_eq_true, Nat.zero_add, Nat.add_zero, nI_add, nI_ltI, nI_leI, nI_eq, pk_mul, pk_sub, u2_same, u2_row, u2_other, hl, hfr, d, olt_T, olt_F, ole_T, ole_F, oeq_T, oeq_F]
    exact hQ
  · rw [if_neg e] at hQ
    simp (disch := first | assumption | rfl | exact zle_0 | exact zle_1 | exact zle_2 | exact zle_3 | exact zle_4 | exact zb_0 | exact zb_1 | exact zb01_B | omega) only [zT203_0, zr_iload_1, zT203_1, zr_if_lt, zT203_4, zT203_5, zr_aload_0, zT203_6, zr_gf_51, zT203_9, zr_icmp_ge, zT203_12, zT203_13, zr_ic_8, zT203_15, zT203_18, zT203_19, zr_gf_50, zr_or, zr_go, zf_89_50, zf_91_50, zT203_22, zT203_23, zr_iald, zT203_24, zr_goto, zT203_27, zr_ic_m1, zT203_28, zr_ret0, zcl_i, zcl_r, zcl_l, zcl_n, zv_some, zv_none, Nat.reduceAdd, Nat.reduceMul, Nat.reduceSub, Nat.reduceLT, Nat.reduceLeDiff, Nat.reduceEqDiff, Int.reduceToNat, true_implies, false_implies, implies_true, and_true, true_and, not_true_eq_false, not_false_eq_true, Nat.zero_add, Nat.add_zero, nI_add, nI_ltI, nI_leI, nI_eq, pk_mul, pk_sub, u2_same, u2_row, u2_other, hl, hfr, olt_T, olt_F, ole_T, ole_F, oeq_T, oeq_F]
    exact hQ
/-- the limbs' digest -/
def a_digL (v : Nat) : Nat → Nat → Int64 → Int64
  | 0, _, h => h
  | n + 1, i, h => a_digL v n (i + 1) (mx h (v / LB ^ i % LB))
theorem sp_digL_ {a v : Nat} (h1 : z_ok 151 a 17 = true) (h2 : z_ok 151 (a + 1) 1 = true) (l : z_al (a + 1) = 8) (hfr : fr a 50 = some (a + 1)) (h : z_Lv fi a v) {h0 : Int64} : ∀ n i, i + n = a_len v → ∀ h Q, TT 204 5 [some (.ref a), some (.long h0), none, some (.long h), none, some (.int (nI i))] [] (151, fi, fl, fr) Q = Q (some (.long (a_digL v n i h))) (151, fi, fl, fr) := by
  obtain ⟨hl, hv8, hd⟩ := h
  have hn := a_len_8 hv8
  intro n
  induction n with
  | zero =>
    intro i hi h Q
    refine T_exact (fun Q hQ => ?_) Q
    simp (disch := first | assumption | rfl | exact zle_0 | exact zle_1 | exact zle_2 | exact zle_3 | exact zle_4 | exact zb_0 | exact zb_1 | exact zb01_B | omega) only [zT204_0, zr_lload_1, zT204_1, zr_lstore_3, zT204_2, zr_ic_0, zT204_3, zr_istore_5, zT204_5, zr_iload_5, zT204_7, zr_aload_0, zT204_8, zr_gf_51, zT204_11, zr_icmp_ge, zT204_14, zT204_16, zr_ic_8, zT204_18, zT204_21, zr_ldc2, zT204_24, zr_lload_3, zT204_25, zr_lmul, zT204_26, zT204_27, zr_gf_50, zr_or, zr_go, zf_89_50, zf_91_50, zT204_30, zT204_32, zr_iald, zT204_33, zr_i2l, zT204_34, zr_ladd, zT204_35, zT204_36, zr_iinc_5_1, zT204_39, zr_goto, zT204_42, zT204_43, zr_lret, zcl_i, zcl_r, zcl_l, zcl_n, zv_some, zv_none, Nat.reduceAdd, Nat.reduceMul, Nat.reduceSub, Nat.reduceLT, Nat.reduceLeDiff, Nat.reduceEqDiff, Int.reduceToNat, true_implies, false_implies, implies_true, and_true, true_and, not_true_eq_false, not_false_eq_true, Nat.zero_add, Nat.add_zero, nI_add, nI_ltI, nI_leI, nI_eq, pk_mul, pk_sub, u2_same, u2_row, u2_other, hl, olt_T, olt_F, ole_T, ole_F, oeq_T, oeq_F]
    exact hQ
  | succ n ih =>
    intro i hi h Q
    refine T_exact (fun Q hQ => ?_) Q
    have d := hd i (by omega)
    have dl : v / LB ^ i % LB < 1073741824 := Nat.mod_lt _ (by decide)
    have i1 := nI_l (show v / LB ^ i % LB < 2 ^ 31 by omega)
    have ih' := fun h Q => ih (i + 1) (by omega) h Q
    simp (disch := first | assumption | rfl | exact zle_0 | exact zle_1 | exact zle_2 | exact zle_3 | exact zle_4 | exact zb_0 | exact zb_1 | exact zb01_B | omega) only [zT204_5, zr_iload_5, zcl_i, zcl_r, zcl_l, zcl_n, zv_some, zv_none, Nat.reduceAdd, Nat.reduceMul, Nat.reduceSub, Nat.reduceLT, Nat.reduceLeDiff, Nat.reduceEqDiff, Int.reduceToNat, true_implies, false_implies, implies_true, and_true, true_and, not_true_eq_false, not_false_eq_true, Nat.zero_add, Nat.add_zero, nI_add, nI_ltI, nI_leI, nI_eq, pk_mul, pk_sub, u2_same, u2_row, u2_other]
    simp (disch := first | assumption | rfl | exact zle_0 | exact zle_1 | exact zle_2 | exact zle_3 | exact zle_4 | exact zb_0 | exact zb_1 | exact zb01_B | omega) only [zT204_0, zr_lload_1, zT204_1, zr_lstore_3, zT204_2, zr_ic_0, zT204_3, zr_istore_5, zT204_7, zr_aload_0, zT204_8, zr_gf_51, zT204_11, zr_icmp_ge, zT204_14, zr_iload_5, zT204_16, zr_ic_8, zT204_18, zT204_21, zr_ldc2, zT204_24, zr_lload_3, zT204_25, zr_lmul, zT204_26, zT204_27, zr_gf_50, zr_or, zr_go, zf_89_50, zf_91_50, zT204_30, zT204_32, zr_iald, zT204_33, zr_i2l, zT204_34, zr_ladd, zT204_35, zT204_36, zr_iinc_5_1, zT204_39, zr_goto, zT204_42, zT204_43, zr_lret, zcl_i, zcl_r, zcl_l, zcl_n, zv_some, zv_none, Nat.reduceAdd, Nat.reduceMul, Nat.reduceSub, Nat.reduceLT, Nat.reduceLeDiff, Nat.reduceEqDiff, Int.reduceToNat, true_implies, false_implies, implies_true, and_true, true_and, not_true_eq_false, not_false_eq_true, Nat.zero_add, Nat.add_zero, nI_add, nI_ltI, nI_leI, nI_eq, pk_mul, pk_sub, u2_same, u2_row, u2_other, hl, hfr, d, i1, ih', olt_T, olt_F, ole_T, ole_F, oeq_T, oeq_F]
    exact hQ
theorem sp_digL {a v : Nat} (h1 : z_ok 151 a 17 = true) (h2 : z_ok 151 (a + 1) 1 = true) (l : z_al (a + 1) = 8) (hfr : fr a 50 = some (a + 1)) (h : z_Lv fi a v) {h0 : Int64} : TT 204 0 [some (.ref a), some (.long h0), none, none, none, none] [] (151, fi, fl, fr) Q = Q (some (.long (a_digL v (a_len v) 0 h0))) (151, fi, fl, fr) := by
  refine T_exact (fun Q hQ => ?_) Q
  have L := fun h' Q => sp_digL_ (fl := fl) (fr := fr) h1 h2 l hfr h (h0 := h0) (a_len v) 0 (Nat.zero_add _) h' Q
  simp (disch := first | assumption | rfl | exact zle_0 | exact zle_1 | exact zle_2 | exact zle_3 | exact zle_4 | exact zb_0 | exact zb_1 | exact zb01_B | omega) only [zT204_0, zr_lload_1, zT204_1, zr_lstore_3, zT204_2, zr_ic_0, zT204_3, zr_istore_5, zcl_i, zcl_r, zcl_l, zcl_n, zv_some, zv_none, Nat.reduceAdd, Nat.reduceMul, Nat.reduceSub, Nat.reduceLT, Nat.reduceLeDiff, Nat.reduceEqDiff, Int.reduceToNat, true_implies, false_implies, implies_true, and_true, true_and, not_true_eq_false, not_false_eq_true, Nat.zero_add, Nat.add_zero, nI_add, nI_ltI, nI_leI, nI_eq, pk_mul, pk_sub, u2_same, u2_row, u2_other, L]
  exact hQ
end
