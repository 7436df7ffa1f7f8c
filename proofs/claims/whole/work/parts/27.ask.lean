/-! what a minute asks for -/
def n_sr (w : Nat → Nat) (i s : Nat) : Nat := if s < a_sm w i then min (a_st w i s 0) (a_st w i s 2) else 0
def n_br (w : Nat → Nat) (i s : Nat) : Nat := if s < a_sm w i then a_st w i s 0 - min (a_st w i s 0) (a_st w i s 2) else 0
def n_sl (w : Nat → Nat) (i s : Nat) : Nat := if s < a_sm w i then a_st w i s 2 - min (a_st w i s 0) (a_st w i s 2) else 0
def n_bl (w : Nat → Nat) (i s : Nat) : Nat := if s < a_sm w i then a_st w i s 1 - (a_st w i s 2 - min (a_st w i s 0) (a_st w i s 2)) else 0
def n_kn (w : Nat → Nat) (i s : Nat) : Nat := if s < a_sm w i then a_st w i s 2 else 0
/-- over the dishes of a key, the first n of them -/
def n_sum (f : Nat → Nat → Nat) (key : Nat) : Nat → Nat
  | 0 => 0
  | n + 1 => n_sum f key n + f n (a_at key n)
def z_NR (fi : Nat → Nat → Int32) (a b c d kn : Nat) : Prop := fi 67 36 = nI a ∧ fi 67 37 = nI b ∧ fi 67 38 = nI c ∧ fi 67 39 = nI d ∧ fi 61 24 = nI kn
section
variable {fi : Nat → Nat → Int32} {fl : Nat → Nat → Int64} {fr : Nat → Nat → Option Nat} {Q : Option Value → Mm → Prop} {w : Nat → Nat} {k : Nat} {M : Mm}
theorem z_DR.frame {fi' : Nat → Nat → Int32} {d i : Nat} (h : z_DR fi d w i) (hf : ∀ j, d ≤ j → j < d + 5 → fi' j = fi j) : z_DR fi' d w i := by
  obtain ⟨h1, h2, h3⟩ := h
  refine ⟨?_, ?_, fun s hs => ?_⟩
  · rw [hf _ (by omega) (by omega)]; exact h1
  · rw [hf _ (by omega) (by omega)]; exact h2
  · rw [hf _ (by omega) (by omega), hf _ (by omega) (by omega), hf _ (by omega) (by omega), hf _ (by omega) (by omega)]; exact h3 s hs
theorem sp_askH (hf : z_FR fr) {d i s r l kn a b c e K : Nat} {kv iv : Int32} (hd : z_Dok fr d) (hd2 : d + 5 < 60) (hw : a_WD w i) (hs : s < a_sm w i) (hr0 : a_st w i s 0 = r) (hl0 : a_st w i s 1 = l) (hk0 : a_st w i s 2 = kn) :
    ∀ m h, h + m = r + l → ∀ (fi : Nat → Nat → Int32) (v6 : Option Value), z_DR fi d w i → z_NR fi (a + min h (min r kn)) (b + (min h r - min h (min r kn))) (c + (min h kn - min h (min r kn))) (e + (h - min h r - (min h kn - min h (min r kn)))) (K + min h kn) →
    (∀ fi' v, z_NR fi' (a + min r kn) (b + (r - min r kn)) (c + (kn - min r kn)) (e + (l - (kn - min r kn))) (K + kn) → (∀ j, j ≠ 67 → j ≠ 61 → fi' j = fi j) → (∀ f, f ≠ 24 → fi' 61 f = fi 61 f) → TT 143 102 [some (.ref 61), some (.int kv), some (.int iv), some (.ref d), some (.int (nI s)), some (.int (nI (r + l))), v] [] (151, fi', fl, fr) Q) →
    TT 143 38 [some (.ref 61), some (.int kv), some (.int iv), some (.ref d), some (.int (nI s)), some (.int (nI h)), v6] [] (151, fi, fl, fr) Q := by
  have hb := hw.2 s hs
  have hsm := hw.1
  have hh0 : a_hof w i s = r + l := by unfold a_hof; rw [if_pos hs, hr0, hl0]
  have o61 : z_ok 151 61 12 = true := rfl; have o67 : z_ok 151 67 15 = true := rfl
  have od := hd.1
  have zt : zB true = nI 1 := rfl
  have zf : zB false = nI 0 := rfl
  intro m
  induction m with
  | zero =>
    intro h hh fi v6 hr hn hQ
    have hho := fun Q => sp_handsOf (fl := fl) (Q := Q) hd hr hsm (show s < 4 by omega)
    rw [hh0] at hho
    simp (disch := first | assumption | rfl | exact zle_0 | exact zle_1 | exact zle_2 | exact zle_3 | exact zle_4 | exact zb_0 | exact zb_1 | exact zb01_B | omega) only [zT143_0, zr_aload_0, zT143_1, zr_gf_23, zr_or, zr_go, zf_61_23, zT143_4, zr_iv_166, zT143_7, zT143_8, zr_ic_0, zT143_9, zr_pf_24, zT143_12, zT143_13, zr_istore_2, zT143_14, zr_iload_2, zT143_15, zr_ic_3, zT143_16, zr_icmp_ge, zT143_19, zT143_20, zr_gf_17, zf_61_17, zT143_23, zT143_24, zr_iv_187, zT143_27, zr_astore_3, zT143_28, zr_iload_1, zT143_29, zT143_30, zr_iv_121, zT143_33, zr_istore_4, zT143_35, zT143_36, zr_istore_5, zT143_38, zr_iload_5, zT143_40, zr_aload_3, zT143_41, zr_iload_4, zT143_43, zr_iv_154, zT143_46, zT143_49, zT143_50, zT143_52, zT143_54, zr_iv_156, zT143_57, zr_istore_6, zT143_59, zT143_60, zT143_63, zT143_64, zT143_66, zT143_68, zr_iv_155, zT143_71, zr_iload_6, zT143_73, zr_ic_1, zT143_74, zr_iv_167, zT143_77, zT143_78, zr_dup_r, zr_dup_i, zT143_79, zr_gf_24, zT143_82, zT143_84, zr_if_eq, zT143_87, zT143_88, zr_goto, zT143_91, zT143_92, zr_iadd, zT143_93, zT143_96, zr_iinc_5_1, zT143_99, zT143_105, zT143_108, zr_return, zcl_i, zcl_r, zcl_l, zcl_n, zv_some, zv_none, Nat.reduceAdd, Nat.reduceMul, Nat.reduceSub, Nat.reduceLT, Nat.reduceLeDiff, Nat.reduceEqDiff, Int.reduceToNat, true_implies, false_implies, implies_true, and_true, true_and, not_true_eq_false, not_false_eq_true, Nat.zero_add, Nat.add_zero, nI_add, nI_ltI, nI_leI, nI_eq, pk_mul, pk_sub, u2_same, u2_row, u2_other, hho, olt_T, olt_F, ole_T, ole_F, oeq_T, oeq_F]
    obtain rfl : h = r + l := by omega
    refine hQ fi v6 ?_ (fun _ _ _ => rfl) (fun _ _ => rfl)
    obtain ⟨n1, n2, n3, n4, n5⟩ := hn
    refine ⟨?_, ?_, ?_, ?_, ?_⟩
    · rw [n1]; congr 1; omega
    · rw [n2]; congr 1; omega
    · rw [n3]; congr 1; omega
    · rw [n4]; congr 1; omega
    · rw [n5]; congr 1; omega
  | succ m ih =>
    intro h hh fi v6 hr hn hQ
    have hho := fun Q => sp_handsOf (fl := fl) (Q := Q) hd hr hsm (show s < 4 by omega)
    have hsh := fun Q => sp_isSharp (fl := fl) (Q := Q) (j := h) hd hr hw (show s < 4 by omega) (by omega)
    have hri := fun Q => sp_isRight (fl := fl) (Q := Q) (j := h) hd hr hw (show s < 4 by omega) (by omega)
    rw [hh0] at hho
    rw [hk0] at hsh
    rw [hr0] at hri
    obtain ⟨n1, n2, n3, n4, n5⟩ := hn
    simp (disch := first | assumption | rfl | exact zle_0 | exact zle_1 | exact zle_2 | exact zle_3 | exact zle_4 | exact zb_0 | exact zb_1 | exact zb01_B | omega) only [zT143_38, zr_iload_5, zcl_i, zcl_r, zcl_l, zcl_n, zv_some, zv_none, Nat.reduceAdd, Nat.reduceMul, Nat.reduceSub, Nat.reduceLT, Nat.reduceLeDiff, Nat.reduceEqDiff, Int.reduceToNat, true_implies, false_implies, implies_true, and_true, true_and, not_true_eq_false, not_false_eq_true, Nat.zero_add, Nat.add_zero, nI_add, nI_ltI, nI_leI, nI_eq, pk_mul, pk_sub, u2_same, u2_row, u2_other]
    by_cases c1 : h < kn <;> by_cases c2 : h < r
    · rw [decide_eq_true (by omega)] at hsh
      rw [decide_eq_true (by omega)] at hri
      simp (disch := first | assumption | rfl | exact zle_0 | exact zle_1 | exact zle_2 | exact zle_3 | exact zle_4 | exact zb_0 | exact zb_1 | exact zb01_B | omega) only [zT143_0, zr_aload_0, zT143_1, zr_gf_23, zr_or, zr_go, zf_61_23, zT143_4, zr_iv_166, zT143_7, zT143_8, zr_ic_0, zT143_9, zr_pf_24, zT143_12, zT143_13, zr_istore_2, zT143_14, zr_iload_2, zT143_15, zr_ic_3, zT143_16, zr_icmp_ge, zT143_19, zT143_20, zr_gf_17, zf_61_17, zT143_23, zT143_24, zr_iv_187, zT143_27, zr_astore_3, zT143_28, zr_iload_1, zT143_29, zT143_30, zr_iv_121, zT143_33, zr_istore_4, zT143_35, zT143_36, zr_istore_5, zT143_40, zr_aload_3, zT143_41, zr_iload_4, zT143_43, zr_iv_154, zT143_46, zT143_49, zT143_50, zT143_52, zr_iload_5, zT143_54, zr_iv_156, zT143_57, zr_istore_6, zT143_59, zT143_60, zT143_63, zT143_64, zT143_66, zT143_68, zr_iv_155, zT143_71, zr_iload_6, zT143_73, zr_ic_1, zT143_74, zr_iv_167, zT143_77, zT143_78, zr_dup_r, zr_dup_i, zT143_79, zr_gf_24, zT143_82, zT143_84, zr_if_eq, zT143_87, zT143_88, zr_goto, zT143_91, zT143_92, zr_iadd, zT143_93, zT143_96, zr_iinc_5_1, zT143_99, zT143_105, zT143_108, zr_return, zT167_0, zT167_1, zT167_4, zT167_5, zT167_8, zT167_9, zT167_10, zr_gf_36, zT167_13, zr_iload_3, zT167_14, zT167_15, zr_pf_36, zT167_18, zT167_21, zT167_22, zT167_25, zT167_26, zT167_27, zr_gf_37, zT167_30, zT167_31, zT167_32, zr_pf_37, zT167_35, zT167_38, zT167_39, zT167_42, zT167_43, zT167_44, zr_gf_38, zT167_47, zT167_48, zT167_49, zr_pf_38, zT167_52, zT167_55, zT167_56, zT167_57, zr_gf_39, zT167_60, zT167_61, zT167_62, zr_pf_39, zT167_65, zcl_i, zcl_r, zcl_l, zcl_n, zv_some, zv_none, Nat.reduceAdd, Nat.reduceMul, Nat.reduceSub, Nat.reduceLT, Nat.reduceLeDiff, Nat.reduceEqDiff, Int.reduceToNat, true_implies, false_implies, implies_true, and_true, true_and, not_true_eq_false, not_false_eq_true, Nat.zero_add, Nat.add_zero, nI_add, nI_ltI, nI_leI, nI_eq, pk_mul, pk_sub, u2_same, u2_row, u2_other, hho, hsh, hri, zt, zf, n1, n2, n3, n4, n5, olt_T, olt_F, ole_T, ole_F, oeq_T, oeq_F]
      refine ih (h + 1) (by omega) _ _ (hr.frame (fun j j1 j2 => by simp (disch := omega) only [u2_ne])) ⟨?_, ?_, ?_, ?_, ?_⟩ (fun fi' v h1 h2 h3 => hQ fi' v h1 (fun j j1 j2 => ?_) (fun f hf' => ?_))
      all_goals first
        | (simp (disch := omega) only [u2_same, u2_row, u2_other, n1, n2, n3, n4, n5]; congr 1; omega)
        | (rw [h2 _ (by assumption) (by assumption)]; simp (disch := omega) only [u2_ne])
        | (rw [h3 _ (by assumption)]; simp (disch := first | assumption | omega) only [u2_row, u2_other])
    · rw [decide_eq_true (by omega)] at hsh
      rw [decide_eq_false (by omega)] at hri
      simp (disch := first | assumption | rfl | exact zle_0 | exact zle_1 | exact zle_2 | exact zle_3 | exact zle_4 | exact zb_0 | exact zb_1 | exact zb01_B | omega) only [zT143_0, zr_aload_0, zT143_1, zr_gf_23, zr_or, zr_go, zf_61_23, zT143_4, zr_iv_166, zT143_7, zT143_8, zr_ic_0, zT143_9, zr_pf_24, zT143_12, zT143_13, zr_istore_2, zT143_14, zr_iload_2, zT143_15, zr_ic_3, zT143_16, zr_icmp_ge, zT143_19, zT143_20, zr_gf_17, zf_61_17, zT143_23, zT143_24, zr_iv_187, zT143_27, zr_astore_3, zT143_28, zr_iload_1, zT143_29, zT143_30, zr_iv_121, zT143_33, zr_istore_4, zT143_35, zT143_36, zr_istore_5, zT143_40, zr_aload_3, zT143_41, zr_iload_4, zT143_43, zr_iv_154, zT143_46, zT143_49, zT143_50, zT143_52, zr_iload_5, zT143_54, zr_iv_156, zT143_57, zr_istore_6, zT143_59, zT143_60, zT143_63, zT143_64, zT143_66, zT143_68, zr_iv_155, zT143_71, zr_iload_6, zT143_73, zr_ic_1, zT143_74, zr_iv_167, zT143_77, zT143_78, zr_dup_r, zr_dup_i, zT143_79, zr_gf_24, zT143_82, zT143_84, zr_if_eq, zT143_87, zT143_88, zr_goto, zT143_91, zT143_92, zr_iadd, zT143_93, zT143_96, zr_iinc_5_1, zT143_99, zT143_105, zT143_108, zr_return, zT167_0, zT167_1, zT167_4, zT167_5, zT167_8, zT167_9, zT167_10, zr_gf_36, zT167_13, zr_iload_3, zT167_14, zT167_15, zr_pf_36, zT167_18, zT167_21, zT167_22, zT167_25, zT167_26, zT167_27, zr_gf_37, zT167_30, zT167_31, zT167_32, zr_pf_37, zT167_35, zT167_38, zT167_39, zT167_42, zT167_43, zT167_44, zr_gf_38, zT167_47, zT167_48, zT167_49, zr_pf_38, zT167_52, zT167_55, zT167_56, zT167_57, zr_gf_39, zT167_60, zT167_61, zT167_62, zr_pf_39, zT167_65, zcl_i, zcl_r, zcl_l, zcl_n, zv_some, zv_none, Nat.reduceAdd, Nat.reduceMul, Nat.reduceSub, Nat.reduceLT, Nat.reduceLeDiff, Nat.reduceEqDiff, Int.reduceToNat, true_implies, false_implies, implies_true, and_true, true_and, not_true_eq_false, not_false_eq_true, Nat.zero_add, Nat.add_zero, nI_add, nI_ltI, nI_leI, nI_eq, pk_mul, pk_sub, u2_same, u2_row, u2_other, hho, hsh, hri, zt, zf, n1, n2, n3, n4, n5, olt_T, olt_F, ole_T, ole_F, oeq_T, oeq_F]
      refine ih (h + 1) (by omega) _ _ (hr.frame (fun j j1 j2 => by simp (disch := omega) only [u2_ne])) ⟨?_, ?_, ?_, ?_, ?_⟩ (fun fi' v h1 h2 h3 => hQ fi' v h1 (fun j j1 j2 => ?_) (fun f hf' => ?_))
      all_goals first
        | (simp (disch := omega) only [u2_same, u2_row, u2_other, n1, n2, n3, n4, n5]; congr 1; omega)
        | (rw [h2 _ (by assumption) (by assumption)]; simp (disch := omega) only [u2_ne])
        | (rw [h3 _ (by assumption)]; simp (disch := first | assumption | omega) only [u2_row, u2_other])
    · rw [decide_eq_false (by omega)] at hsh
      rw [decide_eq_true (by omega)] at hri
      simp (disch := first | assumption | rfl | exact zle_0 | exact zle_1 | exact zle_2 | exact zle_3 | exact zle_4 | exact zb_0 | exact zb_1 | exact zb01_B | omega) only [zT143_0, zr_aload_0, zT143_1, zr_gf_23, zr_or, zr_go, zf_61_23, zT143_4, zr_iv_166, zT143_7, zT143_8, zr_ic_0, zT143_9, zr_pf_24, zT143_12, zT143_13, zr_istore_2, zT143_14, zr_iload_2, zT143_15, zr_ic_3, zT143_16, zr_icmp_ge, zT143_19, zT143_20, zr_gf_17, zf_61_17, zT143_23, zT143_24, zr_iv_187, zT143_27, zr_astore_3, zT143_28, zr_iload_1, zT143_29, zT143_30, zr_iv_121, zT143_33, zr_istore_4, zT143_35, zT143_36, zr_istore_5, zT143_40, zr_aload_3, zT143_41, zr_iload_4, zT143_43, zr_iv_154, zT143_46, zT143_49, zT143_50, zT143_52, zr_iload_5, zT143_54, zr_iv_156, zT143_57, zr_istore_6, zT143_59, zT143_60, zT143_63, zT143_64, zT143_66, zT143_68, zr_iv_155, zT143_71, zr_iload_6, zT143_73, zr_ic_1, zT143_74, zr_iv_167, zT143_77, zT143_78, zr_dup_r, zr_dup_i, zT143_79, zr_gf_24, zT143_82, zT143_84, zr_if_eq, zT143_87, zT143_88, zr_goto, zT143_91, zT143_92, zr_iadd, zT143_93, zT143_96, zr_iinc_5_1, zT143_99, zT143_105, zT143_108, zr_return, zT167_0, zT167_1, zT167_4, zT167_5, zT167_8, zT167_9, zT167_10, zr_gf_36, zT167_13, zr_iload_3, zT167_14, zT167_15, zr_pf_36, zT167_18, zT167_21, zT167_22, zT167_25, zT167_26, zT167_27, zr_gf_37, zT167_30, zT167_31, zT167_32, zr_pf_37, zT167_35, zT167_38, zT167_39, zT167_42, zT167_43, zT167_44, zr_gf_38, zT167_47, zT167_48, zT167_49, zr_pf_38, zT167_52, zT167_55, zT167_56, zT167_57, zr_gf_39, zT167_60, zT167_61, zT167_62, zr_pf_39, zT167_65, zcl_i, zcl_r, zcl_l, zcl_n, zv_some, zv_none, Nat.reduceAdd, Nat.reduceMul, Nat.reduceSub, Nat.reduceLT, Nat.reduceLeDiff, Nat.reduceEqDiff, Int.reduceToNat, true_implies, false_implies, implies_true, and_true, true_and, not_true_eq_false, not_false_eq_true, Nat.zero_add, Nat.add_zero, nI_add, nI_ltI, nI_leI, nI_eq, pk_mul, pk_sub, u2_same, u2_row, u2_other, hho, hsh, hri, zt, zf, n1, n2, n3, n4, n5, olt_T, olt_F, ole_T, ole_F, oeq_T, oeq_F]
      refine ih (h + 1) (by omega) _ _ (hr.frame (fun j j1 j2 => by simp (disch := omega) only [u2_ne])) ⟨?_, ?_, ?_, ?_, ?_⟩ (fun fi' v h1 h2 h3 => hQ fi' v h1 (fun j j1 j2 => ?_) (fun f hf' => ?_))
      all_goals first
        | (simp (disch := omega) only [u2_same, u2_row, u2_other, n1, n2, n3, n4, n5]; congr 1; omega)
        | (rw [h2 _ (by assumption) (by assumption)]; simp (disch := omega) only [u2_ne])
        | (rw [h3 _ (by assumption)]; simp (disch := first | assumption | omega) only [u2_row, u2_other])
    · rw [decide_eq_false (by omega)] at hsh
      rw [decide_eq_false (by omega)] at hri
      simp (disch := first | assumption | rfl | exact zle_0 | exact zle_1 | exact zle_2 | exact zle_3 | exact zle_4 | exact zb_0 | exact zb_1 | exact zb01_B | omega) only [zT143_0, zr_aload_0, zT143_1, zr_gf_23, zr_or, zr_go, zf_61_23, zT143_4, zr_iv_166, zT143_7, zT143_8, zr_ic_0, zT143_9, zr_pf_24, zT143_12, zT143_13, zr_istore_2, zT143_14, zr_iload_2, zT143_15, zr_ic_3, zT143_16, zr_icmp_ge, zT143_19, zT143_20, zr_gf_17, zf_61_17, zT143_23, zT143_24, zr_iv_187, zT143_27, zr_astore_3, zT143_28, zr_iload_1, zT143_29, zT143_30, zr_iv_121, zT143_33, zr_istore_4, zT143_35, zT143_36, zr_istore_5, zT143_40, zr_aload_3, zT143_41, zr_iload_4, zT143_43, zr_iv_154, zT143_46, zT143_49, zT143_50, zT143_52, zr_iload_5, zT143_54, zr_iv_156, zT143_57, zr_istore_6, zT143_59, zT143_60, zT143_63, zT143_64, zT143_66, zT143_68, zr_iv_155, zT143_71, zr_iload_6, zT143_73, zr_ic_1, zT143_74, zr_iv_167, zT143_77, zT143_78, zr_dup_r, zr_dup_i, zT143_79, zr_gf_24, zT143_82, zT143_84, zr_if_eq, zT143_87, zT143_88, zr_goto, zT143_91, zT143_92, zr_iadd, zT143_93, zT143_96, zr_iinc_5_1, zT143_99, zT143_105, zT143_108, zr_return, zT167_0, zT167_1, zT167_4, zT167_5, zT167_8, zT167_9, zT167_10, zr_gf_36, zT167_13, zr_iload_3, zT167_14, zT167_15, zr_pf_36, zT167_18, zT167_21, zT167_22, zT167_25, zT167_26, zT167_27, zr_gf_37, zT167_30, zT167_31, zT167_32, zr_pf_37, zT167_35, zT167_38, zT167_39, zT167_42, zT167_43, zT167_44, zr_gf_38, zT167_47, zT167_48, zT167_49, zr_pf_38, zT167_52, zT167_55, zT167_56, zT167_57, zr_gf_39, zT167_60, zT167_61, zT167_62, zr_pf_39, zT167_65, zcl_i, zcl_r, zcl_l, zcl_n, zv_some, zv_none, Nat.reduceAdd, Nat.reduceMul, Nat.reduceSub, Nat.reduceLT, Nat.reduceLeDiff, Nat.reduceEqDiff, Int.reduceToNat, true_implies, false_implies, implies_true, and_true, true_and, not_true_eq_false, not_false_eq_true, Nat.zero_add, Nat.add_zero, nI_add, nI_ltI, nI_leI, nI_eq, pk_mul, pk_sub, u2_same, u2_row, u2_other, hho, hsh, hri, zt, zf, n1, n2, n3, n4, n5, olt_T, olt_F, ole_T, ole_F, oeq_T, oeq_F]
      refine ih (h + 1) (by omega) _ _ (hr.frame (fun j j1 j2 => by simp (disch := omega) only [u2_ne])) ⟨?_, ?_, ?_, ?_, ?_⟩ (fun fi' v h1 h2 h3 => hQ fi' v h1 (fun j j1 j2 => ?_) (fun f hf' => ?_))
      all_goals first
        | (simp (disch := omega) only [u2_same, u2_row, u2_other, n1, n2, n3, n4, n5]; congr 1; omega)
        | (rw [h2 _ (by assumption) (by assumption)]; simp (disch := omega) only [u2_ne])
        | (rw [h3 _ (by assumption)]; simp (disch := first | assumption | omega) only [u2_row, u2_other])
theorem a_at_lt {key d : Nat} : a_at key d < 4 := Nat.mod_lt _ (by decide)
theorem sp_ask_ (hf : z_FR fr) (hw : a_WF w) {key : Nat} (hkey : key < 64) : ∀ m i, i + m = 3 → ∀ (fi : Nat → Nat → Int32) (v3 v4 v5 v6 : Option Value), z_KR fi 19 w → z_NR fi (n_sum (n_sr w) key i) (n_sum (n_br w) key i) (n_sum (n_sl w) key i) (n_sum (n_bl w) key i) (n_sum (n_kn w) key i) →
    (∀ fi', z_NR fi' (n_sum (n_sr w) key 3) (n_sum (n_br w) key 3) (n_sum (n_sl w) key 3) (n_sum (n_bl w) key 3) (n_sum (n_kn w) key 3) → (∀ j, j ≠ 67 → j ≠ 61 → fi' j = fi j) → (∀ f, f ≠ 24 → fi' 61 f = fi 61 f) → Q none (151, fi', fl, fr)) →
    TT 143 14 [some (.ref 61), some (.int (nI key)), some (.int (nI i)), v3, v4, v5, v6] [] (151, fi, fl, fr) Q := by
  have hk := z_Kok_of hf (k := 19) (by decide)
  have o19 : z_ok 151 19 16 = true := rfl; have o61 : z_ok 151 61 12 = true := rfl; have o67 : z_ok 151 67 15 = true := rfl
  intro m
  induction m with
  | zero =>
    intro i hi fi v3 v4 v5 v6 hr hn hQ
    obtain rfl : i = 3 := by omega
    simp (disch := first | assumption | rfl | exact zle_0 | exact zle_1 | exact zle_2 | exact zle_3 | exact zle_4 | exact zb_0 | exact zb_1 | exact zb01_B | omega) only [zT143_14, zr_iload_2, zT143_15, zr_ic_3, zT143_16, zr_icmp_ge, zT143_108, zr_return, zcl_i, zcl_r, zcl_l, zcl_n, zv_some, zv_none, Nat.reduceAdd, Nat.reduceMul, Nat.reduceSub, Nat.reduceLT, Nat.reduceLeDiff, Nat.reduceEqDiff, Int.reduceToNat, true_implies, false_implies, implies_true, and_true, true_and, not_true_eq_false, not_false_eq_true, Nat.zero_add, Nat.add_zero, nI_add, nI_ltI, nI_leI, nI_eq, pk_mul, pk_sub, u2_same, u2_row, u2_other, olt_T, olt_F, ole_T, ole_F, oeq_T, oeq_F]
    exact hQ fi hn (fun _ _ _ => rfl) (fun _ _ => rfl)
  | succ m ih =>
    intro i hi fi v3 v4 v5 v6 hr hn hQ
    have hi3 : i < 3 := by omega
    have wd := (hw.2.2.2.1 i hi3).1
    have hda := fun Q => sp_dishAt (fi := fi) (fl := fl) (Q := Q) hk hi3
    have hsk := fun M Q => sp_stepInKey (M := M) (Q := Q) hkey hi3
    have hs4 := a_at_lt (key := key) (d := i)
    have hdd := (hk.2.2.2.2 i hi3).2
    have od := hdd.1
    have hrd := hr.2.2.1 i hi3
    have hho := fun Q => sp_handsOf (fl := fl) (Q := Q) hdd hrd wd.1 hs4
    by_cases hs : a_at key i < a_sm w i
    · have hb := wd.2 _ hs
      have e1 : n_sum (n_sr w) key (i + 1) = n_sum (n_sr w) key i + min (a_st w i (a_at key i) 0) (a_st w i (a_at key i) 2) := by show _ + n_sr w i _ = _; unfold n_sr; rw [if_pos hs]
      have e2 : n_sum (n_br w) key (i + 1) = n_sum (n_br w) key i + (a_st w i (a_at key i) 0 - min (a_st w i (a_at key i) 0) (a_st w i (a_at key i) 2)) := by show _ + n_br w i _ = _; unfold n_br; rw [if_pos hs]
      have e3 : n_sum (n_sl w) key (i + 1) = n_sum (n_sl w) key i + (a_st w i (a_at key i) 2 - min (a_st w i (a_at key i) 0) (a_st w i (a_at key i) 2)) := by show _ + n_sl w i _ = _; unfold n_sl; rw [if_pos hs]
      have e4 : n_sum (n_bl w) key (i + 1) = n_sum (n_bl w) key i + (a_st w i (a_at key i) 1 - (a_st w i (a_at key i) 2 - min (a_st w i (a_at key i) 0) (a_st w i (a_at key i) 2))) := by show _ + n_bl w i _ = _; unfold n_bl; rw [if_pos hs]
      have e5 : n_sum (n_kn w) key (i + 1) = n_sum (n_kn w) key i + a_st w i (a_at key i) 2 := by show _ + n_kn w i _ = _; unfold n_kn; rw [if_pos hs]
      simp (disch := first | assumption | rfl | exact zle_0 | exact zle_1 | exact zle_2 | exact zle_3 | exact zle_4 | exact zb_0 | exact zb_1 | exact zb01_B | omega) only [zT143_14, zr_iload_2, zcl_i, zcl_r, zcl_l, zcl_n, zv_some, zv_none, Nat.reduceAdd, Nat.reduceMul, Nat.reduceSub, Nat.reduceLT, Nat.reduceLeDiff, Nat.reduceEqDiff, Int.reduceToNat, true_implies, false_implies, implies_true, and_true, true_and, not_true_eq_false, not_false_eq_true, Nat.zero_add, Nat.add_zero, nI_add, nI_ltI, nI_leI, nI_eq, pk_mul, pk_sub, u2_same, u2_row, u2_other]
      simp (disch := first | assumption | rfl | exact zle_0 | exact zle_1 | exact zle_2 | exact zle_3 | exact zle_4 | exact zb_0 | exact zb_1 | exact zb01_B | omega) only [zT143_0, zr_aload_0, zT143_1, zr_gf_23, zr_or, zr_go, zf_61_23, zT143_4, zr_iv_166, zT143_7, zT143_8, zr_ic_0, zT143_9, zr_pf_24, zT143_12, zT143_13, zr_istore_2, zT143_15, zr_ic_3, zT143_16, zr_icmp_ge, zT143_19, zT143_20, zr_gf_17, zf_61_17, zT143_23, zr_iload_2, zT143_24, zr_iv_187, zT143_27, zr_astore_3, zT143_28, zr_iload_1, zT143_29, zT143_30, zr_iv_121, zT143_33, zr_istore_4, zT143_35, zT143_36, zr_istore_5, zT143_40, zr_aload_3, zT143_41, zr_iload_4, zT143_43, zr_iv_154, zT143_46, zT143_49, zT143_50, zT143_52, zr_iload_5, zT143_54, zr_iv_156, zT143_57, zr_istore_6, zT143_59, zT143_60, zT143_63, zT143_64, zT143_66, zT143_68, zr_iv_155, zT143_71, zr_iload_6, zT143_73, zr_ic_1, zT143_74, zr_iv_167, zT143_77, zT143_78, zr_dup_r, zr_dup_i, zT143_79, zr_gf_24, zT143_82, zT143_84, zr_if_eq, zT143_87, zT143_88, zr_goto, zT143_91, zT143_92, zr_iadd, zT143_93, zT143_96, zr_iinc_5_1, zT143_99, zT143_102, zr_iinc_2_1, zT143_105, zT143_108, zr_return, zcl_i, zcl_r, zcl_l, zcl_n, zv_some, zv_none, Nat.reduceAdd, Nat.reduceMul, Nat.reduceSub, Nat.reduceLT, Nat.reduceLeDiff, Nat.reduceEqDiff, Int.reduceToNat, true_implies, false_implies, implies_true, and_true, true_and, not_true_eq_false, not_false_eq_true, Nat.zero_add, Nat.add_zero, nI_add, nI_ltI, nI_leI, nI_eq, pk_mul, pk_sub, u2_same, u2_row, u2_other, hda, hsk, olt_T, olt_F, ole_T, ole_F, oeq_T, oeq_F]
      refine sp_askH hf hdd (by omega) wd hs rfl rfl rfl _ 0 (Nat.zero_add _) fi v6 hrd (by simpa using hn) (fun fi' v h1 h2 h3 => ?_)
      rw [← e1, ← e2, ← e3, ← e4, ← e5] at h1
      simp (disch := first | assumption | rfl | exact zle_0 | exact zle_1 | exact zle_2 | exact zle_3 | exact zle_4 | exact zb_0 | exact zb_1 | exact zb01_B | omega) only [zT143_102, zr_iinc_2_1, zT143_105, zr_goto, zcl_i, zcl_r, zcl_l, zcl_n, zv_some, zv_none, Nat.reduceAdd, Nat.reduceMul, Nat.reduceSub, Nat.reduceLT, Nat.reduceLeDiff, Nat.reduceEqDiff, Int.reduceToNat, true_implies, false_implies, implies_true, and_true, true_and, not_true_eq_false, not_false_eq_true, Nat.zero_add, Nat.add_zero, nI_add, nI_ltI, nI_leI, nI_eq, pk_mul, pk_sub, u2_same, u2_row, u2_other, olt_T, olt_F, ole_T, ole_F, oeq_T, oeq_F]
      exact ih (i + 1) (by omega) fi' _ _ _ _ (hr.fr (fun j j1 j2 => h2 j (by omega) (by omega))) h1 (fun fi2 q1 q2 q3 => hQ fi2 q1 (fun j j1 j2 => by rw [q2 j j1 j2, h2 j j1 j2]) (fun f hf' => by rw [q3 f hf', h3 f hf']))
    · have e0 : a_hof w i (a_at key i) = 0 := by unfold a_hof; rw [if_neg hs]
      have e1 : n_sum (n_sr w) key (i + 1) = n_sum (n_sr w) key i := by show _ + n_sr w i _ = _; unfold n_sr; rw [if_neg hs]; rfl
      have e2 : n_sum (n_br w) key (i + 1) = n_sum (n_br w) key i := by show _ + n_br w i _ = _; unfold n_br; rw [if_neg hs]; rfl
      have e3 : n_sum (n_sl w) key (i + 1) = n_sum (n_sl w) key i := by show _ + n_sl w i _ = _; unfold n_sl; rw [if_neg hs]; rfl
      have e4 : n_sum (n_bl w) key (i + 1) = n_sum (n_bl w) key i := by show _ + n_bl w i _ = _; unfold n_bl; rw [if_neg hs]; rfl
      have e5 : n_sum (n_kn w) key (i + 1) = n_sum (n_kn w) key i := by show _ + n_kn w i _ = _; unfold n_kn; rw [if_neg hs]; rfl
      rw [e0] at hho
      rw [← e1, ← e2, ← e3, ← e4, ← e5] at hn
      simp (disch := first | assumption | rfl | exact zle_0 | exact zle_1 | exact zle_2 | exact zle_3 | exact zle_4 | exact zb_0 | exact zb_1 | exact zb01_B | omega) only [zT143_14, zr_iload_2, zcl_i, zcl_r, zcl_l, zcl_n, zv_some, zv_none, Nat.reduceAdd, Nat.reduceMul, Nat.reduceSub, Nat.reduceLT, Nat.reduceLeDiff, Nat.reduceEqDiff, Int.reduceToNat, true_implies, false_implies, implies_true, and_true, true_and, not_true_eq_false, not_false_eq_true, Nat.zero_add, Nat.add_zero, nI_add, nI_ltI, nI_leI, nI_eq, pk_mul, pk_sub, u2_same, u2_row, u2_other]
      simp (disch := first | assumption | rfl | exact zle_0 | exact zle_1 | exact zle_2 | exact zle_3 | exact zle_4 | exact zb_0 | exact zb_1 | exact zb01_B | omega) only [zT143_0, zr_aload_0, zT143_1, zr_gf_23, zr_or, zr_go, zf_61_23, zT143_4, zr_iv_166, zT143_7, zT143_8, zr_ic_0, zT143_9, zr_pf_24, zT143_12, zT143_13, zr_istore_2, zT143_15, zr_ic_3, zT143_16, zr_icmp_ge, zT143_19, zT143_20, zr_gf_17, zf_61_17, zT143_23, zr_iload_2, zT143_24, zr_iv_187, zT143_27, zr_astore_3, zT143_28, zr_iload_1, zT143_29, zT143_30, zr_iv_121, zT143_33, zr_istore_4, zT143_35, zT143_36, zr_istore_5, zT143_38, zr_iload_5, zT143_40, zr_aload_3, zT143_41, zr_iload_4, zT143_43, zr_iv_154, zT143_46, zT143_49, zT143_50, zT143_52, zT143_54, zr_iv_156, zT143_57, zr_istore_6, zT143_59, zT143_60, zT143_63, zT143_64, zT143_66, zT143_68, zr_iv_155, zT143_71, zr_iload_6, zT143_73, zr_ic_1, zT143_74, zr_iv_167, zT143_77, zT143_78, zr_dup_r, zr_dup_i, zT143_79, zr_gf_24, zT143_82, zT143_84, zr_if_eq, zT143_87, zT143_88, zr_goto, zT143_91, zT143_92, zr_iadd, zT143_93, zT143_96, zr_iinc_5_1, zT143_99, zT143_102, zr_iinc_2_1, zT143_105, zT143_108, zr_return, zcl_i, zcl_r, zcl_l, zcl_n, zv_some, zv_none, Nat.reduceAdd, Nat.reduceMul, Nat.reduceSub, Nat.reduceLT, Nat.reduceLeDiff, Nat.reduceEqDiff, Int.reduceToNat, true_implies, false_implies, implies_true, and_true, true_and, not_true_eq_false, not_false_eq_true, Nat.zero_add, Nat.add_zero, nI_add, nI_ltI, nI_leI, nI_eq, pk_mul, pk_sub, u2_same, u2_row, u2_other, hda, hsk, hho, olt_T, olt_F, ole_T, ole_F, oeq_T, oeq_F]
      exact ih (i + 1) (by omega) fi _ _ _ _ hr hn hQ
theorem sp_ask (hf : z_FR fr) (hw : a_WF w) {key : Nat} (hkey : key < 64) (hr : z_KR fi 19 w)
    (hQ : ∀ fi', z_NR fi' (n_sum (n_sr w) key 3) (n_sum (n_br w) key 3) (n_sum (n_sl w) key 3) (n_sum (n_bl w) key 3) (n_sum (n_kn w) key 3) → (∀ j, j ≠ 67 → j ≠ 61 → fi' j = fi j) → (∀ f, f ≠ 24 → fi' 61 f = fi 61 f) → Q none (151, fi', fl, fr)) :
    TT 143 0 [some (.ref 61), some (.int (nI key)), none, none, none, none, none] [] (151, fi, fl, fr) Q := by
  have o61 : z_ok 151 61 12 = true := rfl; have o67 : z_ok 151 67 15 = true := rfl
  simp (disch := first | assumption | rfl | exact zle_0 | exact zle_1 | exact zle_2 | exact zle_3 | exact zle_4 | exact zb_0 | exact zb_1 | exact zb01_B | omega) only [zT143_0, zr_aload_0, zT143_1, zr_gf_23, zr_or, zr_go, zf_61_23, zT143_4, zr_iv_166, zT143_7, zT143_8, zr_ic_0, zT143_9, zr_pf_24, zT143_12, zT143_13, zr_istore_2, zT166_0, zT166_1, zT166_2, zr_pf_36, zT166_5, zT166_6, zT166_7, zr_pf_37, zT166_10, zT166_11, zT166_12, zr_pf_38, zT166_15, zT166_16, zT166_17, zr_pf_39, zT166_20, zT166_21, zT166_22, zr_pf_40, zT166_25, zr_return, zcl_i, zcl_r, zcl_l, zcl_n, zv_some, zv_none, Nat.reduceAdd, Nat.reduceMul, Nat.reduceSub, Nat.reduceLT, Nat.reduceLeDiff, Nat.reduceEqDiff, Int.reduceToNat, true_implies, false_implies, implies_true, and_true, true_and, not_true_eq_false, not_false_eq_true, Nat.zero_add, Nat.add_zero, nI_add, nI_ltI, nI_leI, nI_eq, pk_mul, pk_sub, u2_same, u2_row, u2_other]
  refine sp_ask_ hf hw hkey 3 0 rfl _ _ _ _ _ (hr.fr (fun j j1 j2 => ?_)) ⟨?_, ?_, ?_, ?_, ?_⟩ (fun fi' h1 h2 h3 => hQ fi' h1 (fun j j1 j2 => ?_) (fun f hf' => ?_))
  · simp (disch := omega) only [u2_ne]
  · simp (disch := omega) only [u2_row, u2_other, u2_same]; rfl
  · simp (disch := omega) only [u2_row, u2_other, u2_same]; rfl
  · simp (disch := omega) only [u2_row, u2_other, u2_same]; rfl
  · simp (disch := omega) only [u2_row, u2_other, u2_same]; rfl
  · simp (disch := omega) only [u2_row, u2_other, u2_same]; rfl
  · rw [h2 j j1 j2]; simp (disch := omega) only [u2_ne]
  · rw [h3 f hf']; simp (disch := first | assumption | omega) only [u2_row, u2_other]
end
