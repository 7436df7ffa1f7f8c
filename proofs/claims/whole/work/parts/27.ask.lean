/-! what a minute asks for -/
def n_sr (w : Nat → Nat) (i s : Nat) : Nat := if s < a_sm w i then min (a_st w i s 0) (a_st w i s 2) else 0
def n_br (w : Nat → Nat) (i s : Nat) : Nat := if s < a_sm w i then a_st w i s 0 - min (a_st w i s 0) (a_st w i s 2) else 0
def n_sl (w : Nat → Nat) (i s : Nat) : Nat := if s < a_sm w i then a_st w i s 2 - min (a_st w i s 0) (a_st w i s 2) else 0
def n_bl (w : Nat → Nat) (i s : Nat) : Nat := if s < a_sm w i then a_st w i s 1 - (a_st w i s 2 - min (a_st w i s 0) (a_st w i s 2)) else 0
def n_kn (w : Nat → Nat) (i s : Nat) : Nat := if s < a_sm w i then a_st w i s 2 else 0
/-- over the dishes of a key, the first n of them -/
def n_sum (f : Nat → Nat → Nat) (key : Nat) : Nat → Nat
  | 0 => 0
  | n + 1 => n_sum f key n + f n (a_at key n)
def z_NR (fi : Nat → Nat → Int32) (a b c d kn : Nat) : Prop := fi 67 36 = nI a ∧ fi 67 37 = nI b ∧ fi 67 38 = nI c ∧ fi 67 39 = nI d ∧ fi 61 24 = nI kn
section
variable {fi : Nat → Nat → Int32} {fl : Nat → Nat → Int64} {fr : Nat → Nat → Option Nat} {Q : Option Value → Mm → Prop} {w : Nat → Nat} {k : Nat} {M : Mm}
theorem z_DR.frame {fi' : Nat → Nat → Int32} {d i : Nat} (h : z_DR fi d w i) (hf : ∀ j, d ≤ j → j < d + 5 → fi' j = fi j) : z_DR fi' d w i := by
  obtain ⟨h1, h2, h3⟩ := h
  refine ⟨?_, ?_, fun s hs => ?_⟩
  · rw [hf _ (by omega) (by omega)]; exact h1
  · rw [hf _ (by omega) (by omega)]; exact h2
  · rw [hf _ (by omega) (by omega), hf _ (by omega) (by omega), hf _ (by omega) (by omega), hf _ (by omega) (by omega)]; exact h3 s hs
theorem sp_addStep {a b c d r l kn : Nat} (hk : kn ≤ r + l) (h1 : fi 67 36 = nI a) (h2 : fi 67 37 = nI b) (h3 : fi 67 38 = nI c) (h4 : fi 67 39 = nI d) (hb : r < 100 ∧ l < 100)
    (hQ : ∀ fi', fi' 67 36 = nI (a + min r kn) → fi' 67 37 = nI (b + (r - min r kn)) → fi' 67 38 = nI (c + (kn - min r kn)) → fi' 67 39 = nI (d + (l - (kn - min r kn))) → (∀ j, j ≠ 67 → fi' j = fi j) → Q none (151, fi', fl, fr)) :
    TT 168 0 [some (.ref 67), some (.int (nI r)), some (.int (nI l)), some (.int (nI kn)), none, none] [] (151, fi, fl, fr) Q := by
  have o67 : z_ok 151 67 15 = true := rfl
  by_cases hc : kn < r
  · simp (disch := first | assumption | rfl | exact zle_0 | exact zle_1 | exact zle_2 | exact zle_3 | exact zle_4 | exact zb_0 | exact zb_1 | exact zb01_B | omega) only [zT168_0, zr_iload_3, zT168_1, zr_iload_1, zT168_2, zr_icmp_ge, zT168_5, zT168_6, zr_goto, zT168_9, zT168_10, zr_istore_4, zT168_12, zT168_13, zr_iload_4, zT168_15, zr_isub, zT168_16, zr_istore_5, zT168_18, zr_aload_0, zT168_19, zr_dup_r, zr_dup_i, zT168_20, zr_gf_36, zT168_23, zT168_25, zr_iadd, zT168_26, zr_pf_36, zT168_29, zT168_30, zT168_31, zr_gf_37, zT168_34, zT168_35, zT168_37, zT168_38, zT168_39, zr_pf_37, zT168_42, zT168_43, zT168_44, zr_gf_38, zT168_47, zr_iload_5, zT168_49, zT168_50, zr_pf_38, zT168_53, zT168_54, zT168_55, zr_gf_39, zT168_58, zr_iload_2, zT168_59, zT168_61, zT168_62, zT168_63, zr_pf_39, zT168_66, zr_return, zcl_i, zcl_r, zcl_l, zcl_n, zv_some, zv_none, Nat.reduceAdd, Nat.reduceMul, Nat.reduceSub, Nat.reduceLT, Nat.reduceLeDiff, Nat.reduceEqDiff, Int.reduceToNat, true_implies, false_implies, implies_true, and_true, true_and, not_true_eq_false, not_false_eq_true, Nat.zero_add, Nat.add_zero, nI_add, nI_ltI, nI_leI, nI_eq, pk_mul, pk_sub, u2_same, u2_row, u2_other, h1, h2, h3, h4, olt_T, olt_F, ole_T, ole_F, oeq_T, oeq_F]
    refine hQ _ ?_ ?_ ?_ ?_ (fun j hj => ?_)
    all_goals first
      | (simp (disch := omega) only [u2_same, u2_row, u2_other]; congr 1; omega)
      | simp (disch := omega) only [u2_ne]
  · simp (disch := first | assumption | rfl | exact zle_0 | exact zle_1 | exact zle_2 | exact zle_3 | exact zle_4 | exact zb_0 | exact zb_1 | exact zb01_B | omega) only [zT168_0, zr_iload_3, zT168_1, zr_iload_1, zT168_2, zr_icmp_ge, zT168_5, zT168_6, zr_goto, zT168_9, zT168_10, zr_istore_4, zT168_12, zT168_13, zr_iload_4, zT168_15, zr_isub, zT168_16, zr_istore_5, zT168_18, zr_aload_0, zT168_19, zr_dup_r, zr_dup_i, zT168_20, zr_gf_36, zT168_23, zT168_25, zr_iadd, zT168_26, zr_pf_36, zT168_29, zT168_30, zT168_31, zr_gf_37, zT168_34, zT168_35, zT168_37, zT168_38, zT168_39, zr_pf_37, zT168_42, zT168_43, zT168_44, zr_gf_38, zT168_47, zr_iload_5, zT168_49, zT168_50, zr_pf_38, zT168_53, zT168_54, zT168_55, zr_gf_39, zT168_58, zr_iload_2, zT168_59, zT168_61, zT168_62, zT168_63, zr_pf_39, zT168_66, zr_return, zcl_i, zcl_r, zcl_l, zcl_n, zv_some, zv_none, Nat.reduceAdd, Nat.reduceMul, Nat.reduceSub, Nat.reduceLT, Nat.reduceLeDiff, Nat.reduceEqDiff, Int.reduceToNat, true_implies, false_implies, implies_true, and_true, true_and, not_true_eq_false, not_false_eq_true, Nat.zero_add, Nat.add_zero, nI_add, nI_ltI, nI_leI, nI_eq, pk_mul, pk_sub, u2_same, u2_row, u2_other, h1, h2, h3, h4, olt_T, olt_F, ole_T, ole_F, oeq_T, oeq_F]
    refine hQ _ ?_ ?_ ?_ ?_ (fun j hj => ?_)
    all_goals first
      | (simp (disch := omega) only [u2_same, u2_row, u2_other]; congr 1; omega)
      | simp (disch := omega) only [u2_ne]
theorem a_at_lt {key d : Nat} : a_at key d < 4 := Nat.mod_lt _ (by decide)
theorem sp_ask_ (hf : z_FR fr) (hw : a_WF w) {key : Nat} (hkey : key < 64) : ∀ m i, i + m = 3 → ∀ (fi : Nat → Nat → Int32) (v3 v4 : Option Value), z_KR fi 19 w → z_NR fi (n_sum (n_sr w) key i) (n_sum (n_br w) key i) (n_sum (n_sl w) key i) (n_sum (n_bl w) key i) (n_sum (n_kn w) key i) →
    (∀ fi', z_NR fi' (n_sum (n_sr w) key 3) (n_sum (n_br w) key 3) (n_sum (n_sl w) key 3) (n_sum (n_bl w) key 3) (n_sum (n_kn w) key 3) → (∀ j, j ≠ 67 → j ≠ 61 → fi' j = fi j) → (∀ f, f ≠ 24 → fi' 61 f = fi 61 f) → Q none (151, fi', fl, fr)) →
    TT 143 14 [some (.ref 61), some (.int (nI key)), some (.int (nI i)), v3, v4] [] (151, fi, fl, fr) Q := by
  have hk := z_Kok_of hf (k := 19) (by decide)
  have o19 : z_ok 151 19 16 = true := rfl; have o61 : z_ok 151 61 12 = true := rfl; have o67 : z_ok 151 67 15 = true := rfl
  intro m
  induction m with
  | zero =>
    intro i hi fi v3 v4 hr hn hQ
    obtain rfl : i = 3 := by omega
    simp (disch := first | assumption | rfl | exact zle_0 | exact zle_1 | exact zle_2 | exact zle_3 | exact zle_4 | exact zb_0 | exact zb_1 | exact zb01_B | omega) only [zT143_14, zr_iload_2, zT143_15, zr_ic_3, zT143_16, zr_icmp_ge, zT143_94, zr_return, zcl_i, zcl_r, zcl_l, zcl_n, zv_some, zv_none, Nat.reduceAdd, Nat.reduceMul, Nat.reduceSub, Nat.reduceLT, Nat.reduceLeDiff, Nat.reduceEqDiff, Int.reduceToNat, true_implies, false_implies, implies_true, and_true, true_and, not_true_eq_false, not_false_eq_true, Nat.zero_add, Nat.add_zero, nI_add, nI_ltI, nI_leI, nI_eq, pk_mul, pk_sub, u2_same, u2_row, u2_other, olt_T, olt_F, ole_T, ole_F, oeq_T, oeq_F]
    exact hQ fi hn (fun _ _ _ => rfl) (fun _ _ => rfl)
  | succ m ih =>
    intro i hi fi v3 v4 hr hn hQ
    have hi3 : i < 3 := by omega
    have wd := (hw.2.2.2.1 i hi3).1
    have hda := fun Q => sp_dishAt (fi := fi) (fl := fl) (Q := Q) hk hi3
    have hsk := fun M Q => sp_stepInKey (M := M) (Q := Q) hkey hi3
    have hs4 := a_at_lt (key := key) (d := i)
    have hdd := (hk.2.2.2.2 i hi3).2
    have od := hdd.1
    have hrd := hr.2.2.1 i hi3
    have hhs := fun Q => sp_hasStep (fl := fl) (Q := Q) hdd hrd wd.1 hs4
    have wd1 := wd.1
    have zt : zB true = nI 1 := rfl
    have zf : zB false = nI 0 := rfl
    by_cases hs : a_at key i < a_sm w i
    · have hb := wd.2 _ hs
      have e1 : n_sum (n_sr w) key (i + 1) = n_sum (n_sr w) key i + min (a_st w i (a_at key i) 0) (a_st w i (a_at key i) 2) := by show _ + n_sr w i _ = _; unfold n_sr; rw [if_pos hs]
      have e2 : n_sum (n_br w) key (i + 1) = n_sum (n_br w) key i + (a_st w i (a_at key i) 0 - min (a_st w i (a_at key i) 0) (a_st w i (a_at key i) 2)) := by show _ + n_br w i _ = _; unfold n_br; rw [if_pos hs]
      have e3 : n_sum (n_sl w) key (i + 1) = n_sum (n_sl w) key i + (a_st w i (a_at key i) 2 - min (a_st w i (a_at key i) 0) (a_st w i (a_at key i) 2)) := by show _ + n_sl w i _ = _; unfold n_sl; rw [if_pos hs]
      have e4 : n_sum (n_bl w) key (i + 1) = n_sum (n_bl w) key i + (a_st w i (a_at key i) 1 - (a_st w i (a_at key i) 2 - min (a_st w i (a_at key i) 0) (a_st w i (a_at key i) 2))) := by show _ + n_bl w i _ = _; unfold n_bl; rw [if_pos hs]
      have e5 : n_sum (n_kn w) key (i + 1) = n_sum (n_kn w) key i + a_st w i (a_at key i) 2 := by show _ + n_kn w i _ = _; unfold n_kn; rw [if_pos hs]
      rw [decide_eq_true hs] at hhs
      have q := hrd.2.2 _ hs
      obtain ⟨g1, g2, g3, g4, g5⟩ := hn
      have ⟨_, ⟨x1, x2, x3, _⟩, ⟨y1, y2, y3, _⟩, p1, p2, p3, _⟩ := hdd
      have ⟨qa, qb, qc, _⟩ := q
      simp only [Nat.reduceAdd] at x1 x2 x3 y1 y2 y3 p1 p2 p3 qa qb qc
      simp (disch := first | assumption | rfl | exact zle_0 | exact zle_1 | exact zle_2 | exact zle_3 | exact zle_4 | exact zb_0 | exact zb_1 | exact zb01_B | omega) only [zT143_14, zr_iload_2, zcl_i, zcl_r, zcl_l, zcl_n, zv_some, zv_none, Nat.reduceAdd, Nat.reduceMul, Nat.reduceSub, Nat.reduceLT, Nat.reduceLeDiff, Nat.reduceEqDiff, Int.reduceToNat, true_implies, false_implies, implies_true, and_true, true_and, not_true_eq_false, not_false_eq_true, Nat.zero_add, Nat.add_zero, nI_add, nI_ltI, nI_leI, nI_eq, pk_mul, pk_sub, u2_same, u2_row, u2_other]
      simp (disch := first | assumption | rfl | exact zle_0 | exact zle_1 | exact zle_2 | exact zle_3 | exact zle_4 | exact zb_0 | exact zb_1 | exact zb01_B | omega) only [zT143_15, zr_ic_3, zT143_16, zr_icmp_ge, zT143_19, zr_aload_0, zT143_20, zr_gf_17, zr_or, zr_go, zf_61_17, zT143_23, zr_iload_2, zT143_24, zr_iv_188, zT143_27, zr_astore_3, zT143_28, zr_iload_1, zT143_29, zT143_30, zr_iv_121, zT143_33, zr_istore_4, zT143_35, zr_aload_3, zT143_36, zr_iload_4, zT143_38, zr_iv_153, zT143_41, zr_if_eq, zT143_44, zT143_45, zr_gf_23, zf_61_23, zT143_48, zT143_49, zr_gf_28, zT143_52, zT143_54, zr_iald, zT143_55, zT143_56, zr_gf_29, zT143_59, zT143_61, zT143_62, zT143_63, zr_gf_30, zT143_66, zT143_68, zT143_69, zr_iv_168, zcl_i, zcl_r, zcl_l, zcl_n, zv_some, zv_none, Nat.reduceAdd, Nat.reduceMul, Nat.reduceSub, Nat.reduceLT, Nat.reduceLeDiff, Nat.reduceEqDiff, Int.reduceToNat, true_implies, false_implies, implies_true, and_true, true_and, not_true_eq_false, not_false_eq_true, Nat.zero_add, Nat.add_zero, nI_add, nI_ltI, nI_leI, nI_eq, pk_mul, pk_sub, u2_same, u2_row, u2_other, hda, hsk, hhs, zt, p1, p2, p3, qa, qb, qc, olt_T, olt_F, ole_T, ole_F, oeq_T, oeq_F]
      refine sp_addStep (r := a_st w i (a_at key i) 0) (l := a_st w i (a_at key i) 1) (kn := a_st w i (a_at key i) 2) (by omega) g1 g2 g3 g4 (by omega) (fun fi1 h1 h2 h3 h4 h5 => ?_)
      have q3 : fi1 (24 + 5 * i + 3) (a_at key i) = nI (a_st w i (a_at key i) 2) := by rw [h5 _ (by omega)]; exact qc
      have k5 : fi1 61 24 = nI (n_sum (n_kn w) key i) := by rw [h5 61 (by decide)]; exact g5
      rw [← e1] at h1
      rw [← e2] at h2
      rw [← e3] at h3
      rw [← e4] at h4
      simp (disch := first | assumption | rfl | exact zle_0 | exact zle_1 | exact zle_2 | exact zle_3 | exact zle_4 | exact zb_0 | exact zb_1 | exact zb01_B | omega) only [zT143_72, zr_aload_0, zT143_73, zr_dup_r, zr_dup_i, zT143_74, zr_gf_24, zT143_77, zr_aload_3, zT143_78, zr_gf_30, zr_or, zr_go, zT143_81, zr_iload_4, zT143_83, zr_iald, zT143_84, zr_iadd, zT143_85, zr_pf_24, zT143_88, zr_iinc_2_1, zT143_91, zr_goto, zcl_i, zcl_r, zcl_l, zcl_n, zv_some, zv_none, Nat.reduceAdd, Nat.reduceMul, Nat.reduceSub, Nat.reduceLT, Nat.reduceLeDiff, Nat.reduceEqDiff, Int.reduceToNat, true_implies, false_implies, implies_true, and_true, true_and, not_true_eq_false, not_false_eq_true, Nat.zero_add, Nat.add_zero, nI_add, nI_ltI, nI_leI, nI_eq, pk_mul, pk_sub, u2_same, u2_row, u2_other, p3, q3, k5, olt_T, olt_F, ole_T, ole_F, oeq_T, oeq_F]
      rw [← e5]
      refine ih (i + 1) (by omega) _ _ _ (hr.fr (fun j j1 j2 => ?_)) ⟨?_, ?_, ?_, ?_, ?_⟩ (fun fi2 q1 q2 q4 => hQ fi2 q1 (fun j j1 j2 => ?_) (fun f hf' => ?_))
      · simp (disch := omega) only [u2_ne]; exact h5 j (by omega)
      · simp (disch := omega) only [u2_ne]; exact h1
      · simp (disch := omega) only [u2_ne]; exact h2
      · simp (disch := omega) only [u2_ne]; exact h3
      · simp (disch := omega) only [u2_ne]; exact h4
      · simp (disch := omega) only [u2_same]
      · rw [q2 j j1 j2]; simp (disch := omega) only [u2_ne]; exact h5 j j1
      · rw [q4 f hf']; simp (disch := first | assumption | omega) only [u2_row, u2_other]; rw [h5 61 (by decide)]
    · have e1 : n_sum (n_sr w) key (i + 1) = n_sum (n_sr w) key i := by show _ + n_sr w i _ = _; unfold n_sr; rw [if_neg hs]; rfl
      have e2 : n_sum (n_br w) key (i + 1) = n_sum (n_br w) key i := by show _ + n_br w i _ = _; unfold n_br; rw [if_neg hs]; rfl
      have e3 : n_sum (n_sl w) key (i + 1) = n_sum (n_sl w) key i := by show _ + n_sl w i _ = _; unfold n_sl; rw [if_neg hs]; rfl
      have e4 : n_sum (n_bl w) key (i + 1) = n_sum (n_bl w) key i := by show _ + n_bl w i _ = _; unfold n_bl; rw [if_neg hs]; rfl
      have e5 : n_sum (n_kn w) key (i + 1) = n_sum (n_kn w) key i := by show _ + n_kn w i _ = _; unfold n_kn; rw [if_neg hs]; rfl
      rw [decide_eq_false hs] at hhs
      rw [← e1, ← e2, ← e3, ← e4, ← e5] at hn
      simp (disch := first | assumption | rfl | exact zle_0 | exact zle_1 | exact zle_2 | exact zle_3 | exact zle_4 | exact zb_0 | exact zb_1 | exact zb01_B | omega) only [zT143_14, zr_iload_2, zcl_i, zcl_r, zcl_l, zcl_n, zv_some, zv_none, Nat.reduceAdd, Nat.reduceMul, Nat.reduceSub, Nat.reduceLT, Nat.reduceLeDiff, Nat.reduceEqDiff, Int.reduceToNat, true_implies, false_implies, implies_true, and_true, true_and, not_true_eq_false, not_false_eq_true, Nat.zero_add, Nat.add_zero, nI_add, nI_ltI, nI_leI, nI_eq, pk_mul, pk_sub, u2_same, u2_row, u2_other]
      simp (disch := first | assumption | rfl | exact zle_0 | exact zle_1 | exact zle_2 | exact zle_3 | exact zle_4 | exact zb_0 | exact zb_1 | exact zb01_B | omega) only [zT143_0, zr_aload_0, zT143_1, zr_gf_23, zr_or, zr_go, zf_61_23, zT143_4, zr_iv_166, zT143_7, zT143_8, zr_ic_0, zT143_9, zr_pf_24, zT143_12, zT143_13, zr_istore_2, zT143_15, zr_ic_3, zT143_16, zr_icmp_ge, zT143_19, zT143_20, zr_gf_17, zf_61_17, zT143_23, zr_iload_2, zT143_24, zr_iv_188, zT143_27, zr_astore_3, zT143_28, zr_iload_1, zT143_29, zT143_30, zr_iv_121, zT143_33, zr_istore_4, zT143_35, zr_aload_3, zT143_36, zr_iload_4, zT143_38, zr_iv_153, zT143_41, zr_if_eq, zT143_44, zT143_45, zT143_48, zT143_49, zr_gf_28, zT143_52, zT143_54, zr_iald, zT143_55, zT143_56, zr_gf_29, zT143_59, zT143_61, zT143_62, zT143_63, zr_gf_30, zT143_66, zT143_68, zT143_69, zr_iv_168, zT143_72, zT143_73, zr_dup_r, zr_dup_i, zT143_74, zr_gf_24, zT143_77, zT143_78, zT143_81, zT143_83, zT143_84, zr_iadd, zT143_85, zT143_88, zr_iinc_2_1, zT143_91, zr_goto, zT143_94, zr_return, zcl_i, zcl_r, zcl_l, zcl_n, zv_some, zv_none, Nat.reduceAdd, Nat.reduceMul, Nat.reduceSub, Nat.reduceLT, Nat.reduceLeDiff, Nat.reduceEqDiff, Int.reduceToNat, true_implies, false_implies, implies_true, and_true, true_and, not_true_eq_false, not_false_eq_true, Nat.zero_add, Nat.add_zero, nI_add, nI_ltI, nI_leI, nI_eq, pk_mul, pk_sub, u2_same, u2_row, u2_other, hda, hsk, hhs, zf, olt_T, olt_F, ole_T, ole_F, oeq_T, oeq_F]
      exact ih (i + 1) (by omega) fi _ _ hr hn hQ
theorem sp_ask (hf : z_FR fr) (hw : a_WF w) {key : Nat} (hkey : key < 64) (hr : z_KR fi 19 w)
    (hQ : ∀ fi', z_NR fi' (n_sum (n_sr w) key 3) (n_sum (n_br w) key 3) (n_sum (n_sl w) key 3) (n_sum (n_bl w) key 3) (n_sum (n_kn w) key 3) → (∀ j, j ≠ 67 → j ≠ 61 → fi' j = fi j) → (∀ f, f ≠ 24 → fi' 61 f = fi 61 f) → Q none (151, fi', fl, fr)) :
    TT 143 0 [some (.ref 61), some (.int (nI key)), none, none, none] [] (151, fi, fl, fr) Q := by
  have o61 : z_ok 151 61 12 = true := rfl; have o67 : z_ok 151 67 15 = true := rfl
  simp (disch := first | assumption | rfl | exact zle_0 | exact zle_1 | exact zle_2 | exact zle_3 | exact zle_4 | exact zb_0 | exact zb_1 | exact zb01_B | omega) only [zT143_0, zr_aload_0, zT143_1, zr_gf_23, zr_or, zr_go, zf_61_23, zT143_4, zr_iv_166, zT143_7, zT143_8, zr_ic_0, zT143_9, zr_pf_24, zT143_12, zT143_13, zr_istore_2, zT166_0, zT166_1, zT166_2, zr_pf_36, zT166_5, zT166_6, zT166_7, zr_pf_37, zT166_10, zT166_11, zT166_12, zr_pf_38, zT166_15, zT166_16, zT166_17, zr_pf_39, zT166_20, zT166_21, zT166_22, zr_pf_40, zT166_25, zr_return, zcl_i, zcl_r, zcl_l, zcl_n, zv_some, zv_none, Nat.reduceAdd, Nat.reduceMul, Nat.reduceSub, Nat.reduceLT, Nat.reduceLeDiff, Nat.reduceEqDiff, Int.reduceToNat, true_implies, false_implies, implies_true, and_true, true_and, not_true_eq_false, not_false_eq_true, Nat.zero_add, Nat.add_zero, nI_add, nI_ltI, nI_leI, nI_eq, pk_mul, pk_sub, u2_same, u2_row, u2_other]
  refine sp_ask_ hf hw hkey 3 0 rfl _ _ _ (hr.fr (fun j j1 j2 => ?_)) ⟨?_, ?_, ?_, ?_, ?_⟩ (fun fi' h1 h2 h3 => hQ fi' h1 (fun j j1 j2 => ?_) (fun f hf' => ?_))
  · simp (disch := omega) only [u2_ne]
  · simp (disch := omega) only [u2_row, u2_other, u2_same]; rfl
  · simp (disch := omega) only [u2_row, u2_other, u2_same]; rfl
  · simp (disch := omega) only [u2_row, u2_other, u2_same]; rfl
  · simp (disch := omega) only [u2_row, u2_other, u2_same]; rfl
  · simp (disch := omega) only [u2_row, u2_other, u2_same]; rfl
  · rw [h2 j j1 j2]; simp (disch := omega) only [u2_ne]
  · rw [h3 f hf']; simp (disch := first | assumption | omega) only [u2_row, u2_other]
end
