/-! are the hands left enough for the rest, in the model -/
section
variable {fi fi' : Nat → Nat → Int32} {fl fl' : Nat → Nat → Int64} {fr : Nat → Nat → Option Nat} {Q : Option Value → Mm → Prop} {w : Nat → Nat} {k : Nat} {M : Mm} {ws : Nat → Nat → Nat} {nn tx : Nat → Nat} {n : Nat}
theorem z_WL.at {l : List Hd} (h : z_WL fi l) {j : Nat} {x : Hd} {t : List Hd} (hd : l.drop j = x :: t) : j < l.length ∧ fi 146 j = nI (sd x) ∧ fi 144 j = nI x.1 ∧ l.drop (j + 1) = t := by
  have jl : j < l.length := by
    rcases Nat.lt_or_ge j l.length with c | c
    · exact c
    · rw [List.drop_eq_nil_of_le c] at hd; exact absurd hd (by simp)
  have e := List.drop_eq_getElem_cons (l := l) (i := j) jl
  obtain ⟨e1, e2⟩ := List.cons.inj (hd.symm.trans e)
  have g := h.2 j x (by rw [List.getElem?_eq_getElem jl, ← e1])
  exact ⟨jl, g.1, g.2, e2.symm⟩
theorem sm_ec_ (hf : z_FR fr) {l : List Hd} (hl : z_WL fi l) (h18 : l.length ≤ 18) {x1 : Int32} : ∀ (t : List Hd) j A B C D, l.drop j = t → j ≤ l.length → A ≤ j → B ≤ j → C ≤ j → D ≤ j → TT 53 13 [some (.ref 133), some (.int x1), some (.int (nI A)), some (.int (nI B)), some (.int (nI C)), some (.int (nI D)), some (.int (nI j))] [] (151, fi, fl, fr) Q = TT 53 107 [some (.ref 133), some (.int x1), some (.int (nI (A + l_cnt true true t))), some (.int (nI (B + l_cnt true false t))), some (.int (nI (C + l_cnt false true t))), some (.int (nI (D + l_cnt false false t))), some (.int (nI l.length))] [] (151, fi, fl, fr) Q := by
  have o133 : z_ok 151 133 20 = true := rfl; have o146 : z_ok 151 146 1 = true := rfl
  have l146 : z_al 146 = 18 := rfl
  have e0 := hl.1
  intro t
  induction t with
  | nil =>
    intro j A B C D hd hj a b c d
    have jl : l.length ≤ j := by
      have e := congrArg List.length hd
      rw [List.length_drop, List.length_nil] at e
      omega
    obtain rfl : j = l.length := by omega
    simp (disch := first | assumption | rfl | exact zle_0 | exact zle_1 | exact zle_2 | exact zle_3 | exact zle_4 | exact zb_0 | exact zb_1 | exact zb01_B | omega) only [zT53_13, zr_iload_6, zT53_15, zr_aload_0, zT53_16, zr_gf_90, zT53_19, zr_icmp_ge, zcl_i, zcl_r, zcl_l, zcl_n, zv_some, zv_none, Nat.reduceAdd, Nat.reduceMul, Nat.reduceSub, Nat.reduceLT, Nat.reduceLeDiff, Nat.reduceEqDiff, Int.reduceToNat, true_implies, false_implies, implies_true, and_true, true_and, not_true_eq_false, not_false_eq_true, Nat.zero_add, Nat.add_zero, nI_add, nI_ltI, nI_leI, nI_eq, pk_mul, pk_sub, u2_same, u2_row, u2_other, e0, olt_T, olt_F, ole_T, ole_F, oeq_T, oeq_F]
    rfl
  | cons x t ih =>
    intro j A B C D hd hj a b c d
    obtain ⟨jl, g1, g2, g3⟩ := hl.at hd
    have ih' := fun A B C D a b c d => ih (j + 1) A B C D g3 (by omega) a b c d
    obtain ⟨i, ri, sh⟩ := x
    have z : ∀ r s, l_cnt r s ((i, ri, sh) :: t) = (if ri = r ∧ sh = s then 1 else 0) + l_cnt r s t := fun _ _ => rfl
    rw [z, z, z, z]
    generalize l_cnt true true t = n1 at *
    generalize l_cnt true false t = n2 at *
    generalize l_cnt false true t = n3 at *
    generalize l_cnt false false t = n4 at *
    generalize l.length = len at *
    simp (disch := first | assumption | rfl | exact zle_0 | exact zle_1 | exact zle_2 | exact zle_3 | exact zle_4 | exact zb_0 | exact zb_1 | exact zb01_B | omega) only [zT53_13, zr_iload_6, zcl_i, zcl_r, zcl_l, zcl_n, zv_some, zv_none, Nat.reduceAdd, Nat.reduceMul, Nat.reduceSub, Nat.reduceLT, Nat.reduceLeDiff, Nat.reduceEqDiff, Int.reduceToNat, true_implies, false_implies, implies_true, and_true, true_and, not_true_eq_false, not_false_eq_true, Nat.zero_add, Nat.add_zero, nI_add, nI_ltI, nI_leI, nI_eq, pk_mul, pk_sub, u2_same, u2_row, u2_other]
    cases ri <;> cases sh <;> simp only [sd, if_true, if_false, Bool.false_eq_true, and_true, and_false, and_self, true_and, false_and, Nat.zero_add, Nat.reduceAdd, reduceCtorEq] at *
    · have q := ih' A B C (D + 1) (by omega) (by omega) (by omega) (by omega)
      rw [Nat.add_assoc] at q
      simp (disch := first | assumption | rfl | exact zle_0 | exact zle_1 | exact zle_2 | exact zle_3 | exact zle_4 | exact zb_0 | exact zb_1 | exact zb01_B | omega) only [zT53_15, zr_aload_0, zT53_16, zr_gf_90, zT53_19, zr_icmp_ge, zT53_22, zr_iload_2, zT53_23, zT53_24, zr_gf_93, zr_or, zr_go, zf_133_93, zT53_27, zr_iload_6, zT53_29, zr_iald, zT53_30, zr_if_ne, zT53_33, zr_ic_1, zT53_34, zr_goto, zT53_37, zr_ic_0, zT53_38, zr_iadd, zT53_39, zr_istore_2, zT53_40, zr_iload_3, zT53_41, zT53_42, zT53_45, zT53_47, zT53_48, zT53_49, zr_icmp_ne, zT53_52, zT53_53, zT53_56, zT53_57, zT53_58, zr_istore_3, zT53_59, zr_iload_4, zT53_61, zT53_62, zT53_65, zT53_67, zT53_68, zr_ic_2, zT53_69, zT53_72, zT53_73, zT53_76, zT53_77, zT53_78, zr_istore_4, zT53_80, zr_iload_5, zT53_82, zT53_83, zT53_86, zT53_88, zT53_89, zr_ic_3, zT53_90, zT53_93, zT53_94, zT53_97, zT53_98, zT53_99, zr_istore_5, zT53_101, zr_iinc_6_1, zT53_104, zcl_i, zcl_r, zcl_l, zcl_n, zv_some, zv_none, Nat.reduceAdd, Nat.reduceMul, Nat.reduceSub, Nat.reduceLT, Nat.reduceLeDiff, Nat.reduceEqDiff, Int.reduceToNat, true_implies, false_implies, implies_true, and_true, true_and, not_true_eq_false, not_false_eq_true, Nat.zero_add, Nat.add_zero, nI_add, nI_ltI, nI_leI, nI_eq, pk_mul, pk_sub, u2_same, u2_row, u2_other, e0, g1, q, olt_T, olt_F, ole_T, ole_F, oeq_T, oeq_F]
    · have q := ih' A B (C + 1) D (by omega) (by omega) (by omega) (by omega)
      rw [Nat.add_assoc] at q
      simp (disch := first | assumption | rfl | exact zle_0 | exact zle_1 | exact zle_2 | exact zle_3 | exact zle_4 | exact zb_0 | exact zb_1 | exact zb01_B | omega) only [zT53_15, zr_aload_0, zT53_16, zr_gf_90, zT53_19, zr_icmp_ge, zT53_22, zr_iload_2, zT53_23, zT53_24, zr_gf_93, zr_or, zr_go, zf_133_93, zT53_27, zr_iload_6, zT53_29, zr_iald, zT53_30, zr_if_ne, zT53_33, zr_ic_1, zT53_34, zr_goto, zT53_37, zr_ic_0, zT53_38, zr_iadd, zT53_39, zr_istore_2, zT53_40, zr_iload_3, zT53_41, zT53_42, zT53_45, zT53_47, zT53_48, zT53_49, zr_icmp_ne, zT53_52, zT53_53, zT53_56, zT53_57, zT53_58, zr_istore_3, zT53_59, zr_iload_4, zT53_61, zT53_62, zT53_65, zT53_67, zT53_68, zr_ic_2, zT53_69, zT53_72, zT53_73, zT53_76, zT53_77, zT53_78, zr_istore_4, zT53_80, zr_iload_5, zT53_82, zT53_83, zT53_86, zT53_88, zT53_89, zr_ic_3, zT53_90, zT53_93, zT53_94, zT53_97, zT53_98, zT53_99, zr_istore_5, zT53_101, zr_iinc_6_1, zT53_104, zcl_i, zcl_r, zcl_l, zcl_n, zv_some, zv_none, Nat.reduceAdd, Nat.reduceMul, Nat.reduceSub, Nat.reduceLT, Nat.reduceLeDiff, Nat.reduceEqDiff, Int.reduceToNat, true_implies, false_implies, implies_true, and_true, true_and, not_true_eq_false, not_false_eq_true, Nat.zero_add, Nat.add_zero, nI_add, nI_ltI, nI_leI, nI_eq, pk_mul, pk_sub, u2_same, u2_row, u2_other, e0, g1, q, olt_T, olt_F, ole_T, ole_F, oeq_T, oeq_F]
    · have q := ih' A (B + 1) C D (by omega) (by omega) (by omega) (by omega)
      rw [Nat.add_assoc] at q
      simp (disch := first | assumption | rfl | exact zle_0 | exact zle_1 | exact zle_2 | exact zle_3 | exact zle_4 | exact zb_0 | exact zb_1 | exact zb01_B | omega) only [zT53_15, zr_aload_0, zT53_16, zr_gf_90, zT53_19, zr_icmp_ge, zT53_22, zr_iload_2, zT53_23, zT53_24, zr_gf_93, zr_or, zr_go, zf_133_93, zT53_27, zr_iload_6, zT53_29, zr_iald, zT53_30, zr_if_ne, zT53_33, zr_ic_1, zT53_34, zr_goto, zT53_37, zr_ic_0, zT53_38, zr_iadd, zT53_39, zr_istore_2, zT53_40, zr_iload_3, zT53_41, zT53_42, zT53_45, zT53_47, zT53_48, zT53_49, zr_icmp_ne, zT53_52, zT53_53, zT53_56, zT53_57, zT53_58, zr_istore_3, zT53_59, zr_iload_4, zT53_61, zT53_62, zT53_65, zT53_67, zT53_68, zr_ic_2, zT53_69, zT53_72, zT53_73, zT53_76, zT53_77, zT53_78, zr_istore_4, zT53_80, zr_iload_5, zT53_82, zT53_83, zT53_86, zT53_88, zT53_89, zr_ic_3, zT53_90, zT53_93, zT53_94, zT53_97, zT53_98, zT53_99, zr_istore_5, zT53_101, zr_iinc_6_1, zT53_104, zcl_i, zcl_r, zcl_l, zcl_n, zv_some, zv_none, Nat.reduceAdd, Nat.reduceMul, Nat.reduceSub, Nat.reduceLT, Nat.reduceLeDiff, Nat.reduceEqDiff, Int.reduceToNat, true_implies, false_implies, implies_true, and_true, true_and, not_true_eq_false, not_false_eq_true, Nat.zero_add, Nat.add_zero, nI_add, nI_ltI, nI_leI, nI_eq, pk_mul, pk_sub, u2_same, u2_row, u2_other, e0, g1, q, olt_T, olt_F, ole_T, ole_F, oeq_T, oeq_F]
    · have q := ih' (A + 1) B C D (by omega) (by omega) (by omega) (by omega)
      rw [Nat.add_assoc] at q
      simp (disch := first | assumption | rfl | exact zle_0 | exact zle_1 | exact zle_2 | exact zle_3 | exact zle_4 | exact zb_0 | exact zb_1 | exact zb01_B | omega) only [zT53_15, zr_aload_0, zT53_16, zr_gf_90, zT53_19, zr_icmp_ge, zT53_22, zr_iload_2, zT53_23, zT53_24, zr_gf_93, zr_or, zr_go, zf_133_93, zT53_27, zr_iload_6, zT53_29, zr_iald, zT53_30, zr_if_ne, zT53_33, zr_ic_1, zT53_34, zr_goto, zT53_37, zr_ic_0, zT53_38, zr_iadd, zT53_39, zr_istore_2, zT53_40, zr_iload_3, zT53_41, zT53_42, zT53_45, zT53_47, zT53_48, zT53_49, zr_icmp_ne, zT53_52, zT53_53, zT53_56, zT53_57, zT53_58, zr_istore_3, zT53_59, zr_iload_4, zT53_61, zT53_62, zT53_65, zT53_67, zT53_68, zr_ic_2, zT53_69, zT53_72, zT53_73, zT53_76, zT53_77, zT53_78, zr_istore_4, zT53_80, zr_iload_5, zT53_82, zT53_83, zT53_86, zT53_88, zT53_89, zr_ic_3, zT53_90, zT53_93, zT53_94, zT53_97, zT53_98, zT53_99, zr_istore_5, zT53_101, zr_iinc_6_1, zT53_104, zcl_i, zcl_r, zcl_l, zcl_n, zv_some, zv_none, Nat.reduceAdd, Nat.reduceMul, Nat.reduceSub, Nat.reduceLT, Nat.reduceLeDiff, Nat.reduceEqDiff, Int.reduceToNat, true_implies, false_implies, implies_true, and_true, true_and, not_true_eq_false, not_false_eq_true, Nat.zero_add, Nat.add_zero, nI_add, nI_ltI, nI_leI, nI_eq, pk_mul, pk_sub, u2_same, u2_row, u2_other, e0, g1, q, olt_T, olt_F, ole_T, ole_F, oeq_T, oeq_F]
theorem sm_eg_ (hf : z_FR fr) (hw : a_WF w) {hl : Nat → Nat} (hs : ∀ c, c < w 0 → hset (hl c)) {x1 v2 v3 v4 v5 : Int32}
    (hQ : ∀ fi', z_MH fi' hl 0 0 (w 0) → z_fh fi fi' → TT 53 163 [some (.ref 133), some (.int x1), some (.int v2), some (.int v3), some (.int v4), some (.int v5), some (.int (nI (w 0)))] [] (151, fi', fl, fr) Q) :
    ∀ m c, c + m = w 0 → ∀ f1, z_MR f1 0 w → z_HL f1 hl (w 0) → z_MH f1 hl 0 0 c → z_fh fi f1 → TT 53 135 [some (.ref 133), some (.int x1), some (.int v2), some (.int v3), some (.int v4), some (.int v5), some (.int (nI c))] [] (151, f1, fl, fr) Q := by
  have o133 : z_ok 151 133 20 = true := rfl; have o134 : z_ok 151 134 1 = true := rfl; have o145 : z_ok 151 145 1 = true := rfl
  have l134 : z_al 134 = 440 := rfl; have l145 : z_al 145 = 6 := rfl
  have h0 := hw.1
  intro m
  induction m with
  | zero =>
    intro c hc f1 hr hh hm hfh
    obtain rfl : c = w 0 := by omega
    have e0 := hr.at0 (i := 0) (by decide)
    have o := hQ f1 hm hfh
    simp (disch := first | assumption | rfl | exact zle_0 | exact zle_1 | exact zle_2 | exact zle_3 | exact zle_4 | exact zb_0 | exact zb_1 | exact zb01_B | omega) only [zT53_135, zr_iload_6, zT53_137, zr_aload_0, zT53_138, zr_gf_71, zr_or, zr_go, zf_133_71, zT53_141, zr_ic_0, zT53_142, zr_iald, zT53_143, zr_icmp_ge, zcl_i, zcl_r, zcl_l, zcl_n, zv_some, zv_none, Nat.reduceAdd, Nat.reduceMul, Nat.reduceSub, Nat.reduceLT, Nat.reduceLeDiff, Nat.reduceEqDiff, Int.reduceToNat, true_implies, false_implies, implies_true, and_true, true_and, not_true_eq_false, not_false_eq_true, Nat.zero_add, Nat.add_zero, nI_add, nI_ltI, nI_leI, nI_eq, pk_mul, pk_sub, u2_same, u2_row, u2_other, e0, olt_T, olt_F, ole_T, ole_F, oeq_T, oeq_F]
    exact o
  | succ m ih =>
    intro c hc f1 hr hh hm hfh
    have e0 := hr.at0 (i := 0) (by decide)
    have ec := hh c (by omega)
    obtain ⟨m1, m2, m3, m4, m5⟩ := hm
    simp (disch := first | assumption | rfl | exact zle_0 | exact zle_1 | exact zle_2 | exact zle_3 | exact zle_4 | exact zb_0 | exact zb_1 | exact zb01_B | omega) only [zT53_135, zr_iload_6, zcl_i, zcl_r, zcl_l, zcl_n, zv_some, zv_none, Nat.reduceAdd, Nat.reduceMul, Nat.reduceSub, Nat.reduceLT, Nat.reduceLeDiff, Nat.reduceEqDiff, Int.reduceToNat, true_implies, false_implies, implies_true, and_true, true_and, not_true_eq_false, not_false_eq_true, Nat.zero_add, Nat.add_zero, nI_add, nI_ltI, nI_leI, nI_eq, pk_mul, pk_sub, u2_same, u2_row, u2_other]
    simp (disch := first | assumption | rfl | exact zle_0 | exact zle_1 | exact zle_2 | exact zle_3 | exact zle_4 | exact zb_0 | exact zb_1 | exact zb01_B | omega) only [zT53_137, zr_aload_0, zT53_138, zr_gf_71, zr_or, zr_go, zf_133_71, zT53_141, zr_ic_0, zT53_142, zr_iald, zT53_143, zr_icmp_ge, zT53_146, zT53_147, zT53_148, zr_gf_92, zf_133_92, zT53_151, zr_iload_6, zT53_153, zT53_154, zr_iv_36, zcl_i, zcl_r, zcl_l, zcl_n, zv_some, zv_none, Nat.reduceAdd, Nat.reduceMul, Nat.reduceSub, Nat.reduceLT, Nat.reduceLeDiff, Nat.reduceEqDiff, Int.reduceToNat, true_implies, false_implies, implies_true, and_true, true_and, not_true_eq_false, not_false_eq_true, Nat.zero_add, Nat.add_zero, nI_add, nI_ltI, nI_leI, nI_eq, pk_mul, pk_sub, u2_same, u2_row, u2_other, e0, ec, olt_T, olt_F, ole_T, ole_F, oeq_T, oeq_F]
    refine sm_giveHand hf (hs c (by omega)) m1 m2 m3 m4 m5 (fun f2 g1 g2 g3 g4 g5 g6 => ?_)
    simp (disch := first | assumption | rfl | exact zle_0 | exact zle_1 | exact zle_2 | exact zle_3 | exact zle_4 | exact zb_0 | exact zb_1 | exact zb01_B | omega) only [zT53_157, zr_iinc_6_1, zT53_160, zr_goto, zcl_i, zcl_r, zcl_l, zcl_n, zv_some, zv_none, Nat.reduceAdd, Nat.reduceMul, Nat.reduceSub, Nat.reduceLT, Nat.reduceLeDiff, Nat.reduceEqDiff, Int.reduceToNat, true_implies, false_implies, implies_true, and_true, true_and, not_true_eq_false, not_false_eq_true, Nat.zero_add, Nat.add_zero, nI_add, nI_ltI, nI_leI, nI_eq, pk_mul, pk_sub, u2_same, u2_row, u2_other, olt_T, olt_F, ole_T, ole_F, oeq_T, oeq_F]
    refine ih (c + 1) (by omega) f2 (fun i hi => by rw [g6.2 134 (by decide)]; exact hr i hi) (fun c hc => by rw [g6.2 145 (by decide)]; exact hh c hc) ⟨g1, g2, ?_, g4, g5⟩ (hfh.tr g6)
    exact g3
theorem sm_isEnoughFrom (hf : z_FR fr) (hw : a_WF w) (hr : z_MR fi 0 w) {l : List Hd} (hwl : z_WL fi l) (h18 : l.length ≤ 18) {hl : Nat → Nat} (hh : z_HL fi hl (w 0)) (hs : ∀ c, c < w 0 → hset (hl c)) (h0 : ∀ c, w 0 ≤ c → hl c = 0) {j : Nat} (hj : j ≤ l.length)
    (hQ : ∀ fi', z_fh fi fi' → Q (some (.int (zB (l_cov hl (l.drop j))))) (151, fi', fl, fr)) :
    TT 53 0 [some (.ref 133), some (.int (nI j)), none, none, none, none, none] [] (151, fi, fl, fr) Q := by
  have o133 : z_ok 151 133 20 = true := rfl
  have w06 := hw.1
  have C := fun Q => sm_ec_ (fl := fl) (Q := Q) (x1 := nI j) hf hwl h18 (l.drop j) j 0 0 0 0 rfl hj (Nat.zero_le _) (Nat.zero_le _) (Nat.zero_le _) (Nat.zero_le _)
  simp only [Nat.zero_add] at C
  have b1 := l_cnt_le (ri := true) (sh := true) (l.drop j)
  have b2 := l_cnt_le (ri := true) (sh := false) (l.drop j)
  have b3 := l_cnt_le (ri := false) (sh := true) (l.drop j)
  have b4 := l_cnt_le (ri := false) (sh := false) (l.drop j)
  rw [List.length_drop] at b1 b2 b3 b4
  have c1 := a_cnt_le (hl := hl) hsr_le 6
  have c2 := a_cnt_le (hl := hl) hbr_le 6
  have c3 := a_cnt_le (hl := hl) hsl_le 6
  have c4 := a_cnt_le (hl := hl) hei_le 6
  have cn : ∀ f : Nat → Nat, f 0 = 0 → a_cnt f hl (w 0) = a_cnt f hl 6 := by
    intro f hf0
    have := a_cnt_more (f := f) (hl := hl) (n := w 0) (6 - w 0) (fun c hc => by rw [h0 c hc, hf0])
    rw [show w 0 + (6 - w 0) = 6 by omega] at this
    exact this.symm
  have L := sm_eg_ (fi := fi) (fl := fl) (Q := Q) (x1 := nI j) (v2 := nI (l_cnt true true (l.drop j))) (v3 := nI (l_cnt true false (l.drop j))) (v4 := nI (l_cnt false true (l.drop j))) (v5 := nI (l_cnt false false (l.drop j))) hf hw hs (fun f1 g1 g2 => by
    obtain ⟨m1, m2, m3, m4, m5⟩ := g1
    rw [cn hsr rfl] at m1
    rw [cn hsl rfl] at m2
    rw [cn hbr rfl, Nat.add_zero] at m3
    rw [cn hei rfl] at m5
    have ae := fun Q => sm_areEnough (fi := f1) (fl := fl) (fr := fr) (Q := Q) (nsr := l_cnt true true (l.drop j)) (nbr := l_cnt true false (l.drop j)) (nsl := l_cnt false true (l.drop j)) (nbl := l_cnt false false (l.drop j)) (sr := a_cnt hsr hl 6) (sl := a_cnt hsl hl 6) (br := a_cnt hbr hl 6) (bl := 0) (ei := a_cnt hei hl 6) (by omega) (by omega)
    have o := hQ f1 g2
    unfold l_cov a_covN at o
    generalize a_cov (a_cnt hsr hl 6) (a_cnt hbr hl 6) (a_cnt hsl hl 6) 0 (a_cnt hei hl 6) (l_cnt true true (l.drop j)) (l_cnt true false (l.drop j)) (l_cnt false true (l.drop j)) (l_cnt false false (l.drop j)) = cv at *
    cases cv
    · simp (disch := first | assumption | rfl | exact zle_0 | exact zle_1 | exact zle_2 | exact zle_3 | exact zle_4 | exact zb_0 | exact zb_1 | exact zb01_B | omega) only [zT53_163, zr_iload_2, zT53_164, zr_iload_3, zT53_165, zr_iload_4, zT53_167, zr_iload_5, zT53_169, zr_aload_0, zT53_170, zr_gf_81, zT53_173, zT53_174, zr_gf_82, zT53_177, zT53_178, zr_gf_83, zT53_181, zT53_182, zr_gf_84, zT53_185, zT53_186, zr_gf_85, zT53_189, zr_iv_38, zT53_192, zr_ret1_0, zr_ret1_1, zr_ret1_B, zcl_i, zcl_r, zcl_l, zcl_n, zv_some, zv_none, Nat.reduceAdd, Nat.reduceMul, Nat.reduceSub, Nat.reduceLT, Nat.reduceLeDiff, Nat.reduceEqDiff, Int.reduceToNat, true_implies, false_implies, implies_true, and_true, true_and, not_true_eq_false, not_false_eq_true, Nat.zero_add, Nat.add_zero, nI_add, nI_ltI, nI_leI, nI_eq, pk_mul, pk_sub, u2_same, u2_row, u2_other, m1, m2, m3, m4, m5, ae, olt_T, olt_F, ole_T, ole_F, oeq_T, oeq_F]
      exact o
    · simp (disch := first | assumption | rfl | exact zle_0 | exact zle_1 | exact zle_2 | exact zle_3 | exact zle_4 | exact zb_0 | exact zb_1 | exact zb01_B | omega) only [zT53_163, zr_iload_2, zT53_164, zr_iload_3, zT53_165, zr_iload_4, zT53_167, zr_iload_5, zT53_169, zr_aload_0, zT53_170, zr_gf_81, zT53_173, zT53_174, zr_gf_82, zT53_177, zT53_178, zr_gf_83, zT53_181, zT53_182, zr_gf_84, zT53_185, zT53_186, zr_gf_85, zT53_189, zr_iv_38, zT53_192, zr_ret1_0, zr_ret1_1, zr_ret1_B, zcl_i, zcl_r, zcl_l, zcl_n, zv_some, zv_none, Nat.reduceAdd, Nat.reduceMul, Nat.reduceSub, Nat.reduceLT, Nat.reduceLeDiff, Nat.reduceEqDiff, Int.reduceToNat, true_implies, false_implies, implies_true, and_true, true_and, not_true_eq_false, not_false_eq_true, Nat.zero_add, Nat.add_zero, nI_add, nI_ltI, nI_leI, nI_eq, pk_mul, pk_sub, u2_same, u2_row, u2_other, m1, m2, m3, m4, m5, ae, olt_T, olt_F, ole_T, ole_F, oeq_T, oeq_F]
      exact o) (w 0) 0 (Nat.zero_add _) (u2 (u2 (u2 (u2 (u2 fi 133 81 (nI 0)) 133 82 (nI 0)) 133 83 (nI 0)) 133 84 (nI 0)) 133 85 (nI 0)) (fun i hi => by simp (disch := decide) only [u2_ne]; exact hr i hi) (fun c hc => by simp (disch := decide) only [u2_ne]; exact hh c hc) (by
    refine ⟨?_, ?_, ?_, ?_, ?_⟩ <;> simp (disch := decide) only [u2_row, u2_same] <;> rfl) ⟨fun f h1 h2 h3 h4 h5 => by simp (disch := assumption) only [u2_row], fun j hj => by simp (disch := assumption) only [u2_ne]⟩
  simp (disch := first | assumption | rfl | exact zle_0 | exact zle_1 | exact zle_2 | exact zle_3 | exact zle_4 | exact zb_0 | exact zb_1 | exact zb01_B | omega) only [zT53_0, zr_ic_0, zT53_1, zr_istore_2, zT53_2, zT53_3, zr_istore_3, zT53_4, zT53_5, zr_istore_4, zT53_7, zT53_8, zr_istore_5, zT53_10, zr_iload_1, zT53_11, zr_istore_6, zcl_i, zcl_r, zcl_l, zcl_n, zv_some, zv_none, Nat.reduceAdd, Nat.reduceMul, Nat.reduceSub, Nat.reduceLT, Nat.reduceLeDiff, Nat.reduceEqDiff, Int.reduceToNat, true_implies, false_implies, implies_true, and_true, true_and, not_true_eq_false, not_false_eq_true, Nat.zero_add, Nat.add_zero, nI_add, nI_ltI, nI_leI, nI_eq, pk_mul, pk_sub, u2_same, u2_row, u2_other, olt_T, olt_F, ole_T, ole_F, oeq_T, oeq_F]
  rw [C]
  simp (disch := first | assumption | rfl | exact zle_0 | exact zle_1 | exact zle_2 | exact zle_3 | exact zle_4 | exact zb_0 | exact zb_1 | exact zb01_B | omega) only [zT53_107, zr_aload_0, zT53_108, zr_ic_0, zT53_109, zr_pf_81, zT53_112, zT53_113, zT53_114, zr_pf_82, zT53_117, zT53_118, zT53_119, zr_pf_83, zT53_122, zT53_123, zT53_124, zr_pf_84, zT53_127, zT53_128, zT53_129, zr_pf_85, zT53_132, zT53_133, zr_istore_6, zcl_i, zcl_r, zcl_l, zcl_n, zv_some, zv_none, Nat.reduceAdd, Nat.reduceMul, Nat.reduceSub, Nat.reduceLT, Nat.reduceLeDiff, Nat.reduceEqDiff, Int.reduceToNat, true_implies, false_implies, implies_true, and_true, true_and, not_true_eq_false, not_false_eq_true, Nat.zero_add, Nat.add_zero, nI_add, nI_ltI, nI_leI, nI_eq, pk_mul, pk_sub, u2_same, u2_row, u2_other, olt_T, olt_F, ole_T, ole_F, oeq_T, oeq_F]
  exact L
end
