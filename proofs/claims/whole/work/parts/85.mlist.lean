/-! the list of places, in the model -/
def zw_f (fi fi' : Nat → Nat → Int32) : Prop := (∀ f, f ≠ 81 → f ≠ 82 → f ≠ 83 → f ≠ 84 → f ≠ 85 → f ≠ 90 → fi' 133 f = fi 133 f) ∧ ∀ j, j < 133 ∨ (133 < j ∧ j < 143) ∨ 146 < j → fi' j = fi j
theorem zw_f.id_ {a : Nat → Nat → Int32} : zw_f a a := ⟨fun _ _ _ _ _ _ _ => rfl, fun _ _ => rfl⟩
theorem zw_f.tr {a b c : Nat → Nat → Int32} (h : zw_f a b) (h2 : zw_f b c) : zw_f a c := ⟨fun f h1 h3 h4 h5 h6 h7 => by rw [h2.1 f h1 h3 h4 h5 h6 h7, h.1 f h1 h3 h4 h5 h6 h7], fun j hj => by rw [h2.2 j hj, h.2 j hj]⟩
theorem z_fh.zw {a b : Nat → Nat → Int32} (h : z_fh a b) : zw_f a b := ⟨fun f h1 h3 h4 h5 h6 _ => h.1 f h1 h3 h4 h5 h6, fun j hj => h.2 j (by omega)⟩
theorem zw_f.sr {a b : Nat → Nat → Int32} (h : zw_f a b) : z_sr a b := ⟨⟨h.1 _ (by decide) (by decide) (by decide) (by decide) (by decide) (by decide), h.1 _ (by decide) (by decide) (by decide) (by decide) (by decide) (by decide), h.1 _ (by decide) (by decide) (by decide) (by decide) (by decide) (by decide)⟩, fun j hj => h.2 j (by omega)⟩
theorem zw_f.ar {f : Nat → Nat → Int32} {a k : Nat} {v : Int32} (h : 143 ≤ a ∧ a ≤ 146) : zw_f f (u2 f a k v) := ⟨fun g _ _ _ _ _ _ => by rw [u2_other (by omega)], fun j hj => u2_ne (by omega)⟩
theorem zw_f.wm {f : Nat → Nat → Int32} {v : Int32} : zw_f f (u2 f 133 90 v) := ⟨fun g _ _ _ _ _ h => by rw [u2_row h], fun j hj => u2_ne (by omega)⟩
section
variable {fi fi' : Nat → Nat → Int32} {fl fl' : Nat → Nat → Int64} {fr : Nat → Nat → Option Nat} {Q : Option Value → Mm → Prop} {w : Nat → Nat} {k : Nat} {M : Mm} {ws : Nat → Nat → Nat} {nn tx : Nat → Nat} {n : Nat}
theorem z_WL.push {l : List Hd} (h : z_WL fi l) {x : Hd} : z_WL (u2 (u2 (u2 fi 146 l.length (nI (sd x))) 144 l.length (nI x.1)) 133 90 (nI (l.length + 1))) (l ++ [x]) := by
  obtain ⟨h1, h2⟩ := h
  refine ⟨?_, fun j y hy => ?_⟩
  · rw [u2_same, List.length_append]
    rfl
  · by_cases e : j = l.length
    · subst e
      rw [List.getElem?_append_right (Nat.le_refl _), Nat.sub_self] at hy
      obtain rfl := Option.some.inj hy
      simp (disch := decide) only [u2_other, u2_same, and_self]
    · have jl : j < l.length := by
        rcases Nat.lt_or_ge j (l ++ [x]).length with c | c
        · rw [List.length_append, List.length_singleton] at c; omega
        · rw [List.getElem?_eq_none c] at hy; exact absurd hy (by simp)
      rw [List.getElem?_append_left jl] at hy
      have := h2 j y hy
      simp (disch := first | decide | exact e) only [u2_other, u2_row]
      exact this
theorem sm_wi_ (hf : z_FR fr) {x y : Int32} {d at_ r l kn : Nat} {R : List Hd} {fi0 : Nat → Nat → Int32} (hat : at_ < 200) (hd : d < 3) (hb : r + l ≤ 6 ∧ kn ≤ 6)
    (hQ : ∀ f2, z_WL f2 R → zw_f fi0 f2 → TT 55 151 [some (.ref 133), some (.int x), some (.int y), some (.int (nI d)), some (.int (nI at_)), some (.int (nI (r + l))), none, none] [] (151, f2, fl, fr) Q) :
    ∀ m h, h + m = r + l → ∀ P f1, z_WL f1 P → P ++ l_from r kn d m h = R → P.length + m ≤ 18 → zw_f fi0 f1 → f1 134 at_ = nI r → f1 134 (at_ + 1) = nI l → f1 134 (at_ + 2) = nI kn → TT 55 57 [some (.ref 133), some (.int x), some (.int y), some (.int (nI d)), some (.int (nI at_)), some (.int (nI h)), none, none] [] (151, f1, fl, fr) Q := by
  have o133 : z_ok 151 133 20 = true := rfl; have o134 : z_ok 151 134 1 = true := rfl; have o144 : z_ok 151 144 1 = true := rfl; have o146 : z_ok 151 146 1 = true := rfl
  have l134 : z_al 134 = 440 := rfl; have l144 : z_al 144 = 18 := rfl; have l146 : z_al 146 = 18 := rfl
  intro m
  induction m with
  | zero =>
    intro h hh P f1 hwl hR h18 hfr w0 w1 w2
    obtain rfl : h = r + l := by omega
    have o := hQ f1 (by rw [← hR, show l_from r kn d 0 (r + l) = [] from rfl, List.append_nil]; exact hwl) hfr
    simp (disch := first | assumption | rfl | exact zle_0 | exact zle_1 | exact zle_2 | exact zle_3 | exact zle_4 | exact zb_0 | exact zb_1 | exact zb01_B | omega) only [zT55_57, zr_iload_5, zT55_59, zr_aload_0, zT55_60, zr_gf_71, zr_or, zr_go, zf_133_71, zT55_63, zr_iload_4, zT55_65, zr_iald, zT55_66, zT55_67, zT55_70, zT55_72, zr_ic_1, zT55_73, zr_iadd, zT55_74, zT55_75, zT55_76, zr_icmp_ge, zcl_i, zcl_r, zcl_l, zcl_n, zv_some, zv_none, Nat.reduceAdd, Nat.reduceMul, Nat.reduceSub, Nat.reduceLT, Nat.reduceLeDiff, Nat.reduceEqDiff, Int.reduceToNat, true_implies, false_implies, implies_true, and_true, true_and, not_true_eq_false, not_false_eq_true, Nat.zero_add, Nat.add_zero, nI_add, nI_ltI, nI_leI, nI_eq, pk_mul, pk_sub, u2_same, u2_row, u2_other, w0, w1, olt_T, olt_F, ole_T, ole_F, oeq_T, oeq_F]
    exact o
  | succ m ih =>
    intro h hh P f1 hwl hR h18 hfr w0 w1 w2
    have e := hwl.1
    have back := ih (h + 1) (by omega) (P ++ [(d, decide (h < r), decide (h < kn))]) _ (hwl.push (x := (d, decide (h < r), decide (h < kn)))) (by
      rw [← hR, List.append_assoc]; rfl) (by rw [List.length_append, List.length_singleton]; omega) (((hfr.tr (zw_f.ar (by decide))).tr (zw_f.ar (by decide))).tr zw_f.wm) (by simp (disch := decide) only [u2_ne]; exact w0) (by simp (disch := decide) only [u2_ne]; exact w1) (by simp (disch := decide) only [u2_ne]; exact w2)
    generalize P.length = len at *
    simp (disch := first | assumption | rfl | exact zle_0 | exact zle_1 | exact zle_2 | exact zle_3 | exact zle_4 | exact zb_0 | exact zb_1 | exact zb01_B | omega) only [zT55_57, zr_iload_5, zcl_i, zcl_r, zcl_l, zcl_n, zv_some, zv_none, Nat.reduceAdd, Nat.reduceMul, Nat.reduceSub, Nat.reduceLT, Nat.reduceLeDiff, Nat.reduceEqDiff, Int.reduceToNat, true_implies, false_implies, implies_true, and_true, true_and, not_true_eq_false, not_false_eq_true, Nat.zero_add, Nat.add_zero, nI_add, nI_ltI, nI_leI, nI_eq, pk_mul, pk_sub, u2_same, u2_row, u2_other]
    by_cases c1 : h < r
    · by_cases c2 : h < kn
      · rw [decide_eq_true c1, decide_eq_true c2] at back
        simp only [sd, if_true, Nat.add_zero] at back
        simp (disch := first | assumption | rfl | exact zle_0 | exact zle_1 | exact zle_2 | exact zle_3 | exact zle_4 | exact zb_0 | exact zb_1 | exact zb01_B | omega) only [zT55_59, zr_aload_0, zT55_60, zr_gf_71, zr_or, zr_go, zf_133_71, zT55_63, zr_iload_4, zT55_65, zr_iald, zT55_66, zT55_67, zT55_70, zT55_72, zr_ic_1, zT55_73, zr_iadd, zT55_74, zT55_75, zT55_76, zr_icmp_ge, zT55_79, zT55_80, zr_gf_93, zf_133_93, zT55_83, zT55_84, zr_gf_90, zT55_87, zr_iload_5, zT55_89, zT55_90, zT55_93, zT55_95, zT55_96, zT55_99, zr_ic_0, zT55_100, zr_goto, zT55_103, zr_ic_2, zT55_104, zT55_106, zT55_107, zT55_110, zT55_112, zT55_113, zT55_114, zT55_115, zT55_118, zT55_119, zT55_122, zT55_123, zT55_124, zr_iast, zT55_125, zT55_126, zr_gf_91, zf_133_91, zT55_129, zT55_130, zT55_133, zr_iload_3, zT55_134, zT55_135, zT55_136, zr_dup_r, zr_dup_i, zT55_137, zT55_140, zT55_141, zT55_142, zr_pf_90, zT55_145, zr_iinc_5_1, zT55_148, zcl_i, zcl_r, zcl_l, zcl_n, zv_some, zv_none, Nat.reduceAdd, Nat.reduceMul, Nat.reduceSub, Nat.reduceLT, Nat.reduceLeDiff, Nat.reduceEqDiff, Int.reduceToNat, true_implies, false_implies, implies_true, and_true, true_and, not_true_eq_false, not_false_eq_true, Nat.zero_add, Nat.add_zero, nI_add, nI_ltI, nI_leI, nI_eq, pk_mul, pk_sub, u2_same, u2_row, u2_other, w0, w1, w2, e, olt_T, olt_F, ole_T, ole_F, oeq_T, oeq_F]
        exact back
      · rw [decide_eq_true c1, decide_eq_false c2] at back
        simp only [sd, if_true, Bool.false_eq_true, if_false, Nat.zero_add] at back
        simp (disch := first | assumption | rfl | exact zle_0 | exact zle_1 | exact zle_2 | exact zle_3 | exact zle_4 | exact zb_0 | exact zb_1 | exact zb01_B | omega) only [zT55_59, zr_aload_0, zT55_60, zr_gf_71, zr_or, zr_go, zf_133_71, zT55_63, zr_iload_4, zT55_65, zr_iald, zT55_66, zT55_67, zT55_70, zT55_72, zr_ic_1, zT55_73, zr_iadd, zT55_74, zT55_75, zT55_76, zr_icmp_ge, zT55_79, zT55_80, zr_gf_93, zf_133_93, zT55_83, zT55_84, zr_gf_90, zT55_87, zr_iload_5, zT55_89, zT55_90, zT55_93, zT55_95, zT55_96, zT55_99, zr_ic_0, zT55_100, zr_goto, zT55_103, zr_ic_2, zT55_104, zT55_106, zT55_107, zT55_110, zT55_112, zT55_113, zT55_114, zT55_115, zT55_118, zT55_119, zT55_122, zT55_123, zT55_124, zr_iast, zT55_125, zT55_126, zr_gf_91, zf_133_91, zT55_129, zT55_130, zT55_133, zr_iload_3, zT55_134, zT55_135, zT55_136, zr_dup_r, zr_dup_i, zT55_137, zT55_140, zT55_141, zT55_142, zr_pf_90, zT55_145, zr_iinc_5_1, zT55_148, zcl_i, zcl_r, zcl_l, zcl_n, zv_some, zv_none, Nat.reduceAdd, Nat.reduceMul, Nat.reduceSub, Nat.reduceLT, Nat.reduceLeDiff, Nat.reduceEqDiff, Int.reduceToNat, true_implies, false_implies, implies_true, and_true, true_and, not_true_eq_false, not_false_eq_true, Nat.zero_add, Nat.add_zero, nI_add, nI_ltI, nI_leI, nI_eq, pk_mul, pk_sub, u2_same, u2_row, u2_other, w0, w1, w2, e, olt_T, olt_F, ole_T, ole_F, oeq_T, oeq_F]
        exact back
    · by_cases c2 : h < kn
      · rw [decide_eq_false c1, decide_eq_true c2] at back
        simp only [sd, if_true, Bool.false_eq_true, if_false, Nat.add_zero] at back
        simp (disch := first | assumption | rfl | exact zle_0 | exact zle_1 | exact zle_2 | exact zle_3 | exact zle_4 | exact zb_0 | exact zb_1 | exact zb01_B | omega) only [zT55_59, zr_aload_0, zT55_60, zr_gf_71, zr_or, zr_go, zf_133_71, zT55_63, zr_iload_4, zT55_65, zr_iald, zT55_66, zT55_67, zT55_70, zT55_72, zr_ic_1, zT55_73, zr_iadd, zT55_74, zT55_75, zT55_76, zr_icmp_ge, zT55_79, zT55_80, zr_gf_93, zf_133_93, zT55_83, zT55_84, zr_gf_90, zT55_87, zr_iload_5, zT55_89, zT55_90, zT55_93, zT55_95, zT55_96, zT55_99, zr_ic_0, zT55_100, zr_goto, zT55_103, zr_ic_2, zT55_104, zT55_106, zT55_107, zT55_110, zT55_112, zT55_113, zT55_114, zT55_115, zT55_118, zT55_119, zT55_122, zT55_123, zT55_124, zr_iast, zT55_125, zT55_126, zr_gf_91, zf_133_91, zT55_129, zT55_130, zT55_133, zr_iload_3, zT55_134, zT55_135, zT55_136, zr_dup_r, zr_dup_i, zT55_137, zT55_140, zT55_141, zT55_142, zr_pf_90, zT55_145, zr_iinc_5_1, zT55_148, zcl_i, zcl_r, zcl_l, zcl_n, zv_some, zv_none, Nat.reduceAdd, Nat.reduceMul, Nat.reduceSub, Nat.reduceLT, Nat.reduceLeDiff, Nat.reduceEqDiff, Int.reduceToNat, true_implies, false_implies, implies_true, and_true, true_and, not_true_eq_false, not_false_eq_true, Nat.zero_add, Nat.add_zero, nI_add, nI_ltI, nI_leI, nI_eq, pk_mul, pk_sub, u2_same, u2_row, u2_other, w0, w1, w2, e, olt_T, olt_F, ole_T, ole_F, oeq_T, oeq_F]
        exact back
      · rw [decide_eq_false c1, decide_eq_false c2] at back
        simp only [sd, Bool.false_eq_true, if_false, Nat.reduceAdd] at back
        simp (disch := first | assumption | rfl | exact zle_0 | exact zle_1 | exact zle_2 | exact zle_3 | exact zle_4 | exact zb_0 | exact zb_1 | exact zb01_B | omega) only [zT55_59, zr_aload_0, zT55_60, zr_gf_71, zr_or, zr_go, zf_133_71, zT55_63, zr_iload_4, zT55_65, zr_iald, zT55_66, zT55_67, zT55_70, zT55_72, zr_ic_1, zT55_73, zr_iadd, zT55_74, zT55_75, zT55_76, zr_icmp_ge, zT55_79, zT55_80, zr_gf_93, zf_133_93, zT55_83, zT55_84, zr_gf_90, zT55_87, zr_iload_5, zT55_89, zT55_90, zT55_93, zT55_95, zT55_96, zT55_99, zr_ic_0, zT55_100, zr_goto, zT55_103, zr_ic_2, zT55_104, zT55_106, zT55_107, zT55_110, zT55_112, zT55_113, zT55_114, zT55_115, zT55_118, zT55_119, zT55_122, zT55_123, zT55_124, zr_iast, zT55_125, zT55_126, zr_gf_91, zf_133_91, zT55_129, zT55_130, zT55_133, zr_iload_3, zT55_134, zT55_135, zT55_136, zr_dup_r, zr_dup_i, zT55_137, zT55_140, zT55_141, zT55_142, zr_pf_90, zT55_145, zr_iinc_5_1, zT55_148, zcl_i, zcl_r, zcl_l, zcl_n, zv_some, zv_none, Nat.reduceAdd, Nat.reduceMul, Nat.reduceSub, Nat.reduceLT, Nat.reduceLeDiff, Nat.reduceEqDiff, Int.reduceToNat, true_implies, false_implies, implies_true, and_true, true_and, not_true_eq_false, not_false_eq_true, Nat.zero_add, Nat.add_zero, nI_add, nI_ltI, nI_leI, nI_eq, pk_mul, pk_sub, u2_same, u2_row, u2_other, w0, w1, w2, e, olt_T, olt_F, ole_T, ole_F, oeq_T, oeq_F]
        exact back
theorem sm_wo_ (hf : z_FR fr) (hw : a_WF w) {s set : Nat} (hs : s < 4096) (h8 : set < 8) (hno : ∀ d, d < w 13 → a_bit set d = true → plc s d < a_tot w d) {fi0 : Nat → Nat → Int32} (hr0 : z_MR fi0 0 w)
    (hQ : ∀ f2 v4 v5, z_WL f2 (l_all w (a_keyS w s set) 3 0) → zw_f fi0 f2 → TT 55 157 [some (.ref 133), some (.int (nI set)), some (.int (nI s)), some (.int (nI (w 13))), v4, v5, none, none] [] (151, f2, fl, fr) Q) :
    ∀ m d, d + m = w 13 → ∀ P f1 v4 v5, z_WL f1 P → P ++ l_all w (a_keyS w s set) (3 - d) d = l_all w (a_keyS w s set) 3 0 → zw_f fi0 f1 → TT 55 7 [some (.ref 133), some (.int (nI set)), some (.int (nI s)), some (.int (nI d)), v4, v5, none, none] [] (151, f1, fl, fr) Q := by
  have o133 : z_ok 151 133 20 = true := rfl; have o134 : z_ok 151 134 1 = true := rfl
  have l134 : z_al 134 = 440 := rfl
  have h13 := hw.2.2.1
  have len := l_all_len (key := a_keyS w s set) hw
  intro m
  induction m with
  | zero =>
    intro d hd P f1 v4 v5 hwl hP hfr
    obtain rfl : d = w 13 := by omega
    have hr : z_MR f1 0 w := fun i hi => by rw [hfr.2 134 (by decide)]; exact hr0 i hi
    have e13 := hr.at0 (i := 13) (by decide)
    have nil : ∀ n d, w 13 ≤ d → d + n = 3 → l_all w (a_keyS w s set) n d = [] := by
      intro n
      induction n with
      | zero => intro d _ _; rfl
      | succ n ih2 =>
        intro d h1 h2
        have z := (hw.2.2.2.1 d (by omega)).2.1 h1
        show l_dish w d (a_at (a_keyS w s set) d) ++ l_all w (a_keyS w s set) n (d + 1) = []
        rw [ih2 (d + 1) (by omega) (by omega), List.append_nil]
        unfold l_dish
        rw [if_neg (by omega)]
    rw [nil _ _ (Nat.le_refl _) (by omega), List.append_nil] at hP
    rw [hP] at hwl
    have o := hQ f1 v4 v5 hwl hfr
    simp (disch := first | assumption | rfl | exact zle_0 | exact zle_1 | exact zle_2 | exact zle_3 | exact zle_4 | exact zb_0 | exact zb_1 | exact zb01_B | omega) only [zT55_7, zr_iload_3, zT55_8, zr_aload_0, zT55_9, zr_gf_71, zr_or, zr_go, zf_133_71, zT55_12, zr_ic_13, zT55_14, zr_iald, zT55_15, zr_icmp_ge, zcl_i, zcl_r, zcl_l, zcl_n, zv_some, zv_none, Nat.reduceAdd, Nat.reduceMul, Nat.reduceSub, Nat.reduceLT, Nat.reduceLeDiff, Nat.reduceEqDiff, Int.reduceToNat, true_implies, false_implies, implies_true, and_true, true_and, not_true_eq_false, not_false_eq_true, Nat.zero_add, Nat.add_zero, nI_add, nI_ltI, nI_leI, nI_eq, pk_mul, pk_sub, u2_same, u2_row, u2_other, e13, olt_T, olt_F, ole_T, ole_F, oeq_T, oeq_F]
    exact o
  | succ m ih =>
    intro d hd P f1 v4 v5 hwl hP hfr
    have d3 : d < 3 := by omega
    have wd := (hw.2.2.2.1 d d3).1
    have hr : z_MR f1 0 w := fun i hi => by rw [hfr.2 134 (by decide)]; exact hr0 i hi
    have e13 := hr.at0 (i := 13) (by decide)
    have at1 := a_keyS_at hw (s := s) h8 d3
    have ha := fun M Q => sm_has (M := M) (Q := Q) (b := set) (d := d) (by omega) (by omega)
    rw [show 3 - d = (3 - (d + 1)) + 1 by omega, show l_all w (a_keyS w s set) ((3 - (d + 1)) + 1) d = l_dish w d (a_at (a_keyS w s set) d) ++ l_all w (a_keyS w s set) (3 - (d + 1)) (d + 1) from rfl] at hP
    cases hb : a_bit set d
    · rw [hb] at ha
      rw [hb, if_neg (by decide)] at at1
      have sm3 := wd.1
      rw [at1, show l_dish w d 3 = [] by unfold l_dish; rw [if_neg (by omega)], List.nil_append] at hP
      have ih' := ih (d + 1) (by omega) P f1 v4 v5 hwl hP hfr
      simp (disch := first | assumption | rfl | exact zle_0 | exact zle_1 | exact zle_2 | exact zle_3 | exact zle_4 | exact zb_0 | exact zb_1 | exact zb01_B | omega) only [zT55_7, zr_iload_3, zcl_i, zcl_r, zcl_l, zcl_n, zv_some, zv_none, Nat.reduceAdd, Nat.reduceMul, Nat.reduceSub, Nat.reduceLT, Nat.reduceLeDiff, Nat.reduceEqDiff, Int.reduceToNat, true_implies, false_implies, implies_true, and_true, true_and, not_true_eq_false, not_false_eq_true, Nat.zero_add, Nat.add_zero, nI_add, nI_ltI, nI_leI, nI_eq, pk_mul, pk_sub, u2_same, u2_row, u2_other]
      simp (disch := first | assumption | rfl | exact zle_0 | exact zle_1 | exact zle_2 | exact zle_3 | exact zle_4 | exact zb_0 | exact zb_1 | exact zb01_B | omega) only [zT55_8, zr_aload_0, zT55_9, zr_gf_71, zr_or, zr_go, zf_133_71, zT55_12, zr_ic_13, zT55_14, zr_iald, zT55_15, zr_icmp_ge, zT55_18, zr_iload_1, zT55_19, zr_iload_3, zT55_20, zr_iv_5, zT55_23, zr_if_eq, zT55_151, zr_iinc_3_1, zT55_154, zr_goto, zcl_i, zcl_r, zcl_l, zcl_n, zv_some, zv_none, Nat.reduceAdd, Nat.reduceMul, Nat.reduceSub, Nat.reduceLT, Nat.reduceLeDiff, Nat.reduceEqDiff, Int.reduceToNat, true_implies, false_implies, implies_true, and_true, true_and, not_true_eq_false, not_false_eq_true, Nat.zero_add, Nat.add_zero, nI_add, nI_ltI, nI_leI, nI_eq, pk_mul, pk_sub, u2_same, u2_row, u2_other, e13, ha, zB_eq0, olt_T, olt_F, ole_T, ole_F, oeq_T, oeq_F]
      exact ih'
    · rw [hb] at ha
      rw [hb, if_pos rfl] at at1
      have pl := hno d (by omega) hb
      have asp : a_sp w d (plc s d) = (a_stp w d (plc s d)).1 := by unfold a_sp; rw [if_pos pl]
      rw [asp] at at1
      rw [at1] at hP
      have so := fun Q => sm_stepOf (fl := fl) (Q := Q) hf hr d3 wd (show plc s d < 1000 by have := plc_lt (s := s) (d := d); omega)
      have l8 := a_stp_lt8 wd (Nat.le_of_lt pl)
      obtain ⟨q1, q2, q3⟩ := a_stp_spec wd (plc s d)
      have lt : (a_stp w d (plc s d)).1 < a_sm w d := by
        rcases Nat.lt_or_ge (a_stp w d (plc s d)).1 (a_sm w d) with c | c
        · exact c
        · have e : (a_stp w d (plc s d)).1 = a_sm w d := by omega
          have t : a_tot w d = a_pre w d (a_sm w d) := by
            unfold a_tot a_pre
            rfl
          rw [e] at q2
          omega
      have bnd := wd.2 _ lt
      have sm3 := wd.1
      generalize (a_stp w d (plc s d)).1 = st at *
      generalize (a_stp w d (plc s d)).2 = sl at *
      have nz := nI_nz (c := 8) (by decide) (by decide)
      have dv := pk_div (a := 8 * st + sl) (d := 8) (by omega) (by decide) (by decide)
      rw [show (8 * st + sl) / 8 = st by omega] at dv
      have pe : s / 2 ^ (4 * d) &&& 15 = plc s d := Nat.and_two_pow_sub_one_eq_mod _ 4
      have w0 := hr.at0 (i := 17 + 12 * d + 4 * st) (by omega)
      have w1 := hr.at0 (i := 17 + 12 * d + 4 * st + 1) (by omega)
      have w2 := hr.at0 (i := 17 + 12 * d + 4 * st + 2) (by omega)
      rw [show w (17 + 12 * d + 4 * st) = a_st w d st 0 from rfl] at w0
      rw [show w (17 + 12 * d + 4 * st + 1) = a_st w d st 1 from rfl] at w1
      rw [show w (17 + 12 * d + 4 * st + 2) = a_st w d st 2 from rfl] at w2
      have ld : l_dish w d st = l_from (a_st w d st 0) (a_st w d st 2) d (a_st w d st 0 + a_st w d st 1) 0 := by unfold l_dish; rw [if_pos lt]
      rw [ld] at hP
      have I := sm_wi_ (fl := fl) (Q := Q) (x := nI set) (y := nI s) (d := d) (at_ := 17 + 12 * d + 4 * st) (r := a_st w d st 0) (l := a_st w d st 1) (kn := a_st w d st 2) (R := P ++ l_from (a_st w d st 0) (a_st w d st 2) d (a_st w d st 0 + a_st w d st 1) 0) (fi0 := fi0) hf (by omega) d3 (by omega) (fun f2 g1 g2 => by
        have ih' := ih (d + 1) (by omega) _ f2 (some (.int (nI (17 + 12 * d + 4 * st)))) (some (.int (nI (a_st w d st 0 + a_st w d st 1)))) g1 (by rw [← hP, List.append_assoc]) g2
        simp (disch := first | assumption | rfl | exact zle_0 | exact zle_1 | exact zle_2 | exact zle_3 | exact zle_4 | exact zb_0 | exact zb_1 | exact zb01_B | omega) only [zT55_151, zr_iinc_3_1, zT55_154, zr_goto, zcl_i, zcl_r, zcl_l, zcl_n, zv_some, zv_none, Nat.reduceAdd, Nat.reduceMul, Nat.reduceSub, Nat.reduceLT, Nat.reduceLeDiff, Nat.reduceEqDiff, Int.reduceToNat, true_implies, false_implies, implies_true, and_true, true_and, not_true_eq_false, not_false_eq_true, Nat.zero_add, Nat.add_zero, nI_add, nI_ltI, nI_leI, nI_eq, pk_mul, pk_sub, u2_same, u2_row, u2_other, olt_T, olt_F, ole_T, ole_F, oeq_T, oeq_F]
        exact ih') (a_st w d st 0 + a_st w d st 1) 0 (Nat.zero_add _) P f1 hwl rfl (by
          rw [← hP, List.length_append, List.length_append, l_from_len] at len
          omega) hfr w0 w1 w2
      simp (disch := first | assumption | rfl | exact zle_0 | exact zle_1 | exact zle_2 | exact zle_3 | exact zle_4 | exact zb_0 | exact zb_1 | exact zb01_B | omega) only [zT55_7, zr_iload_3, zcl_i, zcl_r, zcl_l, zcl_n, zv_some, zv_none, Nat.reduceAdd, Nat.reduceMul, Nat.reduceSub, Nat.reduceLT, Nat.reduceLeDiff, Nat.reduceEqDiff, Int.reduceToNat, true_implies, false_implies, implies_true, and_true, true_and, not_true_eq_false, not_false_eq_true, Nat.zero_add, Nat.add_zero, nI_add, nI_ltI, nI_leI, nI_eq, pk_mul, pk_sub, u2_same, u2_row, u2_other]
      simp (disch := first | assumption | rfl | exact zle_0 | exact zle_1 | exact zle_2 | exact zle_3 | exact zle_4 | exact zb_0 | exact zb_1 | exact zb01_B | omega) only [zT55_8, zr_aload_0, zT55_9, zr_gf_71, zr_or, zr_go, zf_133_71, zT55_12, zr_ic_13, zT55_14, zr_iald, zT55_15, zr_icmp_ge, zT55_18, zr_iload_1, zT55_19, zr_iload_3, zT55_20, zr_iv_5, zT55_23, zr_if_eq, zT55_26, zr_ic_17, zT55_28, zr_ic_12, zT55_30, zT55_31, zr_imul, zT55_32, zr_iadd, zT55_33, zr_ic_4, zT55_34, zT55_35, zT55_36, zr_iload_2, zT55_37, zT55_38, zT55_39, zT55_40, zr_ishr, zT55_41, zr_ic_15, zT55_43, zr_iand, zT55_44, zr_iv_40, zT55_47, zr_ic_8, zT55_49, zr_idiv, zT55_50, zT55_51, zT55_52, zr_istore_4, zT55_54, zr_ic_0, zT55_55, zr_istore_5, zcl_i, zcl_r, zcl_l, zcl_n, zv_some, zv_none, Nat.reduceAdd, Nat.reduceMul, Nat.reduceSub, Nat.reduceLT, Nat.reduceLeDiff, Nat.reduceEqDiff, Int.reduceToNat, true_implies, false_implies, implies_true, and_true, true_and, not_true_eq_false, not_false_eq_true, Nat.zero_add, Nat.add_zero, nI_add, nI_ltI, nI_leI, nI_eq, pk_mul, pk_sub, u2_same, u2_row, u2_other, e13, ha, zB_eq0, reduceCtorEq, b_shr, b_and, pe, so, dv, olt_T, olt_F, ole_T, ole_F, oeq_T, oeq_F]
      exact I
end
