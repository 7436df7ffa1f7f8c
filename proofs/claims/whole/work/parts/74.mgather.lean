/-! the model gathers hands, and asks whether they are enough -/
def z_MH (fi : Nat → Nat → Int32) (hl : Nat → Nat) (er el n : Nat) : Prop := fi 133 81 = nI (a_cnt hsr hl n) ∧ fi 133 82 = nI (a_cnt hsl hl n) ∧ fi 133 83 = nI (a_cnt hbr hl n + er) ∧ fi 133 84 = nI el ∧ fi 133 85 = nI (a_cnt hei hl n)
/-- a number that a cook's hands can be -/
def hset (h : Nat) : Prop := h = 0 ∨ h = 1 ∨ h = 2 ∨ h = 3 ∨ h = 8 ∨ h = 9 ∨ h = 12
theorem h_bits {h : Nat} (hh : hset h) : hsr h = (if a_bit h 0 && !a_bit h 3 then 1 else 0) ∧ hbr h = (if a_bit h 0 && a_bit h 3 then 1 else 0) ∧ hsl h = (if a_bit h 1 then 1 else 0) ∧ hei h = (if a_bit h 2 then 1 else 0) := by
  rcases hh with rfl | rfl | rfl | rfl | rfl | rfl | rfl <;> decide
theorem kh_set {kd b : Nat} : hset (a_kh kd b) := by
  unfold a_kh hset
  repeat' split
  all_goals decide
/-- other hands' fields are as they were -/
def z_fh (fi fi' : Nat → Nat → Int32) : Prop := (∀ f, f ≠ 81 → f ≠ 82 → f ≠ 83 → f ≠ 84 → f ≠ 85 → fi' 133 f = fi 133 f) ∧ ∀ j, j ≠ 133 → fi' j = fi j
theorem z_fh.id_ {fi : Nat → Nat → Int32} : z_fh fi fi := ⟨fun _ _ _ _ _ _ => rfl, fun _ _ => rfl⟩
theorem z_fh.tr {a b c : Nat → Nat → Int32} (h : z_fh a b) (h2 : z_fh b c) : z_fh a c := ⟨fun f h1 h3 h4 h5 h6 => by rw [h2.1 f h1 h3 h4 h5 h6, h.1 f h1 h3 h4 h5 h6], fun j hj => by rw [h2.2 j hj, h.2 j hj]⟩
section
variable {fi fi' : Nat → Nat → Int32} {fl fl' : Nat → Nat → Int64} {fr : Nat → Nat → Option Nat} {Q : Option Value → Mm → Prop} {w : Nat → Nat} {k : Nat} {M : Mm} {ws : Nat → Nat → Nat} {nn tx : Nat → Nat} {n : Nat}
theorem sm_giveHand (hf : z_FR fr) {h : Nat} (hh : hset h) {A B C D E : Nat} (e1 : fi 133 81 = nI A) (e2 : fi 133 82 = nI B) (e3 : fi 133 83 = nI C) (e4 : fi 133 84 = nI D) (e5 : fi 133 85 = nI E)
    (hQ : ∀ fi', fi' 133 81 = nI (A + hsr h) → fi' 133 82 = nI (B + hsl h) → fi' 133 83 = nI (C + hbr h) → fi' 133 84 = nI D → fi' 133 85 = nI (E + hei h) → z_fh fi fi' → Q none (151, fi', fl, fr)) :
    TT 36 0 [some (.ref 133), some (.int (nI h)), none] [] (151, fi, fl, fr) Q := by
  have o133 : z_ok 151 133 20 = true := rfl
  have zt : zB true = nI 1 := rfl
  have zf : zB false = nI 0 := rfl
  have h13 : h < 2 ^ 31 := by unfold hset at hh; omega
  have ha := fun M Q d hd => sm_has (M := M) (Q := Q) (b := h) (d := d) h13 hd
  obtain ⟨b1, b2, b3, b4⟩ := h_bits hh
  rw [b1, b2, b3, b4] at hQ
  cases q0 : a_bit h 0 <;> cases q1 : a_bit h 1 <;> cases q2 : a_bit h 2 <;> cases q3 : a_bit h 3 <;> rw [q0, q1, q2, q3] at hQ <;> simp only [Bool.not_true, Bool.not_false, Bool.and_true, Bool.and_false, Bool.false_and, Bool.true_and, if_true, if_false, Bool.false_eq_true, Nat.add_zero] at hQ
  all_goals
    simp (disch := first | assumption | rfl | exact zle_0 | exact zle_1 | exact zle_2 | exact zle_3 | exact zle_4 | exact zb_0 | exact zb_1 | exact zb01_B | omega) only [zT36_0, zr_iload_1, zT36_1, zr_ic_3, zT36_2, zr_iv_5, zT36_5, zr_istore_2, zT36_6, zr_aload_0, zT36_7, zr_dup_r, zr_dup_i, zT36_8, zr_gf_81, zT36_11, zT36_12, zr_ic_0, zT36_13, zT36_16, zr_if_eq, zT36_19, zr_iload_2, zT36_20, zr_if_ne, zT36_23, zr_ic_1, zT36_24, zr_goto, zT36_27, zT36_28, zr_iadd, zT36_29, zr_pf_81, zT36_32, zT36_33, zT36_34, zr_gf_83, zT36_37, zT36_38, zT36_39, zT36_42, zT36_45, zT36_46, zT36_49, zT36_50, zT36_53, zT36_54, zT36_55, zr_pf_83, zT36_58, zT36_59, zT36_60, zr_gf_82, zT36_63, zT36_64, zT36_65, zT36_68, zT36_71, zT36_72, zT36_75, zT36_76, zT36_77, zr_pf_82, zT36_80, zT36_81, zT36_82, zr_gf_85, zT36_85, zT36_86, zr_ic_2, zT36_87, zT36_90, zT36_93, zT36_94, zT36_97, zT36_98, zT36_99, zr_pf_85, zT36_102, zr_return, zcl_i, zcl_r, zcl_l, zcl_n, zv_some, zv_none, Nat.reduceAdd, Nat.reduceMul, Nat.reduceSub, Nat.reduceLT, Nat.reduceLeDiff, Nat.reduceEqDiff, Int.reduceToNat, true_implies, false_implies, implies_true, and_true, true_and, not_true_eq_false, not_false_eq_true, Nat.zero_add, Nat.add_zero, nI_add, nI_ltI, nI_leI, nI_eq, pk_mul, pk_sub, u2_same, u2_row, u2_other, ha, q0, q1, q2, q3, zt, zf, e1, e2, e3, e4, e5, olt_T, olt_F, ole_T, ole_F, oeq_T, oeq_F]
    refine hQ _ ?_ ?_ ?_ ?_ ?_ ⟨fun f h1 h2 h3 h4 h5 => ?_, fun j hj => ?_⟩
    all_goals first
      | (simp (disch := decide) only [u2_row, u2_same, e1, e2, e3, e4, e5]; done)
      | (simp (disch := assumption) only [u2_row]; done)
      | (simp (disch := assumption) only [u2_ne]; done)
/-- the hands of all but one -/
def a_but (w : Nat → Nat) (b aw : Nat) : Nat → Nat := fun c => if c = aw then 0 else a_hands w b c
theorem sm_ga_ (hf : z_FR fr) (hw : a_WF w) {b aw : Nat} {x : Int32} (hb : b ≤ 1) (hx : ∀ c, c < 6 → ((nI c = x) = (c = aw)))
    (hQ : ∀ fi', z_MH fi' (a_but w b aw) 0 0 (w 0) → z_fh fi fi' → Q none (151, fi', fl, fr)) :
    ∀ m c, c + m = w 0 → ∀ f1 : Nat → Nat → Int32, z_MR f1 0 w → z_MH f1 (a_but w b aw) 0 0 c → z_fh fi f1 → TT 37 27 [some (.ref 133), some (.int x), some (.int (nI b)), some (.int (nI c))] [] (151, f1, fl, fr) Q := by
  have o133 : z_ok 151 133 20 = true := rfl; have o134 : z_ok 151 134 1 = true := rfl
  have l134 : z_al 134 = 440 := rfl
  have h0 := hw.1
  intro m
  induction m with
  | zero =>
    intro c hc f1 hr hh hfh
    obtain rfl : c = w 0 := by omega
    have e0 := hr.at0 (i := 0) (by decide)
    have o := hQ f1 hh hfh
    simp (disch := first | assumption | rfl | exact zle_0 | exact zle_1 | exact zle_2 | exact zle_3 | exact zle_4 | exact zb_0 | exact zb_1 | exact zb01_B | omega) only [zT37_27, zr_iload_3, zT37_28, zr_aload_0, zT37_29, zr_gf_71, zr_or, zr_go, zf_133_71, zT37_32, zr_ic_0, zT37_33, zr_iald, zT37_34, zr_icmp_ge, zT37_64, zr_return, zcl_i, zcl_r, zcl_l, zcl_n, zv_some, zv_none, Nat.reduceAdd, Nat.reduceMul, Nat.reduceSub, Nat.reduceLT, Nat.reduceLeDiff, Nat.reduceEqDiff, Int.reduceToNat, true_implies, false_implies, implies_true, and_true, true_and, not_true_eq_false, not_false_eq_true, Nat.zero_add, Nat.add_zero, nI_add, nI_ltI, nI_leI, nI_eq, pk_mul, pk_sub, u2_same, u2_row, u2_other, e0, olt_T, olt_F, ole_T, ole_F, oeq_T, oeq_F]
    exact o
  | succ m ih =>
    intro c hc f1 hr hh hfh
    have e0 := hr.at0 (i := 0) (by decide)
    have ec := hr.at0 (i := 1 + c) (by omega)
    have kd := (hw.2.1 c (by omega)).1
    have ho := fun M Q => sm_handsOf (M := M) (Q := Q) kd hb
    have hxc := hx c (by omega)
    obtain ⟨m1, m2, m3, m4, m5⟩ := hh
    by_cases ca : c = aw
    · have z : ∀ f : Nat → Nat, f 0 = 0 → a_cnt f (a_but w b aw) (c + 1) = a_cnt f (a_but w b aw) c := by
        intro f f0
        show a_cnt f (a_but w b aw) c + f (a_but w b aw c) = _
        rw [show a_but w b aw c = 0 by unfold a_but; rw [if_pos ca], f0, Nat.add_zero]
      have ih' := ih (c + 1) (by omega) f1 hr ⟨by rw [z hsr rfl]; exact m1, by rw [z hsl rfl]; exact m2, by rw [z hbr rfl]; exact m3, m4, by rw [z hei rfl]; exact m5⟩ hfh
      have yes : (nI c = x) = True := by rw [hxc]; exact eq_true ca
      simp (disch := first | assumption | rfl | exact zle_0 | exact zle_1 | exact zle_2 | exact zle_3 | exact zle_4 | exact zb_0 | exact zb_1 | exact zb01_B | omega) only [zT37_27, zr_iload_3, zcl_i, zcl_r, zcl_l, zcl_n, zv_some, zv_none, Nat.reduceAdd, Nat.reduceMul, Nat.reduceSub, Nat.reduceLT, Nat.reduceLeDiff, Nat.reduceEqDiff, Int.reduceToNat, true_implies, false_implies, implies_true, and_true, true_and, not_true_eq_false, not_false_eq_true, Nat.zero_add, Nat.add_zero, nI_add, nI_ltI, nI_leI, nI_eq, pk_mul, pk_sub, u2_same, u2_row, u2_other]
      simp (disch := first | assumption | rfl | exact zle_0 | exact zle_1 | exact zle_2 | exact zle_3 | exact zle_4 | exact zb_0 | exact zb_1 | exact zb01_B | omega) only [zT37_28, zr_aload_0, zT37_29, zr_gf_71, zr_or, zr_go, zf_133_71, zT37_32, zr_ic_0, zT37_33, zr_iald, zT37_34, zr_icmp_ge, zT37_37, zr_iload_3, zT37_38, zr_iload_1, zT37_39, zr_icmp_eq, zT37_42, zT37_43, zT37_44, zT37_47, zr_ic_1, zT37_48, zT37_49, zr_iadd, zT37_50, zT37_51, zr_iload_2, zT37_52, zr_iv_23, zT37_55, zr_iv_36, zT37_58, zr_iinc_3_1, zT37_61, zr_goto, zcl_i, zcl_r, zcl_l, zcl_n, zv_some, zv_none, Nat.reduceAdd, Nat.reduceMul, Nat.reduceSub, Nat.reduceLT, Nat.reduceLeDiff, Nat.reduceEqDiff, Int.reduceToNat, true_implies, false_implies, implies_true, and_true, true_and, not_true_eq_false, not_false_eq_true, Nat.zero_add, Nat.add_zero, nI_add, nI_ltI, nI_leI, nI_eq, pk_mul, pk_sub, u2_same, u2_row, u2_other, e0, yes, olt_T, olt_F, ole_T, ole_F, oeq_T, oeq_F]
      exact ih'
    · have no : (nI c = x) = False := by rw [hxc]; exact eq_false ca
      have v : a_but w b aw c = a_kh (w (1 + c)) b := by
        unfold a_but a_hands
        rw [if_neg ca, if_pos (by omega)]
      have z : ∀ f : Nat → Nat, a_cnt f (a_but w b aw) (c + 1) = a_cnt f (a_but w b aw) c + f (a_kh (w (1 + c)) b) := by
        intro f
        show a_cnt f (a_but w b aw) c + f (a_but w b aw c) = _
        rw [v]
      simp (disch := first | assumption | rfl | exact zle_0 | exact zle_1 | exact zle_2 | exact zle_3 | exact zle_4 | exact zb_0 | exact zb_1 | exact zb01_B | omega) only [zT37_27, zr_iload_3, zcl_i, zcl_r, zcl_l, zcl_n, zv_some, zv_none, Nat.reduceAdd, Nat.reduceMul, Nat.reduceSub, Nat.reduceLT, Nat.reduceLeDiff, Nat.reduceEqDiff, Int.reduceToNat, true_implies, false_implies, implies_true, and_true, true_and, not_true_eq_false, not_false_eq_true, Nat.zero_add, Nat.add_zero, nI_add, nI_ltI, nI_leI, nI_eq, pk_mul, pk_sub, u2_same, u2_row, u2_other]
      simp (disch := first | assumption | rfl | exact zle_0 | exact zle_1 | exact zle_2 | exact zle_3 | exact zle_4 | exact zb_0 | exact zb_1 | exact zb01_B | omega) only [zT37_28, zr_aload_0, zT37_29, zr_gf_71, zr_or, zr_go, zf_133_71, zT37_32, zr_ic_0, zT37_33, zr_iald, zT37_34, zr_icmp_ge, zT37_37, zr_iload_3, zT37_38, zr_iload_1, zT37_39, zr_icmp_eq, zT37_42, zT37_43, zT37_44, zT37_47, zr_ic_1, zT37_48, zT37_49, zr_iadd, zT37_50, zT37_51, zr_iload_2, zT37_52, zr_iv_23, zT37_55, zr_iv_36, zcl_i, zcl_r, zcl_l, zcl_n, zv_some, zv_none, Nat.reduceAdd, Nat.reduceMul, Nat.reduceSub, Nat.reduceLT, Nat.reduceLeDiff, Nat.reduceEqDiff, Int.reduceToNat, true_implies, false_implies, implies_true, and_true, true_and, not_true_eq_false, not_false_eq_true, Nat.zero_add, Nat.add_zero, nI_add, nI_ltI, nI_leI, nI_eq, pk_mul, pk_sub, u2_same, u2_row, u2_other, e0, no, ec, ho, olt_T, olt_F, ole_T, ole_F, oeq_T, oeq_F]
      refine sm_giveHand hf kh_set m1 m2 m3 m4 m5 (fun f2 g1 g2 g3 g4 g5 g6 => ?_)
      simp (disch := first | assumption | rfl | exact zle_0 | exact zle_1 | exact zle_2 | exact zle_3 | exact zle_4 | exact zb_0 | exact zb_1 | exact zb01_B | omega) only [zT37_58, zr_iinc_3_1, zT37_61, zr_goto, zcl_i, zcl_r, zcl_l, zcl_n, zv_some, zv_none, Nat.reduceAdd, Nat.reduceMul, Nat.reduceSub, Nat.reduceLT, Nat.reduceLeDiff, Nat.reduceEqDiff, Int.reduceToNat, true_implies, false_implies, implies_true, and_true, true_and, not_true_eq_false, not_false_eq_true, Nat.zero_add, Nat.add_zero, nI_add, nI_ltI, nI_leI, nI_eq, pk_mul, pk_sub, u2_same, u2_row, u2_other, olt_T, olt_F, ole_T, ole_F, oeq_T, oeq_F]
      refine ih (c + 1) (by omega) f2 (fun i hi => by rw [g6.2 134 (by decide)]; exact hr i hi) ⟨by rw [z hsr]; exact g1, by rw [z hsl]; exact g2, ?_, g4, by rw [z hei]; exact g5⟩ (hfh.tr g6)
      rw [z hbr]
      exact g3
theorem a_cnt_more {f hl : Nat → Nat} {n : Nat} : ∀ m, (∀ c, n ≤ c → f (hl c) = 0) → a_cnt f hl (n + m) = a_cnt f hl n
  | 0, _ => rfl
  | m + 1, h => by
    show a_cnt f hl (n + m) + f (hl (n + m)) = _
    rw [a_cnt_more m h, h (n + m) (by omega), Nat.add_zero]
theorem a_but_6 (hw : a_WF w) {b aw : Nat} {f : Nat → Nat} (f0 : f 0 = 0) : a_cnt f (a_but w b aw) (w 0) = a_cnt f (a_but w b aw) 6 := by
  have h0 := hw.1
  have := a_cnt_more (f := f) (hl := a_but w b aw) (n := w 0) (6 - w 0) (fun c hc => by
    have : a_but w b aw c = 0 := by
      unfold a_but a_hands
      split
      · rfl
      · rw [if_neg (by omega)]
    rw [this, f0])
  rw [show w 0 + (6 - w 0) = 6 by omega] at this
  exact this.symm
theorem sm_gather (hf : z_FR fr) (hw : a_WF w) (hr : z_MR fi 0 w) {b aw : Nat} {x : Int32} (hb : b ≤ 1) (hx : ∀ c, c < 6 → ((nI c = x) = (c = aw)))
    (hQ : ∀ fi', z_MH fi' (a_but w b aw) 0 0 6 → z_fh fi fi' → Q none (151, fi', fl, fr)) :
    TT 37 0 [some (.ref 133), some (.int x), some (.int (nI b)), none] [] (151, fi, fl, fr) Q := by
  have o133 : z_ok 151 133 20 = true := rfl; have o134 : z_ok 151 134 1 = true := rfl
  have L := sm_ga_ (fi := fi) (fl := fl) (Q := Q) hf hw hb hx (fun f1 g1 g2 => hQ f1 (by
    unfold z_MH at *
    rw [a_but_6 hw rfl, a_but_6 hw rfl, a_but_6 hw rfl, a_but_6 hw rfl] at g1
    exact g1) g2) (w 0) 0 (Nat.zero_add _) (u2 (u2 (u2 (u2 (u2 fi 133 81 (nI 0)) 133 82 (nI 0)) 133 83 (nI 0)) 133 84 (nI 0)) 133 85 (nI 0)) (fun i hi => by simp (disch := decide) only [u2_ne]; exact hr i hi) (by
    refine ⟨?_, ?_, ?_, ?_, ?_⟩ <;> simp (disch := decide) only [u2_row, u2_same] <;> rfl) ⟨fun f h1 h2 h3 h4 h5 => by simp (disch := assumption) only [u2_row], fun j hj => by simp (disch := assumption) only [u2_ne]⟩
  simp (disch := first | assumption | rfl | exact zle_0 | exact zle_1 | exact zle_2 | exact zle_3 | exact zle_4 | exact zb_0 | exact zb_1 | exact zb01_B | omega) only [zT37_0, zr_aload_0, zT37_1, zr_ic_0, zT37_2, zr_pf_81, zT37_5, zT37_6, zT37_7, zr_pf_82, zT37_10, zT37_11, zT37_12, zr_pf_83, zT37_15, zT37_16, zT37_17, zr_pf_84, zT37_20, zT37_21, zT37_22, zr_pf_85, zT37_25, zT37_26, zr_istore_3, zcl_i, zcl_r, zcl_l, zcl_n, zv_some, zv_none, Nat.reduceAdd, Nat.reduceMul, Nat.reduceSub, Nat.reduceLT, Nat.reduceLeDiff, Nat.reduceEqDiff, Int.reduceToNat, true_implies, false_implies, implies_true, and_true, true_and, not_true_eq_false, not_false_eq_true, Nat.zero_add, Nat.add_zero, nI_add, nI_ltI, nI_leI, nI_eq, pk_mul, pk_sub, u2_same, u2_row, u2_other, olt_T, olt_F, ole_T, ole_F, oeq_T, oeq_F]
  exact L
theorem sm_areEnough {nsr nbr nsl nbl sr sl br bl ei : Nat} (b : sr < 100 ∧ br < 100 ∧ sl < 100 ∧ bl < 100 ∧ ei < 100) (b' : nsr < 100 ∧ nbr < 100 ∧ nsl < 100 ∧ nbl < 100) :
    TT 38 0 [some (.int (nI nsr)), some (.int (nI nbr)), some (.int (nI nsl)), some (.int (nI nbl)), some (.int (nI sr)), some (.int (nI sl)), some (.int (nI br)), some (.int (nI bl)), some (.int (nI ei)), none, none] [] (151, fi, fl, fr) Q = Q (some (.int (zB (a_cov sr br sl bl ei nsr nbr nsl nbl)))) (151, fi, fl, fr) := by
  refine T_exact (fun Q hQ => ?_) Q
  obtain ⟨b1, b2, b3, b4, b5⟩ := b
  obtain ⟨b6, b7, b8, b9⟩ := b'
  unfold a_cov at hQ
  simp (disch := first | assumption | rfl | exact zle_0 | exact zle_1 | exact zle_2 | exact zle_3 | exact zle_4 | exact zb_0 | exact zb_1 | exact zb01_B | omega) only [zT38_0, zr_ic_0, zT38_1, zr_iload_1, zT38_2, zr_iload_4, zT38_4, zr_iload_0, zT38_5, zr_isub, zT38_6, zT38_7, zr_iload_6, zT38_9, zT38_10, zr_iv_7, zT38_13, zr_istore_9, zT38_15, zT38_16, zr_iload_3, zT38_17, zr_iload_5, zT38_19, zr_iload_2, zT38_20, zT38_21, zT38_22, zr_iload_7, zT38_24, zT38_25, zT38_28, zr_istore_10, zT38_30, zT38_31, zT38_33, zr_icmp_gt, zT38_36, zT38_37, zT38_39, zT38_42, zr_iload_9, zT38_44, zr_iload_10, zT38_46, zr_iadd, zT38_47, zr_iload_8, zT38_49, zT38_52, zr_ic_1, zT38_53, zr_goto, zT38_56, zT38_57, zr_ret1_0, zr_ret1_1, zr_ret1_B, zT7_0, zT7_1, zT7_2, zr_icmp_le, zT7_5, zT7_6, zT7_9, zT7_10, zr_ret0, zcl_i, zcl_r, zcl_l, zcl_n, zv_some, zv_none, Nat.reduceAdd, Nat.reduceMul, Nat.reduceSub, Nat.reduceLT, Nat.reduceLeDiff, Nat.reduceEqDiff, Int.reduceToNat, true_implies, false_implies, implies_true, and_true, true_and, not_true_eq_false, not_false_eq_true, Nat.zero_add, Nat.add_zero, nI_add, nI_ltI, nI_leI, nI_eq, pk_mul, pk_sub, u2_same, u2_row, u2_other, nI_iI, iI_sub, iI_add, iI_lt, iI_le, zr_ret1_i0, zr_ret1_i1]
  repeat' first | intro _ | apply And.intro
  all_goals first | (rw [decide_eq_true (by omega)] at hQ; exact hQ) | (rw [decide_eq_false (by omega)] at hQ; exact hQ) | (exfalso; omega)
end
