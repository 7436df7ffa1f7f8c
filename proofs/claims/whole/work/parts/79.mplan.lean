/-! the model's calls about the plan -/
/-- what the other calls need is as it was -/
def z_sr (fi fi' : Nat → Nat → Int32) : Prop := (fi' 133 74 = fi 133 74 ∧ fi' 133 97 = fi 133 97 ∧ fi' 133 99 = fi 133 99) ∧ ∀ j, j < 133 ∨ (134 ≤ j ∧ j ≤ 137) → fi' j = fi j
theorem z_sr.tr {a b c : Nat → Nat → Int32} (h : z_sr a b) (h2 : z_sr b c) : z_sr a c := ⟨⟨by rw [h2.1.1, h.1.1], by rw [h2.1.2.1, h.1.2.1], by rw [h2.1.2.2, h.1.2.2]⟩, fun j hj => by rw [h2.2 j hj, h.2 j hj]⟩
theorem z_sr.id_ {a : Nat → Nat → Int32} : z_sr a a := ⟨⟨rfl, rfl, rfl⟩, fun _ _ => rfl⟩
theorem z_fh.sr {a b : Nat → Nat → Int32} (h : z_fh a b) : z_sr a b := ⟨⟨h.1 _ (by decide) (by decide) (by decide) (by decide) (by decide), h.1 _ (by decide) (by decide) (by decide) (by decide) (by decide), h.1 _ (by decide) (by decide) (by decide) (by decide) (by decide)⟩, fun j hj => h.2 j (by omega)⟩
theorem z_fs.sr {a b : Nat → Nat → Int32} (h : z_fs a b) : z_sr a b := by
  have e := h 133 (by decide) (by decide) (by decide)
  exact ⟨⟨by rw [e], by rw [e], by rw [e]⟩, fun j hj => h j (by omega) (by omega) (by omega)⟩
section
variable {fi fi' : Nat → Nat → Int32} {fl fl' : Nat → Nat → Int64} {fr : Nat → Nat → Option Nat} {Q : Option Value → Mm → Prop} {w : Nat → Nat} {k : Nat} {M : Mm} {ws : Nat → Nat → Nat} {nn tx : Nat → Nat} {n : Nat}
theorem z_MS.sr (h : z_MS fi fl ws nn tx) (s : z_sr fi fi') : z_MS fi' fl ws nn tx := by
  obtain ⟨hk, hc, ht, hA, hB⟩ := h
  obtain ⟨⟨s1, s2, s3⟩, s4⟩ := s
  refine ⟨hk.frame (s4 134 (by decide)) (s4 135 (by decide)), ?_, ht.frame s1 (s4 136 (by decide)), ?_, ?_⟩
  · unfold z_MC at *; rw [s4 137 (by decide)]; exact hc
  · unfold z_ML at *; rw [s2]; exact hA
  · unfold z_ML at *; rw [s3]; exact hB
theorem en_but {b er el : Nat} (hw : a_WF w) : a_enough w (a_but w b 6) er el = a_enough w (a_hands w b) er el := by
  funext key
  unfold a_enough
  have e : ∀ f, a_cnt f (a_but w b 6) 6 = a_cnt f (a_hands w b) 6 := fun f => a_cnt_congr 6 (fun c hc => by unfold a_but; rw [if_neg (by omega)])
  rw [e, e, e, e]
theorem en_away {b c : Nat} (hc : c < 6) : a_enough w (a_but w b c) 0 0 = a_enough w (uh (a_hands w b) c (h_off (a_hands w b c))) 0 0 := by
  funext key
  unfold a_enough
  have z : ∀ m, hsr (h_off m) = 0 ∧ hbr (h_off m) = 0 ∧ hsl (h_off m) = 0 ∧ hei (h_off m) = 0 := by
    intro m
    unfold h_off
    split
    · exact ⟨rfl, rfl, rfl, rfl⟩
    · exact ⟨rfl, rfl, rfl, rfl⟩
  have e : ∀ f : Nat → Nat, f 0 = f (h_off (a_hands w b c)) → a_cnt f (a_but w b c) 6 = a_cnt f (uh (a_hands w b) c (h_off (a_hands w b c))) 6 := by
    intro f hf0
    have e1 : a_cnt f (a_but w b c) 6 = a_cnt f (uh (a_hands w b) c 0) 6 := a_cnt_congr 6 (fun j hj => by
      unfold a_but
      by_cases q : j = c
      · subst q; rw [if_pos rfl, uh_same]
      · rw [if_neg q, uh_ne q])
    have e2 := a_cnt_uh (f := f) (hl := a_hands w b) (c := c) (m := 0) 6 hc
    have e3 := a_cnt_uh (f := f) (hl := a_hands w b) (c := c) (m := h_off (a_hands w b c)) 6 hc
    omega
  obtain ⟨z1, z2, z3, z4⟩ := z (a_hands w b c)
  rw [e hsr (by rw [z1]; rfl), e hbr (by rw [z2]; rfl), e hsl (by rw [z3]; rfl), e hei (by rw [z4]; rfl)]
def a_all (w : Nat → Nat) : Nat := 2 ^ w 13 - 1
theorem all_bit (w : Nat → Nat) (h13 : w 13 ≤ 3) : ∀ d, d < 3 → a_bit (a_all w) d = decide (d < w 13) := by
  have t : ∀ n, n < 4 → ∀ d, d < 3 → a_bit (2 ^ n - 1) d = decide (d < n) := by decide +kernel
  intro d hd
  exact t (w 13) (by omega) d hd
theorem all_lt (w : Nat → Nat) (h13 : w 13 ≤ 3) : a_all w < 8 := by
  have e8 : 2 ^ w 13 ≤ 2 ^ 3 := Nat.pow_le_pow_right (by decide) h13
  have : 1 ≤ 2 ^ w 13 := Nat.one_le_two_pow
  unfold a_all
  omega
theorem tot_0 (hw : a_WF w) {d : Nat} (hd : d < 3) (h : w 13 ≤ d) : a_tot w d = 0 := by
  have := (hw.2.2.2.1 d hd).2.1 h
  unfold a_tot
  rw [this]
  simp
theorem fill_all (hw : a_WF w) {s : Nat} (hs : isSt w s) : a_fill w (a_all w) s = s := by
  refine a_fill_all hw hs (fun d hd => ?_)
  rw [all_bit w hw.2.2.1 d hd]
  rcases Nat.lt_or_ge d (w 13) with c | c
  · exact Or.inl (decide_eq_true c)
  · exact Or.inr (tot_0 hw hd c)
theorem fs_all (hw : a_WF w) : a_fs w (a_all w) = a_S w := by
  rw [← a_fill_S hw, fill_all hw (isSt_box (a_box_S hw))]
theorem sm_allDishes (hf : z_FR fr) (hw : a_WF w) (hr : z_MR fi 0 w) : TT 48 0 [some (.ref 133)] [] (151, fi, fl, fr) Q = Q (some (.int (nI (a_all w)))) (151, fi, fl, fr) := by
  refine T_exact (fun Q hQ => ?_) Q
  have o133 : z_ok 151 133 20 = true := rfl; have o134 : z_ok 151 134 1 = true := rfl
  have l134 : z_al 134 = 440 := rfl
  have h13 := hw.2.2.1
  have e13 := hr.at0 (i := 13) (by decide)
  have e8 : 2 ^ w 13 ≤ 2 ^ 3 := Nat.pow_le_pow_right (by decide) h13
  have h1 : 1 ≤ 2 ^ w 13 := Nat.one_le_two_pow
  unfold a_all at hQ
  simp (disch := first | assumption | rfl | exact zle_0 | exact zle_1 | exact zle_2 | exact zle_3 | exact zle_4 | exact zb_0 | exact zb_1 | exact zb01_B | omega) only [zT48_0, zr_ic_1, zT48_1, zr_aload_0, zT48_2, zr_gf_71, zr_or, zr_go, zf_133_71, zT48_5, zr_ic_13, zT48_7, zr_iald, zT48_8, zr_ishl, zT48_9, zT48_10, zr_isub, zT48_11, zr_ret0, zcl_i, zcl_r, zcl_l, zcl_n, zv_some, zv_none, Nat.reduceAdd, Nat.reduceMul, Nat.reduceSub, Nat.reduceLT, Nat.reduceLeDiff, Nat.reduceEqDiff, Int.reduceToNat, true_implies, false_implies, implies_true, and_true, true_and, not_true_eq_false, not_false_eq_true, Nat.zero_add, Nat.add_zero, nI_add, nI_ltI, nI_leI, nI_eq, pk_mul, pk_sub, u2_same, u2_row, u2_other, e13, b_shl, Nat.one_mul, olt_T, olt_F, ole_T, ole_F, oeq_T, oeq_F]
  exact hQ
theorem hx6 : ∀ c, c < 6 → ((nI c = nM 1) = (c = 6)) := by
  intro c hc
  rw [nM_eqI (by decide) (by decide) (by omega)]
  exact propext ⟨fun h => h.elim, fun h => by omega⟩
theorem ym_gather (hf : z_FR fr) (h : z_MS fi fl ws nn tx) (hg : z_G ws nn) {b aw : Nat} {x : Int32} (hb : b ≤ 1) (hx : ∀ c, c < 6 → ((nI c = x) = (c = aw)))
    (hQ : ∀ fi', z_MS fi' fl ws nn tx → z_MH fi' (a_but (ws 0) b aw) 0 0 6 → z_sr fi fi' → Q none (151, fi', fl, fr)) :
    TT 37 0 [some (.ref 133), some (.int x), some (.int (nI b)), none] [] (151, fi, fl, fr) Q :=
  sm_gather hf hg.1.1 h.1.1 hb hx (fun f1 g1 g2 => hQ f1 (h.sr g2.sr) g1 g2.sr)
theorem ym_search (hf : z_FR fr) (h : z_MS fi fl ws nn tx) (hg : z_G ws nn) {hl : Nat → Nat} {er el : Nat} (he : er ≤ 1 ∧ el ≤ 1) (hh : z_MH fi hl er el 6) {some_ : Nat} (h8 : some_ < 8)
    (hQ : ∀ fi', z_MS fi' fl ws nn tx → z_MP fi' (ws 0) (a_enough (ws 0) hl er el) some_ → z_MH fi' hl er el 6 → z_sr fi fi' → Q (some (.int (iF (a_FW (ws 0) (a_enough (ws 0) hl er el) (a_fs (ws 0) some_))))) (151, fi', fl, fr)) :
    TT 47 0 [some (.ref 133), some (.int (nI some_)), none, none] [] (151, fi, fl, fr) Q :=
  sm_findSoonest hf hg.1.1 h.1.1 he hh h8 (fun f1 g1 g2 => hQ f1 (h.sr g2.sr) g1 (hh.frame (g2 133 (by decide) (by decide) (by decide))) g2.sr)
theorem ym_findNow (hf : z_FR fr) (h : z_MS fi fl ws nn tx) (hg : z_G ws nn)
    (hQ : ∀ fi', z_MS fi' fl ws nn tx → z_MP fi' (ws 0) (a_en (ws 0) (ws 0 54)) (a_all (ws 0)) → z_MH fi' (a_but (ws 0) (ws 0 54) 6) 0 0 6 → z_sr fi fi' → Q (some (.int (iF (a_nw (ws 0))))) (151, fi', fl, fr)) :
    TT 49 0 [some (.ref 133)] [] (151, fi, fl, fr) Q := by
  have o133 : z_ok 151 133 20 = true := rfl; have o134 : z_ok 151 134 1 = true := rfl
  have l134 : z_al 134 = 440 := rfl
  have h54 := hg.1.1.2.2.2.2.2.1
  have e54 := h.1.1.at0 (i := 54) (by decide)
  have rest : ∀ f1, z_MS f1 fl ws nn tx → z_MH f1 (a_but (ws 0) (ws 0 54) 6) 0 0 6 → z_sr fi f1 → TT 49 21 [some (.ref 133)] [] (151, f1, fl, fr) Q := by
    intro f1 g1 g2 g3
    have al := fun Q => sm_allDishes (fl := fl) (Q := Q) hf hg.1.1 g1.1.1
    simp (disch := first | assumption | rfl | exact zle_0 | exact zle_1 | exact zle_2 | exact zle_3 | exact zle_4 | exact zb_0 | exact zb_1 | exact zb01_B | omega) only [zT49_21, zr_aload_0, zT49_22, zT49_23, zr_iv_48, zT49_26, zr_iv_47, zcl_i, zcl_r, zcl_l, zcl_n, zv_some, zv_none, Nat.reduceAdd, Nat.reduceMul, Nat.reduceSub, Nat.reduceLT, Nat.reduceLeDiff, Nat.reduceEqDiff, Int.reduceToNat, true_implies, false_implies, implies_true, and_true, true_and, not_true_eq_false, not_false_eq_true, Nat.zero_add, Nat.add_zero, nI_add, nI_ltI, nI_leI, nI_eq, pk_mul, pk_sub, u2_same, u2_row, u2_other, al, olt_T, olt_F, ole_T, ole_F, oeq_T, oeq_F]
    refine ym_search hf g1 hg (by decide) g2 (all_lt _ hg.1.1.2.2.1) (fun f2 k1 k2 k3 k4 => ?_)
    rw [en_but hg.1.1, fs_all hg.1.1]
    rw [en_but hg.1.1] at k2
    simp (disch := first | assumption | rfl | exact zle_0 | exact zle_1 | exact zle_2 | exact zle_3 | exact zle_4 | exact zb_0 | exact zb_1 | exact zb01_B | omega) only [zT49_29, zr_ret0, zcl_i, zcl_r, zcl_l, zcl_n, zv_some, zv_none, Nat.reduceAdd, Nat.reduceMul, Nat.reduceSub, Nat.reduceLT, Nat.reduceLeDiff, Nat.reduceEqDiff, Int.reduceToNat, true_implies, false_implies, implies_true, and_true, true_and, not_true_eq_false, not_false_eq_true, Nat.zero_add, Nat.add_zero, nI_add, nI_ltI, nI_leI, nI_eq, pk_mul, pk_sub, u2_same, u2_row, u2_other, olt_T, olt_F, ole_T, ole_F, oeq_T, oeq_F]
    exact hQ f2 k1 k2 k3 (g3.tr k4)
  have : ws 0 54 = 0 ∨ ws 0 54 = 1 := by omega
  rcases this with e | e
  · rw [e] at e54 rest
    simp (disch := first | assumption | rfl | exact zle_0 | exact zle_1 | exact zle_2 | exact zle_3 | exact zle_4 | exact zb_0 | exact zb_1 | exact zb01_B | omega) only [zT49_0, zr_aload_0, zT49_1, zr_ic_m1, zT49_2, zT49_3, zr_gf_71, zr_or, zr_go, zf_133_71, zT49_6, zr_ic_54, zT49_8, zr_iald, zT49_9, zr_ic_1, zT49_10, zr_icmp_ne, zT49_13, zT49_14, zr_goto, zT49_17, zr_ic_0, zT49_18, zr_iv_37, zcl_i, zcl_r, zcl_l, zcl_n, zv_some, zv_none, Nat.reduceAdd, Nat.reduceMul, Nat.reduceSub, Nat.reduceLT, Nat.reduceLeDiff, Nat.reduceEqDiff, Int.reduceToNat, true_implies, false_implies, implies_true, and_true, true_and, not_true_eq_false, not_false_eq_true, Nat.zero_add, Nat.add_zero, nI_add, nI_ltI, nI_leI, nI_eq, pk_mul, pk_sub, u2_same, u2_row, u2_other, e54, olt_T, olt_F, ole_T, ole_F, oeq_T, oeq_F]
    exact ym_gather hf h hg (by decide) hx6 (fun f1 g1 g2 g3 => rest f1 g1 g2 g3)
  · rw [e] at e54 rest
    simp (disch := first | assumption | rfl | exact zle_0 | exact zle_1 | exact zle_2 | exact zle_3 | exact zle_4 | exact zb_0 | exact zb_1 | exact zb01_B | omega) only [zT49_0, zr_aload_0, zT49_1, zr_ic_m1, zT49_2, zT49_3, zr_gf_71, zr_or, zr_go, zf_133_71, zT49_6, zr_ic_54, zT49_8, zr_iald, zT49_9, zr_ic_1, zT49_10, zr_icmp_ne, zT49_13, zT49_14, zr_goto, zT49_17, zr_ic_0, zT49_18, zr_iv_37, zcl_i, zcl_r, zcl_l, zcl_n, zv_some, zv_none, Nat.reduceAdd, Nat.reduceMul, Nat.reduceSub, Nat.reduceLT, Nat.reduceLeDiff, Nat.reduceEqDiff, Int.reduceToNat, true_implies, false_implies, implies_true, and_true, true_and, not_true_eq_false, not_false_eq_true, Nat.zero_add, Nat.add_zero, nI_add, nI_ltI, nI_leI, nI_eq, pk_mul, pk_sub, u2_same, u2_row, u2_other, e54, olt_T, olt_F, ole_T, ole_F, oeq_T, oeq_F]
    exact ym_gather hf h hg (by decide) hx6 (fun f1 g1 g2 g3 => rest f1 g1 g2 g3)
theorem sm_tElse (hf : z_FR fr) : (∀ Q, TT 4 0 [some (.ref 133), some (.int (nM 10))] [] (151, fi, fl, fr) Q = Q (some (.int (nM 10))) (151, mt fi (nM 2), fl, fr)) ∧ (∀ Q, TT 4 0 [some (.ref 133), some (.int (nM 20))] [] (151, fi, fl, fr) Q = Q (some (.int (nM 20))) (151, mt fi (nM 3), fl, fr)) := by
  have o133 : z_ok 151 133 20 = true := rfl; have o137 : z_ok 151 137 1 = true := rfl
  have l137 : z_al 137 = 3 := rfl
  have n32 : (nM 3 = nM 2) = False := by rw [nM_eq (by decide) (by decide)]; exact eq_false (by decide)
  have n2010 : (nM 20 = nM 10) = False := by rw [nM_eq (by decide) (by decide)]; exact eq_false (by decide)
  constructor
  · intro Q
    refine T_exact (fun Q hQ => ?_) Q
    unfold mt at hQ
    rw [if_pos rfl] at hQ
    simp (disch := first | assumption | rfl | exact zle_0 | exact zle_1 | exact zle_2 | exact zle_3 | exact zle_4 | exact zb_0 | exact zb_1 | exact zb01_B | omega) only [zT4_0, zr_aload_0, zT4_1, zr_gf_75, zr_or, zr_go, zf_133_75, zT4_4, zr_iload_1, zT4_5, zr_ic_m10, zT4_7, zr_icmp_ne, zT4_10, zr_ic_0, zT4_11, zr_goto, zT4_14, zr_ic_1, zT4_15, zr_dup2, zT4_16, zr_iald, zT4_17, zT4_18, zr_iadd, zT4_19, zr_iast, zT4_20, zT4_21, zr_ret0, zcl_i, zcl_r, zcl_l, zcl_n, zv_some, zv_none, Nat.reduceAdd, Nat.reduceMul, Nat.reduceSub, Nat.reduceLT, Nat.reduceLeDiff, Nat.reduceEqDiff, Int.reduceToNat, true_implies, false_implies, implies_true, and_true, true_and, not_true_eq_false, not_false_eq_true, Nat.zero_add, Nat.add_zero, nI_add, nI_ltI, nI_leI, nI_eq, pk_mul, pk_sub, u2_same, u2_row, u2_other, olt_T, olt_F, ole_T, ole_F, oeq_T, oeq_F]
    exact hQ
  · intro Q
    refine T_exact (fun Q hQ => ?_) Q
    unfold mt at hQ
    rw [if_neg (by rw [n32]; exact id), if_pos rfl] at hQ
    simp (disch := first | assumption | rfl | exact zle_0 | exact zle_1 | exact zle_2 | exact zle_3 | exact zle_4 | exact zb_0 | exact zb_1 | exact zb01_B | omega) only [zT4_0, zr_aload_0, zT4_1, zr_gf_75, zr_or, zr_go, zf_133_75, zT4_4, zr_iload_1, zT4_5, zr_ic_m10, zT4_7, zr_icmp_ne, zT4_10, zr_ic_0, zT4_11, zr_goto, zT4_14, zr_ic_1, zT4_15, zr_dup2, zT4_16, zr_iald, zT4_17, zT4_18, zr_iadd, zT4_19, zr_iast, zT4_20, zT4_21, zr_ret0, zcl_i, zcl_r, zcl_l, zcl_n, zv_some, zv_none, Nat.reduceAdd, Nat.reduceMul, Nat.reduceSub, Nat.reduceLT, Nat.reduceLeDiff, Nat.reduceEqDiff, Int.reduceToNat, true_implies, false_implies, implies_true, and_true, true_and, not_true_eq_false, not_false_eq_true, Nat.zero_add, Nat.add_zero, nI_add, nI_ltI, nI_leI, nI_eq, pk_mul, pk_sub, u2_same, u2_row, u2_other, n2010, olt_T, olt_F, ole_T, ole_F, oeq_T, oeq_F]
    exact hQ
theorem z_MQ.els {r : Nat} {a : Int32} (hr : r = 2 ∨ r = 3) (h : z_MS fi fl ws nn tx) (hQ : z_MQ fi fr Q a ws (rf nn r) tx) : Q (some (.int a)) (151, mt fi (nM r), fl, fr) := by
  have e : rf nn r = o_note (nM r) nn := by
    have n32 : (nM 3 = nM 2) = False := by rw [nM_eq (by decide) (by decide)]; exact eq_false (by decide)
    unfold o_note rf
    rcases hr with rfl | rfl
    · rw [if_pos rfl]
    · rw [if_neg (by rw [n32]; exact id), if_pos rfl]
  rw [e] at hQ
  exact hQ _ _ (h.mt _) (fun j hj => mt_ne (by omega))
theorem ym_soonest (hf : z_FR fr) (h : z_MS fi fl ws nn tx) (hg : z_G ws nn) (hQ : z_MQ fi fr Q (iF (a_nw (ws 0))) ws nn tx) : TT 50 0 [some (.ref 133)] [] (151, fi, fl, fr) Q := by
  have o133 : z_ok 151 133 20 = true := rfl
  simp (disch := first | assumption | rfl | exact zle_0 | exact zle_1 | exact zle_2 | exact zle_3 | exact zle_4 | exact zb_0 | exact zb_1 | exact zb01_B | omega) only [zT50_0, zr_aload_0, zT50_1, zr_iv_49, zcl_i, zcl_r, zcl_l, zcl_n, zv_some, zv_none, Nat.reduceAdd, Nat.reduceMul, Nat.reduceSub, Nat.reduceLT, Nat.reduceLeDiff, Nat.reduceEqDiff, Int.reduceToNat, true_implies, false_implies, implies_true, and_true, true_and, not_true_eq_false, not_false_eq_true, Nat.zero_add, Nat.add_zero, nI_add, nI_ltI, nI_leI, nI_eq, pk_mul, pk_sub, u2_same, u2_row, u2_other, olt_T, olt_F, ole_T, ole_F, oeq_T, oeq_F]
  refine ym_findNow hf h hg (fun f1 g1 g2 g3 g4 => ?_)
  simp (disch := first | assumption | rfl | exact zle_0 | exact zle_1 | exact zle_2 | exact zle_3 | exact zle_4 | exact zb_0 | exact zb_1 | exact zb01_B | omega) only [zT50_4, zr_ret0, zcl_i, zcl_r, zcl_l, zcl_n, zv_some, zv_none, Nat.reduceAdd, Nat.reduceMul, Nat.reduceSub, Nat.reduceLT, Nat.reduceLeDiff, Nat.reduceEqDiff, Int.reduceToNat, true_implies, false_implies, implies_true, and_true, true_and, not_true_eq_false, not_false_eq_true, Nat.zero_add, Nat.add_zero, nI_add, nI_ltI, nI_leI, nI_eq, pk_mul, pk_sub, u2_same, u2_row, u2_other, olt_T, olt_F, ole_T, ole_F, oeq_T, oeq_F]
  exact hQ f1 fl g1 (fun j hj => g4.2 j (by omega))
/-- the next set of the row -/
theorem sm_nx_ (hf : z_FR fr) (hw : a_WF w) {hl : Nat → Nat} {er el : Nat} (hp : z_MP fi w (a_enough w hl er el) (a_all w)) {s : Nat} (hs : isSt w s) (h0 : a_FW w (a_enough w hl er el) s ≠ 0) (h1 : a_FW w (a_enough w hl er el) s ≠ 100) :
    ∀ m set, set + m = 8 → 1 ≤ set → (∃ q, set ≤ q ∧ q < set + m ∧ (a_mv w (a_enough w hl er el) s q && decide (a_FW w (a_enough w hl er el) (nx s q) + 1 = a_FW w (a_enough w hl er el) s)) = true) → ∀ Q, TT 51 2 [some (.ref 133), some (.int (nI s)), some (.int (nI set))] [] (151, fi, fl, fr) Q = Q (some (.int (nI (nf_ (fun q => a_mv w (a_enough w hl er el) s q && decide (a_FW w (a_enough w hl er el) (nx s q) + 1 = a_FW w (a_enough w hl er el) s)) m set)))) (151, fi, fl, fr) := by
  have o133 : z_ok 151 133 20 = true := rfl; have o140 : z_ok 151 140 1 = true := rfl; have o141 : z_ok 151 141 1 = true := rfl
  have l140 : z_al 140 = 4096 := rfl; have l141 : z_al 141 = 4096 := rfl
  have s4 := hs.1
  have c3 := (a_st3_iff s4).mpr hs
  have e140 := hp.2.1 s s4
  have e141 := hp.2.2 s hs
  rw [fill_all hw hs] at e141
  have mlt := a_may_lt (w := w) (en := a_enough w hl er el) (some_ := a_all w) (s := s)
  have fle := a_FW2 hw hs (en := a_enough w hl er el)
  have g1 : gF 100000 (a_FW w (a_enough w hl er el) s) = a_FW w (a_enough w hl er el) s := by unfold gF; rw [if_neg h1]
  rw [g1] at e141
  have hmv : ∀ q, q < 8 → a_bit (a_mayA w (a_enough w hl er el) (a_all w) s) q = a_mv w (a_enough w hl er el) s q := by
    intro q q8
    unfold a_mayA
    rw [if_pos c3, a_may_mv hw (all_lt w hw.2.2.1) hs q8, fill_all hw hs]
  intro m
  induction m with
  | zero =>
    intro set hset h1 hex
    obtain ⟨q, q1, q2, -⟩ := hex
    omega
  | succ m ih =>
    intro set hset h1' hex Q
    have q8 : set < 8 := by omega
    have ha := fun M Q => sm_has (M := M) (Q := Q) (b := a_mayA w (a_enough w hl er el) (a_all w) s) (d := set) (by omega) (by omega)
    rw [hmv set q8] at ha
    unfold nf_
    cases hm : a_mv w (a_enough w hl er el) s set
    · rw [hm] at ha
      have ih' := ih (set + 1) (by omega) (by omega) (by
        obtain ⟨q, q1, q2, q3⟩ := hex
        refine ⟨q, ?_, by omega, q3⟩
        by_cases e : q = set
        · subst e; rw [hm] at q3; exact absurd q3 (by simp)
        · omega)
      rw [Bool.false_and, if_neg (by decide)]
      simp (disch := first | assumption | rfl | exact zle_0 | exact zle_1 | exact zle_2 | exact zle_3 | exact zle_4 | exact zb_0 | exact zb_1 | exact zb01_B | omega) only [zT51_2, zr_aload_0, zcl_i, zcl_r, zcl_l, zcl_n, zv_some, zv_none, Nat.reduceAdd, Nat.reduceMul, Nat.reduceSub, Nat.reduceLT, Nat.reduceLeDiff, Nat.reduceEqDiff, Int.reduceToNat, true_implies, false_implies, implies_true, and_true, true_and, not_true_eq_false, not_false_eq_true, Nat.zero_add, Nat.add_zero, nI_add, nI_ltI, nI_leI, nI_eq, pk_mul, pk_sub, u2_same, u2_row, u2_other]
      simp (disch := first | assumption | rfl | exact zle_0 | exact zle_1 | exact zle_2 | exact zle_3 | exact zle_4 | exact zb_0 | exact zb_1 | exact zb01_B | omega) only [zT51_3, zr_gf_86, zr_or, zr_go, zf_133_86, zT51_6, zr_iload_1, zT51_7, zr_iald, zT51_8, zr_iload_2, zT51_9, zr_iv_5, zT51_12, zr_if_eq, zT51_36, zr_iinc_2_1, zT51_39, zr_goto, zcl_i, zcl_r, zcl_l, zcl_n, zv_some, zv_none, Nat.reduceAdd, Nat.reduceMul, Nat.reduceSub, Nat.reduceLT, Nat.reduceLeDiff, Nat.reduceEqDiff, Int.reduceToNat, true_implies, false_implies, implies_true, and_true, true_and, not_true_eq_false, not_false_eq_true, Nat.zero_add, Nat.add_zero, nI_add, nI_ltI, nI_leI, nI_eq, pk_mul, pk_sub, u2_same, u2_row, u2_other, e140, ha, zB_eq0, ih', olt_T, olt_F, ole_T, ole_F, oeq_T, oeq_F]
    · rw [hm] at ha
      obtain ⟨b2, -⟩ := (a_sys2 hw (en := a_enough w hl er el)).2 s set hs h1' q8 hm
      have n141 := hp.2.2 _ b2
      rw [fill_all hw b2] at n141
      have n4 := b2.1
      have ow := fun M Q => sm_onward (M := M) (Q := Q) s4 q8
      have nle := a_FW2 hw b2 (en := a_enough w hl er el)
      have ngl := gF2 hw b2 (en := a_enough w hl er el)
      have eqv : (gF 100000 (a_FW w (a_enough w hl er el) (nx s set)) = a_FW w (a_enough w hl er el) s - 1) = (a_FW w (a_enough w hl er el) (nx s set) + 1 = a_FW w (a_enough w hl er el) s) := by
        apply propext
        unfold gF
        rcases nle with x | x <;> split <;> omega
      have sub1 : nI (a_FW w (a_enough w hl er el) s) - nI 1 = nI (a_FW w (a_enough w hl er el) s - 1) := pk_sub (by omega)
      by_cases c : a_FW w (a_enough w hl er el) (nx s set) + 1 = a_FW w (a_enough w hl er el) s
      · have c' := c
        rw [← eqv] at c'
        rw [if_pos (by rw [decide_eq_true c]; rfl)]
        simp (disch := first | assumption | rfl | exact zle_0 | exact zle_1 | exact zle_2 | exact zle_3 | exact zle_4 | exact zb_0 | exact zb_1 | exact zb01_B | omega) only [zT51_2, zr_aload_0, zcl_i, zcl_r, zcl_l, zcl_n, zv_some, zv_none, Nat.reduceAdd, Nat.reduceMul, Nat.reduceSub, Nat.reduceLT, Nat.reduceLeDiff, Nat.reduceEqDiff, Int.reduceToNat, true_implies, false_implies, implies_true, and_true, true_and, not_true_eq_false, not_false_eq_true, Nat.zero_add, Nat.add_zero, nI_add, nI_ltI, nI_leI, nI_eq, pk_mul, pk_sub, u2_same, u2_row, u2_other]
        simp (disch := first | assumption | rfl | exact zle_0 | exact zle_1 | exact zle_2 | exact zle_3 | exact zle_4 | exact zb_0 | exact zb_1 | exact zb01_B | omega) only [zT51_3, zr_gf_86, zr_or, zr_go, zf_133_86, zT51_6, zr_iload_1, zT51_7, zr_iald, zT51_8, zr_iload_2, zT51_9, zr_iv_5, zT51_12, zr_if_eq, zT51_15, zr_aload_0, zT51_16, zr_gf_87, zf_133_87, zT51_19, zT51_20, zT51_21, zr_iv_45, zT51_24, zT51_25, zT51_26, zT51_29, zT51_30, zT51_31, zr_ic_1, zT51_32, zr_isub, zT51_33, zr_icmp_eq, zT51_36, zr_iinc_2_1, zT51_39, zr_goto, zT51_42, zT51_43, zr_ret0, zcl_i, zcl_r, zcl_l, zcl_n, zv_some, zv_none, Nat.reduceAdd, Nat.reduceMul, Nat.reduceSub, Nat.reduceLT, Nat.reduceLeDiff, Nat.reduceEqDiff, Int.reduceToNat, true_implies, false_implies, implies_true, and_true, true_and, not_true_eq_false, not_false_eq_true, Nat.zero_add, Nat.add_zero, nI_add, nI_ltI, nI_leI, nI_eq, pk_mul, pk_sub, u2_same, u2_row, u2_other, e140, e141, n141, ha, ow, sub1, zB_eq0, reduceCtorEq, olt_T, olt_F, ole_T, ole_F, oeq_T, oeq_F]
      · have c' := c
        rw [← eqv] at c'
        have ih' := ih (set + 1) (by omega) (by omega) (by
          obtain ⟨q, q1, q2, q3⟩ := hex
          refine ⟨q, ?_, by omega, q3⟩
          by_cases e : q = set
          · subst e; rw [decide_eq_false c] at q3; exact absurd q3 (by simp)
          · omega)
        rw [if_neg (by rw [decide_eq_false c]; decide)]
        simp (disch := first | assumption | rfl | exact zle_0 | exact zle_1 | exact zle_2 | exact zle_3 | exact zle_4 | exact zb_0 | exact zb_1 | exact zb01_B | omega) only [zT51_2, zr_aload_0, zcl_i, zcl_r, zcl_l, zcl_n, zv_some, zv_none, Nat.reduceAdd, Nat.reduceMul, Nat.reduceSub, Nat.reduceLT, Nat.reduceLeDiff, Nat.reduceEqDiff, Int.reduceToNat, true_implies, false_implies, implies_true, and_true, true_and, not_true_eq_false, not_false_eq_true, Nat.zero_add, Nat.add_zero, nI_add, nI_ltI, nI_leI, nI_eq, pk_mul, pk_sub, u2_same, u2_row, u2_other]
        simp (disch := first | assumption | rfl | exact zle_0 | exact zle_1 | exact zle_2 | exact zle_3 | exact zle_4 | exact zb_0 | exact zb_1 | exact zb01_B | omega) only [zT51_3, zr_gf_86, zr_or, zr_go, zf_133_86, zT51_6, zr_iload_1, zT51_7, zr_iald, zT51_8, zr_iload_2, zT51_9, zr_iv_5, zT51_12, zr_if_eq, zT51_15, zr_aload_0, zT51_16, zr_gf_87, zf_133_87, zT51_19, zT51_20, zT51_21, zr_iv_45, zT51_24, zT51_25, zT51_26, zT51_29, zT51_30, zT51_31, zr_ic_1, zT51_32, zr_isub, zT51_33, zr_icmp_eq, zT51_36, zr_iinc_2_1, zT51_39, zr_goto, zcl_i, zcl_r, zcl_l, zcl_n, zv_some, zv_none, Nat.reduceAdd, Nat.reduceMul, Nat.reduceSub, Nat.reduceLT, Nat.reduceLeDiff, Nat.reduceEqDiff, Int.reduceToNat, true_implies, false_implies, implies_true, and_true, true_and, not_true_eq_false, not_false_eq_true, Nat.zero_add, Nat.add_zero, nI_add, nI_ltI, nI_leI, nI_eq, pk_mul, pk_sub, u2_same, u2_row, u2_other, e140, e141, n141, ha, ow, sub1, zB_eq0, reduceCtorEq, ih', olt_T, olt_F, ole_T, ole_F, oeq_T, oeq_F]
theorem sm_nextOf (hf : z_FR fr) (hw : a_WF w) {hl : Nat → Nat} {er el : Nat} (hp : z_MP fi w (a_enough w hl er el) (a_all w)) {s : Nat} (hs : isSt w s) (h0 : a_FW w (a_enough w hl er el) s ≠ 0) (h1 : a_FW w (a_enough w hl er el) s ≠ 100) : TT 51 0 [some (.ref 133), some (.int (nI s)), none] [] (151, fi, fl, fr) Q = Q (some (.int (nI (a_nxt (a_mv w (a_enough w hl er el)) (a_E w) s)))) (151, fi, fl, fr) := by
  have ns : s ≠ a_E w := by
    rintro rfl
    exact h0 (a_F_E (a_sys2 hw) hs)
  obtain ⟨q, q1, q2, q3, q4⟩ := a_F_dn (E := a_E w) (a_sys2 hw (en := a_enough w hl er el)) hs ns h1
  have L := sm_nx_ (fl := fl) hf hw hp hs h0 h1 7 1 rfl (Nat.le_refl _) ⟨q, q1, by omega, by
    rw [q3, decide_eq_true (show a_FW w (a_enough w hl er el) (nx s q) + 1 = a_FW w (a_enough w hl er el) s from q4)]; rfl⟩ Q
  simp (disch := first | assumption | rfl | exact zle_0 | exact zle_1 | exact zle_2 | exact zle_3 | exact zle_4 | exact zb_0 | exact zb_1 | exact zb01_B | omega) only [zT51_0, zr_ic_1, zT51_1, zr_istore_2, zcl_i, zcl_r, zcl_l, zcl_n, zv_some, zv_none, Nat.reduceAdd, Nat.reduceMul, Nat.reduceSub, Nat.reduceLT, Nat.reduceLeDiff, Nat.reduceEqDiff, Int.reduceToNat, true_implies, false_implies, implies_true, and_true, true_and, not_true_eq_false, not_false_eq_true, Nat.zero_add, Nat.add_zero, nI_add, nI_ltI, nI_leI, nI_eq, pk_mul, pk_sub, u2_same, u2_row, u2_other]
  exact L
theorem z_MP.frame {en : Nat → Bool} {some_ : Nat} (h : z_MP fi w en some_) (h1 : fi' 140 = fi 140) (h2 : fi' 141 = fi 141) (h3 : fi' 142 = fi 142) : z_MP fi' w en some_ := by
  unfold z_MP at *
  rw [h1, h2, h3]
  exact h
theorem ym_rw_ (hf : z_FR fr) (hw : a_WF w) (hp : z_MP fi w (a_en w (w 54)) (a_all w)) (hn : a_nw w ≠ 100) {i : Nat} {x : Int32} (hi : i < a_nw w) : ∀ m k, k + m = i → ∀ Q, TT 52 32 [some (.ref 133), some (.int (nI i)), some (.int x), some (.int (nI (a_sN w k))), some (.int (nI k))] [] (151, fi, fl, fr) Q = Q (some (.int (nI (a_qN w i)))) (151, fi, fl, fr) := by
  have o133 : z_ok 151 133 20 = true := rfl
  have sys := a_sys hw (en := a_en w (w 54))
  have bE := a_box_E hw
  have bS := a_box_S hw
  have n45 : a_nw w ≤ 45 ∨ a_nw w = 100 := a_FW_45 hw
  have nxo : ∀ k, k < a_nw w → ∀ Q, TT 51 0 [some (.ref 133), some (.int (nI (a_sN w k))), none] [] (151, fi, fl, fr) Q = Q (some (.int (nI (a_qN w k)))) (151, fi, fl, fr) := by
    intro k hk Q
    obtain ⟨sb, sF⟩ := a_sAt_spec (E := a_E w) sys bE bS (s0 := a_S w) (n := a_nw w) rfl hn k (by omega)
    exact sm_nextOf (fl := fl) (Q := Q) hf hw hp (isSt_box sb) (by
      have : a_FW w (a_enough w (a_hands w (w 54)) 0 0) (a_sN w k) = a_nw w - k := sF
      omega) (by
      have : a_FW w (a_enough w (a_hands w (w 54)) 0 0) (a_sN w k) = a_nw w - k := sF
      omega)
  intro m
  induction m with
  | zero =>
    intro k hk Q
    obtain rfl : k = i := by omega
    have no := nxo k hi
    simp (disch := first | assumption | rfl | exact zle_0 | exact zle_1 | exact zle_2 | exact zle_3 | exact zle_4 | exact zb_0 | exact zb_1 | exact zb01_B | omega) only [zT52_32, zr_iload_4, zT52_34, zr_iload_1, zT52_35, zr_icmp_ge, zT52_38, zr_iload_3, zT52_39, zr_aload_0, zT52_40, zT52_41, zr_iv_51, zT52_44, zr_iv_45, zT52_47, zr_istore_3, zT52_48, zr_iinc_4_1, zT52_51, zr_goto, zT52_54, zT52_55, zT52_56, zT52_59, zr_ret0, zcl_i, zcl_r, zcl_l, zcl_n, zv_some, zv_none, Nat.reduceAdd, Nat.reduceMul, Nat.reduceSub, Nat.reduceLT, Nat.reduceLeDiff, Nat.reduceEqDiff, Int.reduceToNat, true_implies, false_implies, implies_true, and_true, true_and, not_true_eq_false, not_false_eq_true, Nat.zero_add, Nat.add_zero, nI_add, nI_ltI, nI_leI, nI_eq, pk_mul, pk_sub, u2_same, u2_row, u2_other, no, olt_T, olt_F, ole_T, ole_F, oeq_T, oeq_F]
  | succ m ih =>
    intro k hk Q
    have ih' := ih (k + 1) (by omega)
    have no := nxo k (by omega)
    obtain ⟨sb, sF⟩ := a_sAt_spec (E := a_E w) sys bE bS (s0 := a_S w) (n := a_nw w) rfl hn k (by omega)
    obtain ⟨q1, q8, q3, q4, q5⟩ := a_nxt_spec (E := a_E w) sys bE sb (by omega) (by omega)
    have ow := fun M Q => sm_onward (M := M) (Q := Q) (s := a_sN w k) (set := a_qN w k) sb.1 q8
    have e : a_sN w (k + 1) = nx (a_sN w k) (a_qN w k) := rfl
    rw [e] at ih'
    simp (disch := first | assumption | rfl | exact zle_0 | exact zle_1 | exact zle_2 | exact zle_3 | exact zle_4 | exact zb_0 | exact zb_1 | exact zb01_B | omega) only [zT52_32, zr_iload_4, zcl_i, zcl_r, zcl_l, zcl_n, zv_some, zv_none, Nat.reduceAdd, Nat.reduceMul, Nat.reduceSub, Nat.reduceLT, Nat.reduceLeDiff, Nat.reduceEqDiff, Int.reduceToNat, true_implies, false_implies, implies_true, and_true, true_and, not_true_eq_false, not_false_eq_true, Nat.zero_add, Nat.add_zero, nI_add, nI_ltI, nI_leI, nI_eq, pk_mul, pk_sub, u2_same, u2_row, u2_other]
    simp (disch := first | assumption | rfl | exact zle_0 | exact zle_1 | exact zle_2 | exact zle_3 | exact zle_4 | exact zb_0 | exact zb_1 | exact zb01_B | omega) only [zT52_34, zr_iload_1, zT52_35, zr_icmp_ge, zT52_38, zr_iload_3, zT52_39, zr_aload_0, zT52_40, zT52_41, zr_iv_51, zT52_44, zr_iv_45, zT52_47, zr_istore_3, zT52_48, zr_iinc_4_1, zT52_51, zr_goto, zcl_i, zcl_r, zcl_l, zcl_n, zv_some, zv_none, Nat.reduceAdd, Nat.reduceMul, Nat.reduceSub, Nat.reduceLT, Nat.reduceLeDiff, Nat.reduceEqDiff, Int.reduceToNat, true_implies, false_implies, implies_true, and_true, true_and, not_true_eq_false, not_false_eq_true, Nat.zero_add, Nat.add_zero, nI_add, nI_ltI, nI_leI, nI_eq, pk_mul, pk_sub, u2_same, u2_row, u2_other, no, ow, ih', olt_T, olt_F, ole_T, ole_F, oeq_T, oeq_F]
theorem ym_row (hf : z_FR fr) (h : z_MS fi fl ws nn tx) (hg : z_G ws nn) {x : Int32} (hQ : z_MQ fi fr Q (r_row ws nn x).1 ws (r_row ws nn x).2 tx) : TT 52 0 [some (.ref 133), some (.int x), none, none, none] [] (151, fi, fl, fr) Q := by
  have o133 : z_ok 151 133 20 = true := rfl
  have te := (sm_tElse (fi := fi) (fl := fl) hf).1
  have n45 : a_nw (ws 0) ≤ 45 ∨ a_nw (ws 0) = 100 := a_FW_45 hg.1.1
  unfold r_row at hQ
  by_cases c : 0 ≤ x.toInt
  · rw [if_pos c] at hQ
    have n1 : (nI 0 ≤ x) = True := eq_true (by rw [Int32.le_iff_toInt_le, nI_toInt (by decide)]; omega)
    obtain ⟨ex, lx⟩ := nI_ofInt c
    generalize hx : x.toInt.toNat = i at *
    rw [ex] at n1 ⊢
    simp (disch := first | assumption | rfl | exact zle_0 | exact zle_1 | exact zle_2 | exact zle_3 | exact zle_4 | exact zb_0 | exact zb_1 | exact zb01_B | omega) only [zT52_0, zr_iload_1, zT52_1, zr_if_ge, zT52_4, zr_aload_0, zT52_5, zr_ic_m10, zT52_7, zr_iv_4, zT52_10, zr_ret0, zT52_11, zT52_12, zr_iv_49, zcl_i, zcl_r, zcl_l, zcl_n, zv_some, zv_none, Nat.reduceAdd, Nat.reduceMul, Nat.reduceSub, Nat.reduceLT, Nat.reduceLeDiff, Nat.reduceEqDiff, Int.reduceToNat, true_implies, false_implies, implies_true, and_true, true_and, not_true_eq_false, not_false_eq_true, Nat.zero_add, Nat.add_zero, nI_add, nI_ltI, nI_leI, nI_eq, pk_mul, pk_sub, u2_same, u2_row, u2_other, n1, olt_T, olt_F, ole_T, ole_F, oeq_T, oeq_F]
    refine ym_findNow hf h hg (fun f1 g1 g2 g3 g4 => ?_)
    have o := hQ f1 fl g1 (fun j hj => g4.2 j (by omega))
    by_cases c0 : a_nw (ws 0) = 100
    · rw [if_neg (fun q => q.1 c0)] at o
      rw [iF_100 c0]
      have le : (nI i < nM 1) = False := by
        refine eq_false ?_
        rw [Int32.lt_iff_toInt_lt, nM_toInt (by decide), nI_toInt lx]
        omega
      simp (disch := first | assumption | rfl | exact zle_0 | exact zle_1 | exact zle_2 | exact zle_3 | exact zle_4 | exact zb_0 | exact zb_1 | exact zb01_B | omega) only [zT52_15, zr_istore_2, zT52_16, zr_iload_1, zT52_17, zr_iload_2, zT52_18, zr_icmp_lt, zT52_21, zr_ic_m5, zT52_23, zr_ret0, zcl_i, zcl_r, zcl_l, zcl_n, zv_some, zv_none, Nat.reduceAdd, Nat.reduceMul, Nat.reduceSub, Nat.reduceLT, Nat.reduceLeDiff, Nat.reduceEqDiff, Int.reduceToNat, true_implies, false_implies, implies_true, and_true, true_and, not_true_eq_false, not_false_eq_true, Nat.zero_add, Nat.add_zero, nI_add, nI_ltI, nI_leI, nI_eq, pk_mul, pk_sub, u2_same, u2_row, u2_other, le, olt_T, olt_F, ole_T, ole_F, oeq_T, oeq_F]
      exact o
    · rw [iF_n c0]
      by_cases c1 : i < a_nw (ws 0)
      · rw [if_pos ⟨c0, c1⟩] at o
        have sn := fun Q => sm_stateNow (fl := fl) (Q := Q) hf hg.1.1 g1.1.1
        have L := ym_rw_ (fl := fl) (x := nI (a_nw (ws 0))) hf hg.1.1 g2 c0 c1 i 0 (Nat.zero_add _) Q
        rw [show a_sN (ws 0) 0 = a_S (ws 0) from rfl] at L
        simp (disch := first | assumption | rfl | exact zle_0 | exact zle_1 | exact zle_2 | exact zle_3 | exact zle_4 | exact zb_0 | exact zb_1 | exact zb01_B | omega) only [zT52_15, zr_istore_2, zT52_16, zr_iload_1, zT52_17, zr_iload_2, zT52_18, zr_icmp_lt, zT52_21, zr_ic_m5, zT52_23, zr_ret0, zT52_24, zr_aload_0, zT52_25, zr_iv_42, zT52_28, zr_istore_3, zT52_29, zr_ic_0, zT52_30, zr_istore_4, zcl_i, zcl_r, zcl_l, zcl_n, zv_some, zv_none, Nat.reduceAdd, Nat.reduceMul, Nat.reduceSub, Nat.reduceLT, Nat.reduceLeDiff, Nat.reduceEqDiff, Int.reduceToNat, true_implies, false_implies, implies_true, and_true, true_and, not_true_eq_false, not_false_eq_true, Nat.zero_add, Nat.add_zero, nI_add, nI_ltI, nI_leI, nI_eq, pk_mul, pk_sub, u2_same, u2_row, u2_other, sn, olt_T, olt_F, ole_T, ole_F, oeq_T, oeq_F]
        rw [L]
        exact o
      · rw [if_neg (fun q => c1 q.2)] at o
        simp (disch := first | assumption | rfl | exact zle_0 | exact zle_1 | exact zle_2 | exact zle_3 | exact zle_4 | exact zb_0 | exact zb_1 | exact zb01_B | omega) only [zT52_15, zr_istore_2, zT52_16, zr_iload_1, zT52_17, zr_iload_2, zT52_18, zr_icmp_lt, zT52_21, zr_ic_m5, zT52_23, zr_ret0, zcl_i, zcl_r, zcl_l, zcl_n, zv_some, zv_none, Nat.reduceAdd, Nat.reduceMul, Nat.reduceSub, Nat.reduceLT, Nat.reduceLeDiff, Nat.reduceEqDiff, Int.reduceToNat, true_implies, false_implies, implies_true, and_true, true_and, not_true_eq_false, not_false_eq_true, Nat.zero_add, Nat.add_zero, nI_add, nI_ltI, nI_leI, nI_eq, pk_mul, pk_sub, u2_same, u2_row, u2_other, olt_T, olt_F, ole_T, ole_F, oeq_T, oeq_F]
        exact o
  · rw [if_neg c] at hQ
    have n1 : (nI 0 ≤ x) = False := eq_false (by rw [Int32.le_iff_toInt_le, nI_toInt (by decide)]; omega)
    have o := z_MQ.els (Or.inl rfl) h hQ
    simp (disch := first | assumption | rfl | exact zle_0 | exact zle_1 | exact zle_2 | exact zle_3 | exact zle_4 | exact zb_0 | exact zb_1 | exact zb01_B | omega) only [zT52_0, zr_iload_1, zT52_1, zr_if_ge, zT52_4, zr_aload_0, zT52_5, zr_ic_m10, zT52_7, zr_iv_4, zT52_10, zr_ret0, zcl_i, zcl_r, zcl_l, zcl_n, zv_some, zv_none, Nat.reduceAdd, Nat.reduceMul, Nat.reduceSub, Nat.reduceLT, Nat.reduceLeDiff, Nat.reduceEqDiff, Int.reduceToNat, true_implies, false_implies, implies_true, and_true, true_and, not_true_eq_false, not_false_eq_true, Nat.zero_add, Nat.add_zero, nI_add, nI_ltI, nI_leI, nI_eq, pk_mul, pk_sub, u2_same, u2_row, u2_other, n1, te, olt_T, olt_F, ole_T, ole_F, oeq_T, oeq_F]
    exact o
end
