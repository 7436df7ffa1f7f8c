/-! each place's cook, in the model -/
section
variable {fi fi' : Nat → Nat → Int32} {fl fl' : Nat → Nat → Int64} {fr : Nat → Nat → Option Nat} {Q : Option Value → Mm → Prop} {w : Nat → Nat} {k : Nat} {M : Mm} {ws : Nat → Nat → Nat} {nn tx : Nat → Nat} {n : Nat}
theorem a_first_ge {hl : Nat → Nat} {ri sh : Bool} {a b c d r : Nat} : ∀ n j, a_first hl ri sh a b c d n j = some r → j ≤ r
  | 0, j, h => by unfold a_first at h; exact absurd h (by simp)
  | n + 1, j, h => by
    unfold a_first at h
    split at h
    · have := Option.some.inj h; omega
    · have := a_first_ge n (j + 1) h; omega
theorem sm_wh_ (hf : z_FR fr) (hw : a_WF w) {x y : Int32} {v4 v5 : Option Value} {fi0 : Nat → Nat → Int32} (hr0 : z_MR fi0 0 w) {l : List Hd}
    (hQ : ∀ f2, z_WL f2 l → z_HL f2 (a_hands w (w 54)) (w 0) → zw_f fi0 f2 → TT 55 186 [some (.ref 133), some (.int x), some (.int y), some (.int (nI (w 0))), v4, v5, none, none] [] (151, f2, fl, fr) Q) :
    ∀ m c, c + m = w 0 → ∀ f1, z_WL f1 l → z_HL f1 (a_hands w (w 54)) c → zw_f fi0 f1 → TT 55 159 [some (.ref 133), some (.int x), some (.int y), some (.int (nI c)), v4, v5, none, none] [] (151, f1, fl, fr) Q := by
  have o133 : z_ok 151 133 20 = true := rfl; have o134 : z_ok 151 134 1 = true := rfl; have o145 : z_ok 151 145 1 = true := rfl
  have l134 : z_al 134 = 440 := rfl; have l145 : z_al 145 = 6 := rfl
  have w06 := hw.1
  intro m
  induction m with
  | zero =>
    intro c hc f1 hwl hh hfr
    obtain rfl : c = w 0 := by omega
    have hr : z_MR f1 0 w := fun i hi => by rw [hfr.2 134 (by decide)]; exact hr0 i hi
    have e0 := hr.at0 (i := 0) (by decide)
    have o := hQ f1 hwl hh hfr
    simp (disch := first | assumption | rfl | exact zle_0 | exact zle_1 | exact zle_2 | exact zle_3 | exact zle_4 | exact zb_0 | exact zb_1 | exact zb01_B | omega) only [zT55_159, zr_iload_3, zT55_160, zr_aload_0, zT55_161, zr_gf_71, zr_or, zr_go, zf_133_71, zT55_164, zr_ic_0, zT55_165, zr_iald, zT55_166, zr_icmp_ge, zcl_i, zcl_r, zcl_l, zcl_n, zv_some, zv_none, Nat.reduceAdd, Nat.reduceMul, Nat.reduceSub, Nat.reduceLT, Nat.reduceLeDiff, Nat.reduceEqDiff, Int.reduceToNat, true_implies, false_implies, implies_true, and_true, true_and, not_true_eq_false, not_false_eq_true, Nat.zero_add, Nat.add_zero, nI_add, nI_ltI, nI_leI, nI_eq, pk_mul, pk_sub, u2_same, u2_row, u2_other, e0, olt_T, olt_F, ole_T, ole_F, oeq_T, oeq_F]
    exact o
  | succ m ih =>
    intro c hc f1 hwl hh hfr
    have hr : z_MR f1 0 w := fun i hi => by rw [hfr.2 134 (by decide)]; exact hr0 i hi
    have e0 := hr.at0 (i := 0) (by decide)
    have hn := fun Q => sm_handsNow (fl := fl) (Q := Q) hf hr hw (c := c) (by omega)
    have ih' := ih (c + 1) (by omega) (u2 f1 145 c (nI (a_hands w (w 54) c))) (hwl.frame (by rw [u2_other (by decide)]) (u2_ne (by decide)) (u2_ne (by decide))) (fun i hi => by
      by_cases e : i = c
      · subst e; rw [u2_same]
      · rw [u2_row e]; exact hh i (by omega)) (hfr.tr (zw_f.ar (by decide)))
    simp (disch := first | assumption | rfl | exact zle_0 | exact zle_1 | exact zle_2 | exact zle_3 | exact zle_4 | exact zb_0 | exact zb_1 | exact zb01_B | omega) only [zT55_159, zr_iload_3, zcl_i, zcl_r, zcl_l, zcl_n, zv_some, zv_none, Nat.reduceAdd, Nat.reduceMul, Nat.reduceSub, Nat.reduceLT, Nat.reduceLeDiff, Nat.reduceEqDiff, Int.reduceToNat, true_implies, false_implies, implies_true, and_true, true_and, not_true_eq_false, not_false_eq_true, Nat.zero_add, Nat.add_zero, nI_add, nI_ltI, nI_leI, nI_eq, pk_mul, pk_sub, u2_same, u2_row, u2_other]
    simp (disch := first | assumption | rfl | exact zle_0 | exact zle_1 | exact zle_2 | exact zle_3 | exact zle_4 | exact zb_0 | exact zb_1 | exact zb01_B | omega) only [zT55_160, zr_aload_0, zT55_161, zr_gf_71, zr_or, zr_go, zf_133_71, zT55_164, zr_ic_0, zT55_165, zr_iald, zT55_166, zr_icmp_ge, zT55_169, zT55_170, zr_gf_92, zf_133_92, zT55_173, zr_iload_3, zT55_174, zT55_175, zT55_176, zr_iv_24, zT55_179, zr_iast, zT55_180, zr_iinc_3_1, zT55_183, zr_goto, zcl_i, zcl_r, zcl_l, zcl_n, zv_some, zv_none, Nat.reduceAdd, Nat.reduceMul, Nat.reduceSub, Nat.reduceLT, Nat.reduceLeDiff, Nat.reduceEqDiff, Int.reduceToNat, true_implies, false_implies, implies_true, and_true, true_and, not_true_eq_false, not_false_eq_true, Nat.zero_add, Nat.add_zero, nI_add, nI_ltI, nI_leI, nI_eq, pk_mul, pk_sub, u2_same, u2_row, u2_other, e0, hn, olt_T, olt_F, ole_T, ole_F, oeq_T, oeq_F]
    exact ih'
theorem sm_wc_ (hf : z_FR fr) (hw : a_WF w) {fi0 : Nat → Nat → Int32} (hr0 : z_MR fi0 0 w) {xx yy : Int32} {l : List Hd} (h18 : l.length ≤ 18) {x : Hd} {t : List Hd} {j : Nat} (hd : l.drop j = x :: t) {hl : Nat → Nat} {th : Nat → Bool} (hv : ∀ c, c < 6 → h_ok (th c) (hl c)) (hz : ∀ c, w 0 ≤ c → hl c = 0) {r : Nat} (r0 : r < w 0)
    (hQ : ∀ f2 v6 v7, z_WL f2 l → z_HL f2 (uh hl r (h_lo (hl r) x.2.1)) (w 0) → f2 143 j = nI r → (∀ i, i ≠ j → f2 143 i = fi0 143 i) → zw_f fi0 f2 → TT 55 299 [some (.ref 133), some (.int xx), some (.int yy), some (.int (nI j)), some (.int (nI (r + 1))), some (.int (nI 1)), v6, v7] [] (151, f2, fl, fr) Q) :
    ∀ n c, n + c = 6 → a_first hl x.2.1 x.2.2 (l_cnt true true t) (l_cnt true false t) (l_cnt false true t) (l_cnt false false t) n c = some r → ∀ f1 v6 v7, z_WL f1 l → z_HL f1 hl (w 0) → (∀ i, i ≠ j → f1 143 i = fi0 143 i) → zw_f fi0 f1 →
    TT 55 202 [some (.ref 133), some (.int xx), some (.int yy), some (.int (nI j)), some (.int (nI c)), some (.int (nI 0)), v6, v7] [] (151, f1, fl, fr) Q := by
  have o133 : z_ok 151 133 20 = true := rfl; have o134 : z_ok 151 134 1 = true := rfl; have o143 : z_ok 151 143 1 = true := rfl; have o145 : z_ok 151 145 1 = true := rfl; have o146 : z_ok 151 146 1 = true := rfl
  have l134 : z_al 134 = 440 := rfl; have l143 : z_al 143 = 18 := rfl; have l145 : z_al 145 = 6 := rfl; have l146 : z_al 146 = 18 := rfl
  have w06 := hw.1
  have zt : zB true = nI 1 := rfl
  have zf : zB false = nI 0 := rfl
  intro n
  induction n with
  | zero =>
    intro c hc h
    unfold a_first at h
    exact absurd h (by simp)
  | succ n ih =>
    intro c hc h f1 v6 v7 hwl hh h143 hfr
    have cr := a_first_ge _ _ h
    have hr : z_MR f1 0 w := fun i hi => by rw [hfr.2 134 (by decide)]; exact hr0 i hi
    have hm := h_ok_set (hv c (by omega))
    have ec := hh c (by omega)
    obtain ⟨jl, g146, -, gd⟩ := hwl.at hd
    have hfor := fun Q => sm_handFor (fl := fl) (Q := Q) (x := x) hf hm (c := c) (by omega) ec
    unfold a_first at h
    have w143 : ∀ f : Nat → Nat → Int32, ∀ v, (∀ i, i ≠ j → f 143 i = fi0 143 i) → ∀ i, i ≠ j → u2 f 143 j v 143 i = fi0 143 i := fun f v hf i hi => by rw [u2_row hi]; exact hf i hi
    cases hcan : h_can (hl c) x.2.1 x.2.2
    · rw [hcan, Bool.false_and, if_neg (by decide)] at h
      rw [hcan, if_neg (by decide)] at hfor
      have o := fun v6 v7 => ih (c + 1) (by omega) h (u2 f1 143 j (nI c)) v6 v7 (hwl.frame (by rw [u2_other (by decide)]) (u2_ne (by decide)) (u2_ne (by decide))) (fun i hi => by rw [u2_other (by decide)]; exact hh i hi) (w143 _ _ h143) (hfr.tr (zw_f.ar (by decide)))
      simp (disch := first | assumption | rfl | exact zle_0 | exact zle_1 | exact zle_2 | exact zle_3 | exact zle_4 | exact zb_0 | exact zb_1 | exact zb01_B | omega) only [zT55_202, zr_iload_5, zcl_i, zcl_r, zcl_l, zcl_n, zv_some, zv_none, Nat.reduceAdd, Nat.reduceMul, Nat.reduceSub, Nat.reduceLT, Nat.reduceLeDiff, Nat.reduceEqDiff, Int.reduceToNat, true_implies, false_implies, implies_true, and_true, true_and, not_true_eq_false, not_false_eq_true, Nat.zero_add, Nat.add_zero, nI_add, nI_ltI, nI_leI, nI_eq, pk_mul, pk_sub, u2_same, u2_row, u2_other]
      simp (disch := first | assumption | rfl | exact zle_0 | exact zle_1 | exact zle_2 | exact zle_3 | exact zle_4 | exact zb_0 | exact zb_1 | exact zb01_B | omega) only [zT55_204, zr_if_ne, zT55_207, zr_aload_0, zT55_208, zr_iload_4, zT55_210, zT55_211, zr_gf_93, zr_or, zr_go, zf_133_93, zT55_214, zr_iload_3, zT55_215, zr_iald, zT55_216, zr_iv_54, zT55_219, zr_istore_6, zT55_221, zT55_222, zr_gf_92, zf_133_92, zT55_225, zT55_227, zT55_228, zr_istore_7, zT55_230, zr_iload_6, zT55_232, zr_ic_m1, zT55_233, zr_icmp_eq, zT55_285, zT55_286, zr_gf_89, zf_133_89, zT55_289, zT55_290, zT55_292, zr_iast, zT55_293, zr_iinc_4_1, zT55_296, zr_goto, zcl_i, zcl_r, zcl_l, zcl_n, zv_some, zv_none, Nat.reduceAdd, Nat.reduceMul, Nat.reduceSub, Nat.reduceLT, Nat.reduceLeDiff, Nat.reduceEqDiff, Int.reduceToNat, true_implies, false_implies, implies_true, and_true, true_and, not_true_eq_false, not_false_eq_true, Nat.zero_add, Nat.add_zero, nI_add, nI_ltI, nI_leI, nI_eq, pk_mul, pk_sub, u2_same, u2_row, u2_other, g146, hfor, ec, olt_T, olt_F, ole_T, ole_F, oeq_T, oeq_F]
      exact o _ _
    · rw [hcan, Bool.true_and] at h
      rw [hcan, if_pos rfl] at hfor
      obtain ⟨lo1, lo2⟩ := hx_lo hm hcan
      have pw := a_pow2 lo2
      have ne : (nI (hx_ (hl c) x.2.1) = nM 1) = False := nM_eqI (by decide) (by decide) (by omega)
      have hs' : ∀ i, i < w 0 → hset (uh hl c (h_lo (hl c) x.2.1) i) := fun i hi => h_ok_set (l_ok hv (h_can_has hcan) i (by omega))
      have hz' : ∀ i, w 0 ≤ i → uh hl c (h_lo (hl c) x.2.1) i = 0 := fun i hi => by rw [uh_ne (by omega)]; exact hz i hi
      have hh1 : z_HL (u2 f1 145 c (nI (h_lo (hl c) x.2.1))) (uh hl c (h_lo (hl c) x.2.1)) (w 0) := fun i hi => by
        by_cases e : i = c
        · subst e; rw [u2_same, uh_same]
        · rw [u2_row e, uh_ne e]; exact hh i hi
      have E := sm_isEnoughFrom (fi := u2 f1 145 c (nI (h_lo (hl c) x.2.1))) (fl := fl) (Q := fun v M1 => TT 55 259 [some (.ref 133), some (.int xx), some (.int yy), some (.int (nI j)), some (.int (nI c)), some (.int (nI 0)), some (.int (nI (hx_ (hl c) x.2.1))), some (.int (nI (hl c)))] (v.toList ++ []) M1 Q) hf hw (j := j + 1) (fun i hi => by rw [u2_ne (by decide)]; exact hr i hi) (hwl.frame (by rw [u2_other (by decide)]) (u2_ne (by decide)) (u2_ne (by decide))) h18 hh1 hs' hz' (by omega) (fun f2 g => by
        have e145 : f2 145 = u2 f1 145 c (nI (h_lo (hl c) x.2.1)) 145 := g.2 145 (by decide)
        have e145c : f2 145 c = nI (h_lo (hl c) x.2.1) := by rw [e145, u2_same]
        have wl2 : z_WL f2 l := by
          have e90 := g.1 90 (by decide) (by decide) (by decide) (by decide) (by decide)
          rw [u2_other (by decide)] at e90
          exact hwl.frame e90 (by rw [g.2 146 (by decide), u2_ne (by decide)]) (by rw [g.2 144 (by decide), u2_ne (by decide)])
        have fr2 : zw_f fi0 f2 := (hfr.tr (zw_f.ar (by decide))).tr g.zw
        have h2143 : ∀ i, i ≠ j → f2 143 i = fi0 143 i := fun i hi => by rw [g.2 143 (by decide), u2_ne (by decide)]; exact h143 i hi
        have cv : l_cov (uh hl c (h_lo (hl c) x.2.1)) t = a_covN (uh hl c (h_lo (hl c) x.2.1)) (l_cnt true true t) (l_cnt true false t) (l_cnt false true t) (l_cnt false false t) := rfl
        rw [gd, cv]
        cases hcv : a_covN (uh hl c (h_lo (hl c) x.2.1)) (l_cnt true true t) (l_cnt true false t) (l_cnt false true t) (l_cnt false false t)
        · rw [hcv, if_neg (by decide)] at h
          have o := ih (c + 1) (by omega) h (u2 (u2 f2 145 c (nI (hl c))) 143 j (nI c)) (some (.int (nI (hx_ (hl c) x.2.1)))) (some (.int (nI (hl c)))) (wl2.frame (by simp (disch := decide) only [u2_other]) (by simp (disch := decide) only [u2_ne]) (by simp (disch := decide) only [u2_ne])) (fun i hi => by
            rw [u2_other (by decide)]
            by_cases e : i = c
            · subst e; rw [u2_same]
            · rw [u2_row e, e145, u2_row e]; exact hh i hi) (w143 _ _ (fun i hi => by rw [u2_other (by decide)]; exact h2143 i hi)) ((fr2.tr (zw_f.ar (by decide))).tr (zw_f.ar (by decide)))
          simp (disch := first | assumption | rfl | exact zle_0 | exact zle_1 | exact zle_2 | exact zle_3 | exact zle_4 | exact zb_0 | exact zb_1 | exact zb01_B | omega) only [zT55_259, zr_istore_5, zT55_261, zr_aload_0, zT55_262, zr_gf_92, zr_or, zr_go, zf_133_92, zT55_265, zr_iload_4, zT55_267, zr_iload_5, zT55_269, zr_if_eq, zT55_272, zT55_273, zT55_276, zT55_278, zr_iald, zT55_279, zr_goto, zT55_282, zr_iload_7, zT55_284, zr_iast, zT55_285, zT55_286, zr_gf_89, zf_133_89, zT55_289, zr_iload_3, zT55_290, zT55_292, zT55_293, zr_iinc_4_1, zT55_296, zcl_i, zcl_r, zcl_l, zcl_n, zv_some, zv_none, Nat.reduceAdd, Nat.reduceMul, Nat.reduceSub, Nat.reduceLT, Nat.reduceLeDiff, Nat.reduceEqDiff, Int.reduceToNat, true_implies, false_implies, implies_true, and_true, true_and, not_true_eq_false, not_false_eq_true, Nat.zero_add, Nat.add_zero, nI_add, nI_ltI, nI_leI, nI_eq, pk_mul, pk_sub, u2_same, u2_row, u2_other, zf, zt, olt_T, olt_F, ole_T, ole_F, oeq_T, oeq_F]
          exact o
        · rw [hcv, if_pos rfl] at h
          obtain rfl := Option.some.inj h
          have o := hQ (u2 (u2 f2 145 c (nI (h_lo (hl c) x.2.1))) 143 j (nI c)) (some (.int (nI (hx_ (hl c) x.2.1)))) (some (.int (nI (hl c)))) (wl2.frame (by simp (disch := decide) only [u2_other]) (by simp (disch := decide) only [u2_ne]) (by simp (disch := decide) only [u2_ne])) (fun i hi => by
            rw [u2_other (by decide)]
            by_cases e : i = c
            · subst e; rw [u2_same, uh_same]
            · rw [u2_row e, e145, u2_row e, uh_ne e]; exact hh i hi) (by rw [u2_same]) (w143 _ _ (fun i hi => by rw [u2_other (by decide)]; exact h2143 i hi)) ((fr2.tr (zw_f.ar (by decide))).tr (zw_f.ar (by decide)))
          simp (disch := first | assumption | rfl | exact zle_0 | exact zle_1 | exact zle_2 | exact zle_3 | exact zle_4 | exact zb_0 | exact zb_1 | exact zb01_B | omega) only [zT55_259, zr_istore_5, zT55_261, zr_aload_0, zT55_262, zr_gf_92, zr_or, zr_go, zf_133_92, zT55_265, zr_iload_4, zT55_267, zr_iload_5, zT55_269, zr_if_eq, zT55_272, zT55_273, zT55_276, zT55_278, zr_iald, zT55_279, zr_goto, zT55_282, zr_iload_7, zT55_284, zr_iast, zT55_285, zT55_286, zr_gf_89, zf_133_89, zT55_289, zr_iload_3, zT55_290, zT55_292, zT55_293, zr_iinc_4_1, zT55_296, zcl_i, zcl_r, zcl_l, zcl_n, zv_some, zv_none, Nat.reduceAdd, Nat.reduceMul, Nat.reduceSub, Nat.reduceLT, Nat.reduceLeDiff, Nat.reduceEqDiff, Int.reduceToNat, true_implies, false_implies, implies_true, and_true, true_and, not_true_eq_false, not_false_eq_true, Nat.zero_add, Nat.add_zero, nI_add, nI_ltI, nI_leI, nI_eq, pk_mul, pk_sub, u2_same, u2_row, u2_other, zf, zt, e145c, olt_T, olt_F, ole_T, ole_F, oeq_T, oeq_F]
          simp (disch := first | assumption | rfl | exact zle_0 | exact zle_1 | exact zle_2 | exact zle_3 | exact zle_4 | exact zb_0 | exact zb_1 | exact zb01_B | omega) only [zT55_202, zr_iload_5, zT55_204, zr_if_ne, zcl_i, zcl_r, zcl_l, zcl_n, zv_some, zv_none, Nat.reduceAdd, Nat.reduceMul, Nat.reduceSub, Nat.reduceLT, Nat.reduceLeDiff, Nat.reduceEqDiff, Int.reduceToNat, true_implies, false_implies, implies_true, and_true, true_and, not_true_eq_false, not_false_eq_true, Nat.zero_add, Nat.add_zero, nI_add, nI_ltI, nI_leI, nI_eq, pk_mul, pk_sub, u2_same, u2_row, u2_other, olt_T, olt_F, ole_T, ole_F, oeq_T, oeq_F]
          exact o)
      simp (disch := first | assumption | rfl | exact zle_0 | exact zle_1 | exact zle_2 | exact zle_3 | exact zle_4 | exact zb_0 | exact zb_1 | exact zb01_B | omega) only [zT55_202, zr_iload_5, zcl_i, zcl_r, zcl_l, zcl_n, zv_some, zv_none, Nat.reduceAdd, Nat.reduceMul, Nat.reduceSub, Nat.reduceLT, Nat.reduceLeDiff, Nat.reduceEqDiff, Int.reduceToNat, true_implies, false_implies, implies_true, and_true, true_and, not_true_eq_false, not_false_eq_true, Nat.zero_add, Nat.add_zero, nI_add, nI_ltI, nI_leI, nI_eq, pk_mul, pk_sub, u2_same, u2_row, u2_other]
      simp (disch := first | assumption | rfl | exact zle_0 | exact zle_1 | exact zle_2 | exact zle_3 | exact zle_4 | exact zb_0 | exact zb_1 | exact zb01_B | omega) only [zT55_204, zr_if_ne, zT55_207, zr_aload_0, zT55_208, zr_iload_4, zT55_210, zT55_211, zr_gf_93, zr_or, zr_go, zf_133_93, zT55_214, zr_iload_3, zT55_215, zr_iald, zT55_216, zr_iv_54, zT55_219, zr_istore_6, zT55_221, zT55_222, zr_gf_92, zf_133_92, zT55_225, zT55_227, zT55_228, zr_istore_7, zT55_230, zr_iload_6, zT55_232, zr_ic_m1, zT55_233, zr_icmp_eq, zT55_236, zT55_237, zT55_240, zT55_242, zr_dup2, zT55_243, zT55_244, zr_ic_1, zT55_245, zT55_247, zr_ishl, zT55_248, zT55_249, zr_ixor, zT55_250, zr_iand, zT55_251, zr_iast, zT55_252, zT55_253, zT55_254, zT55_255, zr_iadd, zT55_256, zr_iv_53, zcl_i, zcl_r, zcl_l, zcl_n, zv_some, zv_none, Nat.reduceAdd, Nat.reduceMul, Nat.reduceSub, Nat.reduceLT, Nat.reduceLeDiff, Nat.reduceEqDiff, Int.reduceToNat, true_implies, false_implies, implies_true, and_true, true_and, not_true_eq_false, not_false_eq_true, Nat.zero_add, Nat.add_zero, nI_add, nI_ltI, nI_leI, nI_eq, pk_mul, pk_sub, u2_same, u2_row, u2_other, g146, hfor, ec, ne, b_shl, Nat.one_mul, b_andn, lo1, olt_T, olt_F, ole_T, ole_F, oeq_T, oeq_F]
      exact E
theorem sm_wj_ (hf : z_FR fr) (hw : a_WF w) {fi0 : Nat → Nat → Int32} (hr0 : z_MR fi0 0 w) {xx yy : Int32} {l : List Hd} (h18 : l.length ≤ 18) {th : Nat → Bool} {L : List (Nat × Nat)}
    (hQ : ∀ f2 v4 v5 v6 v7, z_WL f2 l → (∀ i p, L[i]? = some p → f2 143 i = nI p.2) → zw_f fi0 f2 → TT 55 305 [some (.ref 133), some (.int xx), some (.int yy), some (.int (nI l.length)), v4, v5, v6, v7] [] (151, f2, fl, fr) Q) :
    ∀ t j hl f1 v4 v5 v6 v7, l.drop j = t → j ≤ l.length → L.drop j = a_line t hl → z_WL f1 l → z_HL f1 hl (w 0) → (∀ c, c < 6 → h_ok (th c) (hl c)) → (∀ c, w 0 ≤ c → hl c = 0) → l_cov hl t = true → zw_f fi0 f1 → (∀ i p, i < j → L[i]? = some p → f1 143 i = nI p.2) → TT 55 188 [some (.ref 133), some (.int xx), some (.int yy), some (.int (nI j)), v4, v5, v6, v7] [] (151, f1, fl, fr) Q := by
  have o133 : z_ok 151 133 20 = true := rfl
  have w06 := hw.1
  intro t
  induction t with
  | nil =>
    intro j hl f1 v4 v5 v6 v7 hd hj hL hwl hh hv hz hc hfr h143
    have e := congrArg List.length hd
    rw [List.length_drop, List.length_nil] at e
    obtain rfl : j = l.length := by omega
    have e0 := hwl.1
    have o := hQ f1 v4 v5 v6 v7 hwl (fun i p hp => by
      refine h143 i p ?_ hp
      have e2 := congrArg List.length hL
      rw [List.length_drop] at e2
      have : (a_line [] hl).length = 0 := rfl
      rcases Nat.lt_or_ge i L.length with q | q
      · omega
      · rw [List.getElem?_eq_none q] at hp; exact absurd hp (by simp)) hfr
    simp (disch := first | assumption | rfl | exact zle_0 | exact zle_1 | exact zle_2 | exact zle_3 | exact zle_4 | exact zb_0 | exact zb_1 | exact zb01_B | omega) only [zT55_188, zr_iload_3, zT55_189, zr_aload_0, zT55_190, zr_gf_90, zT55_193, zr_icmp_ge, zcl_i, zcl_r, zcl_l, zcl_n, zv_some, zv_none, Nat.reduceAdd, Nat.reduceMul, Nat.reduceSub, Nat.reduceLT, Nat.reduceLeDiff, Nat.reduceEqDiff, Int.reduceToNat, true_implies, false_implies, implies_true, and_true, true_and, not_true_eq_false, not_false_eq_true, Nat.zero_add, Nat.add_zero, nI_add, nI_ltI, nI_leI, nI_eq, pk_mul, pk_sub, u2_same, u2_row, u2_other, e0, olt_T, olt_F, ole_T, ole_F, oeq_T, oeq_F]
    exact o
  | cons x t ih =>
    intro j hl f1 v4 v5 v6 v7 hd hj hL hwl hh hv hz hc hfr h143
    have e0 := hwl.1
    obtain ⟨jl, -, -, gd⟩ := hwl.at hd
    obtain ⟨r, r1, r6, r2, r3⟩ := l_go hv hc
    have r0 : r < w 0 := by
      rcases Nat.lt_or_ge r (w 0) with q | q
      · exact q
      · rw [hz r q] at r2
        have z : ∀ a b : Bool, h_can 0 a b = false := by decide
        rw [z] at r2
        exact absurd r2 (by decide)
    have lineE : a_line (x :: t) hl = (x.1, r) :: a_line t (uh hl r (h_lo (hl r) x.2.1)) := by
      show (x.1, (l_first hl x t).getD 0) :: a_line t (uh hl ((l_first hl x t).getD 0) (h_lo (hl ((l_first hl x t).getD 0)) x.2.1)) = _
      rw [r1]
      rfl
    rw [lineE] at hL
    have Lj : L[j]? = some (x.1, r) ∧ L.drop (j + 1) = a_line t (uh hl r (h_lo (hl r) x.2.1)) := by
      have jL : j < L.length := by
        rcases Nat.lt_or_ge j L.length with q | q
        · exact q
        · rw [List.drop_eq_nil_of_le q] at hL; exact absurd hL (by simp)
      have e := List.drop_eq_getElem_cons (l := L) (i := j) jL
      obtain ⟨e1, e2⟩ := List.cons.inj (hL.symm.trans e)
      exact ⟨by rw [List.getElem?_eq_getElem jL, ← e1], e2.symm⟩
    have C := sm_wc_ (fl := fl) (Q := Q) hf hw (fi0 := f1) (fun i hi => by rw [hfr.2 134 (by decide)]; exact hr0 i hi) (xx := xx) (yy := yy) h18 hd hv hz r0 (fun f2 v6 v7 g1 g2 g3 g4 g5 => by
      have o := ih (j + 1) (uh hl r (h_lo (hl r) x.2.1)) f2 (some (.int (nI (r + 1)))) (some (.int (nI 1))) v6 v7 gd (by omega) Lj.2 g1 g2 (l_ok hv (h_can_has r2)) (fun c hc => by rw [uh_ne (by omega)]; exact hz c hc) r3 (hfr.tr g5) (fun i p hi hp => by
        by_cases e : i = j
        · subst e
          rw [Lj.1] at hp
          obtain rfl := Option.some.inj hp
          exact g3
        · rw [g4 i e]; exact h143 i p (by omega) hp)
      simp (disch := first | assumption | rfl | exact zle_0 | exact zle_1 | exact zle_2 | exact zle_3 | exact zle_4 | exact zb_0 | exact zb_1 | exact zb01_B | omega) only [zT55_299, zr_iinc_3_1, zT55_302, zr_goto, zcl_i, zcl_r, zcl_l, zcl_n, zv_some, zv_none, Nat.reduceAdd, Nat.reduceMul, Nat.reduceSub, Nat.reduceLT, Nat.reduceLeDiff, Nat.reduceEqDiff, Int.reduceToNat, true_implies, false_implies, implies_true, and_true, true_and, not_true_eq_false, not_false_eq_true, Nat.zero_add, Nat.add_zero, nI_add, nI_ltI, nI_leI, nI_eq, pk_mul, pk_sub, u2_same, u2_row, u2_other, olt_T, olt_F, ole_T, ole_F, oeq_T, oeq_F]
      exact o) 6 0 rfl r1 f1 v6 v7 hwl hh (fun _ _ => rfl) zw_f.id_
    simp (disch := first | assumption | rfl | exact zle_0 | exact zle_1 | exact zle_2 | exact zle_3 | exact zle_4 | exact zb_0 | exact zb_1 | exact zb01_B | omega) only [zT55_188, zr_iload_3, zcl_i, zcl_r, zcl_l, zcl_n, zv_some, zv_none, Nat.reduceAdd, Nat.reduceMul, Nat.reduceSub, Nat.reduceLT, Nat.reduceLeDiff, Nat.reduceEqDiff, Int.reduceToNat, true_implies, false_implies, implies_true, and_true, true_and, not_true_eq_false, not_false_eq_true, Nat.zero_add, Nat.add_zero, nI_add, nI_ltI, nI_leI, nI_eq, pk_mul, pk_sub, u2_same, u2_row, u2_other]
    simp (disch := first | assumption | rfl | exact zle_0 | exact zle_1 | exact zle_2 | exact zle_3 | exact zle_4 | exact zb_0 | exact zb_1 | exact zb01_B | omega) only [zT55_189, zr_aload_0, zT55_190, zr_gf_90, zT55_193, zr_icmp_ge, zT55_196, zr_ic_0, zT55_197, zr_istore_4, zT55_199, zT55_200, zr_istore_5, zcl_i, zcl_r, zcl_l, zcl_n, zv_some, zv_none, Nat.reduceAdd, Nat.reduceMul, Nat.reduceSub, Nat.reduceLT, Nat.reduceLeDiff, Nat.reduceEqDiff, Int.reduceToNat, true_implies, false_implies, implies_true, and_true, true_and, not_true_eq_false, not_false_eq_true, Nat.zero_add, Nat.add_zero, nI_add, nI_ltI, nI_leI, nI_eq, pk_mul, pk_sub, u2_same, u2_row, u2_other, e0, olt_T, olt_F, ole_T, ole_F, oeq_T, oeq_F]
    exact C
theorem sm_findWhose (hf : z_FR fr) (hw : a_WF w) (hr : z_MR fi 0 w) {s set : Nat} (hs : s < 4096) (h8 : set < 8) (hno : ∀ d, d < w 13 → a_bit set d = true → plc s d < a_tot w d) (hen : a_en w (w 54) (a_keyS w s set) = true)
    (hQ : ∀ fi', fi' 133 90 = nI (a_rowS w s set).length → (∀ j p, (a_rowS w s set)[j]? = some p → fi' 143 j = nI p.2 ∧ fi' 144 j = nI p.1) → (a_rowS w s set).length ≤ 18 → zw_f fi fi' → Q none (151, fi', fl, fr)) :
    TT 55 0 [some (.ref 133), some (.int (nI set)), some (.int (nI s)), none, none, none, none, none] [] (151, fi, fl, fr) Q := by
  have o133 : z_ok 151 133 20 = true := rfl
  have h18 := l_all_len (key := a_keyS w s set) hw
  have cov : l_cov (a_hands w (w 54)) (l_all w (a_keyS w s set) 3 0) = true := by
    unfold a_en a_enough at hen
    rw [Bool.and_eq_true_iff] at hen
    obtain ⟨k1, k2, k3, k4⟩ := l_all_cnt (key := a_keyS w s set) hw
    unfold l_cov a_covN
    rw [k1, k2, k3, k4]
    exact hen.2
  have hwl0 : z_WL (u2 fi 133 90 (nI 0)) [] := ⟨by rw [u2_same]; rfl, fun j x hx => by simp at hx⟩
  have O := sm_wo_ (fi0 := fi) (fl := fl) (Q := Q) hf hw hs h8 hno hr (fun f2 v4 v5 g1 g2 => by
    have H := sm_wh_ (fi0 := fi) (fl := fl) (Q := Q) (x := nI set) (y := nI s) (v4 := v4) (v5 := v5) hf hw hr (l := l_all w (a_keyS w s set) 3 0) (fun f3 k1 k2 k3 => by
      have J := sm_wj_ (fi0 := fi) (fl := fl) (Q := Q) (xx := nI set) (yy := nI s) (th := a_thumb w) (L := a_rowS w s set) hf hw hr h18 (fun f4 v4 v5 v6 v7 q1 q2 q3 => by
        have len : (a_rowS w s set).length = (l_all w (a_keyS w s set) 3 0).length := a_line_len _ _
        have fst : ∀ (l : List Hd) (hl : Nat → Nat) (j : Nat) (p : Nat × Nat), (a_line l hl)[j]? = some p → ∃ x : Hd, l[j]? = some x ∧ p.1 = x.1 := by
          intro l
          induction l with
          | nil => intro hl j p hp; rw [show a_line [] hl = [] from rfl] at hp; simp at hp
          | cons x t ih =>
            intro hl j p hp
            rw [show a_line (x :: t) hl = (x.1, (l_first hl x t).getD 0) :: a_line t (uh hl ((l_first hl x t).getD 0) (h_lo (hl ((l_first hl x t).getD 0)) x.2.1)) from rfl] at hp
            cases j with
            | zero =>
              obtain rfl := Option.some.inj hp
              exact ⟨x, rfl, rfl⟩
            | succ j => exact ih _ j p hp
        have o := hQ f4 (by rw [len]; exact q1.1) (fun j p hp => by
          obtain ⟨x, hx, e⟩ := fst _ _ j p hp
          exact ⟨q2 j p hp, by rw [e]; exact (q1.2 j x hx).2⟩) (by rw [len]; exact h18) q3
        simp (disch := first | assumption | rfl | exact zle_0 | exact zle_1 | exact zle_2 | exact zle_3 | exact zle_4 | exact zb_0 | exact zb_1 | exact zb01_B | omega) only [zT55_305, zr_return, zcl_i, zcl_r, zcl_l, zcl_n, zv_some, zv_none, Nat.reduceAdd, Nat.reduceMul, Nat.reduceSub, Nat.reduceLT, Nat.reduceLeDiff, Nat.reduceEqDiff, Int.reduceToNat, true_implies, false_implies, implies_true, and_true, true_and, not_true_eq_false, not_false_eq_true, Nat.zero_add, Nat.add_zero, nI_add, nI_ltI, nI_leI, nI_eq, pk_mul, pk_sub, u2_same, u2_row, u2_other, olt_T, olt_F, ole_T, ole_F, oeq_T, oeq_F]
        exact o) (l_all w (a_keyS w s set) 3 0) 0 (a_hands w (w 54)) f3 v4 v5 none none rfl (Nat.zero_le _) rfl k1 k2 (fun c hc => a_ok c) (fun c hc => by unfold a_hands; rw [if_neg (by omega)]) cov k3 (fun i p hi => absurd hi (Nat.not_lt_zero _))
      simp (disch := first | assumption | rfl | exact zle_0 | exact zle_1 | exact zle_2 | exact zle_3 | exact zle_4 | exact zb_0 | exact zb_1 | exact zb01_B | omega) only [zT55_186, zr_ic_0, zT55_187, zr_istore_3, zcl_i, zcl_r, zcl_l, zcl_n, zv_some, zv_none, Nat.reduceAdd, Nat.reduceMul, Nat.reduceSub, Nat.reduceLT, Nat.reduceLeDiff, Nat.reduceEqDiff, Int.reduceToNat, true_implies, false_implies, implies_true, and_true, true_and, not_true_eq_false, not_false_eq_true, Nat.zero_add, Nat.add_zero, nI_add, nI_ltI, nI_leI, nI_eq, pk_mul, pk_sub, u2_same, u2_row, u2_other, olt_T, olt_F, ole_T, ole_F, oeq_T, oeq_F]
      exact J) (w 0) 0 (Nat.zero_add _) f2 g1 (fun c hc => absurd hc (Nat.not_lt_zero _)) g2
    simp (disch := first | assumption | rfl | exact zle_0 | exact zle_1 | exact zle_2 | exact zle_3 | exact zle_4 | exact zb_0 | exact zb_1 | exact zb01_B | omega) only [zT55_157, zr_ic_0, zT55_158, zr_istore_3, zcl_i, zcl_r, zcl_l, zcl_n, zv_some, zv_none, Nat.reduceAdd, Nat.reduceMul, Nat.reduceSub, Nat.reduceLT, Nat.reduceLeDiff, Nat.reduceEqDiff, Int.reduceToNat, true_implies, false_implies, implies_true, and_true, true_and, not_true_eq_false, not_false_eq_true, Nat.zero_add, Nat.add_zero, nI_add, nI_ltI, nI_leI, nI_eq, pk_mul, pk_sub, u2_same, u2_row, u2_other, olt_T, olt_F, ole_T, ole_F, oeq_T, oeq_F]
    exact H) (w 13) 0 (Nat.zero_add _) [] _ none none hwl0 rfl zw_f.wm
  simp (disch := first | assumption | rfl | exact zle_0 | exact zle_1 | exact zle_2 | exact zle_3 | exact zle_4 | exact zb_0 | exact zb_1 | exact zb01_B | omega) only [zT55_0, zr_aload_0, zT55_1, zr_ic_0, zT55_2, zr_pf_90, zT55_5, zT55_6, zr_istore_3, zcl_i, zcl_r, zcl_l, zcl_n, zv_some, zv_none, Nat.reduceAdd, Nat.reduceMul, Nat.reduceSub, Nat.reduceLT, Nat.reduceLeDiff, Nat.reduceEqDiff, Int.reduceToNat, true_implies, false_implies, implies_true, and_true, true_and, not_true_eq_false, not_false_eq_true, Nat.zero_add, Nat.add_zero, nI_add, nI_ltI, nI_leI, nI_eq, pk_mul, pk_sub, u2_same, u2_row, u2_other, olt_T, olt_F, ole_T, ole_F, oeq_T, oeq_F]
  exact O
end
