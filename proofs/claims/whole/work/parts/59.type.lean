/-! type, undo -/
def bt (v : Int64) (i : Nat) : Nat := ((v >>> ((nI (8 * i)).toInt64 &&& 63)) &&& lN 255).toBitVec.toNat
theorem lNbv (n : Nat) : (lN n).toBitVec = BitVec.ofNat 64 n := rfl
theorem bt_lt {v : Int64} {i : Nat} : bt v i < 256 := by
  unfold bt
  rw [Int64.toBitVec_and, BitVec.toNat_and, show (lN 255).toBitVec.toNat = 255 by decide +kernel]
  exact Nat.lt_of_le_of_lt Nat.and_le_right (by decide)
theorem l2i_n {z : Int64} (h : z.toBitVec.toNat < 2 ^ 31) : z.toInt32 = nI z.toBitVec.toNat := by
  have e : z = lN z.toBitVec.toNat := by
    rw [← Int64.toBitVec_inj, lNbv]
    simp
  have := congrArg Int64.toInt32 e
  rw [lN_i] at this
  exact this
theorem bt_i {v : Int64} {i : Nat} : ((v >>> ((nI (8 * i)).toInt64 &&& 63)) &&& lN 255).toInt32 = nI (bt v i) := l2i_n (Nat.lt_trans bt_lt (by decide))
def a_type (tx : Nat → Nat) (len : Nat) (v : Int64) (n : Nat) : Nat → Nat := fun j => if len ≤ j ∧ j < len + n then bt v (len + n - 1 - j) else tx j
def r_type (nn tx : Nat → Nat) (v : Int64) (x : Int32) : Int32 × (Nat → Nat) × (Nat → Nat) := if 1 ≤ x.toInt ∧ x.toInt ≤ 8 then (if 200 < nn 2 + x.toInt.toNat then (nM 4, rf nn 4, tx) else (nI (nn 2 + x.toInt.toNat), uh nn 2 (nn 2 + x.toInt.toNat), a_type tx (nn 2) v x.toInt.toNat)) else (nM 2, rf nn 2, tx)
section
variable {fi fi' : Nat → Nat → Int32} {fl : Nat → Nat → Int64} {fr : Nat → Nat → Option Nat} {Q : Option Value → Mm → Prop} {w : Nat → Nat} {k : Nat} {M : Mm} {ws : Nat → Nat → Nat} {nn tx : Nat → Nat}
theorem sp_app_ (hf : z_FR fr) {v : Int64} {n L : Nat} (hL : L ≤ 200) : ∀ k, k ≤ n → n ≤ 8 → k ≤ L → ∀ (fi : Nat → Nat → Int32) (x : Int32), x = (if k = 0 then nM 1 else nI (k - 1)) → fi 84 12 = nI (L - k) →
    (∀ fi', fi' 84 12 = nI L → (∀ j, L - k ≤ j → j < L → fi' 85 j = nI (bt v (L - 1 - j))) → (∀ j, j < L - k → fi' 85 j = fi 85 j) → (∀ j, j ≠ 84 → j ≠ 85 → fi' j = fi j) → Q none (151, fi', fl, fr)) →
    TT 126 5 [some (.ref 84), some (.long v), none, some (.int (nI n)), some (.int x)] [] (151, fi, fl, fr) Q := by
  have o84 : z_ok 151 84 11 = true := rfl; have o85 : z_ok 151 85 1 = true := rfl
  have l85 : z_al 85 = 200 := rfl
  intro k
  induction k with
  | zero =>
    intro hk h8 hkL fi x hx hl hQ
    rw [if_pos rfl] at hx
    subst hx
    have neg := nM_neg (k := 1) (by decide) (by decide)
    have := hQ fi hl (fun j j1 j2 => by omega) (fun _ _ => rfl) (fun _ _ _ => rfl)
    simp (disch := first | assumption | rfl | exact zle_0 | exact zle_1 | exact zle_2 | exact zle_3 | exact zle_4 | exact zb_0 | exact zb_1 | exact zb01_B | omega) only [zT126_5, zr_iload_4, zT126_7, zr_if_lt, zT126_57, zr_return, zcl_i, zcl_r, zcl_l, zcl_n, zv_some, zv_none, Nat.reduceAdd, Nat.reduceMul, Nat.reduceSub, Nat.reduceLT, Nat.reduceLeDiff, Nat.reduceEqDiff, Int.reduceToNat, true_implies, false_implies, implies_true, and_true, true_and, not_true_eq_false, not_false_eq_true, Nat.zero_add, Nat.add_zero, nI_add, nI_ltI, nI_leI, nI_eq, pk_mul, pk_sub, u2_same, u2_row, u2_other, neg, olt_T, olt_F, ole_T, ole_F, oeq_T, oeq_F]
    exact this
  | succ k ih =>
    intro hk h8 hkL fi x hx hl hQ
    rw [if_neg (by omega), Nat.add_sub_cancel] at hx
    subst hx
    have dec : nI k + nM 1 = (if k = 0 then nM 1 else nI (k - 1)) := by
      by_cases c : k = 0
      · subst c; rfl
      · rw [if_neg c]; exact nI_addM (by omega)
    have b := bt_i (v := v) (i := k)
    have e1 : L - (k + 1) + 1 = L - k := by omega
    simp (disch := first | assumption | rfl | exact zle_0 | exact zle_1 | exact zle_2 | exact zle_3 | exact zle_4 | exact zb_0 | exact zb_1 | exact zb01_B | omega) only [zT126_5, zr_iload_4, zcl_i, zcl_r, zcl_l, zcl_n, zv_some, zv_none, Nat.reduceAdd, Nat.reduceMul, Nat.reduceSub, Nat.reduceLT, Nat.reduceLeDiff, Nat.reduceEqDiff, Int.reduceToNat, true_implies, false_implies, implies_true, and_true, true_and, not_true_eq_false, not_false_eq_true, Nat.zero_add, Nat.add_zero, nI_add, nI_ltI, nI_leI, nI_eq, pk_mul, pk_sub, u2_same, u2_row, u2_other]
    simp (disch := first | assumption | rfl | exact zle_0 | exact zle_1 | exact zle_2 | exact zle_3 | exact zle_4 | exact zb_0 | exact zb_1 | exact zb01_B | omega) only [zT126_7, zr_if_lt, zT126_10, zr_aload_0, zT126_11, zr_gf_12, zT126_14, zr_ic_200, zT126_17, zr_icmp_ge, zT126_20, zT126_21, zr_gf_11, zr_or, zr_go, zf_84_11, zT126_24, zT126_25, zT126_28, zr_lload_1, zT126_29, zr_ic_8, zT126_31, zr_iload_4, zT126_33, zr_imul, zT126_34, zr_lshr, zT126_35, zr_ldc2, zT126_38, zr_land, zT126_39, zr_l2i, zT126_40, zr_iast, zT126_41, zT126_42, zr_dup_r, zr_dup_i, zT126_43, zT126_46, zr_ic_1, zT126_47, zr_iadd, zT126_48, zr_pf_12, zT126_51, zr_iinc_4_m1, zT126_54, zr_goto, zcl_i, zcl_r, zcl_l, zcl_n, zv_some, zv_none, Nat.reduceAdd, Nat.reduceMul, Nat.reduceSub, Nat.reduceLT, Nat.reduceLeDiff, Nat.reduceEqDiff, Int.reduceToNat, true_implies, false_implies, implies_true, and_true, true_and, not_true_eq_false, not_false_eq_true, Nat.zero_add, Nat.add_zero, nI_add, nI_ltI, nI_leI, nI_eq, pk_mul, pk_sub, u2_same, u2_row, u2_other, hl, b, e1, olt_T, olt_F, ole_T, ole_F, oeq_T, oeq_F]
    refine ih (by omega) h8 (by omega) _ _ dec (by rw [u2_same]) (fun fi' g1 g2 g3 g4 => hQ fi' g1 (fun j j1 j2 => ?_) (fun j hj => ?_) (fun j j1 j2 => ?_))
    · by_cases c : L - k ≤ j
      · exact g2 j c j2
      · obtain rfl : j = L - (k + 1) := by omega
        rw [g3 _ (by omega)]
        simp (disch := omega) only [u2_other, u2_same]
        rw [show L - 1 - (L - (k + 1)) = k by omega]
    · rw [g3 j (by omega)]
      simp (disch := omega) only [u2_other, u2_row]
    · rw [g4 j j1 j2]
      simp (disch := assumption) only [u2_ne]
theorem sp_append (hf : z_FR fr) {v : Int64} {n len : Nat} (h : z_Tx fi tx len) (h1 : 1 ≤ n) (h8 : n ≤ 8) (hL : len + n ≤ 200)
    (hQ : ∀ fi', z_Tx fi' (a_type tx len v n) (len + n) → (∀ j, j ≠ 84 → j ≠ 85 → fi' j = fi j) → Q none (151, fi', fl, fr)) :
    TT 126 0 [some (.ref 84), some (.long v), none, some (.int (nI n)), none] [] (151, fi, fl, fr) Q := by
  obtain ⟨t1, t2, t3⟩ := h
  simp (disch := first | assumption | rfl | exact zle_0 | exact zle_1 | exact zle_2 | exact zle_3 | exact zle_4 | exact zb_0 | exact zb_1 | exact zb01_B | omega) only [zT126_0, zr_iload_3, zT126_1, zr_ic_1, zT126_2, zr_isub, zT126_3, zr_istore_4, zcl_i, zcl_r, zcl_l, zcl_n, zv_some, zv_none, Nat.reduceAdd, Nat.reduceMul, Nat.reduceSub, Nat.reduceLT, Nat.reduceLeDiff, Nat.reduceEqDiff, Int.reduceToNat, true_implies, false_implies, implies_true, and_true, true_and, not_true_eq_false, not_false_eq_true, Nat.zero_add, Nat.add_zero, nI_add, nI_ltI, nI_leI, nI_eq, pk_mul, pk_sub, u2_same, u2_row, u2_other, olt_T, olt_F, ole_T, ole_F, oeq_T, oeq_F]
  refine sp_app_ hf hL n (Nat.le_refl _) h8 (by omega) fi _ (by rw [if_neg (by omega)]) (by rw [t2]; congr 1; omega) (fun fi' g1 g2 g3 g4 => hQ fi' ⟨hL, g1, fun i hi => ?_⟩ g4)
  unfold a_type
  by_cases c : len ≤ i
  · rw [if_pos ⟨c, hi⟩]
    exact ⟨bt_lt, g2 i (by omega) hi⟩
  · rw [if_neg (fun q => c q.1), g3 i (by omega)]
    exact t3 i (by omega)
theorem sx_type (hf : z_FR fr) (h : z_XS fi ws nn tx) (hg : z_G ws nn) {v : Int64} {x : Int32} (hQ : z_XQ fi fl fr Q (r_type nn tx v x).1 ws (r_type nn tx v x).2.1 (r_type nn tx v x).2.2) : TT 90 0 [some (.ref 18), some (.long v), none, some (.int x)] [] (151, fi, fl, fr) Q := by
  have o18 : z_ok 151 18 10 = true := rfl; have o84 : z_ok 151 84 11 = true := rfl
  have rfs := fun fi Q => sp_refuse (fi := fi) (fl := fl) (fr := fr) (Q := Q) (r := 2) (x := nM 2) (Or.inl rfl)
  have rff := fun fi Q => sp_refuse (fi := fi) (fl := fl) (fr := fr) (Q := Q) (r := 4) (x := nM 4) (Or.inr (Or.inr rfl))
  have ln := h.2.2.2.1.2.1
  have l200 := hg.2.2.2.2.2
  unfold r_type at hQ
  by_cases c : 1 ≤ x.toInt ∧ x.toInt ≤ 8
  · rw [if_pos c] at hQ
    obtain ⟨n, n8, rfl, en⟩ := i3 (x := x) (n := 8) ⟨by omega, by omega⟩
    have n1 : 1 ≤ n := by
      have := c.1
      rw [nI_toInt (by omega)] at this
      omega
    rw [en] at hQ
    by_cases c2 : 200 < nn 2 + n
    · rw [if_pos c2] at hQ
      have o := z_XQ.ref (Or.inr (Or.inr rfl)) h hQ
      simp (disch := first | assumption | rfl | exact zle_0 | exact zle_1 | exact zle_2 | exact zle_3 | exact zle_4 | exact zb_0 | exact zb_1 | exact zb01_B | omega) only [zT90_0, zr_iload_3, zT90_1, zr_ic_1, zT90_2, zr_icmp_lt, zT90_5, zT90_6, zr_ic_8, zT90_8, zr_icmp_le, zT90_11, zr_aload_0, zT90_12, zr_ic_m2, zT90_14, zT90_16, zr_iv_117, zT90_19, zr_ret0, zT90_20, zT90_21, zr_gf_6, zr_or, zr_go, zf_18_6, zT90_24, zr_gf_12, zT90_27, zT90_28, zr_iadd, zT90_29, zr_ic_200, zT90_32, zT90_35, zT90_36, zr_ic_m4, zT90_38, zT90_40, zT90_43, zT90_44, zT90_45, zT90_48, zr_lload_1, zT90_49, zT90_50, zr_iv_126, zT90_53, zT90_54, zT90_57, zT90_60, zcl_i, zcl_r, zcl_l, zcl_n, zv_some, zv_none, Nat.reduceAdd, Nat.reduceMul, Nat.reduceSub, Nat.reduceLT, Nat.reduceLeDiff, Nat.reduceEqDiff, Int.reduceToNat, true_implies, false_implies, implies_true, and_true, true_and, not_true_eq_false, not_false_eq_true, Nat.zero_add, Nat.add_zero, nI_add, nI_ltI, nI_leI, nI_eq, pk_mul, pk_sub, u2_same, u2_row, u2_other, ln, rff, olt_T, olt_F, ole_T, ole_F, oeq_T, oeq_F]
      exact o
    · rw [if_neg c2] at hQ
      dsimp only at hQ
      simp (disch := first | assumption | rfl | exact zle_0 | exact zle_1 | exact zle_2 | exact zle_3 | exact zle_4 | exact zb_0 | exact zb_1 | exact zb01_B | omega) only [zT90_0, zr_iload_3, zT90_1, zr_ic_1, zT90_2, zr_icmp_lt, zT90_5, zT90_6, zr_ic_8, zT90_8, zr_icmp_le, zT90_11, zr_aload_0, zT90_12, zr_ic_m2, zT90_14, zT90_16, zr_iv_117, zT90_19, zr_ret0, zT90_20, zT90_21, zr_gf_6, zr_or, zr_go, zf_18_6, zT90_24, zr_gf_12, zT90_27, zT90_28, zr_iadd, zT90_29, zr_ic_200, zT90_32, zT90_35, zT90_36, zr_ic_m4, zT90_38, zT90_40, zT90_43, zT90_44, zT90_45, zT90_48, zr_lload_1, zT90_49, zT90_50, zr_iv_126, zcl_i, zcl_r, zcl_l, zcl_n, zv_some, zv_none, Nat.reduceAdd, Nat.reduceMul, Nat.reduceSub, Nat.reduceLT, Nat.reduceLeDiff, Nat.reduceEqDiff, Int.reduceToNat, true_implies, false_implies, implies_true, and_true, true_and, not_true_eq_false, not_false_eq_true, Nat.zero_add, Nat.add_zero, nI_add, nI_ltI, nI_leI, nI_eq, pk_mul, pk_sub, u2_same, u2_row, u2_other, ln, olt_T, olt_F, ole_T, ole_F, oeq_T, oeq_F]
      refine sp_append hf h.2.2.2.1 n1 n8 (by omega) (fun f1 g1 g2 => ?_)
      have ln1 := g1.2.1
      simp (disch := first | assumption | rfl | exact zle_0 | exact zle_1 | exact zle_2 | exact zle_3 | exact zle_4 | exact zb_0 | exact zb_1 | exact zb01_B | omega) only [zT90_53, zr_aload_0, zT90_54, zr_gf_6, zr_or, zr_go, zf_18_6, zT90_57, zr_gf_12, zT90_60, zr_ret0, zcl_i, zcl_r, zcl_l, zcl_n, zv_some, zv_none, Nat.reduceAdd, Nat.reduceMul, Nat.reduceSub, Nat.reduceLT, Nat.reduceLeDiff, Nat.reduceEqDiff, Int.reduceToNat, true_implies, false_implies, implies_true, and_true, true_and, not_true_eq_false, not_false_eq_true, Nat.zero_add, Nat.add_zero, nI_add, nI_ltI, nI_leI, nI_eq, pk_mul, pk_sub, u2_same, u2_row, u2_other, ln1, olt_T, olt_F, ole_T, ole_F, oeq_T, oeq_F]
      obtain ⟨hk, hc, hF, ht, hp⟩ := h
      refine hQ _ ⟨?_, ?_, ?_, ?_, hp.frame (fun j j1 j2 => g2 j (by omega) (by omega))⟩ (fun j hj => g2 j (by omega) (by omega))
      · have := hk.frame (fi' := f1) (fun j hj => g2 j (by omega) (by omega))
        unfold z_XK at *
        rw [uh_ne (by decide), uh_ne (by decide)]
        exact this
      · unfold z_XC at *
        rw [g2 18 (by decide) (by decide), uh_ne (by decide), uh_ne (by decide), uh_ne (by decide)]
        exact hc
      · have := hF.frame (fi' := f1) (fun j j1 j2 => g2 j (by omega) (by omega))
        unfold z_XF at *
        rw [uh_ne (by decide), uh_ne (by decide)]
        exact this
      · rw [uh_same]
        exact g1
  · rw [if_neg c] at hQ
    have o := z_XQ.ref (Or.inl rfl) h hQ
    by_cases c0 : x.toInt < 1
    · have n1 : (x < nI 1) = True := eq_true (by rw [Int32.lt_iff_toInt_lt, nI_toInt (by decide)]; omega)
      simp (disch := first | assumption | rfl | exact zle_0 | exact zle_1 | exact zle_2 | exact zle_3 | exact zle_4 | exact zb_0 | exact zb_1 | exact zb01_B | omega) only [zT90_0, zr_iload_3, zT90_1, zr_ic_1, zT90_2, zr_icmp_lt, zT90_5, zT90_6, zr_ic_8, zT90_8, zr_icmp_le, zT90_11, zr_aload_0, zT90_12, zr_ic_m2, zT90_14, zT90_16, zr_iv_117, zT90_19, zr_ret0, zT90_20, zT90_21, zr_gf_6, zr_or, zr_go, zf_18_6, zT90_24, zr_gf_12, zT90_27, zT90_28, zr_iadd, zT90_29, zr_ic_200, zT90_32, zT90_35, zT90_36, zr_ic_m4, zT90_38, zT90_40, zT90_43, zT90_44, zT90_45, zT90_48, zr_lload_1, zT90_49, zT90_50, zr_iv_126, zT90_53, zT90_54, zT90_57, zT90_60, zcl_i, zcl_r, zcl_l, zcl_n, zv_some, zv_none, Nat.reduceAdd, Nat.reduceMul, Nat.reduceSub, Nat.reduceLT, Nat.reduceLeDiff, Nat.reduceEqDiff, Int.reduceToNat, true_implies, false_implies, implies_true, and_true, true_and, not_true_eq_false, not_false_eq_true, Nat.zero_add, Nat.add_zero, nI_add, nI_ltI, nI_leI, nI_eq, pk_mul, pk_sub, u2_same, u2_row, u2_other, n1, rfs, olt_T, olt_F, ole_T, ole_F, oeq_T, oeq_F]
      exact o
    · have n1 : (x < nI 1) = False := eq_false (by rw [Int32.lt_iff_toInt_lt, nI_toInt (by decide)]; omega)
      have n2 : (x ≤ nI 8) = False := eq_false (by rw [Int32.le_iff_toInt_le, nI_toInt (by decide)]; omega)
      simp (disch := first | assumption | rfl | exact zle_0 | exact zle_1 | exact zle_2 | exact zle_3 | exact zle_4 | exact zb_0 | exact zb_1 | exact zb01_B | omega) only [zT90_0, zr_iload_3, zT90_1, zr_ic_1, zT90_2, zr_icmp_lt, zT90_5, zT90_6, zr_ic_8, zT90_8, zr_icmp_le, zT90_11, zr_aload_0, zT90_12, zr_ic_m2, zT90_14, zT90_16, zr_iv_117, zT90_19, zr_ret0, zT90_20, zT90_21, zr_gf_6, zr_or, zr_go, zf_18_6, zT90_24, zr_gf_12, zT90_27, zT90_28, zr_iadd, zT90_29, zr_ic_200, zT90_32, zT90_35, zT90_36, zr_ic_m4, zT90_38, zT90_40, zT90_43, zT90_44, zT90_45, zT90_48, zr_lload_1, zT90_49, zT90_50, zr_iv_126, zT90_53, zT90_54, zT90_57, zT90_60, zcl_i, zcl_r, zcl_l, zcl_n, zv_some, zv_none, Nat.reduceAdd, Nat.reduceMul, Nat.reduceSub, Nat.reduceLT, Nat.reduceLeDiff, Nat.reduceEqDiff, Int.reduceToNat, true_implies, false_implies, implies_true, and_true, true_and, not_true_eq_false, not_false_eq_true, Nat.zero_add, Nat.add_zero, nI_add, nI_ltI, nI_leI, nI_eq, pk_mul, pk_sub, u2_same, u2_row, u2_other, n1, n2, rfs, olt_T, olt_F, ole_T, ole_F, oeq_T, oeq_F]
      exact o
theorem uw_id : uw ws (ws 0) = ws := by
  funext j
  unfold uw
  split
  · rename_i e; rw [e]
  · rfl
def r_undo (ws : Nat → Nat → Nat) (nn : Nat → Nat) : Int32 × (Nat → Nat → Nat) × (Nat → Nat) := if ws 0 58 = 0 then (nM 3, ws, rf nn 3) else (nI 1, uw ws (a_back (ws 0)), nn)
/-- a minute past holds a dish that has gone on -/
theorem a_pc_bit {d : Nat} : ∀ n i, i < n → a_bit (w (59 + i)) d = true → 1 ≤ a_pc w d n
  | 0, i, h, _ => absurd h (Nat.not_lt_zero _)
  | n + 1, i, h, hb => by
    unfold a_pc
    by_cases e : i = n
    · subst e
      rw [if_pos hb]
      omega
    · have := a_pc_bit n i (by omega) hb
      omega
theorem sx_undo (hf : z_FR fr) (h : z_XS fi ws nn tx) (hg : z_G ws nn) (hQ : z_XQ fi fl fr Q (r_undo ws nn).1 (r_undo ws nn).2.1 (r_undo ws nn).2.2 tx) : TT 106 0 [some (.ref 18)] [] (151, fi, fl, fr) Q := by
  have o18 : z_ok 151 18 10 = true := rfl; have o19 : z_ok 151 19 16 = true := rfl; have o70 : z_ok 151 70 18 = true := rfl
  have hk := z_Kok_of hf (k := 19) (by decide)
  have rfn := fun fi Q => sp_refuse (fi := fi) (fl := fl) (fr := fr) (Q := Q) (r := 3) (x := nM 3) (Or.inr (Or.inl rfl))
  have hr : z_KR (u2 fi 70 55 (nI 0)) 19 (ws 0) := h.1.1.fr (fun j j1 j2 => u2_ne (by omega))
  have h0 : z_XS (u2 fi 70 55 (nI 0)) ws nn tx := by
    have := h.kit (fi' := u2 fi 70 55 (nI 0)) hr (fun j hj => rfl)
    rw [uw_id] at this
    exact this
  unfold r_undo at hQ
  by_cases c : ws 0 58 = 0
  · rw [if_pos c] at hQ
    have gb := fun Q => sp_goBack_no (fl := fl) (Q := Q) hk hr c
    have o := z_XQ.ref (fi := u2 fi 70 55 (nI 0)) (Or.inr (Or.inl rfl)) h0 (fun f' q1 q2 => hQ f' q1 (fun j hj => by rw [q2 j hj]; exact u2_ne (by omega)))
    simp (disch := first | assumption | rfl | exact zle_0 | exact zle_1 | exact zle_2 | exact zle_3 | exact zle_4 | exact zb_0 | exact zb_1 | exact zb01_B | omega) only [zT106_0, zr_aload_0, zT106_1, zr_gf_5, zr_or, zr_go, zf_18_5, zT106_4, zr_iv_206, zT106_7, zT106_8, zr_gf_0, zf_18_0, zf_22_0, zf_42_0, zf_59_0, zf_96_0, zf_116_0, zT106_11, zr_iv_196, zT106_14, zr_if_eq, zT106_17, zr_ic_1, zT106_18, zr_goto, zT106_21, zT106_22, zr_ic_m3, zT106_24, zT106_26, zr_iv_117, zT106_29, zr_ret0, zT206_0, zT206_1, zr_ic_0, zT206_2, zr_pf_55, zT206_5, zr_return, zcl_i, zcl_r, zcl_l, zcl_n, zv_some, zv_none, Nat.reduceAdd, Nat.reduceMul, Nat.reduceSub, Nat.reduceLT, Nat.reduceLeDiff, Nat.reduceEqDiff, Int.reduceToNat, true_implies, false_implies, implies_true, and_true, true_and, not_true_eq_false, not_false_eq_true, Nat.zero_add, Nat.add_zero, nI_add, nI_ltI, nI_leI, nI_eq, pk_mul, pk_sub, u2_same, u2_row, u2_other, gb, rfn, olt_T, olt_F, ole_T, ole_F, oeq_T, oeq_F]
    exact o
  · rw [if_neg c] at hQ
    dsimp only at hQ
    have h45 := hg.1.le
    obtain ⟨p1, p2⟩ := hg.1.2.1 (ws 0 58 - 1) (by omega)
    rw [show 59 + (ws 0 58 - 1) = 58 + ws 0 58 by omega] at p1 p2
    have h13 := hg.1.1.2.2.1
    have h8 : 2 ^ ws 0 13 ≤ 2 ^ 3 := Nat.pow_le_pow_right (by decide) h13
    have gb := fun Q => sp_goBack (fl := fl) (Q := Q) hk hr h13 h45 (by omega) (by omega)
    have K := k_back_K hr hg.1.1.1 h13 h45 (by omega) hg.1.sm (fun d hd hb => by
      rw [hg.1.2.2 d (by omega)]
      exact a_pc_bit _ (ws 0 58 - 1) (by omega) (by rw [show 59 + (ws 0 58 - 1) = 58 + ws 0 58 by omega]; exact hb))
    have fr0 : ∀ j, j < 19 ∨ 39 ≤ j → k_back (u2 fi 70 55 (nI 0)) 19 (ws 0 (58 + ws 0 58)) (ws 0 58) (ws 0 13) j = u2 fi 70 55 (nI 0) j := by
      intro j hj
      funext f
      unfold k_back
      rw [k_bring_ne _ _ _ _ _ (Or.inl (fun d d1 d2 => by omega)), u2_other (by omega)]
    simp (disch := first | assumption | rfl | exact zle_0 | exact zle_1 | exact zle_2 | exact zle_3 | exact zle_4 | exact zb_0 | exact zb_1 | exact zb01_B | omega) only [zT106_0, zr_aload_0, zT106_1, zr_gf_5, zr_or, zr_go, zf_18_5, zT106_4, zr_iv_206, zT106_7, zT106_8, zr_gf_0, zf_18_0, zf_22_0, zf_42_0, zf_59_0, zf_96_0, zf_116_0, zT106_11, zr_iv_196, zT106_14, zr_if_eq, zT106_17, zr_ic_1, zT106_18, zr_goto, zT106_21, zT106_22, zr_ic_m3, zT106_24, zT106_26, zr_iv_117, zT106_29, zr_ret0, zT206_0, zT206_1, zr_ic_0, zT206_2, zr_pf_55, zT206_5, zr_return, zcl_i, zcl_r, zcl_l, zcl_n, zv_some, zv_none, Nat.reduceAdd, Nat.reduceMul, Nat.reduceSub, Nat.reduceLT, Nat.reduceLeDiff, Nat.reduceEqDiff, Int.reduceToNat, true_implies, false_implies, implies_true, and_true, true_and, not_true_eq_false, not_false_eq_true, Nat.zero_add, Nat.add_zero, nI_add, nI_ltI, nI_leI, nI_eq, pk_mul, pk_sub, u2_same, u2_row, u2_other, gb, olt_T, olt_F, ole_T, ole_F, oeq_T, oeq_F]
    exact hQ _ (h.kit K fr0) (fun j hj => by rw [fr0 j (by omega)]; exact u2_ne (by omega))
end
