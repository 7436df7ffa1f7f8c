/-! simple calls -/
def rf (nn : Nat → Nat) (r : Nat) : Nat → Nat := uh nn (r + 1) (nn (r + 1) + 1)
def r_hands (w nn : Nat → Nat) (x y : Int32) : Int32 × (Nat → Nat) := if 0 ≤ x.toInt ∧ x.toInt < w 0 ∧ 0 ≤ y.toInt ∧ y.toInt ≤ 1 then (nI (if y.toInt = 0 then a_kr (w (1 + x.toInt.toNat)) (w 54) else a_kl (w (1 + x.toInt.toNat)) (w 54)), nn) else (nM 2, rf nn 2)
def r_status (nn : Nat → Nat) (x : Int32) : Int32 × (Nat → Nat) := if 0 ≤ x.toInt ∧ x.toInt ≤ 2 then (nI (nn (3 + x.toInt.toNat)), nn) else (nM 1, rf nn 2)
/-- what count tells -/
def a_ct (w nn : Nat → Nat) (i : Nat) : Nat := if i = 0 then w 0 else if i = 1 then w 13 else if i = 2 then w 53 else if i = 3 then w 58 else nn 2
def r_count (w nn : Nat → Nat) (x : Int32) : Int32 × (Nat → Nat) := if 0 ≤ x.toInt ∧ x.toInt ≤ 4 then (nI (a_ct w nn x.toInt.toNat), nn) else (nM 2, rf nn 2)
def a_sg (nn : Nat → Nat) (i : Nat) : Nat := if i = 0 then (if nn 6 = 0 then 0 else 1) else if i = 1 then a_len (nn 6) else a_len (nn 7)
def r_sign (nn : Nat → Nat) (x : Int32) : Int32 × (Nat → Nat) := if 0 ≤ x.toInt ∧ x.toInt ≤ 2 then (nI (a_sg nn x.toInt.toNat), nn) else (nM 2, rf nn 2)
def a_lb (v i : Nat) : Int32 := if i < a_len v then nI (v / LB ^ i % LB) else nM 1
def r_limb (nn : Nat → Nat) (x y : Int32) : Int32 × (Nat → Nat) := if 0 ≤ x.toInt ∧ x.toInt ≤ 1 ∧ 0 ≤ y.toInt then (a_lb (nn (6 + x.toInt.toNat)) y.toInt.toNat, nn) else (nM 2, rf nn 2)
def a_so (w : Nat → Nat) (d what : Nat) : Nat := if what = 0 then (a_stp w d (a_gone w d)).1 else (a_stp w d (a_gone w d)).2
def r_state (w nn : Nat → Nat) (x y : Int32) : Int32 × (Nat → Nat) := if 0 ≤ x.toInt ∧ x.toInt < w 13 ∧ 0 ≤ y.toInt ∧ y.toInt ≤ 1 then (nI (a_so w x.toInt.toNat y.toInt.toNat), nn) else (nM 2, rf nn 2)
section
variable {fi fi' : Nat → Nat → Int32} {fl : Nat → Nat → Int64} {fr : Nat → Nat → Option Nat} {Q : Option Value → Mm → Prop} {w : Nat → Nat} {k : Nat} {M : Mm} {ws : Nat → Nat → Nat} {nn tx : Nat → Nat}
theorem z_XQ.id_ {a : Int32} (h : z_XS fi ws nn tx) (hQ : z_XQ fi fl fr Q a ws nn tx) : Q (some (.int a)) (151, fi, fl, fr) := hQ fi h (fun _ _ => rfl)
theorem sx_hands (hf : z_FR fr) (h : z_XS fi ws nn tx) (hg : z_G ws nn) {x y : Int32} (hQ : z_XQ fi fl fr Q (r_hands (ws 0) nn x y).1 ws (r_hands (ws 0) nn x y).2 tx) : TT 89 0 [some (.ref 18), some (.int x), some (.int y), none] [] (151, fi, fl, fr) Q := by
  have o18 : z_ok 151 18 10 = true := rfl; have o19 : z_ok 151 19 16 = true := rfl
  have hk := z_Kok_of hf (k := 19) (by decide)
  have hr := h.1.1
  have h0 := hg.1.1.1
  have h54 := hg.1.1.2.2.2.2.2.1
  have hc := fun Q => sp_hasCook (fl := fl) (fr := fr) (Q := Q) (x := x) o19 hr.1.1 (show ws 0 0 < 2 ^ 31 by omega)
  have st := hr.1.2.2.2.1
  have rfs := fun fi Q => sp_refuse (fi := fi) (fl := fl) (fr := fr) (Q := Q) (r := 2) (x := nM 2) (Or.inl rfl)
  unfold r_hands at hQ
  by_cases c1 : 0 ≤ x.toInt ∧ x.toInt < ws 0 0
  · rw [decide_eq_true c1] at hc
    by_cases c2 : 0 ≤ y.toInt ∧ y.toInt ≤ 1
    · rw [if_pos ⟨c1.1, c1.2, c2.1, c2.2⟩] at hQ
      obtain ⟨ex, lx⟩ := nI_ofInt c1.1
      obtain ⟨ey, ly⟩ := nI_ofInt c2.1
      have ey0 : (y.toInt = 0) = (y.toInt.toNat = 0) := by apply propext; omega
      simp only [ey0] at hQ
      generalize hx : x.toInt.toNat = c at *
      generalize hy : y.toInt.toNat = b at *
      have kd := (hg.1.1.2.1 c (by omega)).1
      have kf := fun Q => sp_kindOf (fl := fl) (Q := Q) hk hr.k0 h0 (show c < ws 0 0 by omega)
      have rh := fun Q => sp_rightHands (fi := fi) (fl := fl) (fr := fr) (Q := Q) (kd := ws 0 (1 + c)) (b := ws 0 54) (by omega) h54
      have lh := fun Q => sp_leftHands (fi := fi) (fl := fl) (fr := fr) (Q := Q) (kd := ws 0 (1 + c)) (b := ws 0 54) (by omega) h54
      rw [ex] at hc ⊢
      rw [ey]
      by_cases b0 : b = 0
      · rw [if_pos b0] at hQ
        simp (disch := first | assumption | rfl | exact zle_0 | exact zle_1 | exact zle_2 | exact zle_3 | exact zle_4 | exact zb_0 | exact zb_1 | exact zb01_B | omega) only [zT89_0, zr_aload_0, zT89_1, zr_gf_0, zr_or, zr_go, zf_18_0, zf_22_0, zf_42_0, zf_59_0, zf_96_0, zf_116_0, zT89_4, zr_iload_1, zT89_5, zr_iv_184, zT89_8, zr_if_eq, zT89_11, zr_iload_2, zT89_12, zr_if_lt, zT89_15, zT89_16, zr_ic_1, zT89_17, zr_icmp_le, zT89_20, zT89_21, zr_ic_m2, zT89_23, zT89_25, zr_iv_117, zT89_28, zr_ret0, zT89_29, zT89_30, zT89_33, zT89_34, zr_iv_185, zT89_37, zr_istore_3, zT89_38, zT89_39, zr_if_ne, zT89_42, zr_iload_3, zT89_43, zT89_44, zT89_47, zr_gf_47, zT89_50, zr_iv_171, zT89_53, zr_goto, zT89_56, zT89_57, zT89_58, zT89_61, zT89_64, zr_iv_172, zT89_67, zcl_i, zcl_r, zcl_l, zcl_n, zv_some, zv_none, Nat.reduceAdd, Nat.reduceMul, Nat.reduceSub, Nat.reduceLT, Nat.reduceLeDiff, Nat.reduceEqDiff, Int.reduceToNat, true_implies, false_implies, implies_true, and_true, true_and, not_true_eq_false, not_false_eq_true, Nat.zero_add, Nat.add_zero, nI_add, nI_ltI, nI_leI, nI_eq, pk_mul, pk_sub, u2_same, u2_row, u2_other, hc, zB_eq0, reduceCtorEq, kf, st, rh, olt_T, olt_F, ole_T, ole_F, oeq_T, oeq_F]
        exact z_XQ.id_ h hQ
      · rw [if_neg b0] at hQ
        simp (disch := first | assumption | rfl | exact zle_0 | exact zle_1 | exact zle_2 | exact zle_3 | exact zle_4 | exact zb_0 | exact zb_1 | exact zb01_B | omega) only [zT89_0, zr_aload_0, zT89_1, zr_gf_0, zr_or, zr_go, zf_18_0, zf_22_0, zf_42_0, zf_59_0, zf_96_0, zf_116_0, zT89_4, zr_iload_1, zT89_5, zr_iv_184, zT89_8, zr_if_eq, zT89_11, zr_iload_2, zT89_12, zr_if_lt, zT89_15, zT89_16, zr_ic_1, zT89_17, zr_icmp_le, zT89_20, zT89_21, zr_ic_m2, zT89_23, zT89_25, zr_iv_117, zT89_28, zr_ret0, zT89_29, zT89_30, zT89_33, zT89_34, zr_iv_185, zT89_37, zr_istore_3, zT89_38, zT89_39, zr_if_ne, zT89_42, zr_iload_3, zT89_43, zT89_44, zT89_47, zr_gf_47, zT89_50, zr_iv_171, zT89_53, zr_goto, zT89_56, zT89_57, zT89_58, zT89_61, zT89_64, zr_iv_172, zT89_67, zcl_i, zcl_r, zcl_l, zcl_n, zv_some, zv_none, Nat.reduceAdd, Nat.reduceMul, Nat.reduceSub, Nat.reduceLT, Nat.reduceLeDiff, Nat.reduceEqDiff, Int.reduceToNat, true_implies, false_implies, implies_true, and_true, true_and, not_true_eq_false, not_false_eq_true, Nat.zero_add, Nat.add_zero, nI_add, nI_ltI, nI_leI, nI_eq, pk_mul, pk_sub, u2_same, u2_row, u2_other, hc, zB_eq0, reduceCtorEq, kf, st, lh, olt_T, olt_F, ole_T, ole_F, oeq_T, oeq_F]
        exact z_XQ.id_ h hQ
    · rw [if_neg (fun q => c2 ⟨q.2.2.1, q.2.2.2⟩)] at hQ
      have o := z_XQ.ref (Or.inl rfl) h hQ
      by_cases c3 : 0 ≤ y.toInt
      · have n1 : (y < nI 0) = False := eq_false (by rw [Int32.lt_iff_toInt_lt, nI_toInt (by decide)]; omega)
        have n2 : (y ≤ nI 1) = False := eq_false (by rw [Int32.le_iff_toInt_le, nI_toInt (by decide)]; omega)
        simp (disch := first | assumption | rfl | exact zle_0 | exact zle_1 | exact zle_2 | exact zle_3 | exact zle_4 | exact zb_0 | exact zb_1 | exact zb01_B | omega) only [zT89_0, zr_aload_0, zT89_1, zr_gf_0, zr_or, zr_go, zf_18_0, zf_22_0, zf_42_0, zf_59_0, zf_96_0, zf_116_0, zT89_4, zr_iload_1, zT89_5, zr_iv_184, zT89_8, zr_if_eq, zT89_11, zr_iload_2, zT89_12, zr_if_lt, zT89_15, zT89_16, zr_ic_1, zT89_17, zr_icmp_le, zT89_20, zT89_21, zr_ic_m2, zT89_23, zT89_25, zr_iv_117, zT89_28, zr_ret0, zT89_29, zT89_30, zT89_33, zT89_34, zr_iv_185, zT89_37, zr_istore_3, zT89_38, zT89_39, zr_if_ne, zT89_42, zr_iload_3, zT89_43, zT89_44, zT89_47, zr_gf_47, zT89_50, zr_iv_171, zT89_53, zr_goto, zT89_56, zT89_57, zT89_58, zT89_61, zT89_64, zr_iv_172, zT89_67, zcl_i, zcl_r, zcl_l, zcl_n, zv_some, zv_none, Nat.reduceAdd, Nat.reduceMul, Nat.reduceSub, Nat.reduceLT, Nat.reduceLeDiff, Nat.reduceEqDiff, Int.reduceToNat, true_implies, false_implies, implies_true, and_true, true_and, not_true_eq_false, not_false_eq_true, Nat.zero_add, Nat.add_zero, nI_add, nI_ltI, nI_leI, nI_eq, pk_mul, pk_sub, u2_same, u2_row, u2_other, hc, zB_eq0, reduceCtorEq, n1, n2, rfs, olt_T, olt_F, ole_T, ole_F, oeq_T, oeq_F]
        exact o
      · have n1 : (y < nI 0) = True := eq_true (by rw [Int32.lt_iff_toInt_lt, nI_toInt (by decide)]; omega)
        simp (disch := first | assumption | rfl | exact zle_0 | exact zle_1 | exact zle_2 | exact zle_3 | exact zle_4 | exact zb_0 | exact zb_1 | exact zb01_B | omega) only [zT89_0, zr_aload_0, zT89_1, zr_gf_0, zr_or, zr_go, zf_18_0, zf_22_0, zf_42_0, zf_59_0, zf_96_0, zf_116_0, zT89_4, zr_iload_1, zT89_5, zr_iv_184, zT89_8, zr_if_eq, zT89_11, zr_iload_2, zT89_12, zr_if_lt, zT89_15, zT89_16, zr_ic_1, zT89_17, zr_icmp_le, zT89_20, zT89_21, zr_ic_m2, zT89_23, zT89_25, zr_iv_117, zT89_28, zr_ret0, zT89_29, zT89_30, zT89_33, zT89_34, zr_iv_185, zT89_37, zr_istore_3, zT89_38, zT89_39, zr_if_ne, zT89_42, zr_iload_3, zT89_43, zT89_44, zT89_47, zr_gf_47, zT89_50, zr_iv_171, zT89_53, zr_goto, zT89_56, zT89_57, zT89_58, zT89_61, zT89_64, zr_iv_172, zT89_67, zcl_i, zcl_r, zcl_l, zcl_n, zv_some, zv_none, Nat.reduceAdd, Nat.reduceMul, Nat.reduceSub, Nat.reduceLT, Nat.reduceLeDiff, Nat.reduceEqDiff, Int.reduceToNat, true_implies, false_implies, implies_true, and_true, true_and, not_true_eq_false, not_false_eq_true, Nat.zero_add, Nat.add_zero, nI_add, nI_ltI, nI_leI, nI_eq, pk_mul, pk_sub, u2_same, u2_row, u2_other, hc, zB_eq0, reduceCtorEq, n1, rfs, olt_T, olt_F, ole_T, ole_F, oeq_T, oeq_F]
        exact o
  · rw [decide_eq_false c1] at hc
    rw [if_neg (fun q => c1 ⟨q.1, q.2.1⟩)] at hQ
    have o := z_XQ.ref (Or.inl rfl) h hQ
    simp (disch := first | assumption | rfl | exact zle_0 | exact zle_1 | exact zle_2 | exact zle_3 | exact zle_4 | exact zb_0 | exact zb_1 | exact zb01_B | omega) only [zT89_0, zr_aload_0, zT89_1, zr_gf_0, zr_or, zr_go, zf_18_0, zf_22_0, zf_42_0, zf_59_0, zf_96_0, zf_116_0, zT89_4, zr_iload_1, zT89_5, zr_iv_184, zT89_8, zr_if_eq, zT89_11, zr_iload_2, zT89_12, zr_if_lt, zT89_15, zT89_16, zr_ic_1, zT89_17, zr_icmp_le, zT89_20, zT89_21, zr_ic_m2, zT89_23, zT89_25, zr_iv_117, zT89_28, zr_ret0, zT89_29, zT89_30, zT89_33, zT89_34, zr_iv_185, zT89_37, zr_istore_3, zT89_38, zT89_39, zr_if_ne, zT89_42, zr_iload_3, zT89_43, zT89_44, zT89_47, zr_gf_47, zT89_50, zr_iv_171, zT89_53, zr_goto, zT89_56, zT89_57, zT89_58, zT89_61, zT89_64, zr_iv_172, zT89_67, zcl_i, zcl_r, zcl_l, zcl_n, zv_some, zv_none, Nat.reduceAdd, Nat.reduceMul, Nat.reduceSub, Nat.reduceLT, Nat.reduceLeDiff, Nat.reduceEqDiff, Int.reduceToNat, true_implies, false_implies, implies_true, and_true, true_and, not_true_eq_false, not_false_eq_true, Nat.zero_add, Nat.add_zero, nI_add, nI_ltI, nI_leI, nI_eq, pk_mul, pk_sub, u2_same, u2_row, u2_other, hc, zB_eq0, rfs, olt_T, olt_F, ole_T, ole_F, oeq_T, oeq_F]
    exact o
theorem sx_clear (hf : z_FR fr) (h : z_XS fi ws nn tx) (hQ : z_XQ fi fl fr Q (nI (nn 2)) ws (uh nn 2 0) tx) : TT 91 0 [some (.ref 18), none] [] (151, fi, fl, fr) Q := by
  have o18 : z_ok 151 18 10 = true := rfl; have o84 : z_ok 151 84 11 = true := rfl
  have ln := h.2.2.2.1.2.1
  simp (disch := first | assumption | rfl | exact zle_0 | exact zle_1 | exact zle_2 | exact zle_3 | exact zle_4 | exact zb_0 | exact zb_1 | exact zb01_B | omega) only [zT91_0, zr_aload_0, zT91_1, zr_gf_6, zr_or, zr_go, zf_18_6, zT91_4, zr_gf_12, zT91_7, zr_istore_1, zT91_8, zT91_9, zT91_12, zr_ic_0, zT91_13, zr_pf_12, zT91_16, zr_iload_1, zT91_17, zr_ret0, zcl_i, zcl_r, zcl_l, zcl_n, zv_some, zv_none, Nat.reduceAdd, Nat.reduceMul, Nat.reduceSub, Nat.reduceLT, Nat.reduceLeDiff, Nat.reduceEqDiff, Int.reduceToNat, true_implies, false_implies, implies_true, and_true, true_and, not_true_eq_false, not_false_eq_true, Nat.zero_add, Nat.add_zero, nI_add, nI_ltI, nI_leI, nI_eq, pk_mul, pk_sub, u2_same, u2_row, u2_other, ln, olt_T, olt_F, ole_T, ole_F, oeq_T, oeq_F]
  obtain ⟨hk, hc, hF, ht, hp⟩ := h
  have f : ∀ j, j ≠ 84 → u2 fi 84 12 (nI 0) j = fi j := fun j hj => u2_ne hj
  refine hQ _ ⟨?_, ?_, ?_, ⟨?_, ?_, ?_⟩, hp.frame (fun j j1 j2 => f j (by omega))⟩ (fun j hj => f j (by omega))
  · have := hk.frame (fi' := u2 fi 84 12 (nI 0)) (fun j hj => f j (by omega))
    unfold z_XK at *
    rw [uh_ne (by decide), uh_ne (by decide)]
    exact this
  · unfold z_XC at *
    rw [f 18 (by decide), uh_ne (by decide), uh_ne (by decide), uh_ne (by decide)]
    exact hc
  · have := hF.frame (fi' := u2 fi 84 12 (nI 0)) (fun j j1 j2 => f j (by omega))
    unfold z_XF at *
    rw [uh_ne (by decide), uh_ne (by decide)]
    exact this
  · rw [uh_same]; decide
  · rw [u2_same, uh_same]
  · rw [uh_same]
    intro i hi
    exact absurd hi (Nat.not_lt_zero _)
theorem i3 {x : Int32} {n : Nat} (h : 0 ≤ x.toInt ∧ x.toInt ≤ n) : ∃ j, j ≤ n ∧ x = nI j ∧ x.toInt.toNat = j := by
  obtain ⟨ex, lx⟩ := nI_ofInt h.1
  exact ⟨x.toInt.toNat, by omega, ex, rfl⟩
theorem sx_status (hf : z_FR fr) (h : z_XS fi ws nn tx) {x : Int32} (hQ : z_XQ fi fl fr Q (r_status nn x).1 ws (r_status nn x).2 tx) : TT 112 0 [some (.ref 18), some (.int x)] [] (151, fi, fl, fr) Q := by
  have o18 : z_ok 151 18 10 = true := rfl
  have rfs := fun fi Q => sp_refuse (fi := fi) (fl := fl) (fr := fr) (Q := Q) (r := 2) (x := nM 1) (Or.inl rfl)
  obtain ⟨q3, q4, q5⟩ := h.2.1
  unfold r_status at hQ
  by_cases c : 0 ≤ x.toInt ∧ x.toInt ≤ 2
  · rw [if_pos c] at hQ
    obtain ⟨j, j2, rfl, ej⟩ := i3 (n := 2) c
    rw [ej] at hQ
    have : j = 0 ∨ j = 1 ∨ j = 2 := by omega
    rcases this with rfl | rfl | rfl
    · have t : z_tab 43 0 2 #[28, 33, 38] (nI 0) = some 28 := by decide +kernel
      simp (disch := first | assumption | rfl | exact zle_0 | exact zle_1 | exact zle_2 | exact zle_3 | exact zle_4 | exact zb_0 | exact zb_1 | exact zb01_B | omega) only [zT112_0, zr_iload_1, zT112_1, zr_tab, zr_or, zr_go, zT112_28, zr_aload_0, zT112_29, zr_gf_8, zT112_32, zr_ret0, zT112_33, zT112_34, zr_gf_9, zT112_37, zT112_38, zT112_39, zr_gf_10, zT112_42, zT112_43, zT112_44, zr_ic_m2, zT112_46, zr_ic_m1, zT112_47, zr_iv_117, zT112_50, zcl_i, zcl_r, zcl_l, zcl_n, zv_some, zv_none, Nat.reduceAdd, Nat.reduceMul, Nat.reduceSub, Nat.reduceLT, Nat.reduceLeDiff, Nat.reduceEqDiff, Int.reduceToNat, true_implies, false_implies, implies_true, and_true, true_and, not_true_eq_false, not_false_eq_true, Nat.zero_add, Nat.add_zero, nI_add, nI_ltI, nI_leI, nI_eq, pk_mul, pk_sub, u2_same, u2_row, u2_other, t, q3, olt_T, olt_F, ole_T, ole_F, oeq_T, oeq_F]
      exact z_XQ.id_ h hQ
    · have t : z_tab 43 0 2 #[28, 33, 38] (nI 1) = some 33 := by decide +kernel
      simp (disch := first | assumption | rfl | exact zle_0 | exact zle_1 | exact zle_2 | exact zle_3 | exact zle_4 | exact zb_0 | exact zb_1 | exact zb01_B | omega) only [zT112_0, zr_iload_1, zT112_1, zr_tab, zr_or, zr_go, zT112_28, zr_aload_0, zT112_29, zr_gf_8, zT112_32, zr_ret0, zT112_33, zT112_34, zr_gf_9, zT112_37, zT112_38, zT112_39, zr_gf_10, zT112_42, zT112_43, zT112_44, zr_ic_m2, zT112_46, zr_ic_m1, zT112_47, zr_iv_117, zT112_50, zcl_i, zcl_r, zcl_l, zcl_n, zv_some, zv_none, Nat.reduceAdd, Nat.reduceMul, Nat.reduceSub, Nat.reduceLT, Nat.reduceLeDiff, Nat.reduceEqDiff, Int.reduceToNat, true_implies, false_implies, implies_true, and_true, true_and, not_true_eq_false, not_false_eq_true, Nat.zero_add, Nat.add_zero, nI_add, nI_ltI, nI_leI, nI_eq, pk_mul, pk_sub, u2_same, u2_row, u2_other, t, q4, olt_T, olt_F, ole_T, ole_F, oeq_T, oeq_F]
      exact z_XQ.id_ h hQ
    · have t : z_tab 43 0 2 #[28, 33, 38] (nI 2) = some 38 := by decide +kernel
      simp (disch := first | assumption | rfl | exact zle_0 | exact zle_1 | exact zle_2 | exact zle_3 | exact zle_4 | exact zb_0 | exact zb_1 | exact zb01_B | omega) only [zT112_0, zr_iload_1, zT112_1, zr_tab, zr_or, zr_go, zT112_28, zr_aload_0, zT112_29, zr_gf_8, zT112_32, zr_ret0, zT112_33, zT112_34, zr_gf_9, zT112_37, zT112_38, zT112_39, zr_gf_10, zT112_42, zT112_43, zT112_44, zr_ic_m2, zT112_46, zr_ic_m1, zT112_47, zr_iv_117, zT112_50, zcl_i, zcl_r, zcl_l, zcl_n, zv_some, zv_none, Nat.reduceAdd, Nat.reduceMul, Nat.reduceSub, Nat.reduceLT, Nat.reduceLeDiff, Nat.reduceEqDiff, Int.reduceToNat, true_implies, false_implies, implies_true, and_true, true_and, not_true_eq_false, not_false_eq_true, Nat.zero_add, Nat.add_zero, nI_add, nI_ltI, nI_leI, nI_eq, pk_mul, pk_sub, u2_same, u2_row, u2_other, t, q5, olt_T, olt_F, ole_T, ole_F, oeq_T, oeq_F]
      exact z_XQ.id_ h hQ
  · rw [if_neg c] at hQ
    have o := z_XQ.ref (Or.inl rfl) h hQ
    have t : z_tab 43 0 2 #[28, 33, 38] x = some 43 := by
      unfold z_tab
      rw [if_pos (by omega)]
      rfl
    simp (disch := first | assumption | rfl | exact zle_0 | exact zle_1 | exact zle_2 | exact zle_3 | exact zle_4 | exact zb_0 | exact zb_1 | exact zb01_B | omega) only [zT112_0, zr_iload_1, zT112_1, zr_tab, zr_or, zr_go, zT112_28, zr_aload_0, zT112_29, zr_gf_8, zT112_32, zr_ret0, zT112_33, zT112_34, zr_gf_9, zT112_37, zT112_38, zT112_39, zr_gf_10, zT112_42, zT112_43, zT112_44, zr_ic_m2, zT112_46, zr_ic_m1, zT112_47, zr_iv_117, zT112_50, zcl_i, zcl_r, zcl_l, zcl_n, zv_some, zv_none, Nat.reduceAdd, Nat.reduceMul, Nat.reduceSub, Nat.reduceLT, Nat.reduceLeDiff, Nat.reduceEqDiff, Int.reduceToNat, true_implies, false_implies, implies_true, and_true, true_and, not_true_eq_false, not_false_eq_true, Nat.zero_add, Nat.add_zero, nI_add, nI_ltI, nI_leI, nI_eq, pk_mul, pk_sub, u2_same, u2_row, u2_other, t, rfs, olt_T, olt_F, ole_T, ole_F, oeq_T, oeq_F]
    exact o
end
