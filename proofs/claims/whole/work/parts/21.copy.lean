/-! copying and emptying of kitchens -/
def ucp (fi : Nat → Nat → Int32) (a d m : Nat) : Nat → Nat → Int32 := fun b j => if b = d then (if j < m then fi a j else fi d j) else fi b j
theorem ucp_other {fi : Nat → Nat → Int32} {a d m b j : Nat} (h : b ≠ d) : ucp fi a d m b j = fi b j := by simp [ucp, h]
theorem ucp_ne {fi : Nat → Nat → Int32} {a d m b : Nat} (h : b ≠ d) : ucp fi a d m b = fi b := by funext j; exact ucp_other h
theorem ucp_lt {fi : Nat → Nat → Int32} {a d m j : Nat} (h : j < m) : ucp fi a d m d j = fi a j := by simp [ucp, h]
theorem zr_cpy {L : Lo} {r : List Value} {M : Mm} {Q : Option Value → Mm → Prop} {y pn n pc a d m : Nat} {fi : Nat → Nat → Int32} {fl : Nat → Nat → Int64} {fr : Nat → Nat → Option Nat}
    (h1 : z_ok 151 a 1 = true) (h2 : z_ok 151 d 1 = true) (ha : z_al a = m) (hd : z_al d = m) (hr : z_le4 r = true) :
    TR (z_st .monitorenter n pc L (.int (nI m) :: .int (nI 0) :: .ref d :: .int (nI 0) :: .ref a :: r) (151, fi, fl, fr)) y pn M Q = TT y (pc + n) L r (151, ucp fi a d m, fl, fr) Q := by
  have hm : m < 5000 := ha ▸ z_al_small a
  have e1 := z_ok_len (M := (151, fi, fl, fr)) h1 (by decide)
  have e2 := z_ok_len (M := (151, fi, fl, fr)) h2 (by decide)
  have hlt : ¬ (nI m < 0) := by
    rw [Int32.lt_iff_toInt_lt, nI_toInt (by omega)]
    simp
  have c0 : (nI 0).toNatClampNeg = 0 := nI_clamp (by decide)
  have cm : (nI m).toNatClampNeg = m := nI_clamp (by omega)
  show TR (z_if (z_ok 151 a 1 && z_ok 151 d 1 && (!(decide (nI 0 < 0)) && !(decide (nI 0 < 0)) && !(decide (nI m < 0))) && (Nat.ble ((nI 0).toNatClampNeg + (nI m).toNatClampNeg) (z_len (151, fi, fl, fr) a) && Nat.ble ((nI 0).toNatClampNeg + (nI m).toNatClampNeg) (z_len (151, fi, fl, fr) d)) && Nat.ble r.length 4 && Nat.beq 151 151)
      (z_go (pc + n) L r (151, (fun b j => if b = d then va_cpy (fi a) (fi d) (nI 0).toNatClampNeg (nI 0).toNatClampNeg (nI m).toNatClampNeg j else fi b j), fl, fr))) y pn M Q = _
  rw [h1, h2, e1, e2, c0, cm, ha, hd, z_le4_ble hr, decide_eq_false hlt, show Nat.ble (0 + m) m = true from by simp [Nat.ble_eq]]
  have ef : (fun b j => if b = d then va_cpy (fi a) (fi d) 0 0 m j else fi b j) = ucp fi a d m := by
    funext b j
    unfold ucp va_cpy
    by_cases hb : b = d <;> simp [hb]
  rw [ef]
  rfl
section
variable {fi : Nat → Nat → Int32} {fl : Nat → Nat → Int64} {fr : Nat → Nat → Option Nat} {Q : Option Value → Mm → Prop} {w : Nat → Nat} {k : Nat}
def d_copy (fi : Nat → Nat → Int32) (s d : Nat) : Nat → Nat → Int32 := u2 (u2 (ucp (ucp (ucp (ucp fi (s + 1) (d + 1) 3) (s + 2) (d + 2) 3) (s + 3) (d + 3) 3) (s + 4) (d + 4) 3) d 32 (fi s 32)) d 33 (fi s 33)
theorem sp_dishCopy {s d : Nat} (hs : z_Dok fr s) (hd : z_Dok fr d) (hsd : s + 5 ≤ d ∨ d + 5 ≤ s) : TT 151 0 [some (.ref d), some (.ref s)] [] (151, fi, fl, fr) Q = Q none (151, d_copy fi s d, fl, fr) := by
  refine T_exact (fun Q hQ => ?_) Q
  obtain ⟨s1, ⟨s2, s3, s4, s5⟩, ⟨s6, s7, s8, s9⟩, s10, s11, s12, s13⟩ := hs
  obtain ⟨h1, ⟨h2, h3, h4, h5⟩, ⟨h6, h7, h8, h9⟩, h10, h11, h12, h13⟩ := hd
  simp (disch := first | assumption | rfl | exact zle_0 | exact zle_1 | exact zle_2 | exact zle_3 | exact zle_4 | exact zb_0 | exact zb_1 | exact zb01_B | omega) only [zT151_0, zr_aload_1, zT151_1, zr_gf_28, zr_or, zr_go, zT151_4, zr_ic_0, zT151_5, zr_aload_0, zT151_6, zT151_9, zT151_10, zr_ic_3, zT151_11, zr_cpy, zT151_14, zT151_15, zr_gf_29, zT151_18, zT151_19, zT151_20, zT151_23, zT151_24, zT151_25, zT151_28, zT151_29, zr_gf_30, zT151_32, zT151_33, zT151_34, zT151_37, zT151_38, zT151_39, zT151_42, zT151_43, zr_gf_31, zT151_46, zT151_47, zT151_48, zT151_51, zT151_52, zT151_53, zT151_56, zT151_57, zT151_58, zr_gf_32, zT151_61, zr_pf_32, zT151_64, zT151_65, zT151_66, zr_gf_33, zT151_69, zr_pf_33, zT151_72, zr_return, zcl_i, zcl_r, zcl_l, zcl_n, zv_some, zv_none, Nat.reduceAdd, Nat.reduceMul, Nat.reduceSub, Nat.reduceLT, Nat.reduceLeDiff, Nat.reduceEqDiff, Int.reduceToNat, true_implies, false_implies, implies_true, and_true, true_and, not_true_eq_false, not_false_eq_true, Nat.zero_add, Nat.add_zero, nI_add, nI_ltI, nI_leI, nI_eq, pk_mul, pk_sub, u2_same, u2_row, u2_other, s10, s11, s12, s13, h10, h11, h12, h13, ucp_other]
  exact hQ
theorem d_copy_fr {s d j : Nat} (h : j < d ∨ d + 5 ≤ j) : d_copy fi s d j = fi j := by
  unfold d_copy
  rw [u2_ne (by omega), u2_ne (by omega), ucp_ne (by omega), ucp_ne (by omega), ucp_ne (by omega), ucp_ne (by omega)]
theorem d_copy_D {s d i : Nat} (hsd : s + 5 ≤ d ∨ d + 5 ≤ s) (h : z_DR fi s w i) (hm : a_sm w i ≤ 3) : z_DR (d_copy fi s d) d w i := by
  obtain ⟨h1, h2, h3⟩ := h
  unfold d_copy
  refine ⟨?_, ?_, fun j hj => ?_⟩
  · rw [u2_row (by decide), u2_same, h1]
  · rw [u2_same, h2]
  · have := h3 j hj
    simp (disch := omega) only [u2_other, ucp_other, ucp_lt]
    exact this
def k_copy (fi : Nat → Nat → Int32) (a k : Nat) : Nat → Nat → Int32 :=
  let f0 := u2 (ucp (ucp fi (a + 1) (k + 1) 6) (a + 2) (k + 2) 6) k 43 (fi a 43)
  let f1 := d_copy (d_copy (d_copy f0 (a + 5) (k + 5)) (a + 10) (k + 10)) (a + 15) (k + 15)
  u2 (ucp (u2 (u2 (u2 f1 k 45 (fi a 45)) k 46 (fi a 46)) k 47 (fi a 47)) (a + 4) (k + 4) 45) k 49 (fi a 49)
theorem d_copy_o {s d b j : Nat} (h : b < d ∨ d + 5 ≤ b) : d_copy fi s d b j = fi b j := by rw [d_copy_fr h]
theorem sp_kitchenCopy {a : Nat} (ha : z_Kok fr a) (hk : z_Kok fr k) (hak : a + 20 ≤ k ∨ k + 20 ≤ a) (hb : z_b01 (fi a 47) = true) : TT 177 0 [some (.ref k), some (.ref a), none] [] (151, fi, fl, fr) Q = Q none (151, k_copy fi a k, fl, fr) := by
  refine T_exact (fun Q hQ => ?_) Q
  obtain ⟨a1, ⟨a2, a3, a4, a5⟩, ⟨m1, m2, m3, m4⟩, ⟨g1, g2, g3, g4⟩, ad⟩ := ha
  obtain ⟨h1, ⟨h2, h3, h4, h5⟩, ⟨l1, l2, l3, l4⟩, ⟨f1, f2, f3, f4⟩, hd⟩ := hk
  have d0 : fr (k + 3) 0 = some (k + 5) := (hd 0 (by omega)).1
  have d1 : fr (k + 3) 1 = some (k + 10) := (hd 1 (by omega)).1
  have d2 : fr (k + 3) 2 = some (k + 15) := (hd 2 (by omega)).1
  have e0 : fr (a + 3) 0 = some (a + 5) := (ad 0 (by omega)).1
  have e1 : fr (a + 3) 1 = some (a + 10) := (ad 1 (by omega)).1
  have e2 : fr (a + 3) 2 = some (a + 15) := (ad 2 (by omega)).1
  have o0 : z_ok 151 (k + 5) 13 = true := (hd 0 (by omega)).2.1
  have o1 : z_ok 151 (k + 10) 13 = true := (hd 1 (by omega)).2.1
  have o2 : z_ok 151 (k + 15) 13 = true := (hd 2 (by omega)).2.1
  have c0 : ∀ fi Q, TT 151 0 [some (.ref (k + 5)), some (.ref (a + 5))] [] (151, fi, fl, fr) Q = Q none (151, d_copy fi (a + 5) (k + 5), fl, fr) := fun fi Q => sp_dishCopy (ad 0 (by omega)).2 (hd 0 (by omega)).2 (by omega)
  have c1 : ∀ fi Q, TT 151 0 [some (.ref (k + 10)), some (.ref (a + 10))] [] (151, fi, fl, fr) Q = Q none (151, d_copy fi (a + 10) (k + 10), fl, fr) := fun fi Q => sp_dishCopy (ad 1 (by omega)).2 (hd 1 (by omega)).2 (by omega)
  have c2 : ∀ fi Q, TT 151 0 [some (.ref (k + 15)), some (.ref (a + 15))] [] (151, fi, fl, fr) Q = Q none (151, d_copy fi (a + 15) (k + 15), fl, fr) := fun fi Q => sp_dishCopy (ad 2 (by omega)).2 (hd 2 (by omega)).2 (by omega)
  simp (disch := first | assumption | rfl | exact zle_0 | exact zle_1 | exact zle_2 | exact zle_3 | exact zle_4 | exact zb_0 | exact zb_1 | exact zb01_B | omega) only [zT177_0, zr_aload_1, zT177_1, zr_gf_41, zr_or, zr_go, zf_19_41, zT177_4, zr_ic_0, zT177_5, zr_aload_0, zT177_6, zT177_9, zT177_10, zr_ic_6, zT177_12, zr_cpy, zT177_15, zT177_16, zr_gf_42, zf_19_42, zT177_19, zT177_20, zT177_21, zT177_24, zT177_25, zT177_27, zT177_30, zT177_31, zT177_32, zr_gf_43, zT177_35, zr_pf_43, zT177_38, zT177_39, zr_istore_2, zT177_40, zr_iload_2, zT177_41, zr_ic_3, zT177_42, zr_icmp_ge, zT177_45, zT177_46, zr_gf_44, zf_19_44, zT177_49, zT177_50, zr_aald4, zr_aald5, zT177_51, zT177_52, zT177_55, zT177_56, zT177_57, zr_iv_151, zT177_60, zr_iinc_2_1, zT177_63, zr_goto, zT177_66, zT177_67, zT177_68, zr_gf_45, zT177_71, zr_pf_45, zT177_74, zT177_75, zT177_76, zr_gf_46, zT177_79, zr_pf_46, zT177_82, zT177_83, zT177_84, zr_gf_47, zT177_87, zr_pf_47, zT177_90, zT177_91, zr_gf_48, zf_19_48, zT177_94, zT177_95, zT177_96, zT177_99, zT177_100, zr_ic_45, zT177_102, zT177_105, zT177_106, zT177_107, zr_gf_49, zT177_110, zr_pf_49, zT177_113, zr_return, zcl_i, zcl_r, zcl_l, zcl_n, zv_some, zv_none, Nat.reduceAdd, Nat.reduceMul, Nat.reduceSub, Nat.reduceLT, Nat.reduceLeDiff, Nat.reduceEqDiff, Int.reduceToNat, true_implies, false_implies, implies_true, and_true, true_and, not_true_eq_false, not_false_eq_true, Nat.zero_add, Nat.add_zero, nI_add, nI_ltI, nI_leI, nI_eq, pk_mul, pk_sub, u2_same, u2_row, u2_other, f1, f2, f3, f4, g1, g2, g3, g4, d0, d1, d2, e0, e1, e2, c0, c1, c2, ucp_other, d_copy_o]
  exact hQ
theorem k_copy_fr {a j : Nat} (h : j < k ∨ k + 20 ≤ j) : k_copy fi a k j = fi j := by
  unfold k_copy
  try dsimp only
  rw [u2_ne (by omega), ucp_ne (by omega), u2_ne (by omega), u2_ne (by omega), u2_ne (by omega), d_copy_fr (by omega), d_copy_fr (by omega), d_copy_fr (by omega), u2_ne (by omega), ucp_ne (by omega), ucp_ne (by omega)]
theorem k_copy_K {a : Nat} (h : z_KR fi a w) (hak : a + 20 ≤ k ∨ k + 20 ≤ a) (h0 : w 0 ≤ 6) (hm : ∀ d, d < 3 → a_sm w d ≤ 3) (h58 : w 58 ≤ 45) : z_KR (k_copy fi a k) k w := by
  obtain ⟨⟨h1, h2, h3, h4, h5⟩, h6, h7, h8⟩ := h
  unfold k_copy
  try dsimp only
  refine ⟨⟨?_, ?_, ?_, ?_, ?_⟩, fun c hc => ?_, fun d hd => ?_, fun i hi => ?_⟩
  · simp (disch := omega) only [u2_row, u2_same, ucp_other, d_copy_o, h1]
  · simp (disch := omega) only [u2_row, u2_same, ucp_other, d_copy_o, h2]
  · simp (disch := omega) only [u2_row, u2_same, ucp_other, d_copy_o, h3]
  · simp (disch := omega) only [u2_row, u2_same, ucp_other, d_copy_o, h4]
  · simp (disch := omega) only [u2_same, h5]
  · have := h6 c hc
    simp (disch := omega) only [u2_other, ucp_other, d_copy_o, ucp_lt]
    exact this
  · have q := h7 d hd
    have hmd := hm d hd
    have key : ∀ {f g : Nat → Nat → Int32} {x : Nat}, z_DR f x w d → (∀ b j, x ≤ b → b < x + 5 → g b j = f b j) → z_DR g x w d := by
      intro f g x ⟨u1, u2, u3⟩ hfg
      refine ⟨?_, ?_, fun s hs => ?_⟩
      · rw [hfg _ _ (by omega) (by omega)]; exact u1
      · rw [hfg _ _ (by omega) (by omega)]; exact u2
      · rw [hfg _ _ (by omega) (by omega), hfg _ _ (by omega) (by omega), hfg _ _ (by omega) (by omega), hfg _ _ (by omega) (by omega)]; exact u3 s hs
    have hd3 : d = 0 ∨ d = 1 ∨ d = 2 := by omega
    rcases hd3 with rfl | rfl | rfl
    · refine key (d_copy_D (fi := u2 (ucp (ucp fi (a + 1) (k + 1) 6) (a + 2) (k + 2) 6) k 43 (fi a 43)) (s := a + 5) (by omega) (key q (fun b j hb hb2 => ?_)) hmd) (fun b j hb hb2 => ?_)
      · rw [u2_other (by omega), ucp_other (by omega), ucp_other (by omega)]
      · simp (disch := omega) only [u2_other, ucp_other, d_copy_o]
    · refine key (d_copy_D (fi := d_copy (u2 (ucp (ucp fi (a + 1) (k + 1) 6) (a + 2) (k + 2) 6) k 43 (fi a 43)) (a + 5) (k + 5)) (s := a + 10) (by omega) (key q (fun b j hb hb2 => ?_)) hmd) (fun b j hb hb2 => ?_)
      · rw [d_copy_o (by omega), u2_other (by omega), ucp_other (by omega), ucp_other (by omega)]
      · simp (disch := omega) only [u2_other, ucp_other, d_copy_o]
    · refine key (d_copy_D (fi := d_copy (d_copy (u2 (ucp (ucp fi (a + 1) (k + 1) 6) (a + 2) (k + 2) 6) k 43 (fi a 43)) (a + 5) (k + 5)) (a + 10) (k + 10)) (s := a + 15) (by omega) (key q (fun b j hb hb2 => ?_)) hmd) (fun b j hb hb2 => ?_)
      · rw [d_copy_o (by omega), d_copy_o (by omega), u2_other (by omega), ucp_other (by omega), ucp_other (by omega)]
      · simp (disch := omega) only [u2_other, ucp_other, d_copy_o]
  · have := h8 i hi
    simp (disch := omega) only [u2_other, ucp_other, d_copy_o, ucp_lt]
    exact this
/-- an empty kitchen's row -/
def a_none : Nat → Nat := fun j => if j = 53 then 2 else 0
def k_none (fi : Nat → Nat → Int32) (k : Nat) : Nat → Nat → Int32 := k_ba (u2 (u2 (u2 (u2 (u2 (u2 (u2 fi k 43 (nI 0)) k 45 (nI 0)) k 46 (nI 2)) k 47 (nI 0)) (k + 5) 32 (nI 0)) (k + 10) 32 (nI 0)) (k + 15) 32 (nI 0)) k
theorem sp_empty (hk : z_Kok fr k) : TT 176 0 [some (.ref k), none] [] (151, fi, fl, fr) Q = Q none (151, k_none fi k, fl, fr) := by
  refine T_exact (fun Q hQ => ?_) Q
  have hba := fun fi Q => sp_beginAnew (fi := fi) (fl := fl) (Q := Q) hk
  obtain ⟨h1, ⟨h2, h3, h4, h5⟩, ⟨l1, l2, l3, l4⟩, ⟨f1, f2, f3, f4⟩, hd⟩ := hk
  have d0 : fr (k + 3) 0 = some (k + 5) := (hd 0 (by omega)).1
  have d1 : fr (k + 3) 1 = some (k + 10) := (hd 1 (by omega)).1
  have d2 : fr (k + 3) 2 = some (k + 15) := (hd 2 (by omega)).1
  have o0 : z_ok 151 (k + 5) 13 = true := (hd 0 (by omega)).2.1
  have o1 : z_ok 151 (k + 10) 13 = true := (hd 1 (by omega)).2.1
  have o2 : z_ok 151 (k + 15) 13 = true := (hd 2 (by omega)).2.1
  simp (disch := first | assumption | rfl | exact zle_0 | exact zle_1 | exact zle_2 | exact zle_3 | exact zle_4 | exact zb_0 | exact zb_1 | exact zb01_B | omega) only [zT176_0, zr_aload_0, zT176_1, zr_ic_0, zT176_2, zr_pf_43, zT176_5, zT176_6, zT176_7, zr_pf_45, zT176_10, zT176_11, zr_ic_2, zT176_12, zr_pf_46, zT176_15, zT176_16, zT176_17, zr_pf_47, zT176_20, zT176_21, zr_istore_1, zT176_22, zr_iload_1, zT176_23, zr_ic_3, zT176_24, zr_icmp_ge, zT176_27, zT176_28, zr_gf_44, zr_or, zr_go, zf_19_44, zT176_31, zT176_32, zr_aald4, zr_aald5, zT176_33, zT176_34, zr_pf_32, zT176_37, zr_iinc_1_1, zT176_40, zr_goto, zT176_43, zT176_44, zr_iv_183, zT176_47, zr_return, zcl_i, zcl_r, zcl_l, zcl_n, zv_some, zv_none, Nat.reduceAdd, Nat.reduceMul, Nat.reduceSub, Nat.reduceLT, Nat.reduceLeDiff, Nat.reduceEqDiff, Int.reduceToNat, true_implies, false_implies, implies_true, and_true, true_and, not_true_eq_false, not_false_eq_true, Nat.zero_add, Nat.add_zero, nI_add, nI_ltI, nI_leI, nI_eq, pk_mul, pk_sub, u2_same, u2_row, u2_other, f3, d0, d1, d2, hba]
  exact hQ
theorem k_none_fr {j : Nat} (h : j < k ∨ k + 20 ≤ j) : k_none fi k j = fi j := by
  unfold k_none
  rw [k_ba_fr h, u2_ne (by omega), u2_ne (by omega), u2_ne (by omega), u2_ne (by omega), u2_ne (by omega), u2_ne (by omega), u2_ne (by omega)]
theorem k_none_K : z_KR (k_none fi k) k a_none := by
  have e : a_ba a_none = a_none := by
    funext j
    unfold a_ba a_none
    split <;> split <;> first | rfl | omega
  rw [← e]
  have sm0 : ∀ d, d < 3 → a_sm a_none d = 0 := fun d hd => by unfold a_sm a_none; rw [if_neg (by omega)]
  refine k_ba_K ⟨⟨?_, ?_, ?_, ?_⟩, fun c hc => ?_, fun d hd => ⟨?_, fun s hs => ?_⟩⟩ (by decide) (fun d hd => by rw [sm0 d hd]; omega)
  · simp (disch := omega) only [u2_row, u2_same, u2_other]; rfl
  · simp (disch := omega) only [u2_row, u2_same, u2_other]; rfl
  · simp (disch := omega) only [u2_row, u2_same, u2_other]; rfl
  · simp (disch := omega) only [u2_row, u2_same, u2_other]; rfl
  · exact absurd hc (Nat.not_lt_zero _)
  · rw [sm0 d hd]
    have hd3 : d = 0 ∨ d = 1 ∨ d = 2 := by omega
    rcases hd3 with rfl | rfl | rfl
    · simp (disch := omega) only [Nat.mul_zero, Nat.add_zero, u2_same, u2_other]
    · simp (disch := omega) only [Nat.mul_one, show k + 5 + 5 = k + 10 from rfl, u2_same, u2_other]
    · simp (disch := omega) only [show k + 5 + 5 * 2 = k + 15 from rfl, u2_same, u2_other]
  · rw [sm0 d hd] at hs
    exact absurd hs (Nat.not_lt_zero _)
end
