/-! the card's bytes, runs, words -/
/-- from p on, the first place behind the bytes from lo to hi -/
def re_ (tx : Nat → Nat) (n lo hi : Nat) : Nat → Nat → Nat
  | 0, p => p
  | f + 1, p => if p < n ∧ lo ≤ tx p ∧ tx p ≤ hi then re_ tx n lo hi f (p + 1) else p
def ren (tx : Nat → Nat) (n lo hi p : Nat) : Nat := re_ tx n lo hi (n - p) p
theorem ren_end {tx : Nat → Nat} {n lo hi p : Nat} (h : ¬ (p < n ∧ lo ≤ tx p ∧ tx p ≤ hi)) : ren tx n lo hi p = p := by
  unfold ren
  cases e : n - p with
  | zero => rfl
  | succ f => unfold re_; rw [if_neg h]
theorem ren_go {tx : Nat → Nat} {n lo hi p : Nat} (h : p < n ∧ lo ≤ tx p ∧ tx p ≤ hi) : ren tx n lo hi p = ren tx n lo hi (p + 1) := by
  unfold ren
  have := h.1
  rw [show n - p = (n - (p + 1)) + 1 by omega]
  show (if p < n ∧ lo ≤ tx p ∧ tx p ≤ hi then re_ tx n lo hi (n - (p + 1)) (p + 1) else p) = _
  rw [if_pos h]
theorem ren_spec {tx : Nat → Nat} {n lo hi : Nat} : ∀ m p, n - p = m → p ≤ ren tx n lo hi p ∧ (p ≤ n → ren tx n lo hi p ≤ n) ∧ (∀ j, p ≤ j → j < ren tx n lo hi p → j < n ∧ lo ≤ tx j ∧ tx j ≤ hi) ∧ ¬ (ren tx n lo hi p < n ∧ lo ≤ tx (ren tx n lo hi p) ∧ tx (ren tx n lo hi p) ≤ hi)
  | 0, p, hm => by
    have e := ren_end (tx := tx) (lo := lo) (hi := hi) (n := n) (p := p) (by omega)
    rw [e]
    exact ⟨Nat.le_refl _, fun h => h, fun j h1 h2 => by omega, by omega⟩
  | m + 1, p, hm => by
    by_cases c : p < n ∧ lo ≤ tx p ∧ tx p ≤ hi
    · have e := ren_go c
      obtain ⟨h1, h2, h3, h4⟩ := ren_spec (tx := tx) (n := n) (lo := lo) (hi := hi) m (p + 1) (by omega)
      rw [e]
      refine ⟨by omega, fun h => h2 (by omega), fun j j1 j2 => ?_, h4⟩
      by_cases q : j = p
      · subst q; exact c
      · exact h3 j (by omega) j2
    · have e := ren_end c
      rw [e]
      exact ⟨Nat.le_refl _, fun h => h, fun j h1 h2 => by omega, c⟩
def sk (tx : Nat → Nat) (n p : Nat) : Nat := ren tx n 32 32 p
/-- the text is there -/
def z_Tx (fi : Nat → Nat → Int32) (tx : Nat → Nat) (n : Nat) : Prop := n ≤ 200 ∧ fi 84 12 = nI n ∧ ∀ i, i < n → tx i < 256 ∧ fi 85 i = nI (tx i)
def sp_eq (tx ch : Nat → Nat) (p : Nat) : Nat → Nat → Bool
  | 0, _ => true
  | m + 1, i => if tx (p + i) = ch i then sp_eq tx ch p m (i + 1) else false
def wlen (a : Nat) : Nat := if a < 10 then 4 else 6
def wch (a i : Nat) : Nat := (([[99, 111, 111, 107], [100, 105, 115, 104], [115, 116, 101, 112], [107, 110, 105, 118, 101, 115], [115, 116, 114, 105, 107, 101]] : List (List Nat)).getD (a - 7) []).getD i 0
section
variable {fi : Nat → Nat → Int32} {fl : Nat → Nat → Int64} {fr : Nat → Nat → Option Nat} {Q : Option Value → Mm → Prop} {w : Nat → Nat} {k : Nat} {M : Mm} {tx : Nat → Nat} {n : Nat}
theorem sw_run {y pc : Nat} {L : Lo} {S : List Value} {M M' : Mm} {r : Option Value} (h : z_run 80 y pc L S M = some (r, M')) : TT y pc L S M Q = Q r M' := T_exact (fun Q hQ => ⟨80, _, _, h, hQ⟩) Q
theorem sw_len {a : Nat} (h7 : 7 ≤ a) (h11 : a ≤ 11) : TT 239 0 [some (.ref a)] [] (151, fi, fl, fr) Q = Q (some (.int (nI (wlen a)))) (151, fi, fl, fr) := by
  have : a = 7 ∨ a = 8 ∨ a = 9 ∨ a = 10 ∨ a = 11 := by omega
  rcases this with rfl | rfl | rfl | rfl | rfl <;> exact sw_run rfl
theorem zk_cc {y pn n pc k a : Nat} {L : Lo} {r : List Value} {M : Mm} (h : z_ok 151 a 8 = true) : TR (z_st (.checkcast k) n pc L (.ref a :: r) (151, fi, fl, fr)) y pn M Q = TT y (pc + n) L (.ref (a + 5) :: r) (151, fi, fl, fr) Q := by
  show TR (z_if (z_ok 151 a 8) _) y pn M Q = _
  rw [h]; rfl
theorem zk_io {y pn n pc k a : Nat} {L : Lo} {r : List Value} {M : Mm} (h : z_ok 151 a 8 = true) : TR (z_st (.instanceof k) n pc L (.ref a :: r) (151, fi, fl, fr)) y pn M Q = TT y (pc + n) L (.int (nI 0) :: r) (151, fi, fl, fr) Q := by
  show TR (z_if (z_ok 151 a 8) _) y pn M Q = _
  rw [h]; rfl
theorem zk_al {y pn n pc a m : Nat} {L : Lo} {r : List Value} {M : Mm} (h : z_ok 151 a 7 = true) (hm : z_al a = m) : TR (z_st .arraylength n pc L (.ref a :: r) (151, fi, fl, fr)) y pn M Q = TT y (pc + n) L (.int (nI m) :: r) (151, fi, fl, fr) Q := by
  have k := z_ok_kd h
  have e : z_len (151, fi, fl, fr) a = m := by rw [← hm]; exact z_ok_len (M := (151, fi, fl, fr)) h (by decide)
  show TR (z_if (Nat.blt a 151 && (Nat.ble 1 (z_kd a) && Nat.ble (z_kd a) 9 && !Nat.beq (z_kd a) 8)) (z_go (pc + n) L (.int (Int32.ofNat (z_len (151, fi, fl, fr) a)) :: r) (151, fi, fl, fr))) y pn M Q = _
  rw [e, k.2, show Nat.blt a 151 = true by rw [Nat.blt_eq]; exact k.1]
  rfl
theorem zk_bl {y pn n pc a i : Nat} {L : Lo} {r : List Value} {M : Mm} {c : Int32} (h : z_ok 151 a 7 = true) (hi : i < z_al a) (hc : (z_xfL.getD a []).getD i 0 = c) : TR (z_st .baload n pc L (.int (nI i) :: .ref a :: r) (151, fi, fl, fr)) y pn M Q = TT y (pc + n) L (.int c :: r) (151, fi, fl, fr) Q := by
  have e := z_inb_nI hi (z_al_small a)
  have k := z_ok_kd h
  rw [← z_ok_len (M := (151, fi, fl, fr)) h (by decide)] at e
  have a1 : z_ia (151, fi, fl, fr) a (nI i).toNatClampNeg = c := by
    unfold z_ia
    rw [k.2, ← hc]
    have sm := z_al_small a
    rw [nI_clamp (by omega)]
    rfl
  show TR (z_if ((z_ok 151 a 2 || z_ok 151 a 7) && z_inb (nI i) (z_len (151, fi, fl, fr) a)) (z_go (pc + n) L (.int (z_ia (151, fi, fl, fr) a (nI i).toNatClampNeg) :: r) (151, fi, fl, fr))) y pn M Q = _
  rw [h, e, a1, Bool.or_true]
  rfl
theorem zk_rc {y pn n pc c : Nat} {L : Lo} {M : Mm} (h : c < 65536) : TR (z_st (.ret 2) n pc L [.int (nI c)] M) y pn M Q = Q (some (.int (nI c))) M := by
  show TR (z_if (z_nar 2 (nI c)) _) y pn M Q = _
  rw [show z_nar 2 (nI c) = true from decide_eq_true (pk_charN h).1]
  rfl
theorem zk_ic {c : Nat} (h : c < 65536) : ((nI c).toUInt32 % 65536).toInt32 = nI c := by
  rw [pk_char, pk_tn (by omega), Nat.mod_eq_of_lt h]
theorem sw_ch {a i : Nat} (h7 : 7 ≤ a) (h11 : a ≤ 11) (hi : i < wlen a) : TT 240 0 [some (.ref a), some (.int (nI i))] [] (151, fi, fl, fr) Q = Q (some (.int (nI (wch a i)))) (151, fi, fl, fr) := by
  refine T_exact (fun Q hQ => ?_) Q
  have ha : a = 7 ∨ a = 8 ∨ a = 9 ∨ a = 10 ∨ a = 11 := by omega
  have hi' : i < 6 := Nat.lt_of_lt_of_le hi (by unfold wlen; split <;> omega)
  have oa : z_ok 151 a 8 = true := by rcases ha with rfl | rfl | rfl | rfl | rfl <;> rfl
  have ob : z_ok 151 (a + 5) 7 = true := by rcases ha with rfl | rfl | rfl | rfl | rfl <;> rfl
  have lb : z_al (a + 5) = wlen a := by rcases ha with rfl | rfl | rfl | rfl | rfl <;> rfl
  have cb : (z_xfL.getD (a + 5) []).getD i 0 = nI (wch a i) := by
    have : ∀ a, a < 12 → 7 ≤ a → ∀ i, i < 6 → i < wlen a → (z_xfL.getD (a + 5) []).getD i 0 = nI (wch a i) := by decide +kernel
    exact this a (by omega) h7 i hi' hi
  have wc : wch a i < 256 := by
    have : ∀ a, a < 12 → ∀ i, i < 6 → wch a i < 256 := by decide +kernel
    exact this a (by omega) i hi'
  have e255 : wch a i &&& 255 = wch a i := by rw [show 255 = 2 ^ 8 - 1 from rfl, Nat.and_two_pow_sub_one_eq_mod, Nat.mod_eq_of_lt wc]
  have w6 : wlen a ≤ 6 := by unfold wlen; split <;> omega
  generalize wlen a = wl at *
  generalize wch a i = cc at *
  simp (disch := first | assumption | rfl | exact zle_0 | exact zle_1 | exact zle_2 | exact zle_3 | exact zle_4 | exact zb_0 | exact zb_1 | exact zb01_B | omega) only [zT240_0, zr_aload_0, zT240_1, zr_iv_242, zT240_4, zr_if_eq, zT240_7, zT240_8, zT240_11, zr_iload_1, zT240_12, zr_iv_244, zT240_15, zT240_16, zT240_17, zT240_20, zT240_24, zT242_0, zr_ic_1, zT242_3, zT242_6, zT242_7, zT242_10, zr_if_ne, zT242_13, zT242_14, zr_goto, zT242_17, zr_ic_0, zT242_18, zr_ret1_0, zr_ret1_1, zr_ret1_B, zT244_0, zT244_1, zT244_2, zr_alen, zT244_3, zr_iv_243, zT244_6, zT244_7, zT244_8, zr_bald, zT244_9, zr_ic_255, zT244_12, zr_iand, zT244_13, zr_i2c, zT244_14, zT243_0, zr_iload_0, zT243_1, zT243_2, zr_ldc, zT243_5, zr_iv_245, zT243_8, zr_pop, zT243_9, zr_return, zT245_0, zT245_1, zr_if_lt, zT245_4, zT245_5, zT245_6, zr_icmp_lt, zT245_9, zr_aload_2, zT245_10, zT245_11, zT245_16, zT245_17, zr_ret0, zcl_i, zcl_r, zcl_l, zcl_n, zv_some, zv_none, Nat.reduceAdd, Nat.reduceMul, Nat.reduceSub, Nat.reduceLT, Nat.reduceLeDiff, Nat.reduceEqDiff, Int.reduceToNat, true_implies, false_implies, implies_true, and_true, true_and, not_true_eq_false, not_false_eq_true, Nat.zero_add, Nat.add_zero, nI_add, nI_ltI, nI_leI, nI_eq, pk_mul, pk_sub, u2_same, u2_row, u2_other, zk_cc, zk_io, zk_al ob lb, zk_bl ob (by omega) cb, b_and, e255, zk_ic, zk_rc, zr_i2c, zr_pop, olt_T, olt_F, ole_T, ole_F, oeq_T, oeq_F]
  exact hQ
theorem sp_byteAt (hf : z_FR fr) (h : z_Tx fi tx n) {i : Nat} (hi : i < n) : TT 135 0 [some (.ref 84), some (.int (nI i))] [] (151, fi, fl, fr) Q = Q (some (.int (nI (tx i)))) (151, fi, fl, fr) := by
  refine T_exact (fun Q hQ => ?_) Q
  have o84 : z_ok 151 84 11 = true := rfl; have o85 : z_ok 151 85 1 = true := rfl
  have l85 : z_al 85 = 200 := rfl
  obtain ⟨h1, h2, h3⟩ := h
  have t := (h3 i hi).2
  simp (disch := first | assumption | rfl | exact zle_0 | exact zle_1 | exact zle_2 | exact zle_3 | exact zle_4 | exact zb_0 | exact zb_1 | exact zb01_B | omega) only [zT135_0, zr_iload_1, zT135_1, zr_if_lt, zT135_4, zT135_5, zr_aload_0, zT135_6, zr_gf_12, zT135_9, zr_icmp_ge, zT135_12, zT135_13, zr_ic_200, zT135_16, zT135_19, zT135_20, zr_gf_11, zr_or, zr_go, zf_84_11, zT135_23, zT135_24, zr_iald, zT135_25, zr_goto, zT135_28, zr_ic_m1, zT135_29, zr_ret0, zcl_i, zcl_r, zcl_l, zcl_n, zv_some, zv_none, Nat.reduceAdd, Nat.reduceMul, Nat.reduceSub, Nat.reduceLT, Nat.reduceLeDiff, Nat.reduceEqDiff, Int.reduceToNat, true_implies, false_implies, implies_true, and_true, true_and, not_true_eq_false, not_false_eq_true, Nat.zero_add, Nat.add_zero, nI_add, nI_ltI, nI_leI, nI_eq, pk_mul, pk_sub, u2_same, u2_row, u2_other, h2, t, olt_T, olt_F, ole_T, ole_F, oeq_T, oeq_F]
  exact hQ
theorem sp_byteAt_none (hf : z_FR fr) (h : z_Tx fi tx n) {i : Nat} (hi : n ≤ i) (hi2 : i < 2 ^ 31) : TT 135 0 [some (.ref 84), some (.int (nI i))] [] (151, fi, fl, fr) Q = Q (some (.int (nM 1))) (151, fi, fl, fr) := by
  refine T_exact (fun Q hQ => ?_) Q
  have o84 : z_ok 151 84 11 = true := rfl; have o85 : z_ok 151 85 1 = true := rfl
  obtain ⟨h1, h2, h3⟩ := h
  simp (disch := first | assumption | rfl | exact zle_0 | exact zle_1 | exact zle_2 | exact zle_3 | exact zle_4 | exact zb_0 | exact zb_1 | exact zb01_B | omega) only [zT135_0, zr_iload_1, zT135_1, zr_if_lt, zT135_4, zT135_5, zr_aload_0, zT135_6, zr_gf_12, zT135_9, zr_icmp_ge, zT135_12, zT135_13, zr_ic_200, zT135_16, zT135_19, zT135_20, zr_gf_11, zr_or, zr_go, zf_84_11, zT135_23, zT135_24, zr_iald, zT135_25, zr_goto, zT135_28, zr_ic_m1, zT135_29, zr_ret0, zcl_i, zcl_r, zcl_l, zcl_n, zv_some, zv_none, Nat.reduceAdd, Nat.reduceMul, Nat.reduceSub, Nat.reduceLT, Nat.reduceLeDiff, Nat.reduceEqDiff, Int.reduceToNat, true_implies, false_implies, implies_true, and_true, true_and, not_true_eq_false, not_false_eq_true, Nat.zero_add, Nat.add_zero, nI_add, nI_ltI, nI_leI, nI_eq, pk_mul, pk_sub, u2_same, u2_row, u2_other, h2, olt_T, olt_F, ole_T, ole_F, oeq_T, oeq_F]
  exact hQ
theorem sp_re_ (hf : z_FR fr) (h : z_Tx fi tx n) {lo hi : Nat} (hlo : lo < 256) (hhi : hi < 256) : ∀ m p, n - p = m → p ≤ n → ∀ Q, TT 133 5 [some (.ref 84), some (.int (nI lo)), some (.int (nI hi)), some (.int (nI p))] [] (151, fi, fl, fr) Q = Q (some (.int (nI (ren tx n lo hi p)))) (151, fi, fl, fr) := by
  have o84 : z_ok 151 84 11 = true := rfl
  have h1 := h.1
  have h2 := h.2.1
  intro m
  induction m with
  | zero =>
    intro p hp hpn Q
    obtain rfl : p = n := by omega
    rw [ren_end (by omega)]
    simp (disch := first | assumption | rfl | exact zle_0 | exact zle_1 | exact zle_2 | exact zle_3 | exact zle_4 | exact zb_0 | exact zb_1 | exact zb01_B | omega) only [zT133_5, zr_iload_3, zT133_6, zr_aload_0, zT133_7, zr_gf_12, zT133_10, zr_icmp_ge, zT133_37, zT133_38, zr_ret0, zcl_i, zcl_r, zcl_l, zcl_n, zv_some, zv_none, Nat.reduceAdd, Nat.reduceMul, Nat.reduceSub, Nat.reduceLT, Nat.reduceLeDiff, Nat.reduceEqDiff, Int.reduceToNat, true_implies, false_implies, implies_true, and_true, true_and, not_true_eq_false, not_false_eq_true, Nat.zero_add, Nat.add_zero, nI_add, nI_ltI, nI_leI, nI_eq, pk_mul, pk_sub, u2_same, u2_row, u2_other, h2, olt_T, olt_F, ole_T, ole_F, oeq_T, oeq_F]
  | succ m ih =>
    intro p hp hpn Q
    have pn : p < n := by omega
    have b := fun Q => sp_byteAt (fl := fl) (Q := Q) hf h pn
    have t := (h.2.2 p pn).1
    have ih' := ih (p + 1) (by omega) (by omega)
    simp (disch := first | assumption | rfl | exact zle_0 | exact zle_1 | exact zle_2 | exact zle_3 | exact zle_4 | exact zb_0 | exact zb_1 | exact zb01_B | omega) only [zT133_5, zr_iload_3, zcl_i, zcl_r, zcl_l, zcl_n, zv_some, zv_none, Nat.reduceAdd, Nat.reduceMul, Nat.reduceSub, Nat.reduceLT, Nat.reduceLeDiff, Nat.reduceEqDiff, Int.reduceToNat, true_implies, false_implies, implies_true, and_true, true_and, not_true_eq_false, not_false_eq_true, Nat.zero_add, Nat.add_zero, nI_add, nI_ltI, nI_leI, nI_eq, pk_mul, pk_sub, u2_same, u2_row, u2_other]
    by_cases c1 : lo ≤ tx p
    · by_cases c2 : tx p ≤ hi
      · rw [ren_go ⟨pn, c1, c2⟩]
        simp (disch := first | assumption | rfl | exact zle_0 | exact zle_1 | exact zle_2 | exact zle_3 | exact zle_4 | exact zb_0 | exact zb_1 | exact zb01_B | omega) only [zT133_6, zr_aload_0, zT133_7, zr_gf_12, zT133_10, zr_icmp_ge, zT133_13, zT133_14, zr_iload_3, zT133_15, zr_iv_135, zT133_18, zr_iload_1, zT133_19, zr_icmp_lt, zT133_22, zT133_23, zT133_24, zT133_27, zr_iload_2, zT133_28, zr_icmp_gt, zT133_31, zr_iinc_3_1, zT133_34, zr_goto, zcl_i, zcl_r, zcl_l, zcl_n, zv_some, zv_none, Nat.reduceAdd, Nat.reduceMul, Nat.reduceSub, Nat.reduceLT, Nat.reduceLeDiff, Nat.reduceEqDiff, Int.reduceToNat, true_implies, false_implies, implies_true, and_true, true_and, not_true_eq_false, not_false_eq_true, Nat.zero_add, Nat.add_zero, nI_add, nI_ltI, nI_leI, nI_eq, pk_mul, pk_sub, u2_same, u2_row, u2_other, h2, b, ih', olt_T, olt_F, ole_T, ole_F, oeq_T, oeq_F]
      · rw [ren_end (fun q => c2 q.2.2)]
        simp (disch := first | assumption | rfl | exact zle_0 | exact zle_1 | exact zle_2 | exact zle_3 | exact zle_4 | exact zb_0 | exact zb_1 | exact zb01_B | omega) only [zT133_6, zr_aload_0, zT133_7, zr_gf_12, zT133_10, zr_icmp_ge, zT133_13, zT133_14, zr_iload_3, zT133_15, zr_iv_135, zT133_18, zr_iload_1, zT133_19, zr_icmp_lt, zT133_22, zT133_23, zT133_24, zT133_27, zr_iload_2, zT133_28, zr_icmp_gt, zT133_31, zr_iinc_3_1, zT133_34, zr_goto, zT133_37, zT133_38, zr_ret0, zcl_i, zcl_r, zcl_l, zcl_n, zv_some, zv_none, Nat.reduceAdd, Nat.reduceMul, Nat.reduceSub, Nat.reduceLT, Nat.reduceLeDiff, Nat.reduceEqDiff, Int.reduceToNat, true_implies, false_implies, implies_true, and_true, true_and, not_true_eq_false, not_false_eq_true, Nat.zero_add, Nat.add_zero, nI_add, nI_ltI, nI_leI, nI_eq, pk_mul, pk_sub, u2_same, u2_row, u2_other, h2, b, olt_T, olt_F, ole_T, ole_F, oeq_T, oeq_F]
    · rw [ren_end (fun q => c1 q.2.1)]
      simp (disch := first | assumption | rfl | exact zle_0 | exact zle_1 | exact zle_2 | exact zle_3 | exact zle_4 | exact zb_0 | exact zb_1 | exact zb01_B | omega) only [zT133_6, zr_aload_0, zT133_7, zr_gf_12, zT133_10, zr_icmp_ge, zT133_13, zT133_14, zr_iload_3, zT133_15, zr_iv_135, zT133_18, zr_iload_1, zT133_19, zr_icmp_lt, zT133_22, zT133_23, zT133_24, zT133_27, zr_iload_2, zT133_28, zr_icmp_gt, zT133_31, zr_iinc_3_1, zT133_34, zr_goto, zT133_37, zT133_38, zr_ret0, zcl_i, zcl_r, zcl_l, zcl_n, zv_some, zv_none, Nat.reduceAdd, Nat.reduceMul, Nat.reduceSub, Nat.reduceLT, Nat.reduceLeDiff, Nat.reduceEqDiff, Int.reduceToNat, true_implies, false_implies, implies_true, and_true, true_and, not_true_eq_false, not_false_eq_true, Nat.zero_add, Nat.add_zero, nI_add, nI_ltI, nI_leI, nI_eq, pk_mul, pk_sub, u2_same, u2_row, u2_other, h2, b, olt_T, olt_F, ole_T, ole_F, oeq_T, oeq_F]
theorem sp_runEnd (hf : z_FR fr) (h : z_Tx fi tx n) {lo hi p : Nat} (hlo : lo < 256) (hhi : hi < 256) (hp : fi 84 13 = nI p) (hpn : p ≤ n) : TT 133 0 [some (.ref 84), some (.int (nI lo)), some (.int (nI hi)), none] [] (151, fi, fl, fr) Q = Q (some (.int (nI (ren tx n lo hi p)))) (151, fi, fl, fr) := by
  have o84 : z_ok 151 84 11 = true := rfl
  have L := sp_re_ (fl := fl) hf h hlo hhi (n - p) p rfl hpn Q
  simp (disch := first | assumption | rfl | exact zle_0 | exact zle_1 | exact zle_2 | exact zle_3 | exact zle_4 | exact zb_0 | exact zb_1 | exact zb01_B | omega) only [zT133_0, zr_aload_0, zT133_1, zr_gf_13, zT133_4, zr_istore_3, zcl_i, zcl_r, zcl_l, zcl_n, zv_some, zv_none, Nat.reduceAdd, Nat.reduceMul, Nat.reduceSub, Nat.reduceLT, Nat.reduceLeDiff, Nat.reduceEqDiff, Int.reduceToNat, true_implies, false_implies, implies_true, and_true, true_and, not_true_eq_false, not_false_eq_true, Nat.zero_add, Nat.add_zero, nI_add, nI_ltI, nI_leI, nI_eq, pk_mul, pk_sub, u2_same, u2_row, u2_other, hp]
  exact L
theorem sp_skip (hf : z_FR fr) (h : z_Tx fi tx n) {p : Nat} (hp : fi 84 13 = nI p) (hpn : p ≤ n) : TT 132 0 [some (.ref 84)] [] (151, fi, fl, fr) Q = Q none (151, u2 fi 84 13 (nI (sk tx n p)), fl, fr) := by
  refine T_exact (fun Q hQ => ?_) Q
  have o84 : z_ok 151 84 11 = true := rfl
  have r := fun Q => sp_runEnd (fl := fl) (Q := Q) hf h (show 32 < 256 by decide) (show 32 < 256 by decide) hp hpn
  unfold sk at hQ
  simp (disch := first | assumption | rfl | exact zle_0 | exact zle_1 | exact zle_2 | exact zle_3 | exact zle_4 | exact zb_0 | exact zb_1 | exact zb01_B | omega) only [zT132_0, zr_aload_0, zT132_1, zT132_2, zr_ic_32, zT132_4, zT132_6, zr_iv_133, zT132_9, zr_pf_13, zT132_12, zr_return, zcl_i, zcl_r, zcl_l, zcl_n, zv_some, zv_none, Nat.reduceAdd, Nat.reduceMul, Nat.reduceSub, Nat.reduceLT, Nat.reduceLeDiff, Nat.reduceEqDiff, Int.reduceToNat, true_implies, false_implies, implies_true, and_true, true_and, not_true_eq_false, not_false_eq_true, Nat.zero_add, Nat.add_zero, nI_add, nI_ltI, nI_leI, nI_eq, pk_mul, pk_sub, u2_same, u2_row, u2_other, r]
  exact hQ
theorem sp_is_ (hf : z_FR fr) (h : z_Tx fi tx n) {a p e : Nat} (h7 : 7 ≤ a) (h11 : a ≤ 11) (hp : fi 84 13 = nI p) (hpe : p + wlen a ≤ n) : ∀ m i, i + m = wlen a → ∀ Q, TT 134 17 [some (.ref 84), some (.ref a), some (.int (nI e)), some (.int (nI i))] [] (151, fi, fl, fr) Q = Q (some (.int (zB (sp_eq tx (wch a) p m i)))) (151, fi, fl, fr) := by
  have o84 : z_ok 151 84 11 = true := rfl; have o7 : z_ok 151 7 8 = true := rfl; have o8 : z_ok 151 8 8 = true := rfl; have o9 : z_ok 151 9 8 = true := rfl; have o10 : z_ok 151 10 8 = true := rfl; have o11 : z_ok 151 11 8 = true := rfl
  have oa : z_ok 151 a 8 = true := by
    have : a = 7 ∨ a = 8 ∨ a = 9 ∨ a = 10 ∨ a = 11 := by omega
    rcases this with rfl | rfl | rfl | rfl | rfl <;> rfl
  have h200 := h.1
  have wl : wlen a ≤ 6 := by unfold wlen; split <;> omega
  have zt : zB true = nI 1 := rfl
  have zf : zB false = nI 0 := rfl
  have len := fun Q => sw_len (fi := fi) (fl := fl) (fr := fr) (Q := Q) h7 h11
  have wc : ∀ i, i < wlen a → wch a i < 256 := by
    intro i hi
    have : ∀ a, a < 12 → ∀ i, i < 6 → wch a i < 256 := by decide +kernel
    exact this a (by omega) i (by omega)
  intro m
  induction m with
  | zero =>
    intro i hi Q
    obtain rfl : i = wlen a := by omega
    simp (disch := first | assumption | rfl | exact zle_0 | exact zle_1 | exact zle_2 | exact zle_3 | exact zle_4 | exact zb_0 | exact zb_1 | exact zb01_B | omega) only [zT134_17, zr_iload_3, zT134_18, zr_aload_1, zT134_19, zr_iv_239, zT134_22, zr_icmp_ge, zT134_51, zr_ic_1, zT134_52, zr_ret1_0, zr_ret1_1, zr_ret1_B, zcl_i, zcl_r, zcl_l, zcl_n, zv_some, zv_none, Nat.reduceAdd, Nat.reduceMul, Nat.reduceSub, Nat.reduceLT, Nat.reduceLeDiff, Nat.reduceEqDiff, Int.reduceToNat, true_implies, false_implies, implies_true, and_true, true_and, not_true_eq_false, not_false_eq_true, Nat.zero_add, Nat.add_zero, nI_add, nI_ltI, nI_leI, nI_eq, pk_mul, pk_sub, u2_same, u2_row, u2_other, len, olt_T, olt_F, ole_T, ole_F, oeq_T, oeq_F]
    rfl
  | succ m ih =>
    intro i hi Q
    have ch := fun Q => sw_ch (fi := fi) (fl := fl) (fr := fr) (Q := Q) h7 h11 (show i < wlen a by omega)
    have b := fun Q => sp_byteAt (fl := fl) (Q := Q) hf h (show p + i < n by omega)
    have ih' := ih (i + 1) (by omega)
    have t := (h.2.2 (p + i) (by omega)).1
    have wi := wc i (by omega)
    unfold sp_eq
    generalize wlen a = wl at *
    generalize wch a i = cc at *
    simp (disch := first | assumption | rfl | exact zle_0 | exact zle_1 | exact zle_2 | exact zle_3 | exact zle_4 | exact zb_0 | exact zb_1 | exact zb01_B | omega) only [zT134_17, zr_iload_3, zcl_i, zcl_r, zcl_l, zcl_n, zv_some, zv_none, Nat.reduceAdd, Nat.reduceMul, Nat.reduceSub, Nat.reduceLT, Nat.reduceLeDiff, Nat.reduceEqDiff, Int.reduceToNat, true_implies, false_implies, implies_true, and_true, true_and, not_true_eq_false, not_false_eq_true, Nat.zero_add, Nat.add_zero, nI_add, nI_ltI, nI_leI, nI_eq, pk_mul, pk_sub, u2_same, u2_row, u2_other]
    by_cases c : tx (p + i) = cc
    · rw [if_pos c]
      simp (disch := first | assumption | rfl | exact zle_0 | exact zle_1 | exact zle_2 | exact zle_3 | exact zle_4 | exact zb_0 | exact zb_1 | exact zb01_B | omega) only [zT134_18, zr_aload_1, zT134_19, zr_iv_239, zT134_22, zr_icmp_ge, zT134_25, zr_aload_0, zT134_26, zT134_27, zr_gf_13, zT134_30, zr_iload_3, zT134_31, zr_iadd, zT134_32, zr_iv_135, zT134_35, zT134_36, zT134_37, zr_iv_240, zT134_40, zr_icmp_eq, zT134_43, zr_ic_0, zT134_44, zr_ret1_0, zr_ret1_1, zr_ret1_B, zT134_45, zr_iinc_3_1, zT134_48, zr_goto, zcl_i, zcl_r, zcl_l, zcl_n, zv_some, zv_none, Nat.reduceAdd, Nat.reduceMul, Nat.reduceSub, Nat.reduceLT, Nat.reduceLeDiff, Nat.reduceEqDiff, Int.reduceToNat, true_implies, false_implies, implies_true, and_true, true_and, not_true_eq_false, not_false_eq_true, Nat.zero_add, Nat.add_zero, nI_add, nI_ltI, nI_leI, nI_eq, pk_mul, pk_sub, u2_same, u2_row, u2_other, len, hp, b, ch, ih', olt_T, olt_F, ole_T, ole_F, oeq_T, oeq_F]
    · rw [if_neg c]
      simp (disch := first | assumption | rfl | exact zle_0 | exact zle_1 | exact zle_2 | exact zle_3 | exact zle_4 | exact zb_0 | exact zb_1 | exact zb01_B | omega) only [zT134_18, zr_aload_1, zT134_19, zr_iv_239, zT134_22, zr_icmp_ge, zT134_25, zr_aload_0, zT134_26, zT134_27, zr_gf_13, zT134_30, zr_iload_3, zT134_31, zr_iadd, zT134_32, zr_iv_135, zT134_35, zT134_36, zT134_37, zr_iv_240, zT134_40, zr_icmp_eq, zT134_43, zr_ic_0, zT134_44, zr_ret1_0, zr_ret1_1, zr_ret1_B, zT134_45, zr_iinc_3_1, zT134_48, zr_goto, zcl_i, zcl_r, zcl_l, zcl_n, zv_some, zv_none, Nat.reduceAdd, Nat.reduceMul, Nat.reduceSub, Nat.reduceLT, Nat.reduceLeDiff, Nat.reduceEqDiff, Int.reduceToNat, true_implies, false_implies, implies_true, and_true, true_and, not_true_eq_false, not_false_eq_true, Nat.zero_add, Nat.add_zero, nI_add, nI_ltI, nI_leI, nI_eq, pk_mul, pk_sub, u2_same, u2_row, u2_other, len, hp, b, ch, olt_T, olt_F, ole_T, ole_F, oeq_T, oeq_F]
      rfl
theorem sp_isSpelt (hf : z_FR fr) (h : z_Tx fi tx n) {a p e : Nat} (h7 : 7 ≤ a) (h11 : a ≤ 11) (hp : fi 84 13 = nI p) (hpe : p ≤ e) (hen : e ≤ n) : TT 134 0 [some (.ref 84), some (.ref a), some (.int (nI e)), none] [] (151, fi, fl, fr) Q = Q (some (.int (zB (decide (e = p + wlen a) && sp_eq tx (wch a) p (wlen a) 0)))) (151, fi, fl, fr) := by
  refine T_exact (fun Q hQ => ?_) Q
  have o84 : z_ok 151 84 11 = true := rfl; have o7 : z_ok 151 7 8 = true := rfl; have o8 : z_ok 151 8 8 = true := rfl; have o9 : z_ok 151 9 8 = true := rfl; have o10 : z_ok 151 10 8 = true := rfl; have o11 : z_ok 151 11 8 = true := rfl
  have oa : z_ok 151 a 8 = true := by
    have : a = 7 ∨ a = 8 ∨ a = 9 ∨ a = 10 ∨ a = 11 := by omega
    rcases this with rfl | rfl | rfl | rfl | rfl <;> rfl
  have h200 := h.1
  have wl : wlen a ≤ 6 := by unfold wlen; split <;> omega
  have zf : zB false = nI 0 := rfl
  have len := fun Q => sw_len (fi := fi) (fl := fl) (fr := fr) (Q := Q) h7 h11
  by_cases c : e = p + wlen a
  · rw [decide_eq_true c, Bool.true_and] at hQ
    have L := fun Q => sp_is_ (fl := fl) (e := e) hf h h7 h11 hp (by omega) (wlen a) 0 (Nat.zero_add _) Q
    have c' : e - p = wlen a := by omega
    generalize wlen a = wl at *
    simp (disch := first | assumption | rfl | exact zle_0 | exact zle_1 | exact zle_2 | exact zle_3 | exact zle_4 | exact zb_0 | exact zb_1 | exact zb01_B | omega) only [zT134_0, zr_iload_2, zT134_1, zr_aload_0, zT134_2, zr_gf_13, zT134_5, zr_isub, zT134_6, zr_aload_1, zT134_7, zr_iv_239, zT134_10, zr_icmp_eq, zT134_13, zr_ic_0, zT134_14, zr_ret1_0, zr_ret1_1, zr_ret1_B, zT134_15, zT134_16, zr_istore_3, zcl_i, zcl_r, zcl_l, zcl_n, zv_some, zv_none, Nat.reduceAdd, Nat.reduceMul, Nat.reduceSub, Nat.reduceLT, Nat.reduceLeDiff, Nat.reduceEqDiff, Int.reduceToNat, true_implies, false_implies, implies_true, and_true, true_and, not_true_eq_false, not_false_eq_true, Nat.zero_add, Nat.add_zero, nI_add, nI_ltI, nI_leI, nI_eq, pk_mul, pk_sub, u2_same, u2_row, u2_other, hp, len, L, olt_T, olt_F, ole_T, ole_F, oeq_T, oeq_F]
    exact hQ
  · rw [decide_eq_false c, Bool.false_and] at hQ
    generalize wlen a = wl at *
    simp (disch := first | assumption | rfl | exact zle_0 | exact zle_1 | exact zle_2 | exact zle_3 | exact zle_4 | exact zb_0 | exact zb_1 | exact zb01_B | omega) only [zT134_0, zr_iload_2, zT134_1, zr_aload_0, zT134_2, zr_gf_13, zT134_5, zr_isub, zT134_6, zr_aload_1, zT134_7, zr_iv_239, zT134_10, zr_icmp_eq, zT134_13, zr_ic_0, zT134_14, zr_ret1_0, zr_ret1_1, zr_ret1_B, zcl_i, zcl_r, zcl_l, zcl_n, zv_some, zv_none, Nat.reduceAdd, Nat.reduceMul, Nat.reduceSub, Nat.reduceLT, Nat.reduceLeDiff, Nat.reduceEqDiff, Int.reduceToNat, true_implies, false_implies, implies_true, and_true, true_and, not_true_eq_false, not_false_eq_true, Nat.zero_add, Nat.add_zero, nI_add, nI_ltI, nI_leI, nI_eq, pk_mul, pk_sub, u2_same, u2_row, u2_other, hp, len, olt_T, olt_F, ole_T, ole_F, oeq_T, oeq_F]
    exact hQ
end
