/-! the fraction: powers of a share in lowest terms -/
section
variable {fi : Nat → Nat → Int32} {fl : Nat → Nat → Int64} {fr : Nat → Nat → Option Nat} {Q : Option Value → Mm → Prop} {w : Nat → Nat} {k : Nat} {M : Mm}
theorem nI_nz {c : Nat} (h0 : 0 < c) (h : c < 2 ^ 31) : ¬ nI c = 0 := by
  intro e
  have q : nI c = nI 0 := e
  have := (nI_eq h (by decide)).mp q
  omega
theorem g_le {a b c : Nat} (h : ∀ d, c < d → ¬ (a % d = 0 ∧ b % d = 0)) : Nat.gcd a b ≤ c := by
  rcases Nat.lt_or_ge c (Nat.gcd a b) with q | q
  · exact (h _ q ⟨Nat.mod_eq_zero_of_dvd (Nat.gcd_dvd_left a b), Nat.mod_eq_zero_of_dvd (Nat.gcd_dvd_right a b)⟩).elim
  · exact q
theorem sp_gcd_ {a b : Nat} (ha : a < 1000) (hb : b < 1000) (h : 0 < a ∨ 0 < b) : ∀ c, c < 1000 → (∀ d, c < d → ¬ (a % d = 0 ∧ b % d = 0)) → ∀ Q, TT 164 6 [some (.int (nI a)), some (.int (nI b)), some (.int (nI c))] [] (151, fi, fl, fr) Q = Q (some (.int (nI (Nat.gcd a b)))) (151, fi, fl, fr) := by
  have g0 : 0 < Nat.gcd a b := by
    rcases h with h | h
    · exact Nat.gcd_pos_of_pos_left _ h
    · exact Nat.gcd_pos_of_pos_right _ h
  intro c
  induction c with
  | zero =>
    intro hc hd Q
    have := g_le hd
    omega
  | succ c ih =>
    intro hc hd Q
    refine T_exact (fun Q hQ => ?_) Q
    have gl := g_le hd
    by_cases c1 : c + 1 ≤ 1
    · rw [show Nat.gcd a b = 1 by omega] at hQ
      simp (disch := first | assumption | rfl | exact zle_0 | exact zle_1 | exact zle_2 | exact zle_3 | exact zle_4 | exact zb_0 | exact zb_1 | exact zb01_B | omega) only [zT164_0, zr_iload_0, zT164_1, zr_iload_1, zT164_2, zr_fadd, zT164_5, zr_istore_2, zT164_6, zr_iload_2, zT164_7, zr_ic_1, zT164_8, zr_icmp_le, zT164_11, zT164_12, zT164_13, zr_irem, zT164_14, zr_if_ne, zT164_17, zT164_18, zT164_19, zT164_20, zT164_23, zT164_24, zr_ret0, zT164_25, zr_iinc_2_m1, zT164_28, zr_goto, zT164_31, zT164_32, zcl_i, zcl_r, zcl_l, zcl_n, zv_some, zv_none, Nat.reduceAdd, Nat.reduceMul, Nat.reduceSub, Nat.reduceLT, Nat.reduceLeDiff, Nat.reduceEqDiff, Int.reduceToNat, true_implies, false_implies, implies_true, and_true, true_and, not_true_eq_false, not_false_eq_true, Nat.zero_add, Nat.add_zero, nI_add, nI_ltI, nI_leI, nI_eq, pk_mul, pk_sub, u2_same, u2_row, u2_other, olt_T, olt_F, ole_T, ole_F, oeq_T, oeq_F]
      exact hQ
    · have nz := nI_nz (c := c + 1) (by omega) (by omega)
      have ra := pk_rem (a := a) (d := c + 1) (by omega) (by omega) (by omega)
      have rb := pk_rem (a := b) (d := c + 1) (by omega) (by omega) (by omega)
      have la := Nat.mod_lt a (show 0 < c + 1 by omega)
      have lb := Nat.mod_lt b (show 0 < c + 1 by omega)
      have ih' := fun hd Q => ih (by omega) hd Q
      simp (disch := first | assumption | rfl | exact zle_0 | exact zle_1 | exact zle_2 | exact zle_3 | exact zle_4 | exact zb_0 | exact zb_1 | exact zb01_B | omega) only [zT164_6, zr_iload_2, zcl_i, zcl_r, zcl_l, zcl_n, zv_some, zv_none, Nat.reduceAdd, Nat.reduceMul, Nat.reduceSub, Nat.reduceLT, Nat.reduceLeDiff, Nat.reduceEqDiff, Int.reduceToNat, true_implies, false_implies, implies_true, and_true, true_and, not_true_eq_false, not_false_eq_true, Nat.zero_add, Nat.add_zero, nI_add, nI_ltI, nI_leI, nI_eq, pk_mul, pk_sub, u2_same, u2_row, u2_other]
      by_cases q : a % (c + 1) = 0 ∧ b % (c + 1) = 0
      · have : c + 1 ≤ Nat.gcd a b := Nat.le_of_dvd g0 (Nat.dvd_gcd (Nat.dvd_of_mod_eq_zero q.1) (Nat.dvd_of_mod_eq_zero q.2))
        rw [show Nat.gcd a b = c + 1 by omega] at hQ
        obtain ⟨q1, q2⟩ := q
        simp (disch := first | assumption | rfl | exact zle_0 | exact zle_1 | exact zle_2 | exact zle_3 | exact zle_4 | exact zb_0 | exact zb_1 | exact zb01_B | omega) only [zT164_0, zr_iload_0, zT164_1, zr_iload_1, zT164_2, zr_fadd, zT164_5, zr_istore_2, zT164_7, zr_ic_1, zT164_8, zr_icmp_le, zT164_11, zT164_12, zr_iload_2, zT164_13, zr_irem, zT164_14, zr_if_ne, zT164_17, zT164_18, zT164_19, zT164_20, zT164_23, zT164_24, zr_ret0, zT164_25, zr_iinc_2_m1, zT164_28, zr_goto, zT164_31, zT164_32, zcl_i, zcl_r, zcl_l, zcl_n, zv_some, zv_none, Nat.reduceAdd, Nat.reduceMul, Nat.reduceSub, Nat.reduceLT, Nat.reduceLeDiff, Nat.reduceEqDiff, Int.reduceToNat, true_implies, false_implies, implies_true, and_true, true_and, not_true_eq_false, not_false_eq_true, Nat.zero_add, Nat.add_zero, nI_add, nI_ltI, nI_leI, nI_eq, pk_mul, pk_sub, u2_same, u2_row, u2_other, ra, rb, olt_T, olt_F, ole_T, ole_F, oeq_T, oeq_F]
        exact hQ
      · have hd' : ∀ d, c < d → ¬ (a % d = 0 ∧ b % d = 0) := by
          intro d hcd
          by_cases e : d = c + 1
          · subst e; exact q
          · exact hd d (by omega)
        have ih2 := fun Q => ih' hd' Q
        have e1 : c + 1 - 1 = c := by omega
        by_cases q1 : a % (c + 1) = 0
        · have q2 : b % (c + 1) ≠ 0 := fun e => q ⟨q1, e⟩
          simp (disch := first | assumption | rfl | exact zle_0 | exact zle_1 | exact zle_2 | exact zle_3 | exact zle_4 | exact zb_0 | exact zb_1 | exact zb01_B | omega) only [zT164_0, zr_iload_0, zT164_1, zr_iload_1, zT164_2, zr_fadd, zT164_5, zr_istore_2, zT164_7, zr_ic_1, zT164_8, zr_icmp_le, zT164_11, zT164_12, zr_iload_2, zT164_13, zr_irem, zT164_14, zr_if_ne, zT164_17, zT164_18, zT164_19, zT164_20, zT164_23, zT164_24, zr_ret0, zT164_25, zr_iinc_2_m1, zT164_28, zr_goto, zT164_31, zT164_32, zcl_i, zcl_r, zcl_l, zcl_n, zv_some, zv_none, Nat.reduceAdd, Nat.reduceMul, Nat.reduceSub, Nat.reduceLT, Nat.reduceLeDiff, Nat.reduceEqDiff, Int.reduceToNat, true_implies, false_implies, implies_true, and_true, true_and, not_true_eq_false, not_false_eq_true, Nat.zero_add, Nat.add_zero, nI_add, nI_ltI, nI_leI, nI_eq, pk_mul, pk_sub, u2_same, u2_row, u2_other, ra, rb, nI_addM, e1, ih2, olt_T, olt_F, ole_T, ole_F, oeq_T, oeq_F]
          exact hQ
        · simp (disch := first | assumption | rfl | exact zle_0 | exact zle_1 | exact zle_2 | exact zle_3 | exact zle_4 | exact zb_0 | exact zb_1 | exact zb01_B | omega) only [zT164_0, zr_iload_0, zT164_1, zr_iload_1, zT164_2, zr_fadd, zT164_5, zr_istore_2, zT164_7, zr_ic_1, zT164_8, zr_icmp_le, zT164_11, zT164_12, zr_iload_2, zT164_13, zr_irem, zT164_14, zr_if_ne, zT164_17, zT164_18, zT164_19, zT164_20, zT164_23, zT164_24, zr_ret0, zT164_25, zr_iinc_2_m1, zT164_28, zr_goto, zT164_31, zT164_32, zcl_i, zcl_r, zcl_l, zcl_n, zv_some, zv_none, Nat.reduceAdd, Nat.reduceMul, Nat.reduceSub, Nat.reduceLT, Nat.reduceLeDiff, Nat.reduceEqDiff, Int.reduceToNat, true_implies, false_implies, implies_true, and_true, true_and, not_true_eq_false, not_false_eq_true, Nat.zero_add, Nat.add_zero, nI_add, nI_ltI, nI_leI, nI_eq, pk_mul, pk_sub, u2_same, u2_row, u2_other, ra, rb, nI_addM, e1, ih2, olt_T, olt_F, ole_T, ole_F, oeq_T, oeq_F]
          exact hQ
theorem sp_gcd {a b : Nat} (ha : a < 1000) (hb : b < 1000) (h : 0 < a ∨ 0 < b) : TT 164 0 [some (.int (nI a)), some (.int (nI b)), none] [] (151, fi, fl, fr) Q = Q (some (.int (nI (Nat.gcd a b)))) (151, fi, fl, fr) := by
  refine T_exact (fun Q hQ => ?_) Q
  have L := fun c hc hd Q => sp_gcd_ (fi := fi) (fl := fl) (fr := fr) ha hb h c hc hd Q
  have nd : ∀ c, (a ≤ c ∧ b ≤ c) → ∀ d, c < d → ¬ (a % d = 0 ∧ b % d = 0) := by
    intro c hc d hd e
    rw [Nat.mod_eq_of_lt (show a < d by omega), Nat.mod_eq_of_lt (show b < d by omega)] at e
    omega
  by_cases q : a < b
  · have L1 := fun Q => L b hb (nd b ⟨by omega, by omega⟩) Q
    simp (disch := first | assumption | rfl | exact zle_0 | exact zle_1 | exact zle_2 | exact zle_3 | exact zle_4 | exact zb_0 | exact zb_1 | exact zb01_B | omega) only [zT164_0, zr_iload_0, zT164_1, zr_iload_1, zT164_2, zr_fadd, zT164_5, zr_istore_2, zcl_i, zcl_r, zcl_l, zcl_n, zv_some, zv_none, Nat.reduceAdd, Nat.reduceMul, Nat.reduceSub, Nat.reduceLT, Nat.reduceLeDiff, Nat.reduceEqDiff, Int.reduceToNat, true_implies, false_implies, implies_true, and_true, true_and, not_true_eq_false, not_false_eq_true, Nat.zero_add, Nat.add_zero, nI_add, nI_ltI, nI_leI, nI_eq, pk_mul, pk_sub, u2_same, u2_row, u2_other, L1, if_true, if_false, olt_T, olt_F, ole_T, ole_F, oeq_T, oeq_F]
    exact hQ
  · have L1 := fun Q => L a ha (nd a ⟨by omega, by omega⟩) Q
    simp (disch := first | assumption | rfl | exact zle_0 | exact zle_1 | exact zle_2 | exact zle_3 | exact zle_4 | exact zb_0 | exact zb_1 | exact zb01_B | omega) only [zT164_0, zr_iload_0, zT164_1, zr_iload_1, zT164_2, zr_fadd, zT164_5, zr_istore_2, zcl_i, zcl_r, zcl_l, zcl_n, zv_some, zv_none, Nat.reduceAdd, Nat.reduceMul, Nat.reduceSub, Nat.reduceLT, Nat.reduceLeDiff, Nat.reduceEqDiff, Int.reduceToNat, true_implies, false_implies, implies_true, and_true, true_and, not_true_eq_false, not_false_eq_true, Nat.zero_add, Nat.add_zero, nI_add, nI_ltI, nI_leI, nI_eq, pk_mul, pk_sub, u2_same, u2_row, u2_other, L1, if_true, if_false, olt_T, olt_F, ole_T, ole_F, oeq_T, oeq_F]
    exact hQ
theorem sp_mul' {a v f : Nat} (h1 : z_ok 151 a 17 = true) (h2 : z_ok 151 (a + 1) 1 = true) (l : z_al (a + 1) = 8) (hfr : fr a 50 = some (a + 1)) (h : z_Lv fi a v) (hf : f ≤ 200) (hv : v * f < LB ^ 8)
    (hQ : ∀ fi', z_Lv fi' a (v * f) → (∀ j, j ≠ a → j ≠ a + 1 → fi' j = fi j) → Q none (151, fi', fl, fr)) :
    TT 202 0 [some (.ref a), some (.int (nI f)), none, none, none] [] (151, fi, fl, fr) Q := by
  by_cases f0 : f = 0
  · subst f0
    exact sp_mul0 h1 h2 l hfr (fun fi' g1 g2 => hQ fi' (by rw [Nat.mul_zero]; exact g1) g2)
  · exact sp_mul h1 h2 l hfr h (by omega) hf hv hQ
theorem z_Lv.frame {fi' : Nat → Nat → Int32} {a v : Nat} (h : z_Lv fi a v) (h1 : fi' a = fi a) (h2 : fi' (a + 1) = fi (a + 1)) : z_Lv fi' a v := by
  unfold z_Lv at *
  rw [h1, h2]
  exact h
def a_pA (a b n : Nat) : Nat := (a / Nat.gcd a b) ^ n
def a_pB (a b n : Nat) : Nat := if a_pA a b n = 0 then 1 else (b / Nat.gcd a b) ^ n
theorem sp_setZero (hf : z_FR fr) (hQ : ∀ fi', z_Lv fi' 89 0 → z_Lv fi' 91 1 → (∀ j, j < 89 ∨ 92 < j → fi' j = fi j) → Q none (151, fi', fl, fr)) :
    TT 162 0 [some (.ref 88)] [] (151, fi, fl, fr) Q := by
  have o88 : z_ok 151 88 14 = true := rfl; have o89 : z_ok 151 89 17 = true := rfl; have o90 : z_ok 151 90 1 = true := rfl; have o91 : z_ok 151 91 17 = true := rfl; have o92 : z_ok 151 92 1 = true := rfl
  have l90 : z_al 90 = 8 := rfl; have l92 : z_al 92 = 8 := rfl
  have f1 := zf_89_50 hf
  have f2 := zf_91_50 hf
  simp (disch := first | assumption | rfl | exact zle_0 | exact zle_1 | exact zle_2 | exact zle_3 | exact zle_4 | exact zb_0 | exact zb_1 | exact zb01_B | omega) only [zT162_0, zr_aload_0, zT162_1, zr_gf_34, zr_or, zr_go, zf_88_34, zT162_4, zr_ic_0, zT162_5, zr_iv_200, zT162_8, zT162_9, zr_gf_35, zf_88_35, zT162_12, zr_ic_1, zT162_13, zT162_16, zr_return, zcl_i, zcl_r, zcl_l, zcl_n, zv_some, zv_none, Nat.reduceAdd, Nat.reduceMul, Nat.reduceSub, Nat.reduceLT, Nat.reduceLeDiff, Nat.reduceEqDiff, Int.reduceToNat, true_implies, false_implies, implies_true, and_true, true_and, not_true_eq_false, not_false_eq_true, Nat.zero_add, Nat.add_zero, nI_add, nI_ltI, nI_leI, nI_eq, pk_mul, pk_sub, u2_same, u2_row, u2_other, olt_T, olt_F, ole_T, ole_F, oeq_T, oeq_F]
  refine sp_set (a := 89) o89 o90 l90 f1 (by decide) (fun g1 k1 q1 => ?_)
  simp (disch := first | assumption | rfl | exact zle_0 | exact zle_1 | exact zle_2 | exact zle_3 | exact zle_4 | exact zb_0 | exact zb_1 | exact zb01_B | omega) only [zT162_0, zr_aload_0, zT162_1, zr_gf_34, zr_or, zr_go, zf_88_34, zT162_4, zr_ic_0, zT162_5, zr_iv_200, zT162_8, zT162_9, zr_gf_35, zf_88_35, zT162_12, zr_ic_1, zT162_13, zT162_16, zr_return, zcl_i, zcl_r, zcl_l, zcl_n, zv_some, zv_none, Nat.reduceAdd, Nat.reduceMul, Nat.reduceSub, Nat.reduceLT, Nat.reduceLeDiff, Nat.reduceEqDiff, Int.reduceToNat, true_implies, false_implies, implies_true, and_true, true_and, not_true_eq_false, not_false_eq_true, Nat.zero_add, Nat.add_zero, nI_add, nI_ltI, nI_leI, nI_eq, pk_mul, pk_sub, u2_same, u2_row, u2_other, olt_T, olt_F, ole_T, ole_F, oeq_T, oeq_F]
  refine sp_set (a := 91) o91 o92 l92 f2 (by decide) (fun g2 k2 q2 => ?_)
  simp (disch := first | assumption | rfl | exact zle_0 | exact zle_1 | exact zle_2 | exact zle_3 | exact zle_4 | exact zb_0 | exact zb_1 | exact zb01_B | omega) only [zT162_0, zr_aload_0, zT162_1, zr_gf_34, zr_or, zr_go, zf_88_34, zT162_4, zr_ic_0, zT162_5, zr_iv_200, zT162_8, zT162_9, zr_gf_35, zf_88_35, zT162_12, zr_ic_1, zT162_13, zT162_16, zr_return, zcl_i, zcl_r, zcl_l, zcl_n, zv_some, zv_none, Nat.reduceAdd, Nat.reduceMul, Nat.reduceSub, Nat.reduceLT, Nat.reduceLeDiff, Nat.reduceEqDiff, Int.reduceToNat, true_implies, false_implies, implies_true, and_true, true_and, not_true_eq_false, not_false_eq_true, Nat.zero_add, Nat.add_zero, nI_add, nI_ltI, nI_leI, nI_eq, pk_mul, pk_sub, u2_same, u2_row, u2_other, olt_T, olt_F, ole_T, ole_F, oeq_T, oeq_F]
  exact hQ g2 (k1.frame (q2 _ (by decide) (by decide)) (q2 _ (by decide) (by decide))) k2 (fun j hj => by rw [q2 j (by omega) (by omega), q1 j (by omega) (by omega)])
theorem sp_pow_ (hf : z_FR fr) {a b n A B g : Nat} (ga : a / g = A) (gb : b / g = B) (g0 : 0 < g) (hg : g < 1000) (ha : a ≤ 200) (hb : b ≤ 200) (hn : n < 1000) (hv : ∀ i, i ≤ n → A ^ i < LB ^ 8 ∧ B ^ i < LB ^ 8) :
    ∀ m i, i + m = n → ∀ fi : Nat → Nat → Int32, z_Lv fi 89 (A ^ i) → z_Lv fi 91 (B ^ i) →
    (∀ fi', z_Lv fi' 89 (A ^ n) → z_Lv fi' 91 (B ^ n) → (∀ j, j < 89 ∨ 92 < j → fi' j = fi j) → TT 163 70 [some (.ref 88), some (.int (nI a)), some (.int (nI b)), some (.int (nI n)), some (.int (nI g)), some (.int (nI n))] [] (151, fi', fl, fr) Q) →
    TT 163 36 [some (.ref 88), some (.int (nI a)), some (.int (nI b)), some (.int (nI n)), some (.int (nI g)), some (.int (nI i))] [] (151, fi, fl, fr) Q := by
  have o88 : z_ok 151 88 14 = true := rfl; have o89 : z_ok 151 89 17 = true := rfl; have o90 : z_ok 151 90 1 = true := rfl; have o91 : z_ok 151 91 17 = true := rfl; have o92 : z_ok 151 92 1 = true := rfl
  have l90 : z_al 90 = 8 := rfl; have l92 : z_al 92 = 8 := rfl
  have f1 := zf_89_50 hf
  have f2 := zf_91_50 hf
  have nz := nI_nz g0 (show g < 2 ^ 31 by omega)
  have da := pk_div (a := a) (d := g) (by omega) g0 (by omega)
  have db := pk_div (a := b) (d := g) (by omega) g0 (by omega)
  rw [ga] at da
  rw [gb] at db
  have hA : A ≤ 200 := by rw [← ga]; exact Nat.le_trans (Nat.div_le_self _ _) ha
  have hB : B ≤ 200 := by rw [← gb]; exact Nat.le_trans (Nat.div_le_self _ _) hb
  intro m
  induction m with
  | zero =>
    intro i hi fi h1 h2 hQ
    obtain rfl : i = n := by omega
    have := hQ fi h1 h2 (fun _ _ => rfl)
    simp (disch := first | assumption | rfl | exact zle_0 | exact zle_1 | exact zle_2 | exact zle_3 | exact zle_4 | exact zb_0 | exact zb_1 | exact zb01_B | omega) only [zT163_36, zr_iload_5, zT163_38, zr_iload_3, zT163_39, zr_icmp_ge, zcl_i, zcl_r, zcl_l, zcl_n, zv_some, zv_none, Nat.reduceAdd, Nat.reduceMul, Nat.reduceSub, Nat.reduceLT, Nat.reduceLeDiff, Nat.reduceEqDiff, Int.reduceToNat, true_implies, false_implies, implies_true, and_true, true_and, not_true_eq_false, not_false_eq_true, Nat.zero_add, Nat.add_zero, nI_add, nI_ltI, nI_leI, nI_eq, pk_mul, pk_sub, u2_same, u2_row, u2_other, olt_T, olt_F, ole_T, ole_F, oeq_T, oeq_F]
    exact this
  | succ m ih =>
    intro i hi fi h1 h2 hQ
    simp (disch := first | assumption | rfl | exact zle_0 | exact zle_1 | exact zle_2 | exact zle_3 | exact zle_4 | exact zb_0 | exact zb_1 | exact zb01_B | omega) only [zT163_36, zr_iload_5, zcl_i, zcl_r, zcl_l, zcl_n, zv_some, zv_none, Nat.reduceAdd, Nat.reduceMul, Nat.reduceSub, Nat.reduceLT, Nat.reduceLeDiff, Nat.reduceEqDiff, Int.reduceToNat, true_implies, false_implies, implies_true, and_true, true_and, not_true_eq_false, not_false_eq_true, Nat.zero_add, Nat.add_zero, nI_add, nI_ltI, nI_leI, nI_eq, pk_mul, pk_sub, u2_same, u2_row, u2_other]
    simp (disch := first | assumption | rfl | exact zle_0 | exact zle_1 | exact zle_2 | exact zle_3 | exact zle_4 | exact zb_0 | exact zb_1 | exact zb01_B | omega) only [zT163_38, zr_iload_3, zT163_39, zr_icmp_ge, zT163_42, zr_aload_0, zT163_43, zr_gf_34, zr_or, zr_go, zf_88_34, zT163_46, zr_iload_1, zT163_47, zr_iload_4, zT163_49, zr_idiv, zT163_50, zr_iv_202, zT163_53, zT163_54, zr_gf_35, zf_88_35, zT163_57, zr_iload_2, zT163_58, zT163_60, zT163_61, zcl_i, zcl_r, zcl_l, zcl_n, zv_some, zv_none, Nat.reduceAdd, Nat.reduceMul, Nat.reduceSub, Nat.reduceLT, Nat.reduceLeDiff, Nat.reduceEqDiff, Int.reduceToNat, true_implies, false_implies, implies_true, and_true, true_and, not_true_eq_false, not_false_eq_true, Nat.zero_add, Nat.add_zero, nI_add, nI_ltI, nI_leI, nI_eq, pk_mul, pk_sub, u2_same, u2_row, u2_other, da, db, olt_T, olt_F, ole_T, ole_F, oeq_T, oeq_F]
    refine sp_mul' (a := 89) o89 o90 l90 f1 h1 hA (by rw [← Nat.pow_succ]; exact (hv _ (by omega)).1) (fun fi1 k1 q1 => ?_)
    have h2' : z_Lv fi1 91 (B ^ i) := h2.frame (q1 _ (by decide) (by decide)) (q1 _ (by decide) (by decide))
    simp (disch := first | assumption | rfl | exact zle_0 | exact zle_1 | exact zle_2 | exact zle_3 | exact zle_4 | exact zb_0 | exact zb_1 | exact zb01_B | omega) only [zT163_38, zr_iload_3, zT163_39, zr_icmp_ge, zT163_42, zr_aload_0, zT163_43, zr_gf_34, zr_or, zr_go, zf_88_34, zT163_46, zr_iload_1, zT163_47, zr_iload_4, zT163_49, zr_idiv, zT163_50, zr_iv_202, zT163_53, zT163_54, zr_gf_35, zf_88_35, zT163_57, zr_iload_2, zT163_58, zT163_60, zT163_61, zcl_i, zcl_r, zcl_l, zcl_n, zv_some, zv_none, Nat.reduceAdd, Nat.reduceMul, Nat.reduceSub, Nat.reduceLT, Nat.reduceLeDiff, Nat.reduceEqDiff, Int.reduceToNat, true_implies, false_implies, implies_true, and_true, true_and, not_true_eq_false, not_false_eq_true, Nat.zero_add, Nat.add_zero, nI_add, nI_ltI, nI_leI, nI_eq, pk_mul, pk_sub, u2_same, u2_row, u2_other, da, db, olt_T, olt_F, ole_T, ole_F, oeq_T, oeq_F]
    refine sp_mul' (a := 91) o91 o92 l92 f2 h2' hB (by rw [← Nat.pow_succ]; exact (hv _ (by omega)).2) (fun fi2 k2 q2 => ?_)
    simp (disch := first | assumption | rfl | exact zle_0 | exact zle_1 | exact zle_2 | exact zle_3 | exact zle_4 | exact zb_0 | exact zb_1 | exact zb01_B | omega) only [zT163_64, zr_iinc_5_1, zT163_67, zr_goto, zcl_i, zcl_r, zcl_l, zcl_n, zv_some, zv_none, Nat.reduceAdd, Nat.reduceMul, Nat.reduceSub, Nat.reduceLT, Nat.reduceLeDiff, Nat.reduceEqDiff, Int.reduceToNat, true_implies, false_implies, implies_true, and_true, true_and, not_true_eq_false, not_false_eq_true, Nat.zero_add, Nat.add_zero, nI_add, nI_ltI, nI_leI, nI_eq, pk_mul, pk_sub, u2_same, u2_row, u2_other, olt_T, olt_F, ole_T, ole_F, oeq_T, oeq_F]
    refine ih (i + 1) (by omega) fi2 ?_ ?_ (fun fi' e1 e2 e3 => hQ fi' e1 e2 (fun j hj => by rw [e3 j hj, q2 j (by omega) (by omega), q1 j (by omega) (by omega)]))
    · rw [Nat.pow_succ]; exact k1.frame (q2 _ (by decide) (by decide)) (q2 _ (by decide) (by decide))
    · rw [Nat.pow_succ]; exact k2
theorem sp_setPower (hf : z_FR fr) {a b n : Nat} (ha : a ≤ 200) (hb : b ≤ 200) (b0 : 0 < b) (hn : n < 1000) (hv : ∀ i, i ≤ n → (a / Nat.gcd a b) ^ i < LB ^ 8 ∧ (b / Nat.gcd a b) ^ i < LB ^ 8)
    (hQ : ∀ fi', z_Lv fi' 89 (a_pA a b n) → z_Lv fi' 91 (a_pB a b n) → (∀ j, j < 89 ∨ 92 < j → fi' j = fi j) → Q none (151, fi', fl, fr)) :
    TT 163 0 [some (.ref 88), some (.int (nI a)), some (.int (nI b)), some (.int (nI n)), none, none] [] (151, fi, fl, fr) Q := by
  have o88 : z_ok 151 88 14 = true := rfl; have o89 : z_ok 151 89 17 = true := rfl; have o90 : z_ok 151 90 1 = true := rfl; have o91 : z_ok 151 91 17 = true := rfl; have o92 : z_ok 151 92 1 = true := rfl
  have l90 : z_al 90 = 8 := rfl; have l92 : z_al 92 = 8 := rfl
  have f1 := zf_89_50 hf
  have f2 := zf_91_50 hf
  have g0 : 0 < Nat.gcd a b := Nat.gcd_pos_of_pos_right _ b0
  have gl : Nat.gcd a b ≤ b := Nat.le_of_dvd b0 (Nat.gcd_dvd_right a b)
  have G := fun fi Q => sp_gcd (fi := fi) (fl := fl) (fr := fr) (Q := Q) (a := a) (b := b) (by omega) (by omega) (Or.inr b0)
  simp (disch := first | assumption | rfl | exact zle_0 | exact zle_1 | exact zle_2 | exact zle_3 | exact zle_4 | exact zb_0 | exact zb_1 | exact zb01_B | omega) only [zT163_0, zr_iload_1, zT163_1, zr_iload_2, zT163_2, zr_iv_164, zT163_5, zr_istore_4, zT163_7, zr_iload_4, zT163_9, zr_if_gt, zT163_12, zr_aload_0, zT163_13, zr_iv_162, zT163_16, zr_return, zT163_17, zT163_18, zr_gf_34, zr_or, zr_go, zf_88_34, zT163_21, zr_ic_1, zT163_22, zr_iv_200, zT163_25, zT163_26, zr_gf_35, zf_88_35, zT163_29, zT163_30, zcl_i, zcl_r, zcl_l, zcl_n, zv_some, zv_none, Nat.reduceAdd, Nat.reduceMul, Nat.reduceSub, Nat.reduceLT, Nat.reduceLeDiff, Nat.reduceEqDiff, Int.reduceToNat, true_implies, false_implies, implies_true, and_true, true_and, not_true_eq_false, not_false_eq_true, Nat.zero_add, Nat.add_zero, nI_add, nI_ltI, nI_leI, nI_eq, pk_mul, pk_sub, u2_same, u2_row, u2_other, G, olt_T, olt_F, ole_T, ole_F, oeq_T, oeq_F]
  refine sp_set (a := 89) o89 o90 l90 f1 (by decide) (fun fi1 k1 q1 => ?_)
  simp (disch := first | assumption | rfl | exact zle_0 | exact zle_1 | exact zle_2 | exact zle_3 | exact zle_4 | exact zb_0 | exact zb_1 | exact zb01_B | omega) only [zT163_25, zr_aload_0, zT163_26, zr_gf_35, zr_or, zr_go, zf_88_35, zT163_29, zr_ic_1, zT163_30, zr_iv_200, zcl_i, zcl_r, zcl_l, zcl_n, zv_some, zv_none, Nat.reduceAdd, Nat.reduceMul, Nat.reduceSub, Nat.reduceLT, Nat.reduceLeDiff, Nat.reduceEqDiff, Int.reduceToNat, true_implies, false_implies, implies_true, and_true, true_and, not_true_eq_false, not_false_eq_true, Nat.zero_add, Nat.add_zero, nI_add, nI_ltI, nI_leI, nI_eq, pk_mul, pk_sub, u2_same, u2_row, u2_other, olt_T, olt_F, ole_T, ole_F, oeq_T, oeq_F]
  refine sp_set (a := 91) o91 o92 l92 f2 (by decide) (fun fi2 k2 q2 => ?_)
  simp (disch := first | assumption | rfl | exact zle_0 | exact zle_1 | exact zle_2 | exact zle_3 | exact zle_4 | exact zb_0 | exact zb_1 | exact zb01_B | omega) only [zT163_33, zr_ic_0, zT163_34, zr_istore_5, zcl_i, zcl_r, zcl_l, zcl_n, zv_some, zv_none, Nat.reduceAdd, Nat.reduceMul, Nat.reduceSub, Nat.reduceLT, Nat.reduceLeDiff, Nat.reduceEqDiff, Int.reduceToNat, true_implies, false_implies, implies_true, and_true, true_and, not_true_eq_false, not_false_eq_true, Nat.zero_add, Nat.add_zero, nI_add, nI_ltI, nI_leI, nI_eq, pk_mul, pk_sub, u2_same, u2_row, u2_other, olt_T, olt_F, ole_T, ole_F, oeq_T, oeq_F]
  refine sp_pow_ hf rfl rfl g0 (by omega) ha hb hn hv n 0 (Nat.zero_add _) fi2 (by rw [Nat.pow_zero]; exact k1.frame (q2 _ (by decide) (by decide)) (q2 _ (by decide) (by decide))) (by rw [Nat.pow_zero]; exact k2) (fun fi3 k3 k4 q3 => ?_)
  have Z := fun Q => sp_isZero (fl := fl) (fr := fr) (Q := Q) o89 k3
  unfold a_pB a_pA at hQ
  by_cases e : (a / Nat.gcd a b) ^ n = 0
  · rw [e] at hQ
    rw [decide_eq_true e] at Z
    simp (disch := first | assumption | rfl | exact zle_0 | exact zle_1 | exact zle_2 | exact zle_3 | exact zle_4 | exact zb_0 | exact zb_1 | exact zb01_B | omega) only [zT163_70, zr_aload_0, zT163_71, zr_gf_34, zr_or, zr_go, zf_88_34, zT163_74, zr_iv_201, zT163_77, zr_if_eq, zT163_80, zT163_81, zr_iv_162, zT163_84, zr_return, zcl_i, zcl_r, zcl_l, zcl_n, zv_some, zv_none, Nat.reduceAdd, Nat.reduceMul, Nat.reduceSub, Nat.reduceLT, Nat.reduceLeDiff, Nat.reduceEqDiff, Int.reduceToNat, true_implies, false_implies, implies_true, and_true, true_and, not_true_eq_false, not_false_eq_true, Nat.zero_add, Nat.add_zero, nI_add, nI_ltI, nI_leI, nI_eq, pk_mul, pk_sub, u2_same, u2_row, u2_other, Z, zB_eq0, reduceCtorEq, olt_T, olt_F, ole_T, ole_F, oeq_T, oeq_F]
    refine sp_setZero hf (fun fi4 k5 k6 q4 => ?_)
    simp (disch := first | assumption | rfl | exact zle_0 | exact zle_1 | exact zle_2 | exact zle_3 | exact zle_4 | exact zb_0 | exact zb_1 | exact zb01_B | omega) only [zT163_84, zr_return, zcl_i, zcl_r, zcl_l, zcl_n, zv_some, zv_none, Nat.reduceAdd, Nat.reduceMul, Nat.reduceSub, Nat.reduceLT, Nat.reduceLeDiff, Nat.reduceEqDiff, Int.reduceToNat, true_implies, false_implies, implies_true, and_true, true_and, not_true_eq_false, not_false_eq_true, Nat.zero_add, Nat.add_zero, nI_add, nI_ltI, nI_leI, nI_eq, pk_mul, pk_sub, u2_same, u2_row, u2_other, olt_T, olt_F, ole_T, ole_F, oeq_T, oeq_F]
    exact hQ fi4 k5 k6 (fun j hj => by rw [q4 j hj, q3 j hj, q2 j (by omega) (by omega), q1 j (by omega) (by omega)])
  · rw [if_neg e] at hQ
    rw [decide_eq_false e] at Z
    simp (disch := first | assumption | rfl | exact zle_0 | exact zle_1 | exact zle_2 | exact zle_3 | exact zle_4 | exact zb_0 | exact zb_1 | exact zb01_B | omega) only [zT163_70, zr_aload_0, zT163_71, zr_gf_34, zr_or, zr_go, zf_88_34, zT163_74, zr_iv_201, zT163_77, zr_if_eq, zT163_80, zT163_81, zr_iv_162, zT163_84, zr_return, zcl_i, zcl_r, zcl_l, zcl_n, zv_some, zv_none, Nat.reduceAdd, Nat.reduceMul, Nat.reduceSub, Nat.reduceLT, Nat.reduceLeDiff, Nat.reduceEqDiff, Int.reduceToNat, true_implies, false_implies, implies_true, and_true, true_and, not_true_eq_false, not_false_eq_true, Nat.zero_add, Nat.add_zero, nI_add, nI_ltI, nI_leI, nI_eq, pk_mul, pk_sub, u2_same, u2_row, u2_other, Z, zB_eq0, olt_T, olt_F, ole_T, ole_F, oeq_T, oeq_F]
    exact hQ fi3 k3 k4 (fun j hj => by rw [q3 j hj, q2 j (by omega) (by omega), q1 j (by omega) (by omega)])
end
