/-! a minute more, a minute less -/
def k_bring (k b : Nat) (x : Int32) : Nat → Nat → (Nat → Nat → Int32) → (Nat → Nat → Int32)
  | 0, _, fi => fi
  | n + 1, i, fi => k_bring k b x n (i + 1) (if a_bit b i = true then u2 fi (k + 5 + 5 * i) 33 (fi (k + 5 + 5 * i) 33 + x) else fi)
section
variable {fi : Nat → Nat → Int32} {fl : Nat → Nat → Int64} {fr : Nat → Nat → Option Nat} {Q : Option Value → Mm → Prop} {w : Nat → Nat} {k : Nat} {M : Mm}
theorem sp_bring_ (hk : z_Kok fr k) {b D : Nat} {x : Int32} (hb : b < 2 ^ 31) (hD : D ≤ 3) : ∀ n i, i + n = D → ∀ (fi : Nat → Nat → Int32) (Q : Option Value → Mm → Prop), fi k 45 = nI D → TT 197 2 [some (.ref k), some (.int (nI b)), some (.int x), some (.int (nI i))] [] (151, fi, fl, fr) Q = Q none (151, k_bring k b x n i fi, fl, fr) := by
  intro n
  induction n with
  | zero =>
    intro i hi fi Q hr
    refine T_exact (fun Q hQ => ?_) Q
    have h1 := hk.1
    simp (disch := first | assumption | rfl | exact zle_0 | exact zle_1 | exact zle_2 | exact zle_3 | exact zle_4 | exact zb_0 | exact zb_1 | exact zb01_B | omega) only [zT197_0, zr_ic_0, zT197_1, zr_istore_3, zT197_2, zr_iload_3, zT197_3, zr_aload_0, zT197_4, zr_gf_45, zT197_7, zr_icmp_ge, zT197_10, zr_iload_1, zT197_11, zT197_12, zr_iv_119, zT197_15, zr_if_eq, zT197_18, zT197_19, zr_gf_44, zr_or, zr_go, zf_19_44, zT197_22, zT197_23, zr_aald4, zr_aald5, zT197_24, zr_dup_r, zr_dup_i, zT197_25, zr_gf_33, zT197_28, zr_iload_2, zT197_29, zr_iadd, zT197_30, zr_pf_33, zT197_33, zr_iinc_3_1, zT197_36, zr_goto, zT197_39, zr_return, zcl_i, zcl_r, zcl_l, zcl_n, zv_some, zv_none, Nat.reduceAdd, Nat.reduceMul, Nat.reduceSub, Nat.reduceLT, Nat.reduceLeDiff, Nat.reduceEqDiff, Int.reduceToNat, true_implies, false_implies, implies_true, and_true, true_and, not_true_eq_false, not_false_eq_true, Nat.zero_add, Nat.add_zero, nI_add, nI_ltI, nI_leI, nI_eq, pk_mul, pk_sub, u2_same, u2_row, u2_other, hr, olt_T, olt_F, ole_T, ole_F, oeq_T, oeq_F]
    exact hQ
  | succ n ih =>
    intro i hi fi Q hr
    refine T_exact (fun Q hQ => ?_) Q
    have hi3 : i < 3 := by omega
    have hin := fun M Q => sp_isIn (M := M) (Q := Q) (d := i) hb (by omega)
    unfold k_bring at hQ
    obtain ⟨h1, ⟨h2, h3, h4, h5⟩, ⟨l1, l2, l3, l4⟩, ⟨f1, f2, f3, f4⟩, hd'⟩ := hk
    have rd := (hd' i hi3).1
    have od := (hd' i hi3).2.1
    simp (disch := first | assumption | rfl | exact zle_0 | exact zle_1 | exact zle_2 | exact zle_3 | exact zle_4 | exact zb_0 | exact zb_1 | exact zb01_B | omega) only [zT197_2, zr_iload_3, zcl_i, zcl_r, zcl_l, zcl_n, zv_some, zv_none, Nat.reduceAdd, Nat.reduceMul, Nat.reduceSub, Nat.reduceLT, Nat.reduceLeDiff, Nat.reduceEqDiff, Int.reduceToNat, true_implies, false_implies, implies_true, and_true, true_and, not_true_eq_false, not_false_eq_true, Nat.zero_add, Nat.add_zero, nI_add, nI_ltI, nI_leI, nI_eq, pk_mul, pk_sub, u2_same, u2_row, u2_other]
    cases hx : a_bit b i
    · rw [hx, if_neg (by decide)] at hQ
      rw [hx] at hin
      simp (disch := first | assumption | rfl | exact zle_0 | exact zle_1 | exact zle_2 | exact zle_3 | exact zle_4 | exact zb_0 | exact zb_1 | exact zb01_B | omega) only [zT197_0, zr_ic_0, zT197_1, zr_istore_3, zT197_3, zr_aload_0, zT197_4, zr_gf_45, zT197_7, zr_icmp_ge, zT197_10, zr_iload_1, zT197_11, zr_iload_3, zT197_12, zr_iv_119, zT197_15, zr_if_eq, zT197_18, zT197_19, zr_gf_44, zr_or, zr_go, zf_19_44, zT197_22, zT197_23, zr_aald4, zr_aald5, zT197_24, zr_dup_r, zr_dup_i, zT197_25, zr_gf_33, zT197_28, zr_iload_2, zT197_29, zr_iadd, zT197_30, zr_pf_33, zT197_33, zr_iinc_3_1, zT197_36, zr_goto, zT197_39, zr_return, zcl_i, zcl_r, zcl_l, zcl_n, zv_some, zv_none, Nat.reduceAdd, Nat.reduceMul, Nat.reduceSub, Nat.reduceLT, Nat.reduceLeDiff, Nat.reduceEqDiff, Int.reduceToNat, true_implies, false_implies, implies_true, and_true, true_and, not_true_eq_false, not_false_eq_true, Nat.zero_add, Nat.add_zero, nI_add, nI_ltI, nI_leI, nI_eq, pk_mul, pk_sub, u2_same, u2_row, u2_other, hr, f3, rd, hin, zB_eq0, olt_T, olt_F, ole_T, ole_F, oeq_T, oeq_F]
      rw [ih (i + 1) (by omega) fi Q hr]
      exact hQ
    · rw [hx, if_pos rfl] at hQ
      rw [hx] at hin
      simp (disch := first | assumption | rfl | exact zle_0 | exact zle_1 | exact zle_2 | exact zle_3 | exact zle_4 | exact zb_0 | exact zb_1 | exact zb01_B | omega) only [zT197_0, zr_ic_0, zT197_1, zr_istore_3, zT197_3, zr_aload_0, zT197_4, zr_gf_45, zT197_7, zr_icmp_ge, zT197_10, zr_iload_1, zT197_11, zr_iload_3, zT197_12, zr_iv_119, zT197_15, zr_if_eq, zT197_18, zT197_19, zr_gf_44, zr_or, zr_go, zf_19_44, zT197_22, zT197_23, zr_aald4, zr_aald5, zT197_24, zr_dup_r, zr_dup_i, zT197_25, zr_gf_33, zT197_28, zr_iload_2, zT197_29, zr_iadd, zT197_30, zr_pf_33, zT197_33, zr_iinc_3_1, zT197_36, zr_goto, zT197_39, zr_return, zcl_i, zcl_r, zcl_l, zcl_n, zv_some, zv_none, Nat.reduceAdd, Nat.reduceMul, Nat.reduceSub, Nat.reduceLT, Nat.reduceLeDiff, Nat.reduceEqDiff, Int.reduceToNat, true_implies, false_implies, implies_true, and_true, true_and, not_true_eq_false, not_false_eq_true, Nat.zero_add, Nat.add_zero, nI_add, nI_ltI, nI_leI, nI_eq, pk_mul, pk_sub, u2_same, u2_row, u2_other, hr, f3, rd, hin, zB_eq0, reduceCtorEq, olt_T, olt_F, ole_T, ole_F, oeq_T, oeq_F]
      rw [ih (i + 1) (by omega) _ Q (by rw [u2_other (by omega)]; exact hr)]
      exact hQ
theorem sp_bring (hk : z_Kok fr k) {b D : Nat} {x : Int32} (hb : b < 2 ^ 31) (hD : D ≤ 3) (hr : fi k 45 = nI D) : TT 197 0 [some (.ref k), some (.int (nI b)), some (.int x), none] [] (151, fi, fl, fr) Q = Q none (151, k_bring k b x D 0 fi, fl, fr) := by
  refine T_exact (fun Q hQ => ?_) Q
  have h := fun Q => sp_bring_ (fl := fl) (x := x) hk hb hD D 0 (by omega) fi Q hr
  simp (disch := first | assumption | rfl | exact zle_0 | exact zle_1 | exact zle_2 | exact zle_3 | exact zle_4 | exact zb_0 | exact zb_1 | exact zb01_B | omega) only [zT197_0, zr_ic_0, zT197_1, zr_istore_3, zcl_i, zcl_r, zcl_l, zcl_n, zv_some, zv_none, Nat.reduceAdd, Nat.reduceMul, Nat.reduceSub, Nat.reduceLT, Nat.reduceLeDiff, Nat.reduceEqDiff, Int.reduceToNat, true_implies, false_implies, implies_true, and_true, true_and, not_true_eq_false, not_false_eq_true, Nat.zero_add, Nat.add_zero, nI_add, nI_ltI, nI_leI, nI_eq, pk_mul, pk_sub, u2_same, u2_row, u2_other, h]
  exact hQ
/-- what bringing on leaves as it was -/
theorem k_bring_ne {b : Nat} {x : Int32} : ∀ n i (fi : Nat → Nat → Int32), ∀ a j, (∀ d, i ≤ d → d < i + n → a ≠ k + 5 + 5 * d) ∨ j ≠ 33 → k_bring k b x n i fi a j = fi a j
  | 0, _, _, _, _, _ => rfl
  | n + 1, i, fi, a, j, h => by
    unfold k_bring
    rw [k_bring_ne n (i + 1) _ a j (by
      rcases h with h | h
      · exact Or.inl (fun d d1 d2 => h d (by omega) (by omega))
      · exact Or.inr h)]
    by_cases hb : a_bit b i = true
    · rw [if_pos hb]
      rcases h with h | h
      · exact u2_other (h i (by omega) (by omega))
      · by_cases e : a = k + 5 + 5 * i
        · subst e
          exact u2_row h
        · exact u2_other e
    · rw [if_neg hb]
theorem k_bring_at {b : Nat} {x : Int32} : ∀ n i (fi : Nat → Nat → Int32) d, i ≤ d → d < i + n → k_bring k b x n i fi (k + 5 + 5 * d) 33 = if a_bit b d = true then fi (k + 5 + 5 * d) 33 + x else fi (k + 5 + 5 * d) 33
  | 0, i, fi, d, h1, h2 => by omega
  | n + 1, i, fi, d, h1, h2 => by
    unfold k_bring
    by_cases e : d = i
    · subst e
      rw [k_bring_ne n (d + 1) _ _ _ (Or.inl (fun j j1 j2 => by omega))]
      by_cases hb : a_bit b d = true
      · rw [if_pos hb, if_pos hb, u2_same]
      · rw [if_neg hb, if_neg hb]
    · rw [k_bring_at n (i + 1) _ d (by omega) (by omega)]
      by_cases hb : a_bit b i = true
      · rw [if_pos hb, u2_other (by omega)]
      · rw [if_neg hb]
end
