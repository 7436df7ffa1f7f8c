/-! the least cold -/
/-- the least of some numbers, at most N -/
def lst (N : Nat) (f : Nat → Nat) (ok : Nat → Bool) : Nat → Nat → Nat
  | 0, _ => N
  | m + 1, q => if ok q then min (f q) (lst N f ok m (q + 1)) else lst N f ok m (q + 1)
theorem lst_spec {N : Nat} {f : Nat → Nat} {ok : Nat → Bool} : ∀ m q, lst N f ok m q ≤ N ∧ (∀ j, q ≤ j → j < q + m → ok j = true → lst N f ok m q ≤ f j) ∧ (lst N f ok m q = N ∨ ∃ j, q ≤ j ∧ j < q + m ∧ ok j = true ∧ lst N f ok m q = f j)
  | 0, q => ⟨Nat.le_refl _, fun j h1 h2 => by omega, Or.inl rfl⟩
  | m + 1, q => by
    obtain ⟨h1, h2, h3⟩ := lst_spec (N := N) (f := f) (ok := ok) m (q + 1)
    unfold lst
    by_cases e : ok q = true
    · rw [if_pos e]
      refine ⟨by omega, fun j j1 j2 jo => ?_, ?_⟩
      · by_cases c : j = q
        · subst c; omega
        · have := h2 j (by omega) (by omega) jo; omega
      · by_cases c : f q ≤ lst N f ok m (q + 1)
        · exact Or.inr ⟨q, Nat.le_refl _, by omega, e, by omega⟩
        · rcases h3 with h3 | ⟨j, j1, j2, j3, j4⟩
          · exact Or.inl (by omega)
          · exact Or.inr ⟨j, by omega, by omega, j3, by omega⟩
    · rw [if_neg e]
      refine ⟨h1, fun j j1 j2 jo => ?_, ?_⟩
      · by_cases c : j = q
        · subst c; exact absurd jo e
        · exact h2 j (by omega) (by omega) jo
      · rcases h3 with h3 | ⟨j, j1, j2, j3, j4⟩
        · exact Or.inl h3
        · exact Or.inr ⟨j, by omega, by omega, j3, j4⟩
theorem lst_un {N L : Nat} {f : Nat → Nat} {ok : Nat → Bool} {m q : Nat} (h1 : L ≤ N) (h2 : ∀ j, q ≤ j → j < q + m → ok j = true → L ≤ f j) (h3 : L = N ∨ ∃ j, q ≤ j ∧ j < q + m ∧ ok j = true ∧ L = f j) : L = lst N f ok m q := by
  obtain ⟨g1, g2, g3⟩ := lst_spec (N := N) (f := f) (ok := ok) m q
  rcases h3 with h3 | ⟨j, j1, j2, j3, j4⟩
  · rcases g3 with g3 | ⟨k, k1, k2, k3, k4⟩
    · omega
    · have := h2 k k1 k2 k3; omega
  · have := g2 j j1 j2 j3
    rcases g3 with g3 | ⟨k, k1, k2, k3, k4⟩
    · omega
    · have := h2 k k1 k2 k3; omega
/-- the dishes done in a state -/
def a_dn (w : Nat → Nat) (s : Nat) : Nat → Nat → Nat
  | 0, _ => 0
  | m + 1, d => (if plc s d = a_tot w d then 1 else 0) + a_dn w s m (d + 1)
theorem a_dn_le {w : Nat → Nat} {s : Nat} : ∀ m d, a_dn w s m d ≤ m
  | 0, _ => Nat.le_refl _
  | m + 1, d => by
    have := a_dn_le (w := w) (s := s) m (d + 1)
    unfold a_dn
    split <;> omega
def a_C (w : Nat → Nat) : Nat → Nat → Nat
  | 0, s => if s = a_E w then 0 else 1000000
  | L + 1, s => if a_FN w s ≤ L + 1 then a_dn w s (w 13) 0 + lst 1000000 (fun q => a_C w L (nx s q)) (a_mvN w s) 8 0 else 1000000
theorem a_C_le {w : Nat → Nat} (h13 : w 13 ≤ 3) : ∀ L s, a_C w L s ≤ 1000003
  | 0, s => by unfold a_C; split <;> omega
  | L + 1, s => by
    unfold a_C
    have := (lst_spec (N := 1000000) (f := fun q => a_C w L (nx s q)) (ok := a_mvN w s) 8 0).1
    have := a_dn_le (w := w) (s := s) (w 13) 0
    split <;> omega
theorem a_C_far {w : Nat → Nat} (hw : a_WF w) : ∀ L s, a_box w s → L < a_FN w s → a_C w L s = 1000000
  | 0, s, hb, h => by
    unfold a_C
    rw [if_neg]
    rintro rfl
    have : a_FN w (a_E w) = 0 := a_F_E (a_sys hw) hb
    omega
  | L + 1, s, hb, h => by
    unfold a_C
    rw [if_neg (by omega)]
section
variable {fi : Nat → Nat → Int32} {fl : Nat → Nat → Int64} {fr : Nat → Nat → Option Nat} {Q : Option Value → Mm → Prop} {w : Nat → Nat} {k : Nat} {M : Mm}
theorem sp_dn_ (hf : z_FR fr) (hw : a_WF w) (hr : z_KR fi 19 w) (h : z_PL fi w 3) {s : Nat} (hs : s < 4096) : ∀ m d, d + m = w 13 → ∀ acc Q, TT 227 4 [some (.ref 70), some (.int (nI s)), some (.int (nI acc)), some (.int (nI d))] [] (151, fi, fl, fr) Q = Q (some (.int (nI (acc + a_dn w s m d)))) (151, fi, fl, fr) := by
  have o19 : z_ok 151 19 16 = true := rfl; have o70 : z_ok 151 70 18 = true := rfl; have o75 : z_ok 151 75 1 = true := rfl
  have l75 : z_al 75 = 3 := rfl
  have c13 := hr.1.2.1
  have h13 := hw.2.2.1
  intro m
  induction m with
  | zero =>
    intro d hd acc Q
    obtain rfl : d = w 13 := by omega
    simp (disch := first | assumption | rfl | exact zle_0 | exact zle_1 | exact zle_2 | exact zle_3 | exact zle_4 | exact zb_0 | exact zb_1 | exact zb01_B | omega) only [zT227_4, zr_iload_3, zT227_5, zr_aload_0, zT227_6, zr_gf_52, zr_or, zr_go, zf_70_52, zT227_9, zr_gf_45, zT227_12, zr_icmp_ge, zT227_43, zr_iload_2, zT227_44, zr_ret0, zcl_i, zcl_r, zcl_l, zcl_n, zv_some, zv_none, Nat.reduceAdd, Nat.reduceMul, Nat.reduceSub, Nat.reduceLT, Nat.reduceLeDiff, Nat.reduceEqDiff, Int.reduceToNat, true_implies, false_implies, implies_true, and_true, true_and, not_true_eq_false, not_false_eq_true, Nat.zero_add, Nat.add_zero, nI_add, nI_ltI, nI_leI, nI_eq, pk_mul, pk_sub, u2_same, u2_row, u2_other, c13, olt_T, olt_F, ole_T, ole_F, oeq_T, oeq_F]
    rfl
  | succ m ih =>
    intro d hd acc Q
    have d3 : d < 3 := by omega
    have ih' := ih (d + 1) (by omega)
    have p0 := fun M Q => sp_placeIn (M := M) (Q := Q) hs d3
    have l0 := plc_lt (s := s) (d := d)
    have e0 := (h d d3).2.1
    have tl := a_tot_le (hw.2.2.2.1 d d3).1
    rw [show a_dn w s (m + 1) d = (if plc s d = a_tot w d then 1 else 0) + a_dn w s m (d + 1) from rfl, ← Nat.add_assoc]
    generalize a_dn w s m (d + 1) = x at *
    simp (disch := first | assumption | rfl | exact zle_0 | exact zle_1 | exact zle_2 | exact zle_3 | exact zle_4 | exact zb_0 | exact zb_1 | exact zb01_B | omega) only [zT227_4, zr_iload_3, zcl_i, zcl_r, zcl_l, zcl_n, zv_some, zv_none, Nat.reduceAdd, Nat.reduceMul, Nat.reduceSub, Nat.reduceLT, Nat.reduceLeDiff, Nat.reduceEqDiff, Int.reduceToNat, true_implies, false_implies, implies_true, and_true, true_and, not_true_eq_false, not_false_eq_true, Nat.zero_add, Nat.add_zero, nI_add, nI_ltI, nI_leI, nI_eq, pk_mul, pk_sub, u2_same, u2_row, u2_other]
    by_cases c : plc s d = a_tot w d
    · rw [if_pos c]
      simp (disch := first | assumption | rfl | exact zle_0 | exact zle_1 | exact zle_2 | exact zle_3 | exact zle_4 | exact zb_0 | exact zb_1 | exact zb01_B | omega) only [zT227_5, zr_aload_0, zT227_6, zr_gf_52, zr_or, zr_go, zf_70_52, zT227_9, zr_gf_45, zT227_12, zr_icmp_ge, zT227_15, zr_iload_2, zT227_16, zr_iload_1, zT227_17, zr_iload_3, zT227_18, zr_iv_214, zT227_21, zT227_22, zr_gf_58, zf_70_58, zT227_25, zT227_26, zr_iald, zT227_27, zr_icmp_ne, zT227_30, zr_ic_1, zT227_31, zr_goto, zT227_34, zr_ic_0, zT227_35, zr_iadd, zT227_36, zr_istore_2, zT227_37, zr_iinc_3_1, zT227_40, zcl_i, zcl_r, zcl_l, zcl_n, zv_some, zv_none, Nat.reduceAdd, Nat.reduceMul, Nat.reduceSub, Nat.reduceLT, Nat.reduceLeDiff, Nat.reduceEqDiff, Int.reduceToNat, true_implies, false_implies, implies_true, and_true, true_and, not_true_eq_false, not_false_eq_true, Nat.zero_add, Nat.add_zero, nI_add, nI_ltI, nI_leI, nI_eq, pk_mul, pk_sub, u2_same, u2_row, u2_other, c13, p0, e0, ih', olt_T, olt_F, ole_T, ole_F, oeq_T, oeq_F]
    · rw [if_neg c]
      simp (disch := first | assumption | rfl | exact zle_0 | exact zle_1 | exact zle_2 | exact zle_3 | exact zle_4 | exact zb_0 | exact zb_1 | exact zb01_B | omega) only [zT227_5, zr_aload_0, zT227_6, zr_gf_52, zr_or, zr_go, zf_70_52, zT227_9, zr_gf_45, zT227_12, zr_icmp_ge, zT227_15, zr_iload_2, zT227_16, zr_iload_1, zT227_17, zr_iload_3, zT227_18, zr_iv_214, zT227_21, zT227_22, zr_gf_58, zf_70_58, zT227_25, zT227_26, zr_iald, zT227_27, zr_icmp_ne, zT227_30, zr_ic_1, zT227_31, zr_goto, zT227_34, zr_ic_0, zT227_35, zr_iadd, zT227_36, zr_istore_2, zT227_37, zr_iinc_3_1, zT227_40, zcl_i, zcl_r, zcl_l, zcl_n, zv_some, zv_none, Nat.reduceAdd, Nat.reduceMul, Nat.reduceSub, Nat.reduceLT, Nat.reduceLeDiff, Nat.reduceEqDiff, Int.reduceToNat, true_implies, false_implies, implies_true, and_true, true_and, not_true_eq_false, not_false_eq_true, Nat.zero_add, Nat.add_zero, nI_add, nI_ltI, nI_leI, nI_eq, pk_mul, pk_sub, u2_same, u2_row, u2_other, c13, p0, e0, ih', olt_T, olt_F, ole_T, ole_F, oeq_T, oeq_F]
theorem sp_doneIn (hf : z_FR fr) (hw : a_WF w) (hr : z_KR fi 19 w) (h : z_PL fi w 3) {s : Nat} (hs : s < 4096) : TT 227 0 [some (.ref 70), some (.int (nI s)), none, none] [] (151, fi, fl, fr) Q = Q (some (.int (nI (a_dn w s (w 13) 0)))) (151, fi, fl, fr) := by
  have L := sp_dn_ (fl := fl) hf hw hr h hs (w 13) 0 (Nat.zero_add _) 0 Q
  rw [Nat.zero_add] at L
  simp (disch := first | assumption | rfl | exact zle_0 | exact zle_1 | exact zle_2 | exact zle_3 | exact zle_4 | exact zb_0 | exact zb_1 | exact zb01_B | omega) only [zT227_0, zr_ic_0, zT227_1, zr_istore_2, zT227_2, zT227_3, zr_istore_3, zcl_i, zcl_r, zcl_l, zcl_n, zv_some, zv_none, Nat.reduceAdd, Nat.reduceMul, Nat.reduceSub, Nat.reduceLT, Nat.reduceLeDiff, Nat.reduceEqDiff, Int.reduceToNat, true_implies, false_implies, implies_true, and_true, true_and, not_true_eq_false, not_false_eq_true, Nat.zero_add, Nat.add_zero, nI_add, nI_ltI, nI_leI, nI_eq, pk_mul, pk_sub, u2_same, u2_row, u2_other]
  exact L
theorem sp_cold0 (hf : z_FR fr) (hw : a_WF w) {nine : Nat} : ∀ m i, i + m = (a_SL w).length → ∀ (fi : Nat → Nat → Int32) (v3 v4 : Option Value), z_SV fi w (a_en w (w 54)) → (∀ j s, j < i → (a_SL w)[j]? = some s → fi 83 s = nI (a_C w 0 s)) →
    (∀ fi' v2, (∀ s ∈ a_SL w, fi' 83 s = nI (a_C w 0 s)) → (∀ j, j ≠ 83 → fi' j = fi j) → TT 226 46 [some (.ref 70), some (.int (nI nine)), v2, v3, v4] [] (151, fi', fl, fr) Q) →
    TT 226 2 [some (.ref 70), some (.int (nI nine)), some (.int (nI i)), v3, v4] [] (151, fi, fl, fr) Q := by
  have o70 : z_ok 151 70 18 = true := rfl; have o80 : z_ok 151 80 1 = true := rfl; have o83 : z_ok 151 83 1 = true := rfl
  have l80 : z_al 80 = 4096 := rfl; have l83 : z_al 83 = 4096 := rfl
  have slen := (a_SL_inc hw).len
  intro m
  induction m with
  | zero =>
    intro i hi fi v3 v4 hsv hI hQ
    obtain rfl : i = (a_SL w).length := by omega
    have c := hsv.2.1.1
    have := hQ fi (some (.int (nI (a_SL w).length))) (fun s hs => by
      obtain ⟨j, hj⟩ := List.mem_iff_getElem?.mp hs
      rcases Nat.lt_or_ge j (a_SL w).length with x | x
      · exact hI j s x hj
      · rw [List.getElem?_eq_none x] at hj; exact absurd hj (by simp)) (fun _ _ => rfl)
    simp (disch := first | assumption | rfl | exact zle_0 | exact zle_1 | exact zle_2 | exact zle_3 | exact zle_4 | exact zb_0 | exact zb_1 | exact zb01_B | omega) only [zT226_2, zr_iload_2, zT226_3, zr_aload_0, zT226_4, zr_gf_64, zT226_7, zr_icmp_ge, zcl_i, zcl_r, zcl_l, zcl_n, zv_some, zv_none, Nat.reduceAdd, Nat.reduceMul, Nat.reduceSub, Nat.reduceLT, Nat.reduceLeDiff, Nat.reduceEqDiff, Int.reduceToNat, true_implies, false_implies, implies_true, and_true, true_and, not_true_eq_false, not_false_eq_true, Nat.zero_add, Nat.add_zero, nI_add, nI_ltI, nI_leI, nI_eq, pk_mul, pk_sub, u2_same, u2_row, u2_other, c, olt_T, olt_F, ole_T, ole_F, oeq_T, oeq_F]
    exact this
  | succ m ih =>
    intro i hi fi v3 v4 hsv hI hQ
    have c := hsv.2.1.1
    obtain ⟨s, hsn⟩ : ∃ s, (a_SL w)[i]? = some s := ⟨_, List.getElem?_eq_getElem (by omega)⟩
    have smem := List.mem_of_getElem? hsn
    have s4 := ((a_SL_mem hw).mp smem).1
    have e80 := hsv.2.1.2.1 i s hsn
    have ls := fun Q => sp_lastState (fl := fl) (Q := Q) hf hw hsv.1
    have el := (a_box_E hw).1
    have back : TT 226 2 [some (.ref 70), some (.int (nI nine)), some (.int (nI (i + 1))), v3, v4] [] (151, u2 fi 83 s (nI (a_C w 0 s)), fl, fr) Q := by
      refine ih (i + 1) (by omega) _ v3 v4 (hsv.frame (by simp (disch := omega) only [u2_other]) (fun j j1 j2 => by simp (disch := omega) only [u2_ne])) (fun j t hj ht => ?_) (fun fi' v2 g1 g2 => hQ fi' v2 g1 (fun j hj => by rw [g2 j hj]; simp (disch := omega) only [u2_ne]))
      by_cases e : t = s
      · subst e; rw [u2_same]
      · rw [u2_row e]
        have : j ≠ i := by
          rintro rfl
          rw [hsn] at ht
          exact e (Option.some.inj ht).symm
        exact hI j t (by omega) ht
    unfold a_C at back
    simp (disch := first | assumption | rfl | exact zle_0 | exact zle_1 | exact zle_2 | exact zle_3 | exact zle_4 | exact zb_0 | exact zb_1 | exact zb01_B | omega) only [zT226_2, zr_iload_2, zcl_i, zcl_r, zcl_l, zcl_n, zv_some, zv_none, Nat.reduceAdd, Nat.reduceMul, Nat.reduceSub, Nat.reduceLT, Nat.reduceLeDiff, Nat.reduceEqDiff, Int.reduceToNat, true_implies, false_implies, implies_true, and_true, true_and, not_true_eq_false, not_false_eq_true, Nat.zero_add, Nat.add_zero, nI_add, nI_ltI, nI_leI, nI_eq, pk_mul, pk_sub, u2_same, u2_row, u2_other]
    by_cases ce : s = a_E w
    · rw [if_pos ce] at back
      simp (disch := first | assumption | rfl | exact zle_0 | exact zle_1 | exact zle_2 | exact zle_3 | exact zle_4 | exact zb_0 | exact zb_1 | exact zb01_B | omega) only [zT226_3, zr_aload_0, zT226_4, zr_gf_64, zT226_7, zr_icmp_ge, zT226_10, zT226_11, zr_gf_67, zr_or, zr_go, zf_70_67, zT226_14, zT226_15, zr_gf_63, zf_70_63, zT226_18, zr_iload_2, zT226_19, zr_iald, zT226_20, zT226_21, zT226_24, zT226_25, zT226_26, zT226_27, zr_iv_220, zT226_30, zr_icmp_ne, zT226_33, zr_ic_0, zT226_34, zr_goto, zT226_37, zr_ic_1000000, zT226_39, zr_iast, zT226_40, zr_iinc_2_1, zT226_43, zcl_i, zcl_r, zcl_l, zcl_n, zv_some, zv_none, Nat.reduceAdd, Nat.reduceMul, Nat.reduceSub, Nat.reduceLT, Nat.reduceLeDiff, Nat.reduceEqDiff, Int.reduceToNat, true_implies, false_implies, implies_true, and_true, true_and, not_true_eq_false, not_false_eq_true, Nat.zero_add, Nat.add_zero, nI_add, nI_ltI, nI_leI, nI_eq, pk_mul, pk_sub, u2_same, u2_row, u2_other, c, e80, ls, olt_T, olt_F, ole_T, ole_F, oeq_T, oeq_F]
      exact back
    · rw [if_neg ce] at back
      simp (disch := first | assumption | rfl | exact zle_0 | exact zle_1 | exact zle_2 | exact zle_3 | exact zle_4 | exact zb_0 | exact zb_1 | exact zb01_B | omega) only [zT226_3, zr_aload_0, zT226_4, zr_gf_64, zT226_7, zr_icmp_ge, zT226_10, zT226_11, zr_gf_67, zr_or, zr_go, zf_70_67, zT226_14, zT226_15, zr_gf_63, zf_70_63, zT226_18, zr_iload_2, zT226_19, zr_iald, zT226_20, zT226_21, zT226_24, zT226_25, zT226_26, zT226_27, zr_iv_220, zT226_30, zr_icmp_ne, zT226_33, zr_ic_0, zT226_34, zr_goto, zT226_37, zr_ic_1000000, zT226_39, zr_iast, zT226_40, zr_iinc_2_1, zT226_43, zcl_i, zcl_r, zcl_l, zcl_n, zv_some, zv_none, Nat.reduceAdd, Nat.reduceMul, Nat.reduceSub, Nat.reduceLT, Nat.reduceLeDiff, Nat.reduceEqDiff, Int.reduceToNat, true_implies, false_implies, implies_true, and_true, true_and, not_true_eq_false, not_false_eq_true, Nat.zero_add, Nat.add_zero, nI_add, nI_ltI, nI_leI, nI_eq, pk_mul, pk_sub, u2_same, u2_row, u2_other, c, e80, ls, olt_T, olt_F, ole_T, ole_F, oeq_T, oeq_F]
      exact back
theorem sp_cold1 (hf : z_FR fr) (hw : a_WF w) {nine left : Nat} (h60 : left < 60) : ∀ m i, i + m = (a_SL w).length → ∀ (fi : Nat → Nat → Int32) (v4 : Option Value), z_KR fi 19 w → z_SV fi w (a_en w (w 54)) → (∀ j s, j < i → (a_SL w)[j]? = some s → fi 83 s = nI (a_C w (left + 1) s)) → (∀ j s, i ≤ j → (a_SL w)[j]? = some s → fi 83 s = nI (a_C w left s)) →
    (∀ fi' v3 v4, (∀ s ∈ a_SL w, fi' 83 s = nI (a_C w (left + 1) s)) → (∀ j, j ≠ 83 → fi' j = fi j) → TT 226 113 [some (.ref 70), some (.int (nI nine)), some (.int (nI (left + 1))), v3, v4] [] (151, fi', fl, fr) Q) →
    TT 226 55 [some (.ref 70), some (.int (nI nine)), some (.int (nI (left + 1))), some (.int (nI i)), v4] [] (151, fi, fl, fr) Q := by
  have o70 : z_ok 151 70 18 = true := rfl; have o80 : z_ok 151 80 1 = true := rfl; have o81 : z_ok 151 81 1 = true := rfl; have o82 : z_ok 151 82 1 = true := rfl; have o83 : z_ok 151 83 1 = true := rfl
  have l80 : z_al 80 = 4096 := rfl; have l81 : z_al 81 = 4096 := rfl; have l82 : z_al 82 = 4096 := rfl; have l83 : z_al 83 = 4096 := rfl
  have slen := (a_SL_inc hw).len
  have h13 := hw.2.2.1
  intro m
  induction m with
  | zero =>
    intro i hi fi v4 hr hsv hI hI2 hQ
    obtain rfl : i = (a_SL w).length := by omega
    have c := hsv.2.1.1
    have := hQ fi (some (.int (nI (a_SL w).length))) v4 (fun s hs => by
      obtain ⟨j, hj⟩ := List.mem_iff_getElem?.mp hs
      rcases Nat.lt_or_ge j (a_SL w).length with x | x
      · exact hI j s x hj
      · rw [List.getElem?_eq_none x] at hj; exact absurd hj (by simp)) (fun _ _ => rfl)
    simp (disch := first | assumption | rfl | exact zle_0 | exact zle_1 | exact zle_2 | exact zle_3 | exact zle_4 | exact zb_0 | exact zb_1 | exact zb01_B | omega) only [zT226_55, zr_iload_3, zT226_56, zr_aload_0, zT226_57, zr_gf_64, zT226_60, zr_icmp_ge, zcl_i, zcl_r, zcl_l, zcl_n, zv_some, zv_none, Nat.reduceAdd, Nat.reduceMul, Nat.reduceSub, Nat.reduceLT, Nat.reduceLeDiff, Nat.reduceEqDiff, Int.reduceToNat, true_implies, false_implies, implies_true, and_true, true_and, not_true_eq_false, not_false_eq_true, Nat.zero_add, Nat.add_zero, nI_add, nI_ltI, nI_leI, nI_eq, pk_mul, pk_sub, u2_same, u2_row, u2_other, c, olt_T, olt_F, ole_T, ole_F, oeq_T, oeq_F]
    exact this
  | succ m ih =>
    intro i hi fi v4 hr hsv hI hI2 hQ
    have c := hsv.2.1.1
    obtain ⟨s, hsn⟩ : ∃ s, (a_SL w)[i]? = some s := ⟨_, List.getElem?_eq_getElem (by omega)⟩
    have smem := List.mem_of_getElem? hsn
    have sbox := (a_SL_mem hw).mp smem
    have s4 := sbox.1
    have e80 := hsv.2.1.2.1 i s hsn
    have e81 := hsv.2.1.2.2 s smem
    have e82 := hsv.2.2 s smem
    have gl := gF_lt hw sbox (en := a_en w (w 54))
    have fle := a_FW_le hw sbox (en := a_en w (w 54))
    have dn := fun Q => sp_doneIn (fl := fl) (Q := Q) hf hw hr hsv.1 s4
    have eFN : a_FN w s = a_FW w (a_en w (w 54)) s := rfl
    simp (disch := first | assumption | rfl | exact zle_0 | exact zle_1 | exact zle_2 | exact zle_3 | exact zle_4 | exact zb_0 | exact zb_1 | exact zb01_B | omega) only [zT226_55, zr_iload_3, zcl_i, zcl_r, zcl_l, zcl_n, zv_some, zv_none, Nat.reduceAdd, Nat.reduceMul, Nat.reduceSub, Nat.reduceLT, Nat.reduceLeDiff, Nat.reduceEqDiff, Int.reduceToNat, true_implies, false_implies, implies_true, and_true, true_and, not_true_eq_false, not_false_eq_true, Nat.zero_add, Nat.add_zero, nI_add, nI_ltI, nI_leI, nI_eq, pk_mul, pk_sub, u2_same, u2_row, u2_other]
    by_cases cf : a_FN w s ≤ left + 1
    · have g1 : gF 1000001 (a_FW w (a_en w (w 54)) s) ≤ left + 1 := by unfold gF; rw [if_neg (by omega)]; omega
      simp (disch := first | assumption | rfl | exact zle_0 | exact zle_1 | exact zle_2 | exact zle_3 | exact zle_4 | exact zb_0 | exact zb_1 | exact zb01_B | omega) only [zT226_56, zr_aload_0, zT226_57, zr_gf_64, zT226_60, zr_icmp_ge, zT226_63, zT226_64, zr_gf_63, zr_or, zr_go, zf_70_63, zT226_67, zr_iload_3, zT226_68, zr_iald, zT226_69, zr_istore_4, zT226_71, zT226_72, zr_gf_66, zf_70_66, zT226_75, zr_iload_4, zT226_77, zT226_78, zr_iload_2, zT226_79, zr_icmp_gt, zT226_82, zT226_83, zr_gf_67, zf_70_67, zT226_86, zT226_88, zT226_89, zT226_91, zr_iv_227, zT226_94, zT226_95, zT226_96, zT226_99, zT226_101, zr_ic_0, zT226_102, zr_iv_222, zcl_i, zcl_r, zcl_l, zcl_n, zv_some, zv_none, Nat.reduceAdd, Nat.reduceMul, Nat.reduceSub, Nat.reduceLT, Nat.reduceLeDiff, Nat.reduceEqDiff, Int.reduceToNat, true_implies, false_implies, implies_true, and_true, true_and, not_true_eq_false, not_false_eq_true, Nat.zero_add, Nat.add_zero, nI_add, nI_ltI, nI_leI, nI_eq, pk_mul, pk_sub, u2_same, u2_row, u2_other, c, e80, e82, dn, olt_T, olt_F, ole_T, ole_F, oeq_T, oeq_F]
      refine sp_least hf (num := fun t => a_C w left t) s4 o83 l83 e81 a_mvm_lt (Nat.zero_le _) (fun q q1 q8 qb => ?_) (fun L l1 l2 l3 => ?_)
      · have cl := a_C_le h13 left (nx s q)
        have later : ∀ t, a_box w t → s ≤ t → fi 83 t = nI (a_C w left t) := by
          intro t tb ht
          obtain ⟨j, hj⟩ := List.mem_iff_getElem?.mp ((a_SL_mem hw).mpr tb)
          refine hI2 j t ?_ hj
          rcases Nat.lt_or_ge j i with x | x
          · have := inc.idx (a_SL_inc hw) hsn hj (by omega)
            have : t = s := by omega
            subst this
            have hlt : j < (a_SL w).length := by
              rcases Nat.lt_or_ge j (a_SL w).length with y | y
              · exact y
              · rw [List.getElem?_eq_none y] at hj; exact absurd hj (by simp)
            obtain ⟨s1, s2⟩ : (∃ a b, a_SL w = a ++ t :: b ∧ a.length = i) := by
              have hil : i < (a_SL w).length := by omega
              refine ⟨(a_SL w).take i, (a_SL w).drop (i + 1), ?_, by rw [List.length_take]; omega⟩
              have e1 : (a_SL w)[i] = t := by
                have := hsn
                rw [List.getElem?_eq_getElem hil] at this
                exact Option.some.inj this
              rw [← e1, List.getElem_cons_drop hil, List.take_append_drop]
            obtain ⟨b, hab, hal⟩ := s2
            have hinc := a_SL_inc hw
            rw [hab] at hinc
            have hlt2 := hinc.split.1
            rw [hab, List.getElem?_append_left (by omega)] at hj
            have := hlt2 t (List.mem_of_getElem? hj)
            omega
          · exact x
        by_cases c0 : q = 0
        · subst c0
          have e0 : nx s 0 = s := rfl
          rw [e0]
          exact ⟨s4, later s sbox (Nat.le_refl _), by have := a_C_le h13 left s; omega⟩
        · obtain ⟨b2, -⟩ := (a_sys hw (en := a_en w (w 54))).2 s q sbox (by omega) q8 qb
          exact ⟨b2.1, later _ b2 (by unfold nx; omega), by omega⟩
      · have eL : L = lst 1000000 (fun q => a_C w left (nx s q)) (a_mvN w s) 8 0 := lst_un l1 (fun j j1 j2 jo => l2 j j1 (by omega) jo) (l3.imp id (fun ⟨j, j1, j2, j3, j4⟩ => ⟨j, j1, by omega, j3, j4⟩))
        have eC : a_C w (left + 1) s = a_dn w s (w 13) 0 + L := by
          rw [eL]
          show (if a_FN w s ≤ left + 1 then _ else _) = _
          rw [if_pos cf]
        simp (disch := first | assumption | rfl | exact zle_0 | exact zle_1 | exact zle_2 | exact zle_3 | exact zle_4 | exact zb_0 | exact zb_1 | exact zb01_B | omega) only [zT226_105, zr_iadd, zT226_106, zr_iast, zT226_107, zr_iinc_3_1, zT226_110, zr_goto, zcl_i, zcl_r, zcl_l, zcl_n, zv_some, zv_none, Nat.reduceAdd, Nat.reduceMul, Nat.reduceSub, Nat.reduceLT, Nat.reduceLeDiff, Nat.reduceEqDiff, Int.reduceToNat, true_implies, false_implies, implies_true, and_true, true_and, not_true_eq_false, not_false_eq_true, Nat.zero_add, Nat.add_zero, nI_add, nI_ltI, nI_leI, nI_eq, pk_mul, pk_sub, u2_same, u2_row, u2_other, olt_T, olt_F, ole_T, ole_F, oeq_T, oeq_F]
        rw [← eC]
        refine ih (i + 1) (by omega) _ _ (hr.fr (fun j j1 j2 => by simp (disch := omega) only [u2_ne])) (hsv.frame (by simp (disch := omega) only [u2_other]) (fun j j1 j2 => by simp (disch := omega) only [u2_ne])) (fun j t hj ht => ?_) (fun j t hj ht => ?_) (fun fi' v3 v4 g1 g2 => hQ fi' v3 v4 g1 (fun j hj => by rw [g2 j hj]; simp (disch := omega) only [u2_ne]))
        · by_cases e : t = s
          · subst e; rw [u2_same]
          · rw [u2_row e]
            have : j ≠ i := by
              rintro rfl
              rw [hsn] at ht
              exact e (Option.some.inj ht).symm
            exact hI j t (by omega) ht
        · have le := inc.idx (a_SL_inc hw) ht hsn (by omega)
          have : t ≠ s := by
            rintro rfl
            have hil : i < (a_SL w).length := by omega
            obtain ⟨a, b, hab, hal⟩ : (∃ a b, a_SL w = a ++ t :: b ∧ a.length = i) := by
              refine ⟨(a_SL w).take i, (a_SL w).drop (i + 1), ?_, by rw [List.length_take]; omega⟩
              have e1 : (a_SL w)[i] = t := by
                have := hsn
                rw [List.getElem?_eq_getElem hil] at this
                exact Option.some.inj this
              rw [← e1, List.getElem_cons_drop hil, List.take_append_drop]
            have hinc := a_SL_inc hw
            rw [hab] at hinc
            have hlt2 := hinc.split.2
            rw [hab, List.getElem?_append_right (by omega), hal, show j - i = (j - i - 1) + 1 by omega, List.getElem?_cons_succ] at ht
            have := hlt2 t (List.mem_of_getElem? ht)
            omega
          rw [u2_row this]
          exact hI2 j t (by omega) ht
    · have g1 : left + 1 < gF 1000001 (a_FW w (a_en w (w 54)) s) := by unfold gF; split <;> omega
      simp (disch := first | assumption | rfl | exact zle_0 | exact zle_1 | exact zle_2 | exact zle_3 | exact zle_4 | exact zb_0 | exact zb_1 | exact zb01_B | omega) only [zT226_56, zr_aload_0, zT226_57, zr_gf_64, zT226_60, zr_icmp_ge, zT226_63, zT226_64, zr_gf_63, zr_or, zr_go, zf_70_63, zT226_67, zr_iload_3, zT226_68, zr_iald, zT226_69, zr_istore_4, zT226_71, zT226_72, zr_gf_66, zf_70_66, zT226_75, zr_iload_4, zT226_77, zT226_78, zr_iload_2, zT226_79, zr_icmp_gt, zT226_107, zr_iinc_3_1, zT226_110, zr_goto, zcl_i, zcl_r, zcl_l, zcl_n, zv_some, zv_none, Nat.reduceAdd, Nat.reduceMul, Nat.reduceSub, Nat.reduceLT, Nat.reduceLeDiff, Nat.reduceEqDiff, Int.reduceToNat, true_implies, false_implies, implies_true, and_true, true_and, not_true_eq_false, not_false_eq_true, Nat.zero_add, Nat.add_zero, nI_add, nI_ltI, nI_leI, nI_eq, pk_mul, pk_sub, u2_same, u2_row, u2_other, c, e80, e82, olt_T, olt_F, ole_T, ole_F, oeq_T, oeq_F]
      refine ih (i + 1) (by omega) fi _ hr hsv (fun j t hj ht => ?_) (fun j t hj ht => hI2 j t (by omega) ht) hQ
      by_cases e : j = i
      · subst e
        rw [hsn] at ht
        obtain rfl := Option.some.inj ht
        rw [hI2 j s (Nat.le_refl _) hsn, a_C_far hw left s sbox (by omega), a_C_far hw (left + 1) s sbox (by omega)]
      · exact hI j t (by omega) ht
theorem sp_cold2 (hf : z_FR fr) (hw : a_WF w) {nine : Nat} (h60 : nine ≤ 60) : ∀ m left, left + m = nine → ∀ (fi : Nat → Nat → Int32) (v3 v4 : Option Value), z_KR fi 19 w → z_SV fi w (a_en w (w 54)) → (∀ s ∈ a_SL w, fi 83 s = nI (a_C w left s)) →
    (∀ fi' v2 v3 v4, (∀ s ∈ a_SL w, fi' 83 s = nI (a_C w nine s)) → (∀ j, j ≠ 83 → fi' j = fi j) → TT 226 119 [some (.ref 70), some (.int (nI nine)), v2, v3, v4] [] (151, fi', fl, fr) Q) →
    TT 226 48 [some (.ref 70), some (.int (nI nine)), some (.int (nI (left + 1))), v3, v4] [] (151, fi, fl, fr) Q := by
  intro m
  induction m with
  | zero =>
    intro left hl fi v3 v4 hr hsv hI hQ
    obtain rfl : left = nine := by omega
    have := hQ fi (some (.int (nI (left + 1)))) v3 v4 hI (fun _ _ => rfl)
    simp (disch := first | assumption | rfl | exact zle_0 | exact zle_1 | exact zle_2 | exact zle_3 | exact zle_4 | exact zb_0 | exact zb_1 | exact zb01_B | omega) only [zT226_48, zr_iload_2, zT226_49, zr_iload_1, zT226_50, zr_icmp_gt, zcl_i, zcl_r, zcl_l, zcl_n, zv_some, zv_none, Nat.reduceAdd, Nat.reduceMul, Nat.reduceSub, Nat.reduceLT, Nat.reduceLeDiff, Nat.reduceEqDiff, Int.reduceToNat, true_implies, false_implies, implies_true, and_true, true_and, not_true_eq_false, not_false_eq_true, Nat.zero_add, Nat.add_zero, nI_add, nI_ltI, nI_leI, nI_eq, pk_mul, pk_sub, u2_same, u2_row, u2_other, olt_T, olt_F, ole_T, ole_F, oeq_T, oeq_F]
    exact this
  | succ m ih =>
    intro left hl fi v3 v4 hr hsv hI hQ
    simp (disch := first | assumption | rfl | exact zle_0 | exact zle_1 | exact zle_2 | exact zle_3 | exact zle_4 | exact zb_0 | exact zb_1 | exact zb01_B | omega) only [zT226_48, zr_iload_2, zcl_i, zcl_r, zcl_l, zcl_n, zv_some, zv_none, Nat.reduceAdd, Nat.reduceMul, Nat.reduceSub, Nat.reduceLT, Nat.reduceLeDiff, Nat.reduceEqDiff, Int.reduceToNat, true_implies, false_implies, implies_true, and_true, true_and, not_true_eq_false, not_false_eq_true, Nat.zero_add, Nat.add_zero, nI_add, nI_ltI, nI_leI, nI_eq, pk_mul, pk_sub, u2_same, u2_row, u2_other]
    simp (disch := first | assumption | rfl | exact zle_0 | exact zle_1 | exact zle_2 | exact zle_3 | exact zle_4 | exact zb_0 | exact zb_1 | exact zb01_B | omega) only [zT226_49, zr_iload_1, zT226_50, zr_icmp_gt, zT226_53, zr_ic_0, zT226_54, zr_istore_3, zcl_i, zcl_r, zcl_l, zcl_n, zv_some, zv_none, Nat.reduceAdd, Nat.reduceMul, Nat.reduceSub, Nat.reduceLT, Nat.reduceLeDiff, Nat.reduceEqDiff, Int.reduceToNat, true_implies, false_implies, implies_true, and_true, true_and, not_true_eq_false, not_false_eq_true, Nat.zero_add, Nat.add_zero, nI_add, nI_ltI, nI_leI, nI_eq, pk_mul, pk_sub, u2_same, u2_row, u2_other, olt_T, olt_F, ole_T, ole_F, oeq_T, oeq_F]
    refine sp_cold1 hf hw (show left < 60 by omega) _ 0 (Nat.zero_add _) fi _ hr hsv (fun j s hj => absurd hj (Nat.not_lt_zero _)) (fun j s _ hs => hI s (List.mem_of_getElem? hs)) (fun f1 v3 v4 g1 g2 => ?_)
    simp (disch := first | assumption | rfl | exact zle_0 | exact zle_1 | exact zle_2 | exact zle_3 | exact zle_4 | exact zb_0 | exact zb_1 | exact zb01_B | omega) only [zT226_113, zr_iinc_2_1, zT226_116, zr_goto, zcl_i, zcl_r, zcl_l, zcl_n, zv_some, zv_none, Nat.reduceAdd, Nat.reduceMul, Nat.reduceSub, Nat.reduceLT, Nat.reduceLeDiff, Nat.reduceEqDiff, Int.reduceToNat, true_implies, false_implies, implies_true, and_true, true_and, not_true_eq_false, not_false_eq_true, Nat.zero_add, Nat.add_zero, nI_add, nI_ltI, nI_leI, nI_eq, pk_mul, pk_sub, u2_same, u2_row, u2_other, olt_T, olt_F, ole_T, ole_F, oeq_T, oeq_F]
    refine ih (left + 1) (by omega) f1 _ _ (hr.fr (fun j j1 j2 => g2 j (by omega))) (hsv.frame (by rw [g2 70 (by decide)]) (fun j j1 j2 => g2 j (by omega))) g1 (fun f2 v2 v3 v4 k1 k2 => hQ f2 v2 v3 v4 k1 (fun j hj => by rw [k2 j hj, g2 j hj]))
theorem sp_coldest (hf : z_FR fr) (hw : a_WF w) {nine : Nat} (h60 : nine ≤ 60) (hr : z_KR fi 19 w) (hsv : z_SV fi w (a_en w (w 54)))
    (hQ : ∀ fi', (∀ j, j ≠ 83 → fi' j = fi j) → Q (some (.int (if a_C w nine (a_S w) < 1000000 then nI (a_C w nine (a_S w)) else nM 1))) (151, fi', fl, fr)) :
    TT 226 0 [some (.ref 70), some (.int (nI nine)), none, none, none] [] (151, fi, fl, fr) Q := by
  have o70 : z_ok 151 70 18 = true := rfl; have o83 : z_ok 151 83 1 = true := rfl
  have l83 : z_al 83 = 4096 := rfl
  simp (disch := first | assumption | rfl | exact zle_0 | exact zle_1 | exact zle_2 | exact zle_3 | exact zle_4 | exact zb_0 | exact zb_1 | exact zb01_B | omega) only [zT226_0, zr_ic_0, zT226_1, zr_istore_2, zcl_i, zcl_r, zcl_l, zcl_n, zv_some, zv_none, Nat.reduceAdd, Nat.reduceMul, Nat.reduceSub, Nat.reduceLT, Nat.reduceLeDiff, Nat.reduceEqDiff, Int.reduceToNat, true_implies, false_implies, implies_true, and_true, true_and, not_true_eq_false, not_false_eq_true, Nat.zero_add, Nat.add_zero, nI_add, nI_ltI, nI_leI, nI_eq, pk_mul, pk_sub, u2_same, u2_row, u2_other, olt_T, olt_F, ole_T, ole_F, oeq_T, oeq_F]
  refine sp_cold0 hf hw _ 0 (Nat.zero_add _) fi _ _ hsv (fun j s hj => absurd hj (Nat.not_lt_zero _)) (fun f1 v2 g1 g2 => ?_)
  simp (disch := first | assumption | rfl | exact zle_0 | exact zle_1 | exact zle_2 | exact zle_3 | exact zle_4 | exact zb_0 | exact zb_1 | exact zb01_B | omega) only [zT226_46, zr_ic_1, zT226_47, zr_istore_2, zcl_i, zcl_r, zcl_l, zcl_n, zv_some, zv_none, Nat.reduceAdd, Nat.reduceMul, Nat.reduceSub, Nat.reduceLT, Nat.reduceLeDiff, Nat.reduceEqDiff, Int.reduceToNat, true_implies, false_implies, implies_true, and_true, true_and, not_true_eq_false, not_false_eq_true, Nat.zero_add, Nat.add_zero, nI_add, nI_ltI, nI_leI, nI_eq, pk_mul, pk_sub, u2_same, u2_row, u2_other, olt_T, olt_F, ole_T, ole_F, oeq_T, oeq_F]
  refine sp_cold2 hf hw h60 nine 0 (Nat.zero_add _) f1 _ _ (hr.fr (fun j j1 j2 => g2 j (by omega))) (hsv.frame (by rw [g2 70 (by decide)]) (fun j j1 j2 => g2 j (by omega))) g1 (fun f2 v2 v3 v4 k1 k2 => ?_)
  have hp2 : z_PL f2 w 3 := hsv.1.frame (fun j j1 j2 => by rw [k2 j (by omega), g2 j (by omega)])
  have fst := fun Q => sp_firstState (fl := fl) (Q := Q) hf hw hp2
  have bS := a_box_S hw
  have b4 := bS.1
  have e83 := k1 _ ((a_SL_mem hw).mpr bS)
  have cl := a_C_le hw.2.2.1 nine (a_S w)
  have hQ' := hQ f2 (fun j hj => by rw [k2 j hj, g2 j hj])
  by_cases c : a_C w nine (a_S w) < 1000000
  · rw [if_pos c] at hQ'
    simp (disch := first | assumption | rfl | exact zle_0 | exact zle_1 | exact zle_2 | exact zle_3 | exact zle_4 | exact zb_0 | exact zb_1 | exact zb01_B | omega) only [zT226_119, zr_aload_0, zT226_120, zr_gf_67, zr_or, zr_go, zf_70_67, zT226_123, zT226_124, zr_iv_219, zT226_127, zr_iald, zT226_128, zr_istore_2, zT226_129, zr_iload_2, zT226_130, zr_ic_1000000, zT226_132, zr_icmp_ge, zT226_135, zT226_136, zr_goto, zT226_139, zr_ic_m1, zT226_140, zr_ret0, zcl_i, zcl_r, zcl_l, zcl_n, zv_some, zv_none, Nat.reduceAdd, Nat.reduceMul, Nat.reduceSub, Nat.reduceLT, Nat.reduceLeDiff, Nat.reduceEqDiff, Int.reduceToNat, true_implies, false_implies, implies_true, and_true, true_and, not_true_eq_false, not_false_eq_true, Nat.zero_add, Nat.add_zero, nI_add, nI_ltI, nI_leI, nI_eq, pk_mul, pk_sub, u2_same, u2_row, u2_other, fst, e83, olt_T, olt_F, ole_T, ole_F, oeq_T, oeq_F]
    exact hQ'
  · rw [if_neg c] at hQ'
    simp (disch := first | assumption | rfl | exact zle_0 | exact zle_1 | exact zle_2 | exact zle_3 | exact zle_4 | exact zb_0 | exact zb_1 | exact zb01_B | omega) only [zT226_119, zr_aload_0, zT226_120, zr_gf_67, zr_or, zr_go, zf_70_67, zT226_123, zT226_124, zr_iv_219, zT226_127, zr_iald, zT226_128, zr_istore_2, zT226_129, zr_iload_2, zT226_130, zr_ic_1000000, zT226_132, zr_icmp_ge, zT226_135, zT226_136, zr_goto, zT226_139, zr_ic_m1, zT226_140, zr_ret0, zcl_i, zcl_r, zcl_l, zcl_n, zv_some, zv_none, Nat.reduceAdd, Nat.reduceMul, Nat.reduceSub, Nat.reduceLT, Nat.reduceLeDiff, Nat.reduceEqDiff, Int.reduceToNat, true_implies, false_implies, implies_true, and_true, true_and, not_true_eq_false, not_false_eq_true, Nat.zero_add, Nat.add_zero, nI_add, nI_ltI, nI_leI, nI_eq, pk_mul, pk_sub, u2_same, u2_row, u2_other, fst, e83, olt_T, olt_F, ole_T, ole_F, oeq_T, oeq_F]
    exact hQ'
end
