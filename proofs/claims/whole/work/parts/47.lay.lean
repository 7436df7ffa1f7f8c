/-! the planner's states are laid -/
section
variable {fi : Nat → Nat → Int32} {fl : Nat → Nat → Int64} {fr : Nat → Nat → Option Nat} {Q : Option Value → Mm → Prop} {w : Nat → Nat} {k : Nat} {M : Mm}
theorem so3 : ∀ i, i < 16 → ∀ j, j < 16 → ∀ k, k < 16 → (i ||| j * 2 ^ 4) ||| k * 2 ^ 8 = i + (16 * j + 256 * k) := by decide +kernel
theorem sp_stateOf {i j k : Nat} (hi : i < 16) (hj : j < 16) (hk : k < 16) : TT 213 0 [some (.int (nI i)), some (.int (nI j)), some (.int (nI k))] [] M Q = Q (some (.int (nI (i + (16 * j + 256 * k))))) M := by
  refine T_exact (fun Q hQ => ?_) Q
  obtain ⟨nx, fi, fl, fr⟩ := M
  have e1 : j * 2 ^ 4 < 2 ^ 32 := by omega
  have e2 : k * 2 ^ 8 < 2 ^ 32 := by omega
  rw [← so3 i hi j hj k hk] at hQ
  simp (disch := first | assumption | rfl | exact zle_0 | exact zle_1 | exact zle_2 | exact zle_3 | exact zle_4 | exact zb_0 | exact zb_1 | exact zb01_B | omega) only [zT213_0, zr_iload_0, zT213_1, zr_iload_1, zT213_2, zr_ic_4, zT213_3, zr_ishl, zT213_4, zr_ior, zT213_5, zr_iload_2, zT213_6, zr_ic_8, zT213_8, zT213_9, zT213_10, zr_ret0, zcl_i, zcl_r, zcl_l, zcl_n, zv_some, zv_none, Nat.reduceAdd, Nat.reduceMul, Nat.reduceSub, Nat.reduceLT, Nat.reduceLeDiff, Nat.reduceEqDiff, Int.reduceToNat, true_implies, false_implies, implies_true, and_true, true_and, not_true_eq_false, not_false_eq_true, Nat.zero_add, Nat.add_zero, nI_add, nI_ltI, nI_leI, nI_eq, pk_mul, pk_sub, u2_same, u2_row, u2_other, b_shl, b_or]
  exact hQ
theorem plc_lt {s d : Nat} : plc s d < 16 := Nat.mod_lt _ (by decide)
theorem sp_placeIn {s d : Nat} (hs : s < 4096) (hd : d < 3) : TT 214 0 [some (.int (nI s)), some (.int (nI d))] [] M Q = Q (some (.int (nI (plc s d)))) M := by
  refine T_exact (fun Q hQ => ?_) Q
  obtain ⟨nx, fi, fl, fr⟩ := M
  have e : s / 2 ^ (4 * d) &&& 15 = plc s d := Nat.and_two_pow_sub_one_eq_mod _ 4
  simp (disch := first | assumption | rfl | exact zle_0 | exact zle_1 | exact zle_2 | exact zle_3 | exact zle_4 | exact zb_0 | exact zb_1 | exact zb01_B | omega) only [zT214_0, zr_iload_0, zT214_1, zr_ic_4, zT214_2, zr_iload_1, zT214_3, zr_imul, zT214_4, zr_ishr, zT214_5, zr_ic_15, zT214_7, zr_iand, zT214_8, zr_ret0, zcl_i, zcl_r, zcl_l, zcl_n, zv_some, zv_none, Nat.reduceAdd, Nat.reduceMul, Nat.reduceSub, Nat.reduceLT, Nat.reduceLeDiff, Nat.reduceEqDiff, Int.reduceToNat, true_implies, false_implies, implies_true, and_true, true_and, not_true_eq_false, not_false_eq_true, Nat.zero_add, Nat.add_zero, nI_add, nI_ltI, nI_leI, nI_eq, pk_mul, pk_sub, u2_same, u2_row, u2_other, b_shr, b_and, e]
  exact hQ
theorem sp_keyOfState (hf : z_FR fr) (hw : a_WF w) (h : z_PL fi w 3) {s : Nat} (hs : s < 4096) : TT 216 0 [some (.ref 70), some (.int (nI s)), none, none] [] (151, fi, fl, fr) Q = Q (some (.int (nI (a_kst w s)))) (151, fi, fl, fr) := by
  refine T_exact (fun Q hQ => ?_) Q
  have o70 : z_ok 151 70 18 = true := rfl; have o76 : z_ok 151 76 1 = true := rfl
  have l76 : z_al 76 = 48 := rfl
  have p0 := fun M Q => sp_placeIn (M := M) (Q := Q) hs (show 0 < 3 by decide)
  have p1 := fun M Q => sp_placeIn (M := M) (Q := Q) hs (show 1 < 3 by decide)
  have p2 := fun M Q => sp_placeIn (M := M) (Q := Q) hs (show 2 < 3 by decide)
  have l0 := plc_lt (s := s) (d := 0)
  have l1 := plc_lt (s := s) (d := 1)
  have l2 := plc_lt (s := s) (d := 2)
  have a0 := a_sp_lt (hw.2.2.2.1 0 (by decide)).1 (p := plc s 0)
  have a1 := a_sp_lt (hw.2.2.2.1 1 (by decide)).1 (p := plc s 1)
  have a2 := a_sp_lt (hw.2.2.2.1 2 (by decide)).1 (p := plc s 2)
  have f0 := ((h 0 (by decide)).2.2 _ l0).1
  have f1 := ((h 1 (by decide)).2.2 _ l1).1
  have f2 := ((h 2 (by decide)).2.2 _ l2).1
  simp only [Nat.zero_mul, Nat.one_mul, Nat.zero_add, Nat.reduceMul] at f0 f1 f2
  unfold a_kst at hQ
  simp (disch := first | assumption | rfl | exact zle_0 | exact zle_1 | exact zle_2 | exact zle_3 | exact zle_4 | exact zb_0 | exact zb_1 | exact zb01_B | omega) only [zT216_0, zr_ic_0, zT216_1, zr_istore_2, zT216_2, zT216_3, zr_istore_3, zT216_4, zr_iload_3, zT216_5, zr_ic_3, zT216_6, zr_icmp_ge, zT216_9, zr_iload_2, zT216_10, zr_aload_0, zT216_11, zr_gf_59, zr_or, zr_go, zf_70_59, zT216_14, zT216_15, zr_ic_16, zT216_17, zr_imul, zT216_18, zr_iload_1, zT216_19, zT216_20, zr_iv_214, zT216_23, zr_iadd, zT216_24, zr_iald, zT216_25, zr_ic_2, zT216_26, zT216_27, zT216_28, zr_ishl, zT216_29, zr_ior, zT216_30, zT216_31, zr_iinc_3_1, zT216_34, zr_goto, zT216_37, zT216_38, zr_ret0, zcl_i, zcl_r, zcl_l, zcl_n, zv_some, zv_none, Nat.reduceAdd, Nat.reduceMul, Nat.reduceSub, Nat.reduceLT, Nat.reduceLeDiff, Nat.reduceEqDiff, Int.reduceToNat, true_implies, false_implies, implies_true, and_true, true_and, not_true_eq_false, not_false_eq_true, Nat.zero_add, Nat.add_zero, nI_add, nI_ltI, nI_leI, nI_eq, pk_mul, pk_sub, u2_same, u2_row, u2_other, p0, p1, p2, f0, f1, f2, b_shl, b_or, Nat.reducePow, Nat.mul_one, Nat.zero_or, olt_T, olt_F, ole_T, ole_F, oeq_T, oeq_F]
  exact hQ
theorem sp_bi_ (hf : z_FR fr) (h : z_PL fi w 3) {s : Nat} (hs : s < 4096) : ∀ m i, i + m = 3 → ∀ Q, TT 217 4 [some (.ref 70), some (.int (nI s)), some (.int (nI (msk (fun d => a_bg w d (plc s d)) i))), some (.int (nI i))] [] (151, fi, fl, fr) Q = Q (some (.int (nI (a_bst w s)))) (151, fi, fl, fr) := by
  have o70 : z_ok 151 70 18 = true := rfl; have o77 : z_ok 151 77 2 = true := rfl
  have l77 : z_al 77 = 48 := rfl
  intro m
  induction m with
  | zero =>
    intro i hi Q
    obtain rfl : i = 3 := by omega
    simp (disch := first | assumption | rfl | exact zle_0 | exact zle_1 | exact zle_2 | exact zle_3 | exact zle_4 | exact zb_0 | exact zb_1 | exact zb01_B | omega) only [zT217_4, zr_iload_3, zT217_5, zr_ic_3, zT217_6, zr_icmp_ge, zT217_43, zr_iload_2, zT217_44, zr_ret0, zcl_i, zcl_r, zcl_l, zcl_n, zv_some, zv_none, Nat.reduceAdd, Nat.reduceMul, Nat.reduceSub, Nat.reduceLT, Nat.reduceLeDiff, Nat.reduceEqDiff, Int.reduceToNat, true_implies, false_implies, implies_true, and_true, true_and, not_true_eq_false, not_false_eq_true, Nat.zero_add, Nat.add_zero, nI_add, nI_ltI, nI_leI, nI_eq, pk_mul, pk_sub, u2_same, u2_row, u2_other, olt_T, olt_F, ole_T, ole_F, oeq_T, oeq_F]
    rfl
  | succ m ih =>
    intro i hi Q
    have i3 : i < 3 := by omega
    have ih' := ih (i + 1) (by omega)
    have p0 := fun M Q => sp_placeIn (M := M) (Q := Q) hs i3
    have l0 := plc_lt (s := s) (d := i)
    have f0 := ((h i i3).2.2 _ l0).2
    have pw := a_pow2 i3
    rw [show msk (fun d => a_bg w d (plc s d)) (i + 1) = if a_bg w i (plc s i) = true then msk (fun d => a_bg w d (plc s d)) i ||| 2 ^ i else msk (fun d => a_bg w d (plc s d)) i from rfl] at ih'
    generalize msk (fun d => a_bg w d (plc s d)) i = acc at *
    generalize a_bst w s = res at *
    simp (disch := first | assumption | rfl | exact zle_0 | exact zle_1 | exact zle_2 | exact zle_3 | exact zle_4 | exact zb_0 | exact zb_1 | exact zb01_B | omega) only [zT217_4, zr_iload_3, zcl_i, zcl_r, zcl_l, zcl_n, zv_some, zv_none, Nat.reduceAdd, Nat.reduceMul, Nat.reduceSub, Nat.reduceLT, Nat.reduceLeDiff, Nat.reduceEqDiff, Int.reduceToNat, true_implies, false_implies, implies_true, and_true, true_and, not_true_eq_false, not_false_eq_true, Nat.zero_add, Nat.add_zero, nI_add, nI_ltI, nI_leI, nI_eq, pk_mul, pk_sub, u2_same, u2_row, u2_other]
    cases hb : a_bg w i (plc s i)
    · rw [hb, if_neg (by decide)] at ih'
      rw [hb] at f0
      simp (disch := first | assumption | rfl | exact zle_0 | exact zle_1 | exact zle_2 | exact zle_3 | exact zle_4 | exact zb_0 | exact zb_1 | exact zb01_B | omega) only [zT217_5, zr_ic_3, zT217_6, zr_icmp_ge, zT217_9, zr_iload_2, zT217_10, zr_aload_0, zT217_11, zr_gf_60, zr_or, zr_go, zf_70_60, zT217_14, zr_iload_3, zT217_15, zr_ic_16, zT217_17, zr_imul, zT217_18, zr_iload_1, zT217_19, zT217_20, zr_iv_214, zT217_23, zr_iadd, zT217_24, zr_bald, zT217_25, zr_if_eq, zT217_28, zr_ic_1, zT217_29, zT217_30, zr_ishl, zT217_31, zr_goto, zT217_34, zr_ic_0, zT217_35, zr_ior, zT217_36, zr_istore_2, zT217_37, zr_iinc_3_1, zT217_40, zcl_i, zcl_r, zcl_l, zcl_n, zv_some, zv_none, Nat.reduceAdd, Nat.reduceMul, Nat.reduceSub, Nat.reduceLT, Nat.reduceLeDiff, Nat.reduceEqDiff, Int.reduceToNat, true_implies, false_implies, implies_true, and_true, true_and, not_true_eq_false, not_false_eq_true, Nat.zero_add, Nat.add_zero, nI_add, nI_ltI, nI_leI, nI_eq, pk_mul, pk_sub, u2_same, u2_row, u2_other, p0, f0, zB_eq0, b_or, Nat.or_zero, ih', olt_T, olt_F, ole_T, ole_F, oeq_T, oeq_F]
    · rw [hb, if_pos rfl] at ih'
      rw [hb] at f0
      simp (disch := first | assumption | rfl | exact zle_0 | exact zle_1 | exact zle_2 | exact zle_3 | exact zle_4 | exact zb_0 | exact zb_1 | exact zb01_B | omega) only [zT217_5, zr_ic_3, zT217_6, zr_icmp_ge, zT217_9, zr_iload_2, zT217_10, zr_aload_0, zT217_11, zr_gf_60, zr_or, zr_go, zf_70_60, zT217_14, zr_iload_3, zT217_15, zr_ic_16, zT217_17, zr_imul, zT217_18, zr_iload_1, zT217_19, zT217_20, zr_iv_214, zT217_23, zr_iadd, zT217_24, zr_bald, zT217_25, zr_if_eq, zT217_28, zr_ic_1, zT217_29, zT217_30, zr_ishl, zT217_31, zr_goto, zT217_34, zr_ic_0, zT217_35, zr_ior, zT217_36, zr_istore_2, zT217_37, zr_iinc_3_1, zT217_40, zcl_i, zcl_r, zcl_l, zcl_n, zv_some, zv_none, Nat.reduceAdd, Nat.reduceMul, Nat.reduceSub, Nat.reduceLT, Nat.reduceLeDiff, Nat.reduceEqDiff, Int.reduceToNat, true_implies, false_implies, implies_true, and_true, true_and, not_true_eq_false, not_false_eq_true, Nat.zero_add, Nat.add_zero, nI_add, nI_ltI, nI_leI, nI_eq, pk_mul, pk_sub, u2_same, u2_row, u2_other, p0, f0, zB_eq0, reduceCtorEq, b_or, b_shl, Nat.one_mul, ih', olt_T, olt_F, ole_T, ole_F, oeq_T, oeq_F]
theorem sp_begunIn (hf : z_FR fr) (h : z_PL fi w 3) {s : Nat} (hs : s < 4096) : TT 217 0 [some (.ref 70), some (.int (nI s)), none, none] [] (151, fi, fl, fr) Q = Q (some (.int (nI (a_bst w s)))) (151, fi, fl, fr) := by
  have b := sp_bi_ (fl := fl) hf h hs 3 0 rfl Q
  rw [show msk (fun d => a_bg w d (plc s d)) 0 = 0 from rfl] at b
  simp (disch := first | assumption | rfl | exact zle_0 | exact zle_1 | exact zle_2 | exact zle_3 | exact zle_4 | exact zb_0 | exact zb_1 | exact zb01_B | omega) only [zT217_0, zr_ic_0, zT217_1, zr_istore_2, zT217_2, zT217_3, zr_istore_3, zcl_i, zcl_r, zcl_l, zcl_n, zv_some, zv_none, Nat.reduceAdd, Nat.reduceMul, Nat.reduceSub, Nat.reduceLT, Nat.reduceLeDiff, Nat.reduceEqDiff, Int.reduceToNat, true_implies, false_implies, implies_true, and_true, true_and, not_true_eq_false, not_false_eq_true, Nat.zero_add, Nat.add_zero, nI_add, nI_ltI, nI_leI, nI_eq, pk_mul, pk_sub, u2_same, u2_row, u2_other]
  exact b
def z_LS (fi : Nat → Nat → Int32) (w : Nat → Nat) (en : Nat → Bool) (P rest : List Nat) : Prop := fi 70 64 = nI P.length ∧ (∀ j s, P[j]? = some s → fi 80 j = nI s) ∧ (∀ s ∈ P, fi 81 s = nI (a_mvm w en s)) ∧ a_SL w = P ++ rest
def z_F3 (fi fi' : Nat → Nat → Int32) : Prop := (∀ j, j ≠ 70 → j ≠ 80 → j ≠ 81 → fi' j = fi j) ∧ ∀ f, f ≠ 64 → fi' 70 f = fi 70 f
theorem z_F3.tr {a b c : Nat → Nat → Int32} (h : z_F3 a b) (h2 : z_F3 b c) : z_F3 a c := ⟨fun j j1 j2 j3 => by rw [h2.1 j j1 j2 j3, h.1 j j1 j2 j3], fun f hf => by rw [h2.2 f hf, h.2 f hf]⟩
theorem sp_ls0 (hf : z_FR fr) (hw : a_WF w) {en : Nat → Bool} {y z : Nat} {T : List Nat} (hy : y < 16) (hz : z < 16) :
    ∀ m x, x + m = a_tot w 0 + 1 → ∀ (fi : Nat → Nat → Int32) (P : List Nat) (v4 : Option Value), z_PL fi w 3 → (∀ q, q < 64 → fi 79 q = nI (a_open en q)) → z_LS fi w en P (s_x (16 * y + 256 * z) m x ++ T) →
    (∀ fi' P' v, z_LS fi' w en P' T → z_F3 fi fi' → TT 215 120 [some (.ref 70), some (.int (nI z)), some (.int (nI y)), some (.int (nI (a_tot w 0 + 1))), v] [] (151, fi', fl, fr) Q) →
    TT 215 46 [some (.ref 70), some (.int (nI z)), some (.int (nI y)), some (.int (nI x)), v4] [] (151, fi, fl, fr) Q := by
  have o70 : z_ok 151 70 18 = true := rfl; have o74 : z_ok 151 74 1 = true := rfl; have o75 : z_ok 151 75 1 = true := rfl; have o79 : z_ok 151 79 1 = true := rfl; have o80 : z_ok 151 80 1 = true := rfl; have o81 : z_ok 151 81 1 = true := rfl
  have l74 : z_al 74 = 3 := rfl; have l75 : z_al 75 = 3 := rfl; have l79 : z_al 79 = 64 := rfl; have l80 : z_al 80 = 4096 := rfl; have l81 : z_al 81 = 4096 := rfl
  have t0 := a_tot_le (hw.2.2.2.1 0 (by decide)).1
  intro m
  induction m with
  | zero =>
    intro x hx fi P v4 hp ho hI hQ
    obtain rfl : x = a_tot w 0 + 1 := by omega
    have e0 := (hp 0 (by decide)).2.1
    have := hQ fi P v4 hI ⟨fun _ _ _ _ => rfl, fun _ _ => rfl⟩
    simp (disch := first | assumption | rfl | exact zle_0 | exact zle_1 | exact zle_2 | exact zle_3 | exact zle_4 | exact zb_0 | exact zb_1 | exact zb01_B | omega) only [zT215_46, zr_iload_3, zT215_47, zr_aload_0, zT215_48, zr_gf_58, zr_or, zr_go, zf_70_58, zT215_51, zr_ic_0, zT215_52, zr_iald, zT215_53, zr_icmp_gt, zcl_i, zcl_r, zcl_l, zcl_n, zv_some, zv_none, Nat.reduceAdd, Nat.reduceMul, Nat.reduceSub, Nat.reduceLT, Nat.reduceLeDiff, Nat.reduceEqDiff, Int.reduceToNat, true_implies, false_implies, implies_true, and_true, true_and, not_true_eq_false, not_false_eq_true, Nat.zero_add, Nat.add_zero, nI_add, nI_ltI, nI_leI, nI_eq, pk_mul, pk_sub, u2_same, u2_row, u2_other, e0, olt_T, olt_F, ole_T, ole_F, oeq_T, oeq_F]
    exact this
  | succ m ih =>
    intro x hx fi P v4 hp ho hI hQ
    have e0 := (hp 0 (by decide)).2.1
    have so := fun M Q => sp_stateOf (M := M) (Q := Q) (show x < 16 by omega) hy hz
    obtain ⟨-, -, -, s4⟩ := plc_of (i := x) (j := y) (k := z) (by omega) hy hz
    obtain ⟨i1, i2, i3, i4⟩ := hI
    rw [show s_x (16 * y + 256 * z) (m + 1) x ++ T = (x + (16 * y + 256 * z)) :: (s_x (16 * y + 256 * z) m (x + 1) ++ T) from rfl] at i4
    generalize hst : x + (16 * y + 256 * z) = s at *
    have inc4 := a_SL_inc hw
    rw [i4] at inc4
    have sp := inc4.split
    have pl := inc4.len
    rw [List.length_append, List.length_cons] at pl
    have kos := fun (fi : Nat → Nat → Int32) (hp : z_PL fi w 3) Q => sp_keyOfState (fl := fl) (Q := Q) hf hw hp s4
    have bgi := fun (fi : Nat → Nat → Int32) (hp : z_PL fi w 3) Q => sp_begunIn (fl := fl) (Q := Q) hf hp s4
    have kl := a_kst_lt hw (s := s)
    have bl : a_bst w s < 8 := msk_lt _ 3
    have hp' : z_PL (u2 (u2 fi 80 P.length (nI s)) 70 64 (nI (P.length + 1))) w 3 := hp.frame (fun j j1 j2 => by simp (disch := omega) only [u2_ne])
    have kos' := kos _ hp'
    have bgi' := bgi _ hp'
    have oq := ho _ kl
    simp (disch := first | assumption | rfl | exact zle_0 | exact zle_1 | exact zle_2 | exact zle_3 | exact zle_4 | exact zb_0 | exact zb_1 | exact zb01_B | omega) only [zT215_46, zr_iload_3, zcl_i, zcl_r, zcl_l, zcl_n, zv_some, zv_none, Nat.reduceAdd, Nat.reduceMul, Nat.reduceSub, Nat.reduceLT, Nat.reduceLeDiff, Nat.reduceEqDiff, Int.reduceToNat, true_implies, false_implies, implies_true, and_true, true_and, not_true_eq_false, not_false_eq_true, Nat.zero_add, Nat.add_zero, nI_add, nI_ltI, nI_leI, nI_eq, pk_mul, pk_sub, u2_same, u2_row, u2_other]
    simp (disch := first | assumption | rfl | exact zle_0 | exact zle_1 | exact zle_2 | exact zle_3 | exact zle_4 | exact zb_0 | exact zb_1 | exact zb01_B | omega) only [zT215_47, zr_aload_0, zT215_48, zr_gf_58, zr_or, zr_go, zf_70_58, zT215_51, zr_ic_0, zT215_52, zr_iald, zT215_53, zr_icmp_gt, zT215_56, zr_iload_3, zT215_57, zr_iload_2, zT215_58, zr_iload_1, zT215_59, zr_iv_213, zT215_62, zr_istore_4, zT215_64, zT215_65, zr_gf_63, zf_70_63, zT215_68, zT215_69, zr_gf_64, zT215_72, zr_iload_4, zT215_74, zr_iast, zT215_75, zT215_76, zr_dup_r, zr_dup_i, zT215_77, zT215_80, zr_ic_1, zT215_81, zr_iadd, zT215_82, zr_pf_64, zT215_85, zT215_86, zr_gf_65, zf_70_65, zT215_89, zT215_91, zT215_92, zr_gf_62, zf_70_62, zT215_95, zT215_96, zT215_98, zr_iv_216, zT215_101, zT215_102, zr_ldc, zs_5, zT215_105, zT215_106, zT215_108, zr_iv_217, zT215_111, zT215_112, zr_iand, zT215_113, zT215_114, zr_iinc_3_1, zT215_117, zr_goto, zcl_i, zcl_r, zcl_l, zcl_n, zv_some, zv_none, Nat.reduceAdd, Nat.reduceMul, Nat.reduceSub, Nat.reduceLT, Nat.reduceLeDiff, Nat.reduceEqDiff, Int.reduceToNat, true_implies, false_implies, implies_true, and_true, true_and, not_true_eq_false, not_false_eq_true, Nat.zero_add, Nat.add_zero, nI_add, nI_ltI, nI_leI, nI_eq, pk_mul, pk_sub, u2_same, u2_row, u2_other, e0, so, i1, kos', bgi', oq, b_and, olt_T, olt_F, ole_T, ole_F, oeq_T, oeq_F]
    refine ih (x + 1) (by omega) _ (P ++ [s]) _ (hp.frame (fun j j1 j2 => by simp (disch := omega) only [u2_ne])) (fun q hq => by simp (disch := omega) only [u2_other]; exact ho q hq) ⟨?_, ?_, ?_, ?_⟩ (fun fi' P' v g1 g2 => hQ fi' P' v g1 (z_F3.tr ⟨fun j j1 j2 j3 => by simp (disch := omega) only [u2_ne], fun f hf => by simp (disch := first | assumption | omega) only [u2_other, u2_row]⟩ g2))
    · simp (disch := omega) only [u2_other, u2_same, List.length_append, List.length_singleton]
    · intro j t hj
      by_cases e : j < P.length
      · rw [List.getElem?_append_left e] at hj
        simp (disch := omega) only [u2_other, u2_row]
        exact i2 j t hj
      · rw [List.getElem?_append_right (by omega)] at hj
        have : j - P.length < 1 := by
          rcases Nat.lt_or_ge (j - P.length) 1 with q | q
          · exact q
          · rw [List.getElem?_eq_none (by simpa using q)] at hj
            exact absurd hj (by simp)
        obtain rfl : j = P.length := by omega
        rw [Nat.sub_self] at hj
        have : s = t := by simpa using hj
        subst this
        simp (disch := omega) only [u2_other, u2_same]
    · intro t ht
      rcases List.mem_append.mp ht with ht | ht
      · have := sp.1 t ht
        simp (disch := omega) only [u2_row, u2_other]
        exact i3 t ht
      · rw [List.mem_singleton.mp ht, u2_same]
        rfl
    · rw [i4, List.append_assoc]
      rfl
theorem sp_ls1 (hf : z_FR fr) (hw : a_WF w) {en : Nat → Bool} {z : Nat} {T : List Nat} (hz : z < 16) :
    ∀ m y, y + m = a_tot w 1 + 1 → ∀ (fi : Nat → Nat → Int32) (P : List Nat) (v3 v4 : Option Value), z_PL fi w 3 → (∀ q, q < 64 → fi 79 q = nI (a_open en q)) → z_LS fi w en P (s_y (a_gone w 0) (a_tot w 0 + 1 - a_gone w 0) (256 * z) m y ++ T) →
    (∀ fi' P' v v', z_LS fi' w en P' T → z_F3 fi fi' → TT 215 126 [some (.ref 70), some (.int (nI z)), some (.int (nI (a_tot w 1 + 1))), v, v'] [] (151, fi', fl, fr) Q) →
    TT 215 29 [some (.ref 70), some (.int (nI z)), some (.int (nI y)), v3, v4] [] (151, fi, fl, fr) Q := by
  have o70 : z_ok 151 70 18 = true := rfl; have o74 : z_ok 151 74 1 = true := rfl; have o75 : z_ok 151 75 1 = true := rfl
  have l74 : z_al 74 = 3 := rfl; have l75 : z_al 75 = 3 := rfl
  have t1 := a_tot_le (hw.2.2.2.1 1 (by decide)).1
  have g0 := (hw.2.2.2.1 0 (by decide)).2.2
  intro m
  induction m with
  | zero =>
    intro y hy fi P v3 v4 hp ho hI hQ
    obtain rfl : y = a_tot w 1 + 1 := by omega
    have e0 := (hp 1 (by decide)).2.1
    have := hQ fi P v3 v4 hI ⟨fun _ _ _ _ => rfl, fun _ _ => rfl⟩
    simp (disch := first | assumption | rfl | exact zle_0 | exact zle_1 | exact zle_2 | exact zle_3 | exact zle_4 | exact zb_0 | exact zb_1 | exact zb01_B | omega) only [zT215_29, zr_iload_2, zT215_30, zr_aload_0, zT215_31, zr_gf_58, zr_or, zr_go, zf_70_58, zT215_34, zr_ic_1, zT215_35, zr_iald, zT215_36, zr_icmp_gt, zcl_i, zcl_r, zcl_l, zcl_n, zv_some, zv_none, Nat.reduceAdd, Nat.reduceMul, Nat.reduceSub, Nat.reduceLT, Nat.reduceLeDiff, Nat.reduceEqDiff, Int.reduceToNat, true_implies, false_implies, implies_true, and_true, true_and, not_true_eq_false, not_false_eq_true, Nat.zero_add, Nat.add_zero, nI_add, nI_ltI, nI_leI, nI_eq, pk_mul, pk_sub, u2_same, u2_row, u2_other, e0, olt_T, olt_F, ole_T, ole_F, oeq_T, oeq_F]
    exact this
  | succ m ih =>
    intro y hy fi P v3 v4 hp ho hI hQ
    have e1 := (hp 1 (by decide)).2.1
    have n0 := (hp 0 (by decide)).1
    simp (disch := first | assumption | rfl | exact zle_0 | exact zle_1 | exact zle_2 | exact zle_3 | exact zle_4 | exact zb_0 | exact zb_1 | exact zb01_B | omega) only [zT215_29, zr_iload_2, zcl_i, zcl_r, zcl_l, zcl_n, zv_some, zv_none, Nat.reduceAdd, Nat.reduceMul, Nat.reduceSub, Nat.reduceLT, Nat.reduceLeDiff, Nat.reduceEqDiff, Int.reduceToNat, true_implies, false_implies, implies_true, and_true, true_and, not_true_eq_false, not_false_eq_true, Nat.zero_add, Nat.add_zero, nI_add, nI_ltI, nI_leI, nI_eq, pk_mul, pk_sub, u2_same, u2_row, u2_other]
    simp (disch := first | assumption | rfl | exact zle_0 | exact zle_1 | exact zle_2 | exact zle_3 | exact zle_4 | exact zb_0 | exact zb_1 | exact zb01_B | omega) only [zT215_30, zr_aload_0, zT215_31, zr_gf_58, zr_or, zr_go, zf_70_58, zT215_34, zr_ic_1, zT215_35, zr_iald, zT215_36, zr_icmp_gt, zT215_39, zT215_40, zr_gf_57, zf_70_57, zT215_43, zr_ic_0, zT215_44, zT215_45, zr_istore_3, zcl_i, zcl_r, zcl_l, zcl_n, zv_some, zv_none, Nat.reduceAdd, Nat.reduceMul, Nat.reduceSub, Nat.reduceLT, Nat.reduceLeDiff, Nat.reduceEqDiff, Int.reduceToNat, true_implies, false_implies, implies_true, and_true, true_and, not_true_eq_false, not_false_eq_true, Nat.zero_add, Nat.add_zero, nI_add, nI_ltI, nI_leI, nI_eq, pk_mul, pk_sub, u2_same, u2_row, u2_other, e1, n0, olt_T, olt_F, ole_T, ole_F, oeq_T, oeq_F]
    refine sp_ls0 hf hw (show y < 16 by omega) hz _ (a_gone w 0) (Nat.add_sub_cancel' (by omega)) fi P _ hp ho (T := s_y (a_gone w 0) (a_tot w 0 + 1 - a_gone w 0) (256 * z) m (y + 1) ++ T) (by rw [← List.append_assoc]; exact hI) (fun f1 P1 v k1 k2 => ?_)
    simp (disch := first | assumption | rfl | exact zle_0 | exact zle_1 | exact zle_2 | exact zle_3 | exact zle_4 | exact zb_0 | exact zb_1 | exact zb01_B | omega) only [zT215_120, zr_iinc_2_1, zT215_123, zr_goto, zcl_i, zcl_r, zcl_l, zcl_n, zv_some, zv_none, Nat.reduceAdd, Nat.reduceMul, Nat.reduceSub, Nat.reduceLT, Nat.reduceLeDiff, Nat.reduceEqDiff, Int.reduceToNat, true_implies, false_implies, implies_true, and_true, true_and, not_true_eq_false, not_false_eq_true, Nat.zero_add, Nat.add_zero, nI_add, nI_ltI, nI_leI, nI_eq, pk_mul, pk_sub, u2_same, u2_row, u2_other, olt_T, olt_F, ole_T, ole_F, oeq_T, oeq_F]
    refine ih (y + 1) (by omega) f1 P1 _ _ (hp.frame (fun j j1 j2 => k2.1 j (by omega) (by omega) (by omega))) (fun q hq => by rw [k2.1 79 (by decide) (by decide) (by decide)]; exact ho q hq) k1 (fun f2 P2 v v' q1 q2 => hQ f2 P2 v v' q1 (k2.tr q2))
theorem sp_ls2 (hf : z_FR fr) (hw : a_WF w) {en : Nat → Bool} :
    ∀ m z, z + m = a_tot w 2 + 1 → ∀ (fi : Nat → Nat → Int32) (P : List Nat) (v2 v3 v4 : Option Value), z_PL fi w 3 → (∀ q, q < 64 → fi 79 q = nI (a_open en q)) → z_LS fi w en P (s_z (a_gone w 0) (a_tot w 0 + 1 - a_gone w 0) (a_gone w 1) (a_tot w 1 + 1 - a_gone w 1) m z) →
    (∀ fi', z_LS fi' w en (a_SL w) [] → z_F3 fi fi' → Q none (151, fi', fl, fr)) →
    TT 215 12 [some (.ref 70), some (.int (nI z)), v2, v3, v4] [] (151, fi, fl, fr) Q := by
  have o70 : z_ok 151 70 18 = true := rfl; have o74 : z_ok 151 74 1 = true := rfl; have o75 : z_ok 151 75 1 = true := rfl
  have l74 : z_al 74 = 3 := rfl; have l75 : z_al 75 = 3 := rfl
  have t2 := a_tot_le (hw.2.2.2.1 2 (by decide)).1
  have g1 := (hw.2.2.2.1 1 (by decide)).2.2
  intro m
  induction m with
  | zero =>
    intro z hz fi P v2 v3 v4 hp ho hI hQ
    obtain rfl : z = a_tot w 2 + 1 := by omega
    have e0 := (hp 2 (by decide)).2.1
    simp (disch := first | assumption | rfl | exact zle_0 | exact zle_1 | exact zle_2 | exact zle_3 | exact zle_4 | exact zb_0 | exact zb_1 | exact zb01_B | omega) only [zT215_12, zr_iload_1, zT215_13, zr_aload_0, zT215_14, zr_gf_58, zr_or, zr_go, zf_70_58, zT215_17, zr_ic_2, zT215_18, zr_iald, zT215_19, zr_icmp_gt, zT215_132, zr_return, zcl_i, zcl_r, zcl_l, zcl_n, zv_some, zv_none, Nat.reduceAdd, Nat.reduceMul, Nat.reduceSub, Nat.reduceLT, Nat.reduceLeDiff, Nat.reduceEqDiff, Int.reduceToNat, true_implies, false_implies, implies_true, and_true, true_and, not_true_eq_false, not_false_eq_true, Nat.zero_add, Nat.add_zero, nI_add, nI_ltI, nI_leI, nI_eq, pk_mul, pk_sub, u2_same, u2_row, u2_other, e0, olt_T, olt_F, ole_T, ole_F, oeq_T, oeq_F]
    have : a_SL w = P := by rw [hI.2.2.2]; exact List.append_nil _
    exact hQ fi (by rw [this]; exact ⟨hI.1, hI.2.1, hI.2.2.1, by rw [this]; exact (List.append_nil _).symm⟩) ⟨fun _ _ _ _ => rfl, fun _ _ => rfl⟩
  | succ m ih =>
    intro z hz fi P v2 v3 v4 hp ho hI hQ
    have e2 := (hp 2 (by decide)).2.1
    have n1 := (hp 1 (by decide)).1
    simp (disch := first | assumption | rfl | exact zle_0 | exact zle_1 | exact zle_2 | exact zle_3 | exact zle_4 | exact zb_0 | exact zb_1 | exact zb01_B | omega) only [zT215_12, zr_iload_1, zcl_i, zcl_r, zcl_l, zcl_n, zv_some, zv_none, Nat.reduceAdd, Nat.reduceMul, Nat.reduceSub, Nat.reduceLT, Nat.reduceLeDiff, Nat.reduceEqDiff, Int.reduceToNat, true_implies, false_implies, implies_true, and_true, true_and, not_true_eq_false, not_false_eq_true, Nat.zero_add, Nat.add_zero, nI_add, nI_ltI, nI_leI, nI_eq, pk_mul, pk_sub, u2_same, u2_row, u2_other]
    simp (disch := first | assumption | rfl | exact zle_0 | exact zle_1 | exact zle_2 | exact zle_3 | exact zle_4 | exact zb_0 | exact zb_1 | exact zb01_B | omega) only [zT215_13, zr_aload_0, zT215_14, zr_gf_58, zr_or, zr_go, zf_70_58, zT215_17, zr_ic_2, zT215_18, zr_iald, zT215_19, zr_icmp_gt, zT215_22, zT215_23, zr_gf_57, zf_70_57, zT215_26, zr_ic_1, zT215_27, zT215_28, zr_istore_2, zcl_i, zcl_r, zcl_l, zcl_n, zv_some, zv_none, Nat.reduceAdd, Nat.reduceMul, Nat.reduceSub, Nat.reduceLT, Nat.reduceLeDiff, Nat.reduceEqDiff, Int.reduceToNat, true_implies, false_implies, implies_true, and_true, true_and, not_true_eq_false, not_false_eq_true, Nat.zero_add, Nat.add_zero, nI_add, nI_ltI, nI_leI, nI_eq, pk_mul, pk_sub, u2_same, u2_row, u2_other, e2, n1, olt_T, olt_F, ole_T, ole_F, oeq_T, oeq_F]
    refine sp_ls1 hf hw (show z < 16 by omega) _ (a_gone w 1) (Nat.add_sub_cancel' (by omega)) fi P _ _ hp ho (T := s_z (a_gone w 0) (a_tot w 0 + 1 - a_gone w 0) (a_gone w 1) (a_tot w 1 + 1 - a_gone w 1) m (z + 1)) hI (fun f1 P1 v v' k1 k2 => ?_)
    simp (disch := first | assumption | rfl | exact zle_0 | exact zle_1 | exact zle_2 | exact zle_3 | exact zle_4 | exact zb_0 | exact zb_1 | exact zb01_B | omega) only [zT215_126, zr_iinc_1_1, zT215_129, zr_goto, zcl_i, zcl_r, zcl_l, zcl_n, zv_some, zv_none, Nat.reduceAdd, Nat.reduceMul, Nat.reduceSub, Nat.reduceLT, Nat.reduceLeDiff, Nat.reduceEqDiff, Int.reduceToNat, true_implies, false_implies, implies_true, and_true, true_and, not_true_eq_false, not_false_eq_true, Nat.zero_add, Nat.add_zero, nI_add, nI_ltI, nI_leI, nI_eq, pk_mul, pk_sub, u2_same, u2_row, u2_other, olt_T, olt_F, ole_T, ole_F, oeq_T, oeq_F]
    refine ih (z + 1) (by omega) f1 P1 _ _ _ (hp.frame (fun j j1 j2 => k2.1 j (by omega) (by omega) (by omega))) (fun q hq => by rw [k2.1 79 (by decide) (by decide) (by decide)]; exact ho q hq) k1 (fun f2 q1 q2 => hQ f2 q1 (k2.tr q2))
/-- the states are laid -/
def z_SL (fi : Nat → Nat → Int32) (w : Nat → Nat) (en : Nat → Bool) : Prop := fi 70 64 = nI (a_SL w).length ∧ (∀ j s, (a_SL w)[j]? = some s → fi 80 j = nI s) ∧ ∀ s ∈ a_SL w, fi 81 s = nI (a_mvm w en s)
theorem sp_layStates (hf : z_FR fr) (hw : a_WF w) {en : Nat → Bool} (hp : z_PL fi w 3) (ho : ∀ q, q < 64 → fi 79 q = nI (a_open en q))
    (hQ : ∀ fi', z_SL fi' w en → z_F3 fi fi' → Q none (151, fi', fl, fr)) :
    TT 215 0 [some (.ref 70), none, none, none, none] [] (151, fi, fl, fr) Q := by
  have o70 : z_ok 151 70 18 = true := rfl; have o74 : z_ok 151 74 1 = true := rfl; have o75 : z_ok 151 75 1 = true := rfl
  have l74 : z_al 74 = 3 := rfl; have l75 : z_al 75 = 3 := rfl
  have n2 := (hp 2 (by decide)).1
  have g2 := (hw.2.2.2.1 2 (by decide)).2.2
  simp (disch := first | assumption | rfl | exact zle_0 | exact zle_1 | exact zle_2 | exact zle_3 | exact zle_4 | exact zb_0 | exact zb_1 | exact zb01_B | omega) only [zT215_0, zr_aload_0, zT215_1, zr_ic_0, zT215_2, zr_pf_64, zT215_5, zT215_6, zr_gf_57, zr_or, zr_go, zf_70_57, zT215_9, zr_ic_2, zT215_10, zr_iald, zT215_11, zr_istore_1, zcl_i, zcl_r, zcl_l, zcl_n, zv_some, zv_none, Nat.reduceAdd, Nat.reduceMul, Nat.reduceSub, Nat.reduceLT, Nat.reduceLeDiff, Nat.reduceEqDiff, Int.reduceToNat, true_implies, false_implies, implies_true, and_true, true_and, not_true_eq_false, not_false_eq_true, Nat.zero_add, Nat.add_zero, nI_add, nI_ltI, nI_leI, nI_eq, pk_mul, pk_sub, u2_same, u2_row, u2_other, n2, olt_T, olt_F, ole_T, ole_F, oeq_T, oeq_F]
  refine sp_ls2 hf hw (en := en) _ (a_gone w 2) (Nat.add_sub_cancel' (by omega)) _ [] _ _ _ (hp.frame (fun j j1 j2 => by simp (disch := omega) only [u2_ne])) (fun q hq => by rw [u2_other (by decide)]; exact ho q hq) ⟨by rw [u2_same]; rfl, fun j s hj => absurd hj (by simp), fun s hs => absurd hs List.not_mem_nil, rfl⟩ (fun f1 k1 k2 => hQ f1 ⟨k1.1, k1.2.1, k1.2.2.1⟩ (z_F3.tr ⟨fun j j1 j2 j3 => by simp (disch := omega) only [u2_ne], fun f hf => by simp (disch := first | assumption | omega) only [u2_row]⟩ k2))
end
