/-! the row of hands is lined up -/
/-- so far the row P; rest is still to come; R the whole row -/
def z_LI (fi : Nat → Nat → Int32) (hl : Nat → Nat) (th : Nat → Bool) (P : List (Nat × Nat)) (K : Nat) (rest : List Hd) (R : List (Nat × Nat)) (n : Nat) : Prop :=
  z_CR fi hl th 0 0 6 ∧ (∀ c, c < 6 → h_ok (th c) (hl c)) ∧ z_NR fi (l_cnt true true rest) (l_cnt true false rest) (l_cnt false true rest) (l_cnt false false rest) K ∧ l_cov hl rest = true ∧ P.length + rest.length ≤ 18 ∧ R = P ++ a_line rest hl ∧ (∀ p ∈ P, p.1 < n ∧ p.2 < 6) ∧
  fi 61 26 = nI P.length ∧ (∀ j p, P[j]? = some p → fi 68 j = nI p.2) ∧ ∀ e, e < n → fi 69 e = nI (t_of e P)
section
variable {fi : Nat → Nat → Int32} {fl : Nat → Nat → Int64} {fr : Nat → Nat → Option Nat} {Q : Option Value → Mm → Prop} {w : Nat → Nat} {k : Nat} {M : Mm}
theorem sp_lineH (hf : z_FR fr) {d i s r l kn K key : Nat} {th : Nat → Bool} {T : List Hd} {R : List (Nat × Nat)} (hd : z_Dok fr d) (hd2 : d + 5 < 60) (hi : i < 3) (hw : a_WD w i) (hs : s < a_sm w i) (hr0 : a_st w i s 0 = r) (hl0 : a_st w i s 1 = l) (hk0 : a_st w i s 2 = kn) :
    ∀ m h, h + m = r + l → ∀ (fi : Nat → Nat → Int32) (hl : Nat → Nat) (P : List (Nat × Nat)) (v6 : Option Value), z_DR fi d w i → z_LI fi hl th P K (l_from r kn i m h ++ T) R (i + 1) →
    (∀ fi' hl' P' v, z_LI fi' hl' th P' K T R (i + 1) → (∀ j, j < 61 ∨ 69 < j → fi' j = fi j) → TT 144 132 [some (.ref 61), some (.int (nI key)), some (.int (nI i)), some (.ref d), some (.int (nI s)), some (.int (nI (r + l))), v] [] (151, fi', fl, fr) Q) →
    TT 144 43 [some (.ref 61), some (.int (nI key)), some (.int (nI i)), some (.ref d), some (.int (nI s)), some (.int (nI h)), v6] [] (151, fi, fl, fr) Q := by
  have hb := hw.2 s hs
  have hsm := hw.1
  have hh0 : a_hof w i s = r + l := by unfold a_hof; rw [if_pos hs, hr0, hl0]
  have o61 : z_ok 151 61 12 = true := rfl; have o67 : z_ok 151 67 15 = true := rfl; have o68 : z_ok 151 68 1 = true := rfl; have o69 : z_ok 151 69 1 = true := rfl
  have l68 : z_al 68 = 18 := rfl; have l69 : z_al 69 = 3 := rfl
  have od := hd.1
  have f68 := zf_61_25 hf
  have f69 := zf_61_27 hf
  intro m
  induction m with
  | zero =>
    intro h hh fi hl P v6 hr hI hQ
    have hho := fun Q => sp_handsOf (fl := fl) (Q := Q) hd hr hsm (show s < 4 by omega)
    rw [hh0] at hho
    simp (disch := first | assumption | rfl | exact zle_0 | exact zle_1 | exact zle_2 | exact zle_3 | exact zle_4 | exact zb_0 | exact zb_1 | exact zb01_B | omega) only [zT144_43, zr_iload_5, zT144_45, zr_aload_3, zT144_46, zr_iload_4, zT144_48, zr_iv_154, zT144_51, zr_icmp_ge, zcl_i, zcl_r, zcl_l, zcl_n, zv_some, zv_none, Nat.reduceAdd, Nat.reduceMul, Nat.reduceSub, Nat.reduceLT, Nat.reduceLeDiff, Nat.reduceEqDiff, Int.reduceToNat, true_implies, false_implies, implies_true, and_true, true_and, not_true_eq_false, not_false_eq_true, Nat.zero_add, Nat.add_zero, nI_add, nI_ltI, nI_leI, nI_eq, pk_mul, pk_sub, u2_same, u2_row, u2_other, hho, olt_T, olt_F, ole_T, ole_F, oeq_T, oeq_F]
    obtain rfl : h = r + l := by omega
    exact hQ fi hl P v6 hI (fun _ _ => rfl)
  | succ m ih =>
    intro h hh fi hl P v6 hr hI hQ
    have hho := fun Q => sp_handsOf (fl := fl) (Q := Q) hd hr hsm (show s < 4 by omega)
    have hsh := fun Q => sp_isSharp (fl := fl) (Q := Q) (j := h) hd hr hw (show s < 4 by omega) (by omega)
    have hri := fun Q => sp_isRight (fl := fl) (Q := Q) (j := h) hd hr hw (show s < 4 by omega) (by omega)
    rw [hh0] at hho
    rw [hk0, show decide (s < a_sm w i ∧ h < kn) = decide (h < kn) by simp [hs]] at hsh
    rw [hr0, show decide (s < a_sm w i ∧ h < r) = decide (h < r) by simp [hs]] at hri
    obtain ⟨hc, hv, hn, hcov, hlen, hR, hP, hL, h68, h69⟩ := hI
    rw [show l_from r kn i (m + 1) h ++ T = (i, decide (h < r), decide (h < kn)) :: (l_from r kn i m (h + 1) ++ T) from rfl] at hn hcov hlen hR
    generalize decide (h < r) = ri at *
    generalize decide (h < kn) = sh at *
    generalize ht : l_from r kn i m (h + 1) ++ T = t at *
    obtain ⟨q, q1, q6, q3, q4⟩ := l_go hv hcov
    have hlt : t.length < 18 := by
      rw [List.length_cons] at hlen
      omega
    have c1 := l_cnt_le (ri := true) (sh := true) ((i, ri, sh) :: t)
    have c2 := l_cnt_le (ri := true) (sh := false) ((i, ri, sh) :: t)
    have c3 := l_cnt_le (ri := false) (sh := true) ((i, ri, sh) :: t)
    have c4 := l_cnt_le (ri := false) (sh := false) ((i, ri, sh) :: t)
    rw [List.length_cons] at c1 c2 c3 c4 hlen
    simp (disch := first | assumption | rfl | exact zle_0 | exact zle_1 | exact zle_2 | exact zle_3 | exact zle_4 | exact zb_0 | exact zb_1 | exact zb01_B | omega) only [zT144_43, zr_iload_5, zcl_i, zcl_r, zcl_l, zcl_n, zv_some, zv_none, Nat.reduceAdd, Nat.reduceMul, Nat.reduceSub, Nat.reduceLT, Nat.reduceLeDiff, Nat.reduceEqDiff, Int.reduceToNat, true_implies, false_implies, implies_true, and_true, true_and, not_true_eq_false, not_false_eq_true, Nat.zero_add, Nat.add_zero, nI_add, nI_ltI, nI_leI, nI_eq, pk_mul, pk_sub, u2_same, u2_row, u2_other]
    simp (disch := first | assumption | rfl | exact zle_0 | exact zle_1 | exact zle_2 | exact zle_3 | exact zle_4 | exact zb_0 | exact zb_1 | exact zb01_B | omega) only [zT144_45, zr_aload_3, zT144_46, zr_iload_4, zT144_48, zr_iv_154, zT144_51, zr_icmp_ge, zT144_54, zr_aload_0, zT144_55, zT144_56, zT144_58, zr_iload_5, zT144_60, zr_iv_155, zT144_63, zT144_64, zT144_66, zT144_68, zr_iv_156, zT144_71, zr_iv_145, zcl_i, zcl_r, zcl_l, zcl_n, zv_some, zv_none, Nat.reduceAdd, Nat.reduceMul, Nat.reduceSub, Nat.reduceLT, Nat.reduceLeDiff, Nat.reduceEqDiff, Int.reduceToNat, true_implies, false_implies, implies_true, and_true, true_and, not_true_eq_false, not_false_eq_true, Nat.zero_add, Nat.add_zero, nI_add, nI_ltI, nI_leI, nI_eq, pk_mul, pk_sub, u2_same, u2_row, u2_other, hho, hsh, hri, olt_T, olt_F, ole_T, ole_F, oeq_T, oeq_F]
    refine sp_first hf hv (by omega) l_some (by rw [l_less]; exact q1) hc hn (fun f1 r6 k1 k2 k3 k4 => ?_)
    rw [l_less] at k3
    have e61 : f1 61 26 = nI P.length := by rw [k4 61 (by decide) (by decide) (by decide) (by decide)]; exact hL
    have e69 : ∀ e, e < i + 1 → f1 69 e = nI (t_of e P) := by
      intro e he
      rw [k4 69 (by decide) (by decide) (by decide) (by decide)]
      exact h69 e he
    have e69i := e69 i (by omega)
    have e68 : f1 68 = fi 68 := k4 68 (by decide) (by decide) (by decide) (by decide)
    have pq : 2 ^ q < 64 := Nat.pow_lt_pow_right (a := 2) (n := 6) (by decide) q6
    have nm := nM_eqI (k := 1) (a := q) (by decide) (by decide) (by omega)
    simp (disch := first | assumption | rfl | exact zle_0 | exact zle_1 | exact zle_2 | exact zle_3 | exact zle_4 | exact zb_0 | exact zb_1 | exact zb01_B | omega) only [zT144_74, zr_istore_6, zT144_76, zr_iload_6, zT144_78, zr_ic_m1, zT144_79, zr_icmp_eq, zT144_82, zr_aload_0, zT144_83, zr_gf_26, zT144_86, zr_ic_18, zT144_88, zr_icmp_lt, zT144_91, zr_return, zT144_92, zT144_93, zr_gf_25, zr_or, zr_go, zf_61_25, zT144_96, zT144_97, zT144_100, zT144_102, zr_iast, zT144_103, zT144_104, zr_dup_r, zr_dup_i, zT144_105, zT144_108, zr_ic_1, zT144_109, zr_iadd, zT144_110, zr_pf_26, zT144_113, zT144_114, zr_gf_27, zf_61_27, zT144_117, zr_iload_2, zT144_118, zr_dup2, zT144_119, zr_iald, zT144_120, zT144_121, zT144_123, zr_ishl, zT144_124, zr_ior, zT144_125, zT144_126, zr_iinc_5_1, zT144_129, zr_goto, zcl_i, zcl_r, zcl_l, zcl_n, zv_some, zv_none, Nat.reduceAdd, Nat.reduceMul, Nat.reduceSub, Nat.reduceLT, Nat.reduceLeDiff, Nat.reduceEqDiff, Int.reduceToNat, true_implies, false_implies, implies_true, and_true, true_and, not_true_eq_false, not_false_eq_true, Nat.zero_add, Nat.add_zero, nI_add, nI_ltI, nI_leI, nI_eq, pk_mul, pk_sub, u2_same, u2_row, u2_other, e61, e69i, nm, b_shl, b_or, Nat.one_mul, olt_T, olt_F, ole_T, ole_F, oeq_T, oeq_F]
    have hq : (l_first hl (i, ri, sh) t).getD 0 = q := by rw [q1]; rfl
    refine ih (h + 1) (by omega) _ (uh hl q (h_lo (hl q) ri)) (P ++ [(i, q)]) _ (hr.frame (fun j j1 j2 => ?_)) ⟨?_, l_ok hv k2, ?_, ?_, ?_, ?_, ?_, ?_, ?_, ?_⟩ (fun fi' hl' P' v g1 g2 => hQ fi' hl' P' v g1 (fun j hj => ?_))
    · simp (disch := omega) only [u2_ne]
      exact k4 j (by omega) (by omega) (by omega) (by omega)
    · exact k1.frame (fun j j1 j2 => by simp (disch := omega) only [u2_ne])
    · rw [ht]
      obtain ⟨n1, n2, n3, n4, n5⟩ := k3
      refine ⟨?_, ?_, ?_, ?_, ?_⟩ <;> simp (disch := omega) only [u2_other, u2_row] <;> assumption
    · rw [ht]; exact q4
    · rw [ht, List.length_append, List.length_singleton]; omega
    · rw [ht, hR]
      show P ++ (i, (l_first hl (i, ri, sh) t).getD 0) :: a_line t (uh hl ((l_first hl (i, ri, sh) t).getD 0) (h_lo (hl ((l_first hl (i, ri, sh) t).getD 0)) ri)) = _
      rw [hq, List.append_assoc]
      rfl
    · intro p hp
      rcases List.mem_append.mp hp with hp | hp
      · exact hP p hp
      · rw [List.mem_singleton.mp hp]
        exact ⟨Nat.lt_succ_self _, q6⟩
    · simp (disch := omega) only [u2_other, u2_same, List.length_append, List.length_singleton]
    · intro j p hj
      by_cases e : j < P.length
      · rw [List.getElem?_append_left e] at hj
        simp (disch := omega) only [u2_other, u2_row]
        rw [e68]
        exact h68 j p hj
      · rw [List.getElem?_append_right (by omega)] at hj
        have : j - P.length < 1 := by
          rcases Nat.lt_or_ge (j - P.length) 1 with q | q
          · exact q
          · rw [List.getElem?_eq_none (by simpa using q)] at hj
            exact absurd hj (by simp)
        obtain rfl : j = P.length := by omega
        rw [Nat.sub_self] at hj
        have : (i, q) = p := by simpa using hj
        subst this
        simp (disch := omega) only [u2_other, u2_same]
    · intro e he
      rw [t_of_app]
      by_cases c : e = i
      · subst c
        rw [if_pos rfl]
        simp (disch := omega) only [u2_same]
      · rw [if_neg (Ne.symm c)]
        simp (disch := omega) only [u2_row, u2_other]
        exact e69 e he
    · rw [g2 j hj]
      simp (disch := omega) only [u2_ne]
      exact k4 j (by omega) (by omega) (by omega) (by omega)
theorem z_LI.more {hl : Nat → Nat} {th : Nat → Bool} {P R : List (Nat × Nat)} {K n : Nat} {rest : List Hd} (h : z_LI fi hl th P K rest R n) (hn : n < 3) : z_LI (u2 fi 69 n (nI 0)) hl th P K rest R (n + 1) := by
  obtain ⟨hc, hv, hn, hcov, hlen, hR, hP, hL, h68, h69⟩ := h
  refine ⟨hc.frame (fun j j1 j2 => by simp (disch := omega) only [u2_ne]), hv, ?_, hcov, hlen, hR, fun p hp => ⟨Nat.lt_succ_of_lt (hP p hp).1, (hP p hp).2⟩, ?_, ?_, ?_⟩
  · obtain ⟨n1, n2, n3, n4, n5⟩ := hn
    refine ⟨?_, ?_, ?_, ?_, ?_⟩ <;> simp (disch := omega) only [u2_other] <;> assumption
  · simp (disch := omega) only [u2_other]; exact hL
  · intro j p hj
    simp (disch := omega) only [u2_other]
    exact h68 j p hj
  · intro e he
    by_cases c : e = n
    · subst c
      rw [u2_same, t_of_no (fun p hp => Nat.ne_of_lt (hP p hp).1)]
    · rw [u2_row c]
      exact h69 e (by omega)
theorem sp_line_ (hf : z_FR fr) (hw : a_WF w) {key K : Nat} (hkey : key < 64) {th : Nat → Bool} {R : List (Nat × Nat)} :
    ∀ m i, i + m = 3 → ∀ (fi : Nat → Nat → Int32) (hl : Nat → Nat) (P : List (Nat × Nat)) (v3 v4 v5 v6 : Option Value), z_KR fi 19 w → z_LI fi hl th P K (l_all w key m i) R i →
    (∀ fi' hl' P', z_LI fi' hl' th P' K [] R 3 → (∀ j, j < 61 ∨ 69 < j → fi' j = fi j) → Q none (151, fi', fl, fr)) →
    TT 144 12 [some (.ref 61), some (.int (nI key)), some (.int (nI i)), v3, v4, v5, v6] [] (151, fi, fl, fr) Q := by
  have hk := z_Kok_of hf (k := 19) (by decide)
  have o19 : z_ok 151 19 16 = true := rfl; have o61 : z_ok 151 61 12 = true := rfl; have o67 : z_ok 151 67 15 = true := rfl; have o69 : z_ok 151 69 1 = true := rfl
  have l69 : z_al 69 = 3 := rfl
  intro m
  induction m with
  | zero =>
    intro i hi fi hl P v3 v4 v5 v6 hr hI hQ
    obtain rfl : i = 3 := by omega
    simp (disch := first | assumption | rfl | exact zle_0 | exact zle_1 | exact zle_2 | exact zle_3 | exact zle_4 | exact zb_0 | exact zb_1 | exact zb01_B | omega) only [zT144_12, zr_iload_2, zT144_13, zr_ic_3, zT144_14, zr_icmp_ge, zT144_138, zr_return, zcl_i, zcl_r, zcl_l, zcl_n, zv_some, zv_none, Nat.reduceAdd, Nat.reduceMul, Nat.reduceSub, Nat.reduceLT, Nat.reduceLeDiff, Nat.reduceEqDiff, Int.reduceToNat, true_implies, false_implies, implies_true, and_true, true_and, not_true_eq_false, not_false_eq_true, Nat.zero_add, Nat.add_zero, nI_add, nI_ltI, nI_leI, nI_eq, pk_mul, pk_sub, u2_same, u2_row, u2_other, olt_T, olt_F, ole_T, ole_F, oeq_T, oeq_F]
    exact hQ fi hl P hI (fun _ _ => rfl)
  | succ m ih =>
    intro i hi fi hl P v3 v4 v5 v6 hr hI hQ
    have hi3 : i < 3 := by omega
    have wd := (hw.2.2.2.1 i hi3).1
    have hda := fun fi Q => sp_dishAt (fi := fi) (fl := fl) (Q := Q) hk hi3
    have hsk := fun M Q => sp_stepInKey (M := M) (Q := Q) hkey hi3
    have hs4 := a_at_lt (key := key) (d := i)
    have hdd := (hk.2.2.2.2 i hi3).2
    have od := hdd.1
    have hrd := hr.2.2.1 i hi3
    have hI' := hI.more hi3
    have hrd' : z_DR (u2 fi 69 i (nI 0)) (19 + 5 + 5 * i) w i := hrd.frame (fun j j1 j2 => by simp (disch := omega) only [u2_ne])
    rw [show l_all w key (m + 1) i = l_dish w i (a_at key i) ++ l_all w key m (i + 1) from rfl] at hI'
    simp (disch := first | assumption | rfl | exact zle_0 | exact zle_1 | exact zle_2 | exact zle_3 | exact zle_4 | exact zb_0 | exact zb_1 | exact zb01_B | omega) only [zT144_12, zr_iload_2, zcl_i, zcl_r, zcl_l, zcl_n, zv_some, zv_none, Nat.reduceAdd, Nat.reduceMul, Nat.reduceSub, Nat.reduceLT, Nat.reduceLeDiff, Nat.reduceEqDiff, Int.reduceToNat, true_implies, false_implies, implies_true, and_true, true_and, not_true_eq_false, not_false_eq_true, Nat.zero_add, Nat.add_zero, nI_add, nI_ltI, nI_leI, nI_eq, pk_mul, pk_sub, u2_same, u2_row, u2_other]
    simp (disch := first | assumption | rfl | exact zle_0 | exact zle_1 | exact zle_2 | exact zle_3 | exact zle_4 | exact zb_0 | exact zb_1 | exact zb01_B | omega) only [zT144_13, zr_ic_3, zT144_14, zr_icmp_ge, zT144_17, zr_aload_0, zT144_18, zr_gf_17, zr_or, zr_go, zf_61_17, zT144_21, zr_iload_2, zT144_22, zr_iv_188, zT144_25, zr_astore_3, zT144_26, zr_iload_1, zT144_27, zT144_28, zr_iv_121, zT144_31, zr_istore_4, zT144_33, zT144_34, zr_gf_27, zf_61_27, zT144_37, zT144_38, zr_ic_0, zT144_39, zr_iast, zT144_40, zT144_41, zr_istore_5, zcl_i, zcl_r, zcl_l, zcl_n, zv_some, zv_none, Nat.reduceAdd, Nat.reduceMul, Nat.reduceSub, Nat.reduceLT, Nat.reduceLeDiff, Nat.reduceEqDiff, Int.reduceToNat, true_implies, false_implies, implies_true, and_true, true_and, not_true_eq_false, not_false_eq_true, Nat.zero_add, Nat.add_zero, nI_add, nI_ltI, nI_leI, nI_eq, pk_mul, pk_sub, u2_same, u2_row, u2_other, hda, hsk, olt_T, olt_F, ole_T, ole_F, oeq_T, oeq_F]
    by_cases hs : a_at key i < a_sm w i
    · rw [show l_dish w i (a_at key i) = l_from (a_st w i (a_at key i) 0) (a_st w i (a_at key i) 2) i (a_st w i (a_at key i) 0 + a_st w i (a_at key i) 1) 0 by unfold l_dish; rw [if_pos hs]] at hI'
      refine sp_lineH hf hdd (by omega) hi3 wd hs rfl rfl rfl _ 0 (Nat.zero_add _) _ hl P v6 hrd' hI' (fun fi' hl' P' v g1 g2 => ?_)
      simp (disch := first | assumption | rfl | exact zle_0 | exact zle_1 | exact zle_2 | exact zle_3 | exact zle_4 | exact zb_0 | exact zb_1 | exact zb01_B | omega) only [zT144_132, zr_iinc_2_1, zT144_135, zr_goto, zcl_i, zcl_r, zcl_l, zcl_n, zv_some, zv_none, Nat.reduceAdd, Nat.reduceMul, Nat.reduceSub, Nat.reduceLT, Nat.reduceLeDiff, Nat.reduceEqDiff, Int.reduceToNat, true_implies, false_implies, implies_true, and_true, true_and, not_true_eq_false, not_false_eq_true, Nat.zero_add, Nat.add_zero, nI_add, nI_ltI, nI_leI, nI_eq, pk_mul, pk_sub, u2_same, u2_row, u2_other, olt_T, olt_F, ole_T, ole_F, oeq_T, oeq_F]
      refine ih (i + 1) (by omega) fi' hl' P' _ _ _ _ (hr.fr (fun j j1 j2 => ?_)) g1 (fun fi2 hl2 P2 k1 k2 => hQ fi2 hl2 P2 k1 (fun j hj => ?_))
      · rw [g2 j (by omega)]; simp (disch := omega) only [u2_ne]
      · rw [k2 j hj, g2 j hj]; simp (disch := omega) only [u2_ne]
    · rw [show l_dish w i (a_at key i) = [] by unfold l_dish; rw [if_neg hs], List.nil_append] at hI'
      have hho := fun Q => sp_handsOf (fl := fl) (Q := Q) hdd hrd' wd.1 hs4
      rw [show a_hof w i (a_at key i) = 0 by unfold a_hof; rw [if_neg hs]] at hho
      simp (disch := first | assumption | rfl | exact zle_0 | exact zle_1 | exact zle_2 | exact zle_3 | exact zle_4 | exact zb_0 | exact zb_1 | exact zb01_B | omega) only [zT144_43, zr_iload_5, zT144_45, zr_aload_3, zT144_46, zr_iload_4, zT144_48, zr_iv_154, zT144_51, zr_icmp_ge, zT144_132, zr_iinc_2_1, zT144_135, zr_goto, zcl_i, zcl_r, zcl_l, zcl_n, zv_some, zv_none, Nat.reduceAdd, Nat.reduceMul, Nat.reduceSub, Nat.reduceLT, Nat.reduceLeDiff, Nat.reduceEqDiff, Int.reduceToNat, true_implies, false_implies, implies_true, and_true, true_and, not_true_eq_false, not_false_eq_true, Nat.zero_add, Nat.add_zero, nI_add, nI_ltI, nI_leI, nI_eq, pk_mul, pk_sub, u2_same, u2_row, u2_other, hho, olt_T, olt_F, ole_T, ole_F, oeq_T, oeq_F]
      refine ih (i + 1) (by omega) _ hl P _ _ _ _ (hr.fr (fun j j1 j2 => ?_)) hI' (fun fi2 hl2 P2 k1 k2 => hQ fi2 hl2 P2 k1 (fun j hj => ?_))
      · simp (disch := omega) only [u2_ne]
      · rw [k2 j hj]; simp (disch := omega) only [u2_ne]
/-- the crew's row is R -/
def z_Row (fi : Nat → Nat → Int32) (R : List (Nat × Nat)) : Prop := R.length ≤ 18 ∧ (∀ p ∈ R, p.1 < 3 ∧ p.2 < 6) ∧ fi 61 26 = nI R.length ∧ (∀ j p, R[j]? = some p → fi 68 j = nI p.2) ∧ ∀ e, e < 3 → fi 69 e = nI (t_of e R)
theorem a_enough_cov {hl : Nat → Nat} {key : Nat} (hw : a_WF w) (h : a_enough w hl 0 0 key = true) : l_cov hl (l_all w key 3 0) = true := by
  obtain ⟨e1, e2, e3, e4⟩ := l_all_cnt (key := key) hw
  unfold l_cov a_covN
  rw [e1, e2, e3, e4]
  unfold a_enough at h
  exact (Bool.and_eq_true_iff.mp h).2
theorem sp_lineUp (hf : z_FR fr) (hw : a_WF w) {key : Nat} (hkey : key < 64) {hl : Nat → Nat} {th : Nat → Bool} (hr : z_KR fi 19 w) (hc : z_CR fi hl th 0 0 6) (hv : ∀ c, c < 6 → h_ok (th c) (hl c)) (he : a_enough w hl 0 0 key = true)
    (hQ : ∀ fi', z_Row fi' (a_line (l_all w key 3 0) hl) → (∀ j, j < 61 ∨ 69 < j → fi' j = fi j) → Q none (151, fi', fl, fr)) :
    TT 144 0 [some (.ref 61), some (.int (nI key)), none, none, none, none, none] [] (151, fi, fl, fr) Q := by
  have o61 : z_ok 151 61 12 = true := rfl; have o69 : z_ok 151 69 1 = true := rfl
  have ll := l_all_len (key := key) hw
  obtain ⟨e1, e2, e3, e4⟩ := l_all_cnt (key := key) hw
  simp (disch := first | assumption | rfl | exact zle_0 | exact zle_1 | exact zle_2 | exact zle_3 | exact zle_4 | exact zb_0 | exact zb_1 | exact zb01_B | omega) only [zT144_0, zr_aload_0, zT144_1, zr_iload_1, zT144_2, zr_iv_143, zcl_i, zcl_r, zcl_l, zcl_n, zv_some, zv_none, Nat.reduceAdd, Nat.reduceMul, Nat.reduceSub, Nat.reduceLT, Nat.reduceLeDiff, Nat.reduceEqDiff, Int.reduceToNat, true_implies, false_implies, implies_true, and_true, true_and, not_true_eq_false, not_false_eq_true, Nat.zero_add, Nat.add_zero, nI_add, nI_ltI, nI_leI, nI_eq, pk_mul, pk_sub, u2_same, u2_row, u2_other, olt_T, olt_F, ole_T, ole_F, oeq_T, oeq_F]
  refine sp_ask hf hw hkey hr (fun f1 h1 h2 h3 => ?_)
  simp (disch := first | assumption | rfl | exact zle_0 | exact zle_1 | exact zle_2 | exact zle_3 | exact zle_4 | exact zb_0 | exact zb_1 | exact zb01_B | omega) only [zT144_5, zr_aload_0, zT144_6, zr_ic_0, zT144_7, zr_pf_26, zT144_10, zT144_11, zr_istore_2, zcl_i, zcl_r, zcl_l, zcl_n, zv_some, zv_none, Nat.reduceAdd, Nat.reduceMul, Nat.reduceSub, Nat.reduceLT, Nat.reduceLeDiff, Nat.reduceEqDiff, Int.reduceToNat, true_implies, false_implies, implies_true, and_true, true_and, not_true_eq_false, not_false_eq_true, Nat.zero_add, Nat.add_zero, nI_add, nI_ltI, nI_leI, nI_eq, pk_mul, pk_sub, u2_same, u2_row, u2_other, olt_T, olt_F, ole_T, ole_F, oeq_T, oeq_F]
  refine sp_line_ hf hw hkey (K := n_sum (n_kn w) key 3) (R := a_line (l_all w key 3 0) hl) 3 0 rfl _ hl [] _ _ _ _ (hr.fr (fun j j1 j2 => ?_)) ⟨?_, hv, ?_, a_enough_cov hw he, by simpa using ll, rfl, fun p hp => absurd hp List.not_mem_nil, ?_, fun j p hj => absurd hj (by simp), fun e he => absurd he (Nat.not_lt_zero _)⟩ (fun fi' hl' P' g1 g2 => hQ fi' ?_ (fun j hj => ?_))
  · simp (disch := omega) only [u2_ne]
    exact h2 j (by omega) (by omega)
  · refine hc.frame (fun j j1 j2 => ?_)
    by_cases e : j = 67
    · omega
    · simp (disch := omega) only [u2_ne]
      exact h2 j (by omega) (by omega)
  · rw [e1, e2, e3, e4]
    obtain ⟨n1, n2, n3, n4, n5⟩ := h1
    refine ⟨?_, ?_, ?_, ?_, ?_⟩ <;> simp (disch := omega) only [u2_other, u2_row] <;> assumption
  · rw [u2_same]; rfl
  · obtain ⟨-, -, -, -, hlen, hR, hP, hL, h68, h69⟩ := g1
    have : a_line (l_all w key 3 0) hl = P' := by rw [hR]; exact List.append_nil _
    rw [this]
    exact ⟨by simpa using hlen, hP, hL, h68, h69⟩
  · rw [g2 j hj]
    simp (disch := omega) only [u2_ne]
    exact h2 j (by omega) (by omega)
end
