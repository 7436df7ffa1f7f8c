/-! the model's read -/
section
variable {fi fi' : Nat → Nat → Int32} {fl fl' : Nat → Nat → Int64} {fr : Nat → Nat → Option Nat} {Q : Option Value → Mm → Prop} {w : Nat → Nat} {k : Nat} {M : Mm} {ws : Nat → Nat → Nat} {nn tx : Nat → Nat} {n : Nat}
/-- only places, faults, items have changed -/
def z_fd (fi fi' : Nat → Nat → Int32) : Prop := (∀ f, f ≠ 79 → f ≠ 80 → f ≠ 78 → fi' 133 f = fi 133 f) ∧ ∀ j, j ≠ 133 → j ≠ 138 → j ≠ 139 → fi' j = fi j
theorem z_Jt.app {P : List (Nat × List Nat)} {x : Nat} {l : List Nat} (h : z_Jt fi P) (hP : ∀ it ∈ P, it.2.length ≤ 5)
    (h1 : fi' 138 P.length = nI x) (h2 : ∀ j, j < P.length → fi' 138 j = fi 138 j) (h3 : ∀ j y, l[j]? = some y → fi' 139 (5 * P.length + j) = nI y) (h4 : ∀ j, j < 5 * P.length → fi' 139 j = fi 139 j) : z_Jt fi' (P ++ [(x, l)]) := by
  intro i y m hi
  by_cases e : i < P.length
  · rw [List.getElem?_append_left e] at hi
    obtain ⟨q1, q2⟩ := h i y m hi
    refine ⟨by rw [h2 i e]; exact q1, fun j z hj => ?_⟩
    have m5 := hP (y, m) (List.mem_of_getElem? hi)
    have jl : j < m.length := by
      rcases Nat.lt_or_ge j m.length with q | q
      · exact q
      · rw [List.getElem?_eq_none q] at hj; exact absurd hj (by simp)
    have m5' : m.length ≤ 5 := m5
    rw [h4 _ (by omega)]
    exact q2 j z hj
  · rw [List.getElem?_append_right (by omega)] at hi
    have : i - P.length < 1 := by
      rcases Nat.lt_or_ge (i - P.length) 1 with q | q
      · exact q
      · rw [List.getElem?_eq_none (by simpa using q)] at hi
        exact absurd hi (by simp)
    obtain rfl : i = P.length := by omega
    rw [Nat.sub_self] at hi
    have h5 : (x, l) = (y, m) := by simpa using hi
    have e1 : x = y := congrArg Prod.fst h5
    have e2 : l = m := congrArg Prod.snd h5
    subst e1 e2
    exact ⟨h1, h3⟩
theorem ym_pa_ (hf : z_FR fr) (hb : ∀ i, i < n → tx i < 256) (h200 : n ≤ 200)
    (hQ1 : ∀ r, a_parse tx n 40 (sk tx n 0) = (none, r) → ∀ fi', r ≤ n → z_fd fi fi' → fi' 133 80 = nI r → TT 35 37 [some (.ref 133), none] [] (151, fi', fl, fr) Q)
    (hQ2 : ∀ l r, a_parse tx n 40 (sk tx n 0) = (some l, r) → (∀ it ∈ l, okIt it) → l.length ≤ 40 → ∀ fi', z_fd fi fi' → fi' 133 80 = nM 1 → fi' 133 78 = nI l.length → z_Jt fi' l → TT 35 37 [some (.ref 133), none] [] (151, fi', fl, fr) Q) :
    ∀ f (P : List (Nat × List Nat)) p, P.length + f = 40 → p ≤ n → n ≤ sk tx n p + 5 * f → (∀ it ∈ P, okIt it) → (∀ x r, a_parse tx n f (sk tx n p) = (x, r) → a_parse tx n 40 (sk tx n 0) = (x.map (P ++ ·), r)) → ∀ f1 : Nat → Nat → Int32, z_MT f1 tx n → f1 133 79 = nI p → f1 133 80 = nM 1 → f1 133 78 = nI P.length → z_Jt f1 P → z_fd fi f1 →
    TT 35 15 [some (.ref 133), none] [] (151, f1, fl, fr) Q := by
  have o133 : z_ok 151 133 20 = true := rfl; have o136 : z_ok 151 136 1 = true := rfl; have o138 : z_ok 151 138 1 = true := rfl; have o139 : z_ok 151 139 1 = true := rfl
  intro f
  induction f with
  | zero =>
    intro P p hP hpn hm hok hpa f1 ht hat hft hit hJ hfd
    have sn : sk tx n p ≤ n := (ren_le hpn).2
    have e : sk tx n p = n := by omega
    have en := fun Q => sm_end (fl := fl) (Q := Q) hf hpn ht hat
    rw [decide_eq_true e] at en
    have pa := hpa (some []) 0 rfl
    have o := hQ2 P 0 (by rw [pa]; simp) hok (by omega) (u2 f1 133 79 (nI (sk tx n p))) ⟨fun f a b c => by rw [u2_row a]; exact hfd.1 f a b c, fun j a b c => by rw [u2_ne a]; exact hfd.2 j a b c⟩ (by rw [u2_row (by decide)]; exact hft) (by rw [u2_row (by decide)]; exact hit) (fun i x l hi => by rw [u2_ne (by decide), u2_ne (by decide)]; exact hJ i x l hi)
    simp (disch := first | assumption | rfl | exact zle_0 | exact zle_1 | exact zle_2 | exact zle_3 | exact zle_4 | exact zb_0 | exact zb_1 | exact zb01_B | omega) only [zT35_15, zr_aload_0, zT35_16, zr_gf_80, zT35_19, zr_ic_m1, zT35_20, zr_icmp_ne, zT35_23, zT35_24, zr_iv_28, zT35_27, zr_if_ne, zcl_i, zcl_r, zcl_l, zcl_n, zv_some, zv_none, Nat.reduceAdd, Nat.reduceMul, Nat.reduceSub, Nat.reduceLT, Nat.reduceLeDiff, Nat.reduceEqDiff, Int.reduceToNat, true_implies, false_implies, implies_true, and_true, true_and, not_true_eq_false, not_false_eq_true, Nat.zero_add, Nat.add_zero, nI_add, nI_ltI, nI_leI, nI_eq, pk_mul, pk_sub, u2_same, u2_row, u2_other, hft, en, zB_eq0, reduceCtorEq, olt_T, olt_F, ole_T, ole_F, oeq_T, oeq_F]
    exact o
  | succ f ih =>
    intro P p hP hpn hm hok hpa f1 ht hat hft hit hJ hfd
    have sn : sk tx n p ≤ n := (ren_le hpn).2
    have en := fun Q => sm_end (fl := fl) (Q := Q) hf hpn ht hat
    by_cases e : sk tx n p = n
    · rw [decide_eq_true e] at en
      have pa := hpa (some []) 0 (by rw [a_parse, if_neg (by omega)])
      have o := hQ2 P 0 (by rw [pa]; simp) hok (by omega) (u2 f1 133 79 (nI (sk tx n p))) ⟨fun f a b c => by rw [u2_row a]; exact hfd.1 f a b c, fun j a b c => by rw [u2_ne a]; exact hfd.2 j a b c⟩ (by rw [u2_row (by decide)]; exact hft) (by rw [u2_row (by decide)]; exact hit) (fun i x l hi => by rw [u2_ne (by decide), u2_ne (by decide)]; exact hJ i x l hi)
      simp (disch := first | assumption | rfl | exact zle_0 | exact zle_1 | exact zle_2 | exact zle_3 | exact zle_4 | exact zb_0 | exact zb_1 | exact zb01_B | omega) only [zT35_15, zr_aload_0, zT35_16, zr_gf_80, zT35_19, zr_ic_m1, zT35_20, zr_icmp_ne, zT35_23, zT35_24, zr_iv_28, zT35_27, zr_if_ne, zcl_i, zcl_r, zcl_l, zcl_n, zv_some, zv_none, Nat.reduceAdd, Nat.reduceMul, Nat.reduceSub, Nat.reduceLT, Nat.reduceLeDiff, Nat.reduceEqDiff, Int.reduceToNat, true_implies, false_implies, implies_true, and_true, true_and, not_true_eq_false, not_false_eq_true, Nat.zero_add, Nat.add_zero, nI_add, nI_ltI, nI_leI, nI_eq, pk_mul, pk_sub, u2_same, u2_row, u2_other, hft, en, zB_eq0, reduceCtorEq, olt_T, olt_F, ole_T, ole_F, oeq_T, oeq_F]
      exact o
    · rw [decide_eq_false e] at en
      have pl : sk tx n p < n := by omega
      have ht2 : z_MT (u2 f1 133 79 (nI (sk tx n p))) tx n := ht.frame (by simp (disch := decide) only [u2_row]) (by simp (disch := decide) only [u2_ne])
      have ft2 : u2 f1 133 79 (nI (sk tx n p)) 133 80 = nM 1 := by rw [u2_row (by decide)]; exact hft
      have it2 : u2 f1 133 79 (nI (sk tx n p)) 133 78 = nI P.length := by rw [u2_row (by decide)]; exact hit
      simp (disch := first | assumption | rfl | exact zle_0 | exact zle_1 | exact zle_2 | exact zle_3 | exact zle_4 | exact zb_0 | exact zb_1 | exact zb01_B | omega) only [zT35_15, zr_aload_0, zcl_i, zcl_r, zcl_l, zcl_n, zv_some, zv_none, Nat.reduceAdd, Nat.reduceMul, Nat.reduceSub, Nat.reduceLT, Nat.reduceLeDiff, Nat.reduceEqDiff, Int.reduceToNat, true_implies, false_implies, implies_true, and_true, true_and, not_true_eq_false, not_false_eq_true, Nat.zero_add, Nat.add_zero, nI_add, nI_ltI, nI_leI, nI_eq, pk_mul, pk_sub, u2_same, u2_row, u2_other]
      simp (disch := first | assumption | rfl | exact zle_0 | exact zle_1 | exact zle_2 | exact zle_3 | exact zle_4 | exact zb_0 | exact zb_1 | exact zb01_B | omega) only [zT35_16, zr_gf_80, zT35_19, zr_ic_m1, zT35_20, zr_icmp_ne, zT35_23, zr_aload_0, zT35_24, zr_iv_28, zT35_27, zr_if_ne, zT35_30, zT35_31, zr_iv_33, zcl_i, zcl_r, zcl_l, zcl_n, zv_some, zv_none, Nat.reduceAdd, Nat.reduceMul, Nat.reduceSub, Nat.reduceLT, Nat.reduceLeDiff, Nat.reduceEqDiff, Int.reduceToNat, true_implies, false_implies, implies_true, and_true, true_and, not_true_eq_false, not_false_eq_true, Nat.zero_add, Nat.add_zero, nI_add, nI_ltI, nI_leI, nI_eq, pk_mul, pk_sub, u2_same, u2_row, u2_other, hft, en, zB_eq0, olt_T, olt_F, ole_T, ole_F, oeq_T, oeq_F]
      refine sm_takeItem hf ht2 (p := sk tx n p) u2_same sn (show P.length < 50 by omega) it2 ft2 (fun r h1 hr f2 g1 g2 => ?_) (fun x l r h1 f2 g1 g2 g3 g4 g5 g6 => ?_)
      · have pa := hpa none r (by rw [a_parse, if_pos pl, h1])
        have nm := nM_eqI (k := 1) (a := r) (by decide) (by decide) (by omega)
        have o := hQ1 r (by rw [pa]; rfl) f2 hr ⟨fun f a b c => by rw [g2.1 f a b c, u2_row a]; exact hfd.1 f a b c, fun j a b c => by rw [g2.2.1 j a b c, u2_ne a]; exact hfd.2 j a b c⟩ g1
        simp (disch := first | assumption | rfl | exact zle_0 | exact zle_1 | exact zle_2 | exact zle_3 | exact zle_4 | exact zb_0 | exact zb_1 | exact zb01_B | omega) only [zT35_34, zr_goto, zcl_i, zcl_r, zcl_l, zcl_n, zv_some, zv_none, Nat.reduceAdd, Nat.reduceMul, Nat.reduceSub, Nat.reduceLT, Nat.reduceLeDiff, Nat.reduceEqDiff, Int.reduceToNat, true_implies, false_implies, implies_true, and_true, true_and, not_true_eq_false, not_false_eq_true, Nat.zero_add, Nat.add_zero, nI_add, nI_ltI, nI_leI, nI_eq, pk_mul, pk_sub, u2_same, u2_row, u2_other, olt_T, olt_F, ole_T, ole_F, oeq_T, oeq_F]
        simp (disch := first | assumption | rfl | exact zle_0 | exact zle_1 | exact zle_2 | exact zle_3 | exact zle_4 | exact zb_0 | exact zb_1 | exact zb01_B | omega) only [zT35_15, zr_aload_0, zT35_16, zr_gf_80, zT35_19, zr_ic_m1, zT35_20, zr_icmp_ne, zcl_i, zcl_r, zcl_l, zcl_n, zv_some, zv_none, Nat.reduceAdd, Nat.reduceMul, Nat.reduceSub, Nat.reduceLT, Nat.reduceLeDiff, Nat.reduceEqDiff, Int.reduceToNat, true_implies, false_implies, implies_true, and_true, true_and, not_true_eq_false, not_false_eq_true, Nat.zero_add, Nat.add_zero, nI_add, nI_ltI, nI_leI, nI_eq, pk_mul, pk_sub, u2_same, u2_row, u2_other, g1, nm, olt_T, olt_F, ole_T, ole_F, oeq_T, oeq_F]
        exact o
      · obtain ⟨q1, q2, q3, q4, q5⟩ := a_item_q hb sn h1
        have s2 : r ≤ sk tx n r := (ren_le q5).1
        simp (disch := first | assumption | rfl | exact zle_0 | exact zle_1 | exact zle_2 | exact zle_3 | exact zle_4 | exact zb_0 | exact zb_1 | exact zb01_B | omega) only [zT35_34, zr_goto, zcl_i, zcl_r, zcl_l, zcl_n, zv_some, zv_none, Nat.reduceAdd, Nat.reduceMul, Nat.reduceSub, Nat.reduceLT, Nat.reduceLeDiff, Nat.reduceEqDiff, Int.reduceToNat, true_implies, false_implies, implies_true, and_true, true_and, not_true_eq_false, not_false_eq_true, Nat.zero_add, Nat.add_zero, nI_add, nI_ltI, nI_leI, nI_eq, pk_mul, pk_sub, u2_same, u2_row, u2_other, olt_T, olt_F, ole_T, ole_F, oeq_T, oeq_F]
        refine ih (P ++ [(x, l)]) r (by rw [List.length_append, List.length_singleton]; omega) q5 (by omega) (fun it hit' => ?_) (fun y r2 h2 => ?_) f2 ?_ g1 g2 (by rw [List.length_append, List.length_singleton]; exact g3) (z_Jt.app (fi := f1) hJ (fun it hit' => by rw [(hok it hit').2.1]; exact nb_le _ (hok it hit').1) g4 (fun j hj => ?_) g5 (fun j hj => ?_)) ⟨fun f a b c => by rw [g6.1 f a b c, u2_row a]; exact hfd.1 f a b c, fun j a b c => by rw [g6.2.1 j a b c, u2_ne a]; exact hfd.2 j a b c⟩
        · rcases List.mem_append.mp hit' with hit' | hit'
          · exact hok it hit'
          · rw [List.mem_singleton.mp hit']; exact ⟨q1, q2, q3⟩
        · cases y with
          | none =>
            have := hpa none r2 (by rw [a_parse, if_pos pl, h1]; dsimp only; rw [h2])
            exact this
          | some L =>
            have := hpa (some ((x, l) :: L)) r2 (by rw [a_parse, if_pos pl, h1]; dsimp only; rw [h2])
            rw [this]
            simp
        · exact ht2.frame (g6.1 _ (by decide) (by decide) (by decide)) (g6.2.1 136 (by decide) (by decide) (by decide))
        · rw [g6.2.2.1 j hj, u2_ne (by decide)]
        · rw [g6.2.2.2 j hj, u2_ne (by decide)]
theorem sm_tellItem (hf : z_FR fr) {l : List (Nat × List Nat)} {i : Nat} {it : Nat × List Nat} (hl : l.length ≤ 40) (hI : z_Jt fi l) (hi : l[i]? = some it) (hok : okIt it) (hr : z_MR fi 330 w) (hw : a_W w)
    (hQ : ∀ fi', z_MR fi' 330 (o_tell w it).2 → z_or_ fi fi' 330 → Q (some (.int (o_tell w it).1)) (151, fi', fl, fr)) :
    TT 34 0 [some (.ref 133), some (.int (nI i)), none, none] [] (151, fi, fl, fr) Q := by
  have o133 : z_ok 151 133 20 = true := rfl; have o138 : z_ok 151 138 1 = true := rfl; have o139 : z_ok 151 139 1 = true := rfl
  have l138 : z_al 138 = 50 := rfl; have l139 : z_al 139 = 250 := rfl
  obtain ⟨x, nl⟩ := it
  obtain ⟨k1, k2, k3⟩ := hok
  obtain ⟨e1, e2⟩ := hI i x nl hi
  have il : i < l.length := by
    rcases Nat.lt_or_ge i l.length with q | q
    · exact q
    · rw [List.getElem?_eq_none q] at hi; exact absurd hi (by simp)
  have k1' : x < 5 := k1
  have k2' : nl.length = nb x := k2
  have t0 : z_tab 123 0 3 #[56, 66, 74, 114] (nI 0) = some 56 := by decide +kernel
  have t1 : z_tab 123 0 3 #[56, 66, 74, 114] (nI 1) = some 66 := by decide +kernel
  have t2 : z_tab 123 0 3 #[56, 66, 74, 114] (nI 2) = some 74 := by decide +kernel
  have t3 : z_tab 123 0 3 #[56, 66, 74, 114] (nI 3) = some 114 := by decide +kernel
  have t4 : z_tab 123 0 3 #[56, 66, 74, 114] (nI 4) = some 123 := by decide +kernel
  have : x = 0 ∨ x = 1 ∨ x = 2 ∨ x = 3 ∨ x = 4 := by omega
  rcases this with rfl | rfl | rfl | rfl | rfl
  · have n2 : nl.length = 2 := k2'
    rcases nl with _ | ⟨a, _ | ⟨b, _ | ⟨c, nl⟩⟩⟩
    · exact absurd n2 (by simp)
    · exact absurd n2 (by simp)
    · have q0 := e2 0 a rfl
      have q1 := e2 1 b rfl
      rw [Nat.add_zero] at q0
      simp (disch := first | assumption | rfl | exact zle_0 | exact zle_1 | exact zle_2 | exact zle_3 | exact zle_4 | exact zb_0 | exact zb_1 | exact zb01_B | omega) only [zT34_0, zr_aload_0, zT34_1, zr_gf_77, zr_or, zr_go, zf_133_77, zT34_4, zr_ic_5, zT34_5, zr_iload_1, zT34_6, zr_imul, zT34_7, zr_iald, zT34_8, zr_istore_2, zT34_9, zT34_10, zT34_13, zT34_14, zT34_15, zT34_16, zr_ic_1, zT34_17, zr_iadd, zT34_18, zT34_19, zr_istore_3, zT34_20, zT34_21, zr_gf_76, zf_133_76, zT34_24, zT34_25, zT34_26, zr_tab, zT34_56, zT34_57, zr_ic_330, zT34_60, zr_iload_2, zT34_61, zr_iload_3, zT34_62, zr_iv_11, zT34_65, zr_ret0, zT34_66, zT34_67, zT34_70, zr_iv_12, zT34_73, zT34_74, zT34_75, zT34_78, zT34_79, zT34_80, zT34_81, zT34_84, zT34_85, zT34_86, zT34_87, zr_ic_2, zT34_88, zT34_89, zT34_90, zT34_91, zT34_94, zT34_95, zT34_96, zT34_97, zr_ic_3, zT34_98, zT34_99, zT34_100, zT34_101, zT34_104, zT34_105, zT34_106, zT34_107, zr_ic_4, zT34_108, zT34_109, zT34_110, zr_iv_13, zT34_113, zT34_114, zT34_115, zT34_118, zT34_119, zr_iv_14, zT34_122, zT34_123, zT34_124, zT34_127, zT34_128, zr_iv_15, zT34_131, zcl_i, zcl_r, zcl_l, zcl_n, zv_some, zv_none, Nat.reduceAdd, Nat.reduceMul, Nat.reduceSub, Nat.reduceLT, Nat.reduceLeDiff, Nat.reduceEqDiff, Int.reduceToNat, true_implies, false_implies, implies_true, and_true, true_and, not_true_eq_false, not_false_eq_true, Nat.zero_add, Nat.add_zero, nI_add, nI_ltI, nI_leI, nI_eq, pk_mul, pk_sub, u2_same, u2_row, u2_other, e1, t0, q0, q1, olt_T, olt_F, ole_T, ole_F, oeq_T, oeq_F]
      exact sm_oCook hf (by decide) hr hw (fun f' g1 g2 => by have := hQ f' g1 g2; simp (disch := first | assumption | rfl | exact zle_0 | exact zle_1 | exact zle_2 | exact zle_3 | exact zle_4 | exact zb_0 | exact zb_1 | exact zb01_B | omega) only [zT34_65, zr_ret0, zcl_i, zcl_r, zcl_l, zcl_n, zv_some, zv_none, Nat.reduceAdd, Nat.reduceMul, Nat.reduceSub, Nat.reduceLT, Nat.reduceLeDiff, Nat.reduceEqDiff, Int.reduceToNat, true_implies, false_implies, implies_true, and_true, true_and, not_true_eq_false, not_false_eq_true, Nat.zero_add, Nat.add_zero, nI_add, nI_ltI, nI_leI, nI_eq, pk_mul, pk_sub, u2_same, u2_row, u2_other, olt_T, olt_F, ole_T, ole_F, oeq_T, oeq_F]; exact this)
    · exact absurd n2 (by simp)
  · simp (disch := first | assumption | rfl | exact zle_0 | exact zle_1 | exact zle_2 | exact zle_3 | exact zle_4 | exact zb_0 | exact zb_1 | exact zb01_B | omega) only [zT34_0, zr_aload_0, zT34_1, zr_gf_77, zr_or, zr_go, zf_133_77, zT34_4, zr_ic_5, zT34_5, zr_iload_1, zT34_6, zr_imul, zT34_7, zr_iald, zT34_8, zr_istore_2, zT34_9, zT34_10, zT34_13, zT34_14, zT34_15, zT34_16, zr_ic_1, zT34_17, zr_iadd, zT34_18, zT34_19, zr_istore_3, zT34_20, zT34_21, zr_gf_76, zf_133_76, zT34_24, zT34_25, zT34_26, zr_tab, zT34_56, zT34_57, zr_ic_330, zT34_60, zr_iload_2, zT34_61, zr_iload_3, zT34_62, zr_iv_11, zT34_65, zr_ret0, zT34_66, zT34_67, zT34_70, zr_iv_12, zT34_73, zT34_74, zT34_75, zT34_78, zT34_79, zT34_80, zT34_81, zT34_84, zT34_85, zT34_86, zT34_87, zr_ic_2, zT34_88, zT34_89, zT34_90, zT34_91, zT34_94, zT34_95, zT34_96, zT34_97, zr_ic_3, zT34_98, zT34_99, zT34_100, zT34_101, zT34_104, zT34_105, zT34_106, zT34_107, zr_ic_4, zT34_108, zT34_109, zT34_110, zr_iv_13, zT34_113, zT34_114, zT34_115, zT34_118, zT34_119, zr_iv_14, zT34_122, zT34_123, zT34_124, zT34_127, zT34_128, zr_iv_15, zT34_131, zcl_i, zcl_r, zcl_l, zcl_n, zv_some, zv_none, Nat.reduceAdd, Nat.reduceMul, Nat.reduceSub, Nat.reduceLT, Nat.reduceLeDiff, Nat.reduceEqDiff, Int.reduceToNat, true_implies, false_implies, implies_true, and_true, true_and, not_true_eq_false, not_false_eq_true, Nat.zero_add, Nat.add_zero, nI_add, nI_ltI, nI_leI, nI_eq, pk_mul, pk_sub, u2_same, u2_row, u2_other, e1, t1, olt_T, olt_F, ole_T, ole_F, oeq_T, oeq_F]
    exact sm_oDish hf (by decide) hr hw (fun f' g1 g2 => by have := hQ f' g1 g2; simp (disch := first | assumption | rfl | exact zle_0 | exact zle_1 | exact zle_2 | exact zle_3 | exact zle_4 | exact zb_0 | exact zb_1 | exact zb01_B | omega) only [zT34_73, zr_ret0, zcl_i, zcl_r, zcl_l, zcl_n, zv_some, zv_none, Nat.reduceAdd, Nat.reduceMul, Nat.reduceSub, Nat.reduceLT, Nat.reduceLeDiff, Nat.reduceEqDiff, Int.reduceToNat, true_implies, false_implies, implies_true, and_true, true_and, not_true_eq_false, not_false_eq_true, Nat.zero_add, Nat.add_zero, nI_add, nI_ltI, nI_leI, nI_eq, pk_mul, pk_sub, u2_same, u2_row, u2_other, olt_T, olt_F, ole_T, ole_F, oeq_T, oeq_F]; exact this)
  · have n2 : nl.length = 5 := k2'
    rcases nl with _ | ⟨a, _ | ⟨b, _ | ⟨c, _ | ⟨d, _ | ⟨e, _ | ⟨f, nl⟩⟩⟩⟩⟩⟩
    · exact absurd n2 (by simp)
    · exact absurd n2 (by simp)
    · exact absurd n2 (by simp)
    · exact absurd n2 (by simp)
    · exact absurd n2 (by simp)
    · have q0 := e2 0 a rfl
      have q1 := e2 1 b rfl
      have q2 := e2 2 c rfl
      have q3 := e2 3 d rfl
      have q4 := e2 4 e rfl
      rw [Nat.add_zero] at q0
      simp (disch := first | assumption | rfl | exact zle_0 | exact zle_1 | exact zle_2 | exact zle_3 | exact zle_4 | exact zb_0 | exact zb_1 | exact zb01_B | omega) only [zT34_0, zr_aload_0, zT34_1, zr_gf_77, zr_or, zr_go, zf_133_77, zT34_4, zr_ic_5, zT34_5, zr_iload_1, zT34_6, zr_imul, zT34_7, zr_iald, zT34_8, zr_istore_2, zT34_9, zT34_10, zT34_13, zT34_14, zT34_15, zT34_16, zr_ic_1, zT34_17, zr_iadd, zT34_18, zT34_19, zr_istore_3, zT34_20, zT34_21, zr_gf_76, zf_133_76, zT34_24, zT34_25, zT34_26, zr_tab, zT34_56, zT34_57, zr_ic_330, zT34_60, zr_iload_2, zT34_61, zr_iload_3, zT34_62, zr_iv_11, zT34_65, zr_ret0, zT34_66, zT34_67, zT34_70, zr_iv_12, zT34_73, zT34_74, zT34_75, zT34_78, zT34_79, zT34_80, zT34_81, zT34_84, zT34_85, zT34_86, zT34_87, zr_ic_2, zT34_88, zT34_89, zT34_90, zT34_91, zT34_94, zT34_95, zT34_96, zT34_97, zr_ic_3, zT34_98, zT34_99, zT34_100, zT34_101, zT34_104, zT34_105, zT34_106, zT34_107, zr_ic_4, zT34_108, zT34_109, zT34_110, zr_iv_13, zT34_113, zT34_114, zT34_115, zT34_118, zT34_119, zr_iv_14, zT34_122, zT34_123, zT34_124, zT34_127, zT34_128, zr_iv_15, zT34_131, zcl_i, zcl_r, zcl_l, zcl_n, zv_some, zv_none, Nat.reduceAdd, Nat.reduceMul, Nat.reduceSub, Nat.reduceLT, Nat.reduceLeDiff, Nat.reduceEqDiff, Int.reduceToNat, true_implies, false_implies, implies_true, and_true, true_and, not_true_eq_false, not_false_eq_true, Nat.zero_add, Nat.add_zero, nI_add, nI_ltI, nI_leI, nI_eq, pk_mul, pk_sub, u2_same, u2_row, u2_other, e1, t2, q0, q1, q2, q3, q4, olt_T, olt_F, ole_T, ole_F, oeq_T, oeq_F]
      exact sm_oStep hf (by decide) hr hw (fun f' g1 g2 => by have := hQ f' g1 g2; simp (disch := first | assumption | rfl | exact zle_0 | exact zle_1 | exact zle_2 | exact zle_3 | exact zle_4 | exact zb_0 | exact zb_1 | exact zb01_B | omega) only [zT34_113, zr_ret0, zcl_i, zcl_r, zcl_l, zcl_n, zv_some, zv_none, Nat.reduceAdd, Nat.reduceMul, Nat.reduceSub, Nat.reduceLT, Nat.reduceLeDiff, Nat.reduceEqDiff, Int.reduceToNat, true_implies, false_implies, implies_true, and_true, true_and, not_true_eq_false, not_false_eq_true, Nat.zero_add, Nat.add_zero, nI_add, nI_ltI, nI_leI, nI_eq, pk_mul, pk_sub, u2_same, u2_row, u2_other, olt_T, olt_F, ole_T, ole_F, oeq_T, oeq_F]; exact this)
    · exact absurd n2 (by simp)
  · have n2 : nl.length = 1 := k2'
    rcases nl with _ | ⟨a, _ | ⟨b, nl⟩⟩
    · exact absurd n2 (by simp)
    · have q0 := e2 0 a rfl
      rw [Nat.add_zero] at q0
      simp (disch := first | assumption | rfl | exact zle_0 | exact zle_1 | exact zle_2 | exact zle_3 | exact zle_4 | exact zb_0 | exact zb_1 | exact zb01_B | omega) only [zT34_0, zr_aload_0, zT34_1, zr_gf_77, zr_or, zr_go, zf_133_77, zT34_4, zr_ic_5, zT34_5, zr_iload_1, zT34_6, zr_imul, zT34_7, zr_iald, zT34_8, zr_istore_2, zT34_9, zT34_10, zT34_13, zT34_14, zT34_15, zT34_16, zr_ic_1, zT34_17, zr_iadd, zT34_18, zT34_19, zr_istore_3, zT34_20, zT34_21, zr_gf_76, zf_133_76, zT34_24, zT34_25, zT34_26, zr_tab, zT34_56, zT34_57, zr_ic_330, zT34_60, zr_iload_2, zT34_61, zr_iload_3, zT34_62, zr_iv_11, zT34_65, zr_ret0, zT34_66, zT34_67, zT34_70, zr_iv_12, zT34_73, zT34_74, zT34_75, zT34_78, zT34_79, zT34_80, zT34_81, zT34_84, zT34_85, zT34_86, zT34_87, zr_ic_2, zT34_88, zT34_89, zT34_90, zT34_91, zT34_94, zT34_95, zT34_96, zT34_97, zr_ic_3, zT34_98, zT34_99, zT34_100, zT34_101, zT34_104, zT34_105, zT34_106, zT34_107, zr_ic_4, zT34_108, zT34_109, zT34_110, zr_iv_13, zT34_113, zT34_114, zT34_115, zT34_118, zT34_119, zr_iv_14, zT34_122, zT34_123, zT34_124, zT34_127, zT34_128, zr_iv_15, zT34_131, zcl_i, zcl_r, zcl_l, zcl_n, zv_some, zv_none, Nat.reduceAdd, Nat.reduceMul, Nat.reduceSub, Nat.reduceLT, Nat.reduceLeDiff, Nat.reduceEqDiff, Int.reduceToNat, true_implies, false_implies, implies_true, and_true, true_and, not_true_eq_false, not_false_eq_true, Nat.zero_add, Nat.add_zero, nI_add, nI_ltI, nI_leI, nI_eq, pk_mul, pk_sub, u2_same, u2_row, u2_other, e1, t3, q0, olt_T, olt_F, ole_T, ole_F, oeq_T, oeq_F]
      exact sm_oKnives hf (by decide) hr hw (fun f' g1 g2 => by have := hQ f' g1 g2; simp (disch := first | assumption | rfl | exact zle_0 | exact zle_1 | exact zle_2 | exact zle_3 | exact zle_4 | exact zb_0 | exact zb_1 | exact zb01_B | omega) only [zT34_122, zr_ret0, zcl_i, zcl_r, zcl_l, zcl_n, zv_some, zv_none, Nat.reduceAdd, Nat.reduceMul, Nat.reduceSub, Nat.reduceLT, Nat.reduceLeDiff, Nat.reduceEqDiff, Int.reduceToNat, true_implies, false_implies, implies_true, and_true, true_and, not_true_eq_false, not_false_eq_true, Nat.zero_add, Nat.add_zero, nI_add, nI_ltI, nI_leI, nI_eq, pk_mul, pk_sub, u2_same, u2_row, u2_other, olt_T, olt_F, ole_T, ole_F, oeq_T, oeq_F]; exact this)
    · exact absurd n2 (by simp)
  · simp (disch := first | assumption | rfl | exact zle_0 | exact zle_1 | exact zle_2 | exact zle_3 | exact zle_4 | exact zb_0 | exact zb_1 | exact zb01_B | omega) only [zT34_0, zr_aload_0, zT34_1, zr_gf_77, zr_or, zr_go, zf_133_77, zT34_4, zr_ic_5, zT34_5, zr_iload_1, zT34_6, zr_imul, zT34_7, zr_iald, zT34_8, zr_istore_2, zT34_9, zT34_10, zT34_13, zT34_14, zT34_15, zT34_16, zr_ic_1, zT34_17, zr_iadd, zT34_18, zT34_19, zr_istore_3, zT34_20, zT34_21, zr_gf_76, zf_133_76, zT34_24, zT34_25, zT34_26, zr_tab, zT34_56, zT34_57, zr_ic_330, zT34_60, zr_iload_2, zT34_61, zr_iload_3, zT34_62, zr_iv_11, zT34_65, zr_ret0, zT34_66, zT34_67, zT34_70, zr_iv_12, zT34_73, zT34_74, zT34_75, zT34_78, zT34_79, zT34_80, zT34_81, zT34_84, zT34_85, zT34_86, zT34_87, zr_ic_2, zT34_88, zT34_89, zT34_90, zT34_91, zT34_94, zT34_95, zT34_96, zT34_97, zr_ic_3, zT34_98, zT34_99, zT34_100, zT34_101, zT34_104, zT34_105, zT34_106, zT34_107, zr_ic_4, zT34_108, zT34_109, zT34_110, zr_iv_13, zT34_113, zT34_114, zT34_115, zT34_118, zT34_119, zr_iv_14, zT34_122, zT34_123, zT34_124, zT34_127, zT34_128, zr_iv_15, zT34_131, zcl_i, zcl_r, zcl_l, zcl_n, zv_some, zv_none, Nat.reduceAdd, Nat.reduceMul, Nat.reduceSub, Nat.reduceLT, Nat.reduceLeDiff, Nat.reduceEqDiff, Int.reduceToNat, true_implies, false_implies, implies_true, and_true, true_and, not_true_eq_false, not_false_eq_true, Nat.zero_add, Nat.add_zero, nI_add, nI_ltI, nI_leI, nI_eq, pk_mul, pk_sub, u2_same, u2_row, u2_other, e1, t4, olt_T, olt_F, ole_T, ole_F, oeq_T, oeq_F]
    exact sm_oStrike hf (by decide) hr hw (by decide) (fun f' g1 g2 => by have := hQ f' g1 g2; simp (disch := first | assumption | rfl | exact zle_0 | exact zle_1 | exact zle_2 | exact zle_3 | exact zle_4 | exact zb_0 | exact zb_1 | exact zb01_B | omega) only [zT34_131, zr_ret0, zcl_i, zcl_r, zcl_l, zcl_n, zv_some, zv_none, Nat.reduceAdd, Nat.reduceMul, Nat.reduceSub, Nat.reduceLT, Nat.reduceLeDiff, Nat.reduceEqDiff, Int.reduceToNat, true_implies, false_implies, implies_true, and_true, true_and, not_true_eq_false, not_false_eq_true, Nat.zero_add, Nat.add_zero, nI_add, nI_ltI, nI_leI, nI_eq, pk_mul, pk_sub, u2_same, u2_row, u2_other, olt_T, olt_F, ole_T, ole_F, oeq_T, oeq_F]; exact this)
theorem badA_neg {a : Int32} (h : badA a = true) : (nI 0 ≤ a) = False := by
  have h := of_decide_eq_true h
  refine eq_false ?_
  rcases h with rfl | rfl | rfl <;> decide
theorem o_tell_ans {w : Nat → Nat} (hw : a_W w) (it : Nat × List Nat) (h : badA (o_tell w it).1 = false) : (nI 0 ≤ (o_tell w it).1) = True := by
  have pos : ∀ k, k < 2 ^ 31 → (nI 0 ≤ nI k) = True := fun k hk => by rw [nI_leI (by decide) hk]; exact eq_true (Nat.zero_le _)
  have b2 : badA (nM 2) = true := by decide
  have b3 : badA (nM 3) = true := by decide
  have b4 : badA (nM 4) = true := by decide
  have h0 := hw.1.1
  have h13 := hw.1.2.2.1
  have h53 := hw.1.2.2.2.2.1
  unfold o_tell at h ⊢
  by_cases c0 : it.1 = 0
  · rw [if_pos c0] at h ⊢
    unfold o_cook at h ⊢
    by_cases c : 0 ≤ (nI (it.2.getD 0 0)).toInt ∧ (nI (it.2.getD 0 0)).toInt < 6 ∧ 0 ≤ (nI (it.2.getD 1 0)).toInt ∧ (nI (it.2.getD 1 0)).toInt ≤ 9
    · rw [if_pos c] at h ⊢
      by_cases d : w 0 = 6
      · rw [if_pos d] at h; exact absurd (b4.symm.trans h) (by decide)
      · rw [if_neg d]; exact pos _ (by omega)
    · rw [if_neg c] at h; exact absurd (b2.symm.trans h) (by decide)
  · rw [if_neg c0] at h ⊢
    by_cases c1 : it.1 = 1
    · rw [if_pos c1] at h ⊢
      unfold o_dish at h ⊢
      by_cases d : w 13 = 3
      · rw [if_pos d] at h; exact absurd (b4.symm.trans h) (by decide)
      · rw [if_neg d]; exact pos _ (by omega)
    · rw [if_neg c1] at h ⊢
      by_cases c2 : it.1 = 2
      · rw [if_pos c2] at h ⊢
        unfold o_step at h ⊢
        split at h
        · rename_i c
          rw [if_pos c]
          split at h
          · exact absurd (b4.symm.trans h) (by decide)
          · rename_i d
            rw [if_neg d]
            have := hw.sm (nI (it.2.getD 0 0)).toInt.toNat (by omega)
            exact pos _ (by omega)
        · exact absurd (b2.symm.trans h) (by decide)
      · rw [if_neg c2] at h ⊢
        by_cases c3 : it.1 = 3
        · rw [if_pos c3] at h ⊢
          unfold o_knives at h ⊢
          by_cases d : 0 ≤ (nI (it.2.getD 0 0)).toInt ∧ (nI (it.2.getD 0 0)).toInt ≤ 6
          · rw [if_pos d]; exact pos _ (by omega)
          · rw [if_neg d] at h; exact absurd (b2.symm.trans h) (by decide)
        · rw [if_neg c3] at h ⊢
          unfold o_strike at h ⊢
          by_cases d : 1 = w 54
          · rw [if_pos d] at h; exact absurd (b3.symm.trans h) (by decide)
          · rw [if_neg d]; exact pos 1 (by decide)
theorem z_or_.tr {a b c : Nat → Nat → Int32} {r : Nat} (h : z_or_ a b r) (h2 : z_or_ b c r) : z_or_ a c r := ⟨fun j hj => by rw [h2.1 j hj, h.1 j hj], fun i hi => by rw [h2.2 i hi, h.2 i hi]⟩
theorem z_Jt.frame {l : List (Nat × List Nat)} (h : z_Jt fi l) (h1 : fi' 138 = fi 138) (h2 : fi' 139 = fi 139) : z_Jt fi' l := by
  unfold z_Jt at *
  rw [h1, h2]
  exact h
theorem ym_tells (hf : z_FR fr) {L : List (Nat × List Nat)} (hl : L.length ≤ 40) (hok : ∀ it ∈ L, okIt it) {fi0 : Nat → Nat → Int32} :
    ∀ (l P : List (Nat × List Nat)), L = P ++ l → ∀ (fi : Nat → Nat → Int32) (w : Nat → Nat), fi 133 78 = nI L.length → z_Jt fi L → z_MR fi 330 w → a_W w → z_or_ fi0 fi 330 →
    (∀ i, a_tells l P.length w = (none, i) → ∀ fi', z_or_ fi0 fi' 330 → Q (some (.int (nM 1000 - nI i))) (151, fi', fl, fr)) →
    (∀ w2 r, a_tells l P.length w = (some w2, r) → ∀ fi', z_MR fi' 330 w2 → z_or_ fi0 fi' 330 → TT 35 117 [some (.ref 133), some (.int (nI L.length))] [] (151, fi', fl, fr) Q) →
    TT 35 89 [some (.ref 133), some (.int (nI P.length))] [] (151, fi, fl, fr) Q := by
  have o133 : z_ok 151 133 20 = true := rfl
  intro l
  induction l with
  | nil =>
    intro P hP fi w hit hI hr hw hfr hQ1 hQ2
    have e : P.length = L.length := by rw [hP, List.append_nil]
    have o := hQ2 w 0 rfl fi hr hfr
    rw [e]
    simp (disch := first | assumption | rfl | exact zle_0 | exact zle_1 | exact zle_2 | exact zle_3 | exact zle_4 | exact zb_0 | exact zb_1 | exact zb01_B | omega) only [zT35_89, zr_iload_1, zT35_90, zr_aload_0, zT35_91, zr_gf_78, zT35_94, zr_icmp_ge, zcl_i, zcl_r, zcl_l, zcl_n, zv_some, zv_none, Nat.reduceAdd, Nat.reduceMul, Nat.reduceSub, Nat.reduceLT, Nat.reduceLeDiff, Nat.reduceEqDiff, Int.reduceToNat, true_implies, false_implies, implies_true, and_true, true_and, not_true_eq_false, not_false_eq_true, Nat.zero_add, Nat.add_zero, nI_add, nI_ltI, nI_leI, nI_eq, pk_mul, pk_sub, u2_same, u2_row, u2_other, hit, olt_T, olt_F, ole_T, ole_F, oeq_T, oeq_F]
    exact o
  | cons it t ih =>
    intro P hP fi w hit hI hr hw hfr hQ1 hQ2
    have hget : L[P.length]? = some it := by rw [hP, List.getElem?_append_right (Nat.le_refl _), Nat.sub_self]; rfl
    have pl : P.length < L.length := by rw [hP]; simp
    simp (disch := first | assumption | rfl | exact zle_0 | exact zle_1 | exact zle_2 | exact zle_3 | exact zle_4 | exact zb_0 | exact zb_1 | exact zb01_B | omega) only [zT35_89, zr_iload_1, zcl_i, zcl_r, zcl_l, zcl_n, zv_some, zv_none, Nat.reduceAdd, Nat.reduceMul, Nat.reduceSub, Nat.reduceLT, Nat.reduceLeDiff, Nat.reduceEqDiff, Int.reduceToNat, true_implies, false_implies, implies_true, and_true, true_and, not_true_eq_false, not_false_eq_true, Nat.zero_add, Nat.add_zero, nI_add, nI_ltI, nI_leI, nI_eq, pk_mul, pk_sub, u2_same, u2_row, u2_other]
    simp (disch := first | assumption | rfl | exact zle_0 | exact zle_1 | exact zle_2 | exact zle_3 | exact zle_4 | exact zb_0 | exact zb_1 | exact zb01_B | omega) only [zT35_90, zr_aload_0, zT35_91, zr_gf_78, zT35_94, zr_icmp_ge, zT35_97, zT35_98, zr_iload_1, zT35_99, zr_iv_34, zcl_i, zcl_r, zcl_l, zcl_n, zv_some, zv_none, Nat.reduceAdd, Nat.reduceMul, Nat.reduceSub, Nat.reduceLT, Nat.reduceLeDiff, Nat.reduceEqDiff, Int.reduceToNat, true_implies, false_implies, implies_true, and_true, true_and, not_true_eq_false, not_false_eq_true, Nat.zero_add, Nat.add_zero, nI_add, nI_ltI, nI_leI, nI_eq, pk_mul, pk_sub, u2_same, u2_row, u2_other, hit, olt_T, olt_F, ole_T, ole_F, oeq_T, oeq_F]
    refine sm_tellItem hf hl hI hget (hok it (List.mem_of_getElem? hget)) hr hw (fun f1 g1 g2 => ?_)
    cases c : badA (o_tell w it).1
    · have ps := o_tell_ans hw it c
      have eT : a_tells (it :: t) P.length w = a_tells t (P.length + 1) (o_tell w it).2 := by rw [a_tells, if_neg (by rw [c]; decide)]
      have ih' := ih (P ++ [it]) (by rw [List.append_assoc]; exact hP) f1 (o_tell w it).2 (by rw [g2.1 133 (by decide)]; exact hit) (hI.frame (g2.1 138 (by decide)) (g2.1 139 (by decide))) g1 (o_tell_W hw it) (hfr.tr g2)
      rw [List.length_append, List.length_singleton, ← eT] at ih'
      have o := ih' hQ1 hQ2
      simp (disch := first | assumption | rfl | exact zle_0 | exact zle_1 | exact zle_2 | exact zle_3 | exact zle_4 | exact zb_0 | exact zb_1 | exact zb01_B | omega) only [zT35_102, zr_if_ge, zT35_105, zr_ic_m1000, zT35_108, zr_iload_1, zT35_109, zr_isub, zT35_110, zr_ret0, zT35_111, zr_iinc_1_1, zT35_114, zr_goto, zcl_i, zcl_r, zcl_l, zcl_n, zv_some, zv_none, Nat.reduceAdd, Nat.reduceMul, Nat.reduceSub, Nat.reduceLT, Nat.reduceLeDiff, Nat.reduceEqDiff, Int.reduceToNat, true_implies, false_implies, implies_true, and_true, true_and, not_true_eq_false, not_false_eq_true, Nat.zero_add, Nat.add_zero, nI_add, nI_ltI, nI_leI, nI_eq, pk_mul, pk_sub, u2_same, u2_row, u2_other, ps, olt_T, olt_F, ole_T, ole_F, oeq_T, oeq_F]
      exact o
    · have ng := badA_neg c
      have o := hQ1 P.length (by rw [a_tells, if_pos c]) f1 (hfr.tr g2)
      simp (disch := first | assumption | rfl | exact zle_0 | exact zle_1 | exact zle_2 | exact zle_3 | exact zle_4 | exact zb_0 | exact zb_1 | exact zb01_B | omega) only [zT35_102, zr_if_ge, zT35_105, zr_ic_m1000, zT35_108, zr_iload_1, zT35_109, zr_isub, zT35_110, zr_ret0, zcl_i, zcl_r, zcl_l, zcl_n, zv_some, zv_none, Nat.reduceAdd, Nat.reduceMul, Nat.reduceSub, Nat.reduceLT, Nat.reduceLeDiff, Nat.reduceEqDiff, Int.reduceToNat, true_implies, false_implies, implies_true, and_true, true_and, not_true_eq_false, not_false_eq_true, Nat.zero_add, Nat.add_zero, nI_add, nI_ltI, nI_leI, nI_eq, pk_mul, pk_sub, u2_same, u2_row, u2_other, ng, olt_T, olt_F, ole_T, ole_F, oeq_T, oeq_F]
      exact o
theorem ym_z_ (hf : z_FR fr) {fi0 : Nat → Nat → Int32} (hQ : ∀ fi', (∀ j, j < 110 → fi' 134 (330 + j) = nI 0) → z_or_ fi0 fi' 330 → TT 35 78 [some (.ref 133), some (.int (nI 110))] [] (151, fi', fl, fr) Q) :
    ∀ m i, i + m = 110 → ∀ f1, (∀ j, j < i → f1 134 (330 + j) = nI 0) → z_or_ fi0 f1 330 → TT 35 55 [some (.ref 133), some (.int (nI i))] [] (151, f1, fl, fr) Q := by
  have o133 : z_ok 151 133 20 = true := rfl; have o134 : z_ok 151 134 1 = true := rfl
  have l134 : z_al 134 = 440 := rfl
  intro m
  induction m with
  | zero =>
    intro i hi f1 h1 h2
    obtain rfl : i = 110 := by omega
    have o := hQ f1 h1 h2
    simp (disch := first | assumption | rfl | exact zle_0 | exact zle_1 | exact zle_2 | exact zle_3 | exact zle_4 | exact zb_0 | exact zb_1 | exact zb01_B | omega) only [zT35_55, zr_iload_1, zT35_56, zr_ic_110, zT35_58, zr_icmp_ge, zcl_i, zcl_r, zcl_l, zcl_n, zv_some, zv_none, Nat.reduceAdd, Nat.reduceMul, Nat.reduceSub, Nat.reduceLT, Nat.reduceLeDiff, Nat.reduceEqDiff, Int.reduceToNat, true_implies, false_implies, implies_true, and_true, true_and, not_true_eq_false, not_false_eq_true, Nat.zero_add, Nat.add_zero, nI_add, nI_ltI, nI_leI, nI_eq, pk_mul, pk_sub, u2_same, u2_row, u2_other, olt_T, olt_F, ole_T, ole_F, oeq_T, oeq_F]
    exact o
  | succ m ih =>
    intro i hi f1 h1 h2
    have ih' := ih (i + 1) (by omega) (u2 f1 134 (330 + i) (nI 0)) (fun j hj => by
      by_cases e : j = i
      · subst e; rw [u2_same]
      · rw [u2_row (by omega)]; exact h1 j (by omega)) (h2.set (by omega) (by omega))
    simp (disch := first | assumption | rfl | exact zle_0 | exact zle_1 | exact zle_2 | exact zle_3 | exact zle_4 | exact zb_0 | exact zb_1 | exact zb01_B | omega) only [zT35_55, zr_iload_1, zcl_i, zcl_r, zcl_l, zcl_n, zv_some, zv_none, Nat.reduceAdd, Nat.reduceMul, Nat.reduceSub, Nat.reduceLT, Nat.reduceLeDiff, Nat.reduceEqDiff, Int.reduceToNat, true_implies, false_implies, implies_true, and_true, true_and, not_true_eq_false, not_false_eq_true, Nat.zero_add, Nat.add_zero, nI_add, nI_ltI, nI_leI, nI_eq, pk_mul, pk_sub, u2_same, u2_row, u2_other]
    simp (disch := first | assumption | rfl | exact zle_0 | exact zle_1 | exact zle_2 | exact zle_3 | exact zle_4 | exact zb_0 | exact zb_1 | exact zb01_B | omega) only [zT35_56, zr_ic_110, zT35_58, zr_icmp_ge, zT35_61, zr_aload_0, zT35_62, zr_gf_71, zr_or, zr_go, zf_133_71, zT35_65, zr_ic_330, zT35_68, zr_iload_1, zT35_69, zr_iadd, zT35_70, zr_ic_0, zT35_71, zr_iast, zT35_72, zr_iinc_1_1, zT35_75, zr_goto, zcl_i, zcl_r, zcl_l, zcl_n, zv_some, zv_none, Nat.reduceAdd, Nat.reduceMul, Nat.reduceSub, Nat.reduceLT, Nat.reduceLeDiff, Nat.reduceEqDiff, Int.reduceToNat, true_implies, false_implies, implies_true, and_true, true_and, not_true_eq_false, not_false_eq_true, Nat.zero_add, Nat.add_zero, nI_add, nI_ltI, nI_leI, nI_eq, pk_mul, pk_sub, u2_same, u2_row, u2_other, olt_T, olt_F, ole_T, ole_F, oeq_T, oeq_F]
    exact ih'
theorem ym_read (hf : z_FR fr) (h : z_MS fi fl ws nn tx) (hg : z_G ws nn) (hQ : z_MQ fi fr Q (r_read ws nn tx).1 (r_read ws nn tx).2 nn tx) : TT 35 0 [some (.ref 133), none] [] (151, fi, fl, fr) Q := by
  have o133 : z_ok 151 133 20 = true := rfl; have o134 : z_ok 151 134 1 = true := rfl
  have l134 : z_al 134 = 440 := rfl
  have ht := h.2.2.1
  have h200 := ht.1
  have hb : ∀ i, i < nn 2 → tx i < 256 := fun i hi => (ht.2.2 i hi).1
  have keep : ∀ f1 : Nat → Nat → Int32, z_fd fi f1 → z_MS f1 fl ws nn tx := by
    intro f1 q
    obtain ⟨hk, hc, ht, hA, hB⟩ := h
    refine ⟨hk.frame (q.2 134 (by decide) (by decide) (by decide)) (q.2 135 (by decide) (by decide) (by decide)), ?_, ?_, ?_, ?_⟩
    · unfold z_MC at *; rw [q.2 137 (by decide) (by decide) (by decide)]; exact hc
    · exact ht.frame (q.1 _ (by decide) (by decide) (by decide)) (q.2 136 (by decide) (by decide) (by decide))
    · unfold z_ML at *; rw [q.1 _ (by decide) (by decide) (by decide)]; exact hA
    · unfold z_ML at *; rw [q.1 _ (by decide) (by decide) (by decide)]; exact hB
  have keep2 : ∀ f1 f2 : Nat → Nat → Int32, z_fd fi f1 → z_or_ f1 f2 330 → z_MS f2 fl ws nn tx := by
    intro f1 f2 q1 q2
    obtain ⟨hk, hc, ht, hA, hB⟩ := keep f1 q1
    refine ⟨⟨hk.1.frame (fun i a b => q2.2 i (by omega)), fun e => (hk.2.1 e).frame (fun i a b => q2.2 i (by omega)), fun e => (hk.2.2.1 e).frame (fun i a b => q2.2 i (by omega)), by rw [q2.1 135 (by decide)]; exact hk.2.2.2.1, by rw [q2.1 135 (by decide)]; exact hk.2.2.2.2⟩, ?_, ?_, ?_, ?_⟩
    · unfold z_MC at *; rw [q2.1 137 (by decide)]; exact hc
    · unfold z_MT at *; rw [q2.1 133 (by decide), q2.1 136 (by decide)]; exact ht
    · unfold z_ML at *; rw [q2.1 133 (by decide)]; exact hA
    · unfold z_ML at *; rw [q2.1 133 (by decide)]; exact hB
  have low : ∀ f1 : Nat → Nat → Int32, z_fd fi f1 → ∀ j, j < 133 → f1 j = fi j := fun f1 q j hj => q.2 j (by omega) (by omega) (by omega)
  unfold r_read at hQ
  have fd0 : z_fd fi (u2 (u2 (u2 fi 133 79 (nI 0)) 133 78 (nI 0)) 133 80 (nM 1)) := ⟨fun f a b c => by rw [u2_row b, u2_row c, u2_row a], fun j a b c => by rw [u2_ne a, u2_ne a, u2_ne a]⟩
  have L := ym_pa_ (fi := fi) (fl := fl) (Q := Q) hf hb h200 (fun r h1 f1 hr q1 q2 => by
    rw [h1] at hQ
    have nm := nM_eqI (k := 1) (a := r) (by decide) (by decide) (by omega)
    have o := hQ f1 fl (keep f1 q1) (low f1 q1)
    simp (disch := first | assumption | rfl | exact zle_0 | exact zle_1 | exact zle_2 | exact zle_3 | exact zle_4 | exact zb_0 | exact zb_1 | exact zb01_B | omega) only [zT35_37, zr_aload_0, zT35_38, zr_gf_80, zT35_41, zr_ic_m1, zT35_42, zr_icmp_eq, zT35_45, zr_ic_m10, zT35_47, zT35_48, zT35_51, zr_isub, zT35_52, zr_ret0, zcl_i, zcl_r, zcl_l, zcl_n, zv_some, zv_none, Nat.reduceAdd, Nat.reduceMul, Nat.reduceSub, Nat.reduceLT, Nat.reduceLeDiff, Nat.reduceEqDiff, Int.reduceToNat, true_implies, false_implies, implies_true, and_true, true_and, not_true_eq_false, not_false_eq_true, Nat.zero_add, Nat.add_zero, nI_add, nI_ltI, nI_leI, nI_eq, pk_mul, pk_sub, u2_same, u2_row, u2_other, q2, nm, olt_T, olt_F, ole_T, ole_F, oeq_T, oeq_F]
    exact o) (fun l r h1 hok hl f1 q1 q2 q3 q4 => by
    rw [h1] at hQ
    dsimp only at hQ
    simp (disch := first | assumption | rfl | exact zle_0 | exact zle_1 | exact zle_2 | exact zle_3 | exact zle_4 | exact zb_0 | exact zb_1 | exact zb01_B | omega) only [zT35_37, zr_aload_0, zT35_38, zr_gf_80, zT35_41, zr_ic_m1, zT35_42, zr_icmp_eq, zT35_45, zr_ic_m10, zT35_47, zT35_48, zT35_51, zr_isub, zT35_52, zr_ret0, zT35_53, zr_ic_0, zT35_54, zr_istore_1, zcl_i, zcl_r, zcl_l, zcl_n, zv_some, zv_none, Nat.reduceAdd, Nat.reduceMul, Nat.reduceSub, Nat.reduceLT, Nat.reduceLeDiff, Nat.reduceEqDiff, Int.reduceToNat, true_implies, false_implies, implies_true, and_true, true_and, not_true_eq_false, not_false_eq_true, Nat.zero_add, Nat.add_zero, nI_add, nI_ltI, nI_leI, nI_eq, pk_mul, pk_sub, u2_same, u2_row, u2_other, q2, olt_T, olt_F, ole_T, ole_F, oeq_T, oeq_F]
    refine ym_z_ (fi0 := f1) hf (fun f2 k1 k2 => ?_) 110 0 rfl f1 (fun j hj => absurd hj (Nat.not_lt_zero _)) z_or_.id_
    have r0 : z_MR (u2 f2 134 383 (nI 2)) 330 a_none := by
      intro i hi
      unfold a_none
      by_cases e : i = 53
      · subst e; rw [if_pos rfl, u2_same]
      · rw [if_neg e, u2_row (by omega)]; exact k1 i hi
    simp (disch := first | assumption | rfl | exact zle_0 | exact zle_1 | exact zle_2 | exact zle_3 | exact zle_4 | exact zb_0 | exact zb_1 | exact zb01_B | omega) only [zT35_78, zr_aload_0, zT35_79, zr_gf_71, zr_or, zr_go, zf_133_71, zT35_82, zr_ic_383, zT35_85, zr_ic_2, zT35_86, zr_iast, zT35_87, zr_ic_0, zT35_88, zr_istore_1, zcl_i, zcl_r, zcl_l, zcl_n, zv_some, zv_none, Nat.reduceAdd, Nat.reduceMul, Nat.reduceSub, Nat.reduceLT, Nat.reduceLeDiff, Nat.reduceEqDiff, Int.reduceToNat, true_implies, false_implies, implies_true, and_true, true_and, not_true_eq_false, not_false_eq_true, Nat.zero_add, Nat.add_zero, nI_add, nI_ltI, nI_leI, nI_eq, pk_mul, pk_sub, u2_same, u2_row, u2_other, olt_T, olt_F, ole_T, ole_F, oeq_T, oeq_F]
    refine ym_tells hf hl hok (fi0 := f1) l [] rfl _ a_none (by rw [u2_other (by decide), k2.1 133 (by decide)]; exact q3) (q4.frame (by rw [u2_ne (by decide)]; exact k2.1 138 (by decide)) (by rw [u2_ne (by decide)]; exact k2.1 139 (by decide))) r0 a_W_none (k2.set (by decide) (by decide)) (fun i h2 f3 g1 => ?_) (fun w2 r2 h2 f3 g1 g2 => ?_)
    · rw [show ([] : List (Nat × List Nat)).length = 0 from rfl] at h2
      rw [h2] at hQ
      exact hQ f3 fl (keep2 f1 f3 q1 g1) (fun j hj => by rw [g1.1 j (by omega)]; exact low f1 q1 j hj)
    · rw [show ([] : List (Nat × List Nat)).length = 0 from rfl] at h2
      rw [h2] at hQ
      have cp := fun Q => sm_copy (fi := f3) (fl := fl) (Q := Q) hf (a := 330) (b := 0) (by omega) (by decide) (by decide)
      have it3 : m_cp f3 330 0 110 133 78 = nI l.length := by rw [m_cp_ne (by decide), g2.1 133 (by decide)]; exact q3
      simp (disch := first | assumption | rfl | exact zle_0 | exact zle_1 | exact zle_2 | exact zle_3 | exact zle_4 | exact zb_0 | exact zb_1 | exact zb01_B | omega) only [zT35_117, zr_aload_0, zT35_118, zr_ic_330, zT35_121, zr_ic_0, zT35_122, zr_iv_9, zT35_125, zT35_126, zr_gf_78, zT35_129, zr_ret0, zcl_i, zcl_r, zcl_l, zcl_n, zv_some, zv_none, Nat.reduceAdd, Nat.reduceMul, Nat.reduceSub, Nat.reduceLT, Nat.reduceLeDiff, Nat.reduceEqDiff, Int.reduceToNat, true_implies, false_implies, implies_true, and_true, true_and, not_true_eq_false, not_false_eq_true, Nat.zero_add, Nat.add_zero, nI_add, nI_ltI, nI_leI, nI_eq, pk_mul, pk_sub, u2_same, u2_row, u2_other, cp, it3, olt_T, olt_F, ole_T, ole_F, oeq_T, oeq_F]
      exact hQ _ _ ((keep2 f1 f3 q1 g2).kit (m_cp_R g1) (fun j hj => m_cp_ne hj) (fun i i1 i2 => m_cp_out (by omega))) (fun j hj => by rw [m_cp_ne (by omega), g2.1 j (by omega)]; exact low f1 q1 j hj)) 40 [] 0 rfl (Nat.zero_le _) (by omega) (fun it hit => absurd hit List.not_mem_nil) (fun x r h1 => by rw [h1]; cases x <;> simp) (u2 (u2 (u2 fi 133 79 (nI 0)) 133 78 (nI 0)) 133 80 (nM 1)) (ht.frame (fd0.1 _ (by decide) (by decide) (by decide)) (fd0.2 136 (by decide) (by decide) (by decide))) (by simp (disch := decide) only [u2_row, u2_same]) u2_same (by simp (disch := decide) only [u2_row, u2_same]; rfl) (fun i x l hi => absurd hi (by simp)) fd0
  simp (disch := first | assumption | rfl | exact zle_0 | exact zle_1 | exact zle_2 | exact zle_3 | exact zle_4 | exact zb_0 | exact zb_1 | exact zb01_B | omega) only [zT35_0, zr_aload_0, zT35_1, zr_ic_0, zT35_2, zr_pf_79, zT35_5, zT35_6, zT35_7, zr_pf_78, zT35_10, zT35_11, zr_ic_m1, zT35_12, zr_pf_80, zcl_i, zcl_r, zcl_l, zcl_n, zv_some, zv_none, Nat.reduceAdd, Nat.reduceMul, Nat.reduceSub, Nat.reduceLT, Nat.reduceLeDiff, Nat.reduceEqDiff, Int.reduceToNat, true_implies, false_implies, implies_true, and_true, true_and, not_true_eq_false, not_false_eq_true, Nat.zero_add, Nat.add_zero, nI_add, nI_ltI, nI_leI, nI_eq, pk_mul, pk_sub, u2_same, u2_row, u2_other, olt_T, olt_F, ole_T, ole_F, oeq_T, oeq_F]
  exact L
end
