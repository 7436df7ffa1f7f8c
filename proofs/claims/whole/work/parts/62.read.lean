/-! the call read -/
def o_tell (w : Nat → Nat) (it : Nat × List Nat) : Int32 × (Nat → Nat) := if it.1 = 0 then o_cook w (nI (it.2.getD 0 0)) (nI (it.2.getD 1 0)) else if it.1 = 1 then o_dish w else if it.1 = 2 then o_step w (nI (it.2.getD 0 0)) (nI (it.2.getD 1 0)) (nI (it.2.getD 2 0)) (nI (it.2.getD 3 0)) (nI (it.2.getD 4 0)) else if it.1 = 3 then o_knives w (nI (it.2.getD 0 0)) else o_strike w 1
theorem o_tell_W {w : Nat → Nat} (h : a_W w) (it : Nat × List Nat) : a_W (o_tell w it).2 := by
  unfold o_tell
  repeat' split
  · exact o_cook_W h _ _
  · exact o_dish_W h
  · exact o_step_W h _ _ _ _ _
  · exact o_knives_W h _
  · exact o_strike_W h (by decide)
def a_tells : List (Nat × List Nat) → Nat → (Nat → Nat) → Option (Nat → Nat) × Nat
  | [], _, w => (some w, 0)
  | it :: t, i, w => if badA (o_tell w it).1 = true then (none, i) else a_tells t (i + 1) (o_tell w it).2
theorem a_tells_W : ∀ (l : List (Nat × List Nat)) (i : Nat) (w w2 : Nat → Nat) (r : Nat), a_W w → a_tells l i w = (some w2, r) → a_W w2
  | [], i, w, w2, r, h, e => by
    have : w = w2 := Option.some.inj (congrArg Prod.fst e)
    rw [← this]; exact h
  | it :: t, i, w, w2, r, h, e => by
    rw [a_tells] at e
    by_cases c : badA (o_tell w it).1 = true
    · rw [if_pos c] at e; exact absurd (congrArg Prod.fst e) (by simp)
    · rw [if_neg c] at e
      exact a_tells_W t (i + 1) _ w2 r (o_tell_W h it) e
def r_read (ws : Nat → Nat → Nat) (nn tx : Nat → Nat) : Int32 × (Nat → Nat → Nat) := match a_parse tx (nn 2) 40 (sk tx (nn 2) 0) with
  | (none, r) => (nM 10 - nI r, ws)
  | (some l, _) => match a_tells l 0 a_none with
    | (none, i) => (nM 1000 - nI i, ws)
    | (some w, _) => (nI l.length, uw ws w)
section
variable {fi fi' : Nat → Nat → Int32} {fl : Nat → Nat → Int64} {fr : Nat → Nat → Option Nat} {Q : Option Value → Mm → Prop} {w : Nat → Nat} {k : Nat} {M : Mm} {ws : Nat → Nat → Nat} {nn tx : Nat → Nat}
theorem sp_tellItem (hf : z_FR fr) {l : List (Nat × List Nat)} {i : Nat} {it : Nat × List Nat} (hl : l.length ≤ 40) (hit : fi 84 16 = nI l.length) (hI : z_It fi l) (hi : l[i]? = some it) (hok : okIt it) (hr : z_KR fi 39 w) (hw : a_W w)
    (hQ : ∀ fi', z_KR fi' 39 (o_tell w it).2 → (∀ j, j < 39 ∨ 59 ≤ j → fi' j = fi j) → Q (some (.int (o_tell w it).1)) (151, fi', fl, fr)) :
    TT 136 0 [some (.ref 84), some (.int (nI i)), some (.ref 39), none] [] (151, fi, fl, fr) Q := by
  have o39 : z_ok 151 39 16 = true := rfl; have o84 : z_ok 151 84 11 = true := rfl; have o86 : z_ok 151 86 1 = true := rfl; have o87 : z_ok 151 87 1 = true := rfl
  have l86 : z_al 86 = 40 := rfl; have l87 : z_al 87 = 200 := rfl
  have hk := z_Kok_of hf (k := 39) (by decide)
  obtain ⟨x, nl⟩ := it
  obtain ⟨k1, k2, k3⟩ := hok
  obtain ⟨e1, e2⟩ := hI i x nl hi
  have il : i < l.length := by
    rcases Nat.lt_or_ge i l.length with q | q
    · exact q
    · rw [List.getElem?_eq_none q] at hi; exact absurd hi (by simp)
  have em : i * 5 = 5 * i := Nat.mul_comm _ _
  have k1' : x < 5 := k1
  have k2' : nl.length = nb x := k2
  have h20 : ∀ Q : Option Value → Mm → Prop, (∀ f', z_KR f' 39 (o_tell w (x, nl)).2 → (∀ j, j < 39 ∨ 39 + 20 ≤ j → f' j = fi j) → Q (some (.int (o_tell w (x, nl)).1)) (151, f', fl, fr)) → (∀ f', z_KR f' 39 (o_tell w (x, nl)).2 → (∀ j, j < 39 ∨ 59 ≤ j → f' j = fi j) → Q (some (.int (o_tell w (x, nl)).1)) (151, f', fl, fr)) := fun Q h => h
  have : x = 0 ∨ x = 1 ∨ x = 2 ∨ x = 3 ∨ x = 4 := by omega
  rcases this with rfl | rfl | rfl | rfl | rfl
  · have t : z_tab 138 0 3 #[60, 79, 84, 127] (nI 0) = some 60 := by decide +kernel
    have n2 : nl.length = 2 := k2'
    rcases nl with _ | ⟨a, _ | ⟨b, _ | ⟨c, nl⟩⟩⟩
    · exact absurd n2 (by simp)
    · exact absurd n2 (by simp)
    · have q0 := e2 0 a rfl
      have q1 := e2 1 b rfl
      rw [Nat.add_zero] at q0
      simp (disch := first | assumption | rfl | exact zle_0 | exact zle_1 | exact zle_2 | exact zle_3 | exact zle_4 | exact zb_0 | exact zb_1 | exact zb01_B | omega) only [zT136_0, zr_iload_1, zT136_1, zr_if_lt, zT136_4, zT136_5, zr_aload_0, zT136_6, zr_gf_16, zT136_9, zr_icmp_ge, zT136_12, zT136_13, zr_ic_40, zT136_15, zr_icmp_lt, zT136_18, zr_ic_m2, zT136_20, zr_ret0, zT136_21, zT136_22, zr_ic_5, zT136_23, zr_imul, zT136_24, zr_istore_3, zT136_25, zT136_26, zr_gf_14, zr_or, zr_go, zf_84_14, zT136_29, zT136_30, zr_iald, zT136_31, zr_tab, zT136_60, zr_aload_2, zT136_61, zT136_62, zr_gf_15, zf_84_15, zT136_65, zr_iload_3, zT136_66, zT136_67, zT136_68, zT136_71, zT136_72, zr_ic_1, zT136_73, zr_iadd, zT136_74, zT136_75, zr_iv_178, zT136_78, zT136_79, zT136_80, zr_iv_179, zT136_83, zT136_84, zT136_85, zT136_86, zT136_89, zT136_90, zT136_91, zT136_92, zT136_95, zT136_96, zT136_97, zT136_98, zT136_99, zT136_100, zT136_103, zT136_104, zr_ic_2, zT136_105, zT136_106, zT136_107, zT136_108, zT136_111, zT136_112, zr_ic_3, zT136_113, zT136_114, zT136_115, zT136_116, zT136_119, zT136_120, zr_ic_4, zT136_121, zT136_122, zT136_123, zr_iv_180, zT136_126, zT136_127, zT136_128, zT136_129, zT136_132, zT136_133, zT136_134, zr_iv_181, zT136_137, zT136_138, zT136_139, zT136_140, zr_iv_182, zT136_143, zcl_i, zcl_r, zcl_l, zcl_n, zv_some, zv_none, Nat.reduceAdd, Nat.reduceMul, Nat.reduceSub, Nat.reduceLT, Nat.reduceLeDiff, Nat.reduceEqDiff, Int.reduceToNat, true_implies, false_implies, implies_true, and_true, true_and, not_true_eq_false, not_false_eq_true, Nat.zero_add, Nat.add_zero, nI_add, nI_ltI, nI_leI, nI_eq, pk_mul, pk_sub, u2_same, u2_row, u2_other, hit, e1, t, em, q0, q1, olt_T, olt_F, ole_T, ole_F, oeq_T, oeq_F]
      exact sp_oCook hk hr hw (fun f' g1 g2 => by have := hQ f' g1 g2; simp (disch := first | assumption | rfl | exact zle_0 | exact zle_1 | exact zle_2 | exact zle_3 | exact zle_4 | exact zb_0 | exact zb_1 | exact zb01_B | omega) only [zT136_78, zr_ret0, zcl_i, zcl_r, zcl_l, zcl_n, zv_some, zv_none, Nat.reduceAdd, Nat.reduceMul, Nat.reduceSub, Nat.reduceLT, Nat.reduceLeDiff, Nat.reduceEqDiff, Int.reduceToNat, true_implies, false_implies, implies_true, and_true, true_and, not_true_eq_false, not_false_eq_true, Nat.zero_add, Nat.add_zero, nI_add, nI_ltI, nI_leI, nI_eq, pk_mul, pk_sub, u2_same, u2_row, u2_other, olt_T, olt_F, ole_T, ole_F, oeq_T, oeq_F]; exact this)
    · exact absurd n2 (by simp)
  · have t : z_tab 138 0 3 #[60, 79, 84, 127] (nI 1) = some 79 := by decide +kernel
    simp (disch := first | assumption | rfl | exact zle_0 | exact zle_1 | exact zle_2 | exact zle_3 | exact zle_4 | exact zb_0 | exact zb_1 | exact zb01_B | omega) only [zT136_0, zr_iload_1, zT136_1, zr_if_lt, zT136_4, zT136_5, zr_aload_0, zT136_6, zr_gf_16, zT136_9, zr_icmp_ge, zT136_12, zT136_13, zr_ic_40, zT136_15, zr_icmp_lt, zT136_18, zr_ic_m2, zT136_20, zr_ret0, zT136_21, zT136_22, zr_ic_5, zT136_23, zr_imul, zT136_24, zr_istore_3, zT136_25, zT136_26, zr_gf_14, zr_or, zr_go, zf_84_14, zT136_29, zT136_30, zr_iald, zT136_31, zr_tab, zT136_60, zr_aload_2, zT136_61, zT136_62, zr_gf_15, zf_84_15, zT136_65, zr_iload_3, zT136_66, zT136_67, zT136_68, zT136_71, zT136_72, zr_ic_1, zT136_73, zr_iadd, zT136_74, zT136_75, zr_iv_178, zT136_78, zT136_79, zT136_80, zr_iv_179, zT136_83, zT136_84, zT136_85, zT136_86, zT136_89, zT136_90, zT136_91, zT136_92, zT136_95, zT136_96, zT136_97, zT136_98, zT136_99, zT136_100, zT136_103, zT136_104, zr_ic_2, zT136_105, zT136_106, zT136_107, zT136_108, zT136_111, zT136_112, zr_ic_3, zT136_113, zT136_114, zT136_115, zT136_116, zT136_119, zT136_120, zr_ic_4, zT136_121, zT136_122, zT136_123, zr_iv_180, zT136_126, zT136_127, zT136_128, zT136_129, zT136_132, zT136_133, zT136_134, zr_iv_181, zT136_137, zT136_138, zT136_139, zT136_140, zr_iv_182, zT136_143, zcl_i, zcl_r, zcl_l, zcl_n, zv_some, zv_none, Nat.reduceAdd, Nat.reduceMul, Nat.reduceSub, Nat.reduceLT, Nat.reduceLeDiff, Nat.reduceEqDiff, Int.reduceToNat, true_implies, false_implies, implies_true, and_true, true_and, not_true_eq_false, not_false_eq_true, Nat.zero_add, Nat.add_zero, nI_add, nI_ltI, nI_leI, nI_eq, pk_mul, pk_sub, u2_same, u2_row, u2_other, hit, e1, t, em, olt_T, olt_F, ole_T, ole_F, oeq_T, oeq_F]
    exact sp_oDish hk hr hw (fun f' g1 g2 => by have := hQ f' g1 g2; simp (disch := first | assumption | rfl | exact zle_0 | exact zle_1 | exact zle_2 | exact zle_3 | exact zle_4 | exact zb_0 | exact zb_1 | exact zb01_B | omega) only [zT136_83, zr_ret0, zcl_i, zcl_r, zcl_l, zcl_n, zv_some, zv_none, Nat.reduceAdd, Nat.reduceMul, Nat.reduceSub, Nat.reduceLT, Nat.reduceLeDiff, Nat.reduceEqDiff, Int.reduceToNat, true_implies, false_implies, implies_true, and_true, true_and, not_true_eq_false, not_false_eq_true, Nat.zero_add, Nat.add_zero, nI_add, nI_ltI, nI_leI, nI_eq, pk_mul, pk_sub, u2_same, u2_row, u2_other, olt_T, olt_F, ole_T, ole_F, oeq_T, oeq_F]; exact this)
  · have t : z_tab 138 0 3 #[60, 79, 84, 127] (nI 2) = some 84 := by decide +kernel
    have n2 : nl.length = 5 := k2'
    rcases nl with _ | ⟨a, _ | ⟨b, _ | ⟨c, _ | ⟨d, _ | ⟨e, _ | ⟨f, nl⟩⟩⟩⟩⟩⟩
    · exact absurd n2 (by simp)
    · exact absurd n2 (by simp)
    · exact absurd n2 (by simp)
    · exact absurd n2 (by simp)
    · exact absurd n2 (by simp)
    · have q0 := e2 0 a rfl
      have q1 := e2 1 b rfl
      have q2 := e2 2 c rfl
      have q3 := e2 3 d rfl
      have q4 := e2 4 e rfl
      rw [Nat.add_zero] at q0
      simp (disch := first | assumption | rfl | exact zle_0 | exact zle_1 | exact zle_2 | exact zle_3 | exact zle_4 | exact zb_0 | exact zb_1 | exact zb01_B | omega) only [zT136_0, zr_iload_1, zT136_1, zr_if_lt, zT136_4, zT136_5, zr_aload_0, zT136_6, zr_gf_16, zT136_9, zr_icmp_ge, zT136_12, zT136_13, zr_ic_40, zT136_15, zr_icmp_lt, zT136_18, zr_ic_m2, zT136_20, zr_ret0, zT136_21, zT136_22, zr_ic_5, zT136_23, zr_imul, zT136_24, zr_istore_3, zT136_25, zT136_26, zr_gf_14, zr_or, zr_go, zf_84_14, zT136_29, zT136_30, zr_iald, zT136_31, zr_tab, zT136_60, zr_aload_2, zT136_61, zT136_62, zr_gf_15, zf_84_15, zT136_65, zr_iload_3, zT136_66, zT136_67, zT136_68, zT136_71, zT136_72, zr_ic_1, zT136_73, zr_iadd, zT136_74, zT136_75, zr_iv_178, zT136_78, zT136_79, zT136_80, zr_iv_179, zT136_83, zT136_84, zT136_85, zT136_86, zT136_89, zT136_90, zT136_91, zT136_92, zT136_95, zT136_96, zT136_97, zT136_98, zT136_99, zT136_100, zT136_103, zT136_104, zr_ic_2, zT136_105, zT136_106, zT136_107, zT136_108, zT136_111, zT136_112, zr_ic_3, zT136_113, zT136_114, zT136_115, zT136_116, zT136_119, zT136_120, zr_ic_4, zT136_121, zT136_122, zT136_123, zr_iv_180, zT136_126, zT136_127, zT136_128, zT136_129, zT136_132, zT136_133, zT136_134, zr_iv_181, zT136_137, zT136_138, zT136_139, zT136_140, zr_iv_182, zT136_143, zcl_i, zcl_r, zcl_l, zcl_n, zv_some, zv_none, Nat.reduceAdd, Nat.reduceMul, Nat.reduceSub, Nat.reduceLT, Nat.reduceLeDiff, Nat.reduceEqDiff, Int.reduceToNat, true_implies, false_implies, implies_true, and_true, true_and, not_true_eq_false, not_false_eq_true, Nat.zero_add, Nat.add_zero, nI_add, nI_ltI, nI_leI, nI_eq, pk_mul, pk_sub, u2_same, u2_row, u2_other, hit, e1, t, em, q0, q1, q2, q3, q4, olt_T, olt_F, ole_T, ole_F, oeq_T, oeq_F]
      exact sp_oStep hk hr hw (fun f' g1 g2 => by have := hQ f' g1 g2; simp (disch := first | assumption | rfl | exact zle_0 | exact zle_1 | exact zle_2 | exact zle_3 | exact zle_4 | exact zb_0 | exact zb_1 | exact zb01_B | omega) only [zT136_126, zr_ret0, zcl_i, zcl_r, zcl_l, zcl_n, zv_some, zv_none, Nat.reduceAdd, Nat.reduceMul, Nat.reduceSub, Nat.reduceLT, Nat.reduceLeDiff, Nat.reduceEqDiff, Int.reduceToNat, true_implies, false_implies, implies_true, and_true, true_and, not_true_eq_false, not_false_eq_true, Nat.zero_add, Nat.add_zero, nI_add, nI_ltI, nI_leI, nI_eq, pk_mul, pk_sub, u2_same, u2_row, u2_other, olt_T, olt_F, ole_T, ole_F, oeq_T, oeq_F]; exact this)
    · exact absurd n2 (by simp)
  · have t : z_tab 138 0 3 #[60, 79, 84, 127] (nI 3) = some 127 := by decide +kernel
    have n2 : nl.length = 1 := k2'
    rcases nl with _ | ⟨a, _ | ⟨b, nl⟩⟩
    · exact absurd n2 (by simp)
    · have q0 := e2 0 a rfl
      rw [Nat.add_zero] at q0
      simp (disch := first | assumption | rfl | exact zle_0 | exact zle_1 | exact zle_2 | exact zle_3 | exact zle_4 | exact zb_0 | exact zb_1 | exact zb01_B | omega) only [zT136_0, zr_iload_1, zT136_1, zr_if_lt, zT136_4, zT136_5, zr_aload_0, zT136_6, zr_gf_16, zT136_9, zr_icmp_ge, zT136_12, zT136_13, zr_ic_40, zT136_15, zr_icmp_lt, zT136_18, zr_ic_m2, zT136_20, zr_ret0, zT136_21, zT136_22, zr_ic_5, zT136_23, zr_imul, zT136_24, zr_istore_3, zT136_25, zT136_26, zr_gf_14, zr_or, zr_go, zf_84_14, zT136_29, zT136_30, zr_iald, zT136_31, zr_tab, zT136_60, zr_aload_2, zT136_61, zT136_62, zr_gf_15, zf_84_15, zT136_65, zr_iload_3, zT136_66, zT136_67, zT136_68, zT136_71, zT136_72, zr_ic_1, zT136_73, zr_iadd, zT136_74, zT136_75, zr_iv_178, zT136_78, zT136_79, zT136_80, zr_iv_179, zT136_83, zT136_84, zT136_85, zT136_86, zT136_89, zT136_90, zT136_91, zT136_92, zT136_95, zT136_96, zT136_97, zT136_98, zT136_99, zT136_100, zT136_103, zT136_104, zr_ic_2, zT136_105, zT136_106, zT136_107, zT136_108, zT136_111, zT136_112, zr_ic_3, zT136_113, zT136_114, zT136_115, zT136_116, zT136_119, zT136_120, zr_ic_4, zT136_121, zT136_122, zT136_123, zr_iv_180, zT136_126, zT136_127, zT136_128, zT136_129, zT136_132, zT136_133, zT136_134, zr_iv_181, zT136_137, zT136_138, zT136_139, zT136_140, zr_iv_182, zT136_143, zcl_i, zcl_r, zcl_l, zcl_n, zv_some, zv_none, Nat.reduceAdd, Nat.reduceMul, Nat.reduceSub, Nat.reduceLT, Nat.reduceLeDiff, Nat.reduceEqDiff, Int.reduceToNat, true_implies, false_implies, implies_true, and_true, true_and, not_true_eq_false, not_false_eq_true, Nat.zero_add, Nat.add_zero, nI_add, nI_ltI, nI_leI, nI_eq, pk_mul, pk_sub, u2_same, u2_row, u2_other, hit, e1, t, em, q0, olt_T, olt_F, ole_T, ole_F, oeq_T, oeq_F]
      exact sp_oKnives hk hr hw (fun f' g1 g2 => by have := hQ f' g1 g2; simp (disch := first | assumption | rfl | exact zle_0 | exact zle_1 | exact zle_2 | exact zle_3 | exact zle_4 | exact zb_0 | exact zb_1 | exact zb01_B | omega) only [zT136_137, zr_ret0, zcl_i, zcl_r, zcl_l, zcl_n, zv_some, zv_none, Nat.reduceAdd, Nat.reduceMul, Nat.reduceSub, Nat.reduceLT, Nat.reduceLeDiff, Nat.reduceEqDiff, Int.reduceToNat, true_implies, false_implies, implies_true, and_true, true_and, not_true_eq_false, not_false_eq_true, Nat.zero_add, Nat.add_zero, nI_add, nI_ltI, nI_leI, nI_eq, pk_mul, pk_sub, u2_same, u2_row, u2_other, olt_T, olt_F, ole_T, ole_F, oeq_T, oeq_F]; exact this)
    · exact absurd n2 (by simp)
  · have t : z_tab 138 0 3 #[60, 79, 84, 127] (nI 4) = some 138 := by decide +kernel
    simp (disch := first | assumption | rfl | exact zle_0 | exact zle_1 | exact zle_2 | exact zle_3 | exact zle_4 | exact zb_0 | exact zb_1 | exact zb01_B | omega) only [zT136_0, zr_iload_1, zT136_1, zr_if_lt, zT136_4, zT136_5, zr_aload_0, zT136_6, zr_gf_16, zT136_9, zr_icmp_ge, zT136_12, zT136_13, zr_ic_40, zT136_15, zr_icmp_lt, zT136_18, zr_ic_m2, zT136_20, zr_ret0, zT136_21, zT136_22, zr_ic_5, zT136_23, zr_imul, zT136_24, zr_istore_3, zT136_25, zT136_26, zr_gf_14, zr_or, zr_go, zf_84_14, zT136_29, zT136_30, zr_iald, zT136_31, zr_tab, zT136_60, zr_aload_2, zT136_61, zT136_62, zr_gf_15, zf_84_15, zT136_65, zr_iload_3, zT136_66, zT136_67, zT136_68, zT136_71, zT136_72, zr_ic_1, zT136_73, zr_iadd, zT136_74, zT136_75, zr_iv_178, zT136_78, zT136_79, zT136_80, zr_iv_179, zT136_83, zT136_84, zT136_85, zT136_86, zT136_89, zT136_90, zT136_91, zT136_92, zT136_95, zT136_96, zT136_97, zT136_98, zT136_99, zT136_100, zT136_103, zT136_104, zr_ic_2, zT136_105, zT136_106, zT136_107, zT136_108, zT136_111, zT136_112, zr_ic_3, zT136_113, zT136_114, zT136_115, zT136_116, zT136_119, zT136_120, zr_ic_4, zT136_121, zT136_122, zT136_123, zr_iv_180, zT136_126, zT136_127, zT136_128, zT136_129, zT136_132, zT136_133, zT136_134, zr_iv_181, zT136_137, zT136_138, zT136_139, zT136_140, zr_iv_182, zT136_143, zcl_i, zcl_r, zcl_l, zcl_n, zv_some, zv_none, Nat.reduceAdd, Nat.reduceMul, Nat.reduceSub, Nat.reduceLT, Nat.reduceLeDiff, Nat.reduceEqDiff, Int.reduceToNat, true_implies, false_implies, implies_true, and_true, true_and, not_true_eq_false, not_false_eq_true, Nat.zero_add, Nat.add_zero, nI_add, nI_ltI, nI_leI, nI_eq, pk_mul, pk_sub, u2_same, u2_row, u2_other, hit, e1, t, em, olt_T, olt_F, ole_T, ole_F, oeq_T, oeq_F]
    exact sp_oStrike hk hr hw (by decide) (fun f' g1 g2 => by have := hQ f' g1 g2; simp (disch := first | assumption | rfl | exact zle_0 | exact zle_1 | exact zle_2 | exact zle_3 | exact zle_4 | exact zb_0 | exact zb_1 | exact zb01_B | omega) only [zT136_143, zr_ret0, zcl_i, zcl_r, zcl_l, zcl_n, zv_some, zv_none, Nat.reduceAdd, Nat.reduceMul, Nat.reduceSub, Nat.reduceLT, Nat.reduceLeDiff, Nat.reduceEqDiff, Int.reduceToNat, true_implies, false_implies, implies_true, and_true, true_and, not_true_eq_false, not_false_eq_true, Nat.zero_add, Nat.add_zero, nI_add, nI_ltI, nI_leI, nI_eq, pk_mul, pk_sub, u2_same, u2_row, u2_other, olt_T, olt_F, ole_T, ole_F, oeq_T, oeq_F]; exact this)
theorem z_It.frame {l : List (Nat × List Nat)} (h : z_It fi l) (h1 : fi' 86 = fi 86) (h2 : fi' 87 = fi 87) : z_It fi' l := by
  unfold z_It at *
  rw [h1, h2]
  exact h
theorem sx_tells (hf : z_FR fr) {L : List (Nat × List Nat)} (hl : L.length ≤ 40) (hok : ∀ it ∈ L, okIt it) {fi0 : Nat → Nat → Int32} :
    ∀ (l P : List (Nat × List Nat)), L = P ++ l → ∀ (fi : Nat → Nat → Int32) (w : Nat → Nat), fi 84 16 = nI L.length → z_It fi L → z_KR fi 39 w → a_W w → (∀ j, j < 39 ∨ 59 ≤ j → fi j = fi0 j) →
    (∀ i, a_tells l P.length w = (none, i) → ∀ fi', (∀ j, j < 39 ∨ 59 ≤ j → fi' j = fi0 j) → Q (some (.int (nM 1000 - nI i))) (151, fi', fl, fr)) →
    (∀ w2 r, a_tells l P.length w = (some w2, r) → ∀ fi', z_KR fi' 39 w2 → (∀ j, j < 39 ∨ 59 ≤ j → fi' j = fi0 j) → TT 92 68 [some (.ref 18), some (.int (nM 1)), some (.int (nI L.length))] [] (151, fi', fl, fr) Q) →
    TT 92 27 [some (.ref 18), some (.int (nM 1)), some (.int (nI P.length))] [] (151, fi, fl, fr) Q := by
  have o18 : z_ok 151 18 10 = true := rfl; have o39 : z_ok 151 39 16 = true := rfl; have o84 : z_ok 151 84 11 = true := rfl
  intro l
  induction l with
  | nil =>
    intro P hP fi w hit hI hr hw hfr hQ1 hQ2
    have e : P.length = L.length := by rw [hP, List.append_nil]
    have o := hQ2 w 0 rfl fi hr hfr
    rw [e]
    simp (disch := first | assumption | rfl | exact zle_0 | exact zle_1 | exact zle_2 | exact zle_3 | exact zle_4 | exact zb_0 | exact zb_1 | exact zb01_B | omega) only [zT92_27, zr_iload_2, zT92_28, zr_aload_0, zT92_29, zr_gf_6, zr_or, zr_go, zf_18_6, zT92_32, zr_gf_16, zT92_35, zr_icmp_ge, zcl_i, zcl_r, zcl_l, zcl_n, zv_some, zv_none, Nat.reduceAdd, Nat.reduceMul, Nat.reduceSub, Nat.reduceLT, Nat.reduceLeDiff, Nat.reduceEqDiff, Int.reduceToNat, true_implies, false_implies, implies_true, and_true, true_and, not_true_eq_false, not_false_eq_true, Nat.zero_add, Nat.add_zero, nI_add, nI_ltI, nI_leI, nI_eq, pk_mul, pk_sub, u2_same, u2_row, u2_other, hit, olt_T, olt_F, ole_T, ole_F, oeq_T, oeq_F]
    exact o
  | cons it t ih =>
    intro P hP fi w hit hI hr hw hfr hQ1 hQ2
    have hget : L[P.length]? = some it := by rw [hP, List.getElem?_append_right (Nat.le_refl _), Nat.sub_self]; rfl
    have pl : P.length < L.length := by rw [hP]; simp
    simp (disch := first | assumption | rfl | exact zle_0 | exact zle_1 | exact zle_2 | exact zle_3 | exact zle_4 | exact zb_0 | exact zb_1 | exact zb01_B | omega) only [zT92_27, zr_iload_2, zcl_i, zcl_r, zcl_l, zcl_n, zv_some, zv_none, Nat.reduceAdd, Nat.reduceMul, Nat.reduceSub, Nat.reduceLT, Nat.reduceLeDiff, Nat.reduceEqDiff, Int.reduceToNat, true_implies, false_implies, implies_true, and_true, true_and, not_true_eq_false, not_false_eq_true, Nat.zero_add, Nat.add_zero, nI_add, nI_ltI, nI_leI, nI_eq, pk_mul, pk_sub, u2_same, u2_row, u2_other]
    simp (disch := first | assumption | rfl | exact zle_0 | exact zle_1 | exact zle_2 | exact zle_3 | exact zle_4 | exact zb_0 | exact zb_1 | exact zb01_B | omega) only [zT92_28, zr_aload_0, zT92_29, zr_gf_6, zr_or, zr_go, zf_18_6, zT92_32, zr_gf_16, zT92_35, zr_icmp_ge, zT92_38, zT92_39, zT92_42, zr_iload_2, zT92_43, zT92_44, zr_gf_1, zf_18_1, zf_22_1, zf_42_1, zf_59_1, zf_96_1, zf_116_1, zT92_47, zr_iv_136, zcl_i, zcl_r, zcl_l, zcl_n, zv_some, zv_none, Nat.reduceAdd, Nat.reduceMul, Nat.reduceSub, Nat.reduceLT, Nat.reduceLeDiff, Nat.reduceEqDiff, Int.reduceToNat, true_implies, false_implies, implies_true, and_true, true_and, not_true_eq_false, not_false_eq_true, Nat.zero_add, Nat.add_zero, nI_add, nI_ltI, nI_leI, nI_eq, pk_mul, pk_sub, u2_same, u2_row, u2_other, hit, olt_T, olt_F, ole_T, ole_F, oeq_T, oeq_F]
    refine sp_tellItem hf hl hit hI hget (hok it (List.mem_of_getElem? hget)) hr hw (fun f1 g1 g2 => ?_)
    have ir := fun Q => sp_isRefusal (fi := f1) (fl := fl) (fr := fr) (Q := Q) (a := (o_tell w it).1)
    have hfr1 : ∀ j, j < 39 ∨ 59 ≤ j → f1 j = fi0 j := fun j hj => by rw [g2 j hj]; exact hfr j hj
    cases c : badA (o_tell w it).1
    · rw [c] at ir
      have eT : a_tells (it :: t) P.length w = a_tells t (P.length + 1) (o_tell w it).2 := by rw [a_tells, if_neg (by rw [c]; decide)]
      have ih' := ih (P ++ [it]) (by rw [List.append_assoc]; exact hP) f1 (o_tell w it).2 (by rw [g2 84 (by omega)]; exact hit) (hI.frame (g2 86 (by omega)) (g2 87 (by omega))) g1 (o_tell_W hw it) hfr1
      rw [List.length_append, List.length_singleton, ← eT] at ih'
      have o := ih' hQ1 hQ2
      simp (disch := first | assumption | rfl | exact zle_0 | exact zle_1 | exact zle_2 | exact zle_3 | exact zle_4 | exact zb_0 | exact zb_1 | exact zb01_B | omega) only [zT92_50, zr_iv_115, zT92_53, zr_if_eq, zT92_56, zr_ic_m1000, zT92_59, zr_iload_2, zT92_60, zr_isub, zT92_61, zr_ret0, zT92_62, zr_iinc_2_1, zT92_65, zr_goto, zcl_i, zcl_r, zcl_l, zcl_n, zv_some, zv_none, Nat.reduceAdd, Nat.reduceMul, Nat.reduceSub, Nat.reduceLT, Nat.reduceLeDiff, Nat.reduceEqDiff, Int.reduceToNat, true_implies, false_implies, implies_true, and_true, true_and, not_true_eq_false, not_false_eq_true, Nat.zero_add, Nat.add_zero, nI_add, nI_ltI, nI_leI, nI_eq, pk_mul, pk_sub, u2_same, u2_row, u2_other, ir, zB_eq0, olt_T, olt_F, ole_T, ole_F, oeq_T, oeq_F]
      exact o
    · rw [c] at ir
      have o := hQ1 P.length (by rw [a_tells, if_pos c]) f1 hfr1
      simp (disch := first | assumption | rfl | exact zle_0 | exact zle_1 | exact zle_2 | exact zle_3 | exact zle_4 | exact zb_0 | exact zb_1 | exact zb01_B | omega) only [zT92_50, zr_iv_115, zT92_53, zr_if_eq, zT92_56, zr_ic_m1000, zT92_59, zr_iload_2, zT92_60, zr_isub, zT92_61, zr_ret0, zcl_i, zcl_r, zcl_l, zcl_n, zv_some, zv_none, Nat.reduceAdd, Nat.reduceMul, Nat.reduceSub, Nat.reduceLT, Nat.reduceLeDiff, Nat.reduceEqDiff, Int.reduceToNat, true_implies, false_implies, implies_true, and_true, true_and, not_true_eq_false, not_false_eq_true, Nat.zero_add, Nat.add_zero, nI_add, nI_ltI, nI_leI, nI_eq, pk_mul, pk_sub, u2_same, u2_row, u2_other, ir, zB_eq0, reduceCtorEq, olt_T, olt_F, ole_T, ole_F, oeq_T, oeq_F]
      exact o
theorem sx_read (hf : z_FR fr) (h : z_XS fi ws nn tx) (hg : z_G ws nn) (hQ : z_XQ fi fl fr Q (r_read ws nn tx).1 (r_read ws nn tx).2 nn tx) : TT 92 0 [some (.ref 18), none, none] [] (151, fi, fl, fr) Q := by
  have o18 : z_ok 151 18 10 = true := rfl; have o19 : z_ok 151 19 16 = true := rfl; have o39 : z_ok 151 39 16 = true := rfl; have o70 : z_ok 151 70 18 = true := rfl; have o84 : z_ok 151 84 11 = true := rfl
  have k19 := z_Kok_of hf (k := 19) (by decide)
  have k39 := z_Kok_of hf (k := 39) (by decide)
  have ht := h.2.2.2.1
  /- a state when the card but for its text, and the draft have changed -/
  have keep : ∀ f1 : Nat → Nat → Int32, f1 84 12 = fi 84 12 → (∀ j, j < 39 ∨ (59 ≤ j ∧ j ≠ 84 ∧ j ≠ 86 ∧ j ≠ 87) → f1 j = fi j) → z_XS f1 ws nn tx := by
    intro f1 q1 q2
    obtain ⟨hk, hc, hF, ht, hp⟩ := h
    refine ⟨hk.frame (fun j hj => q2 j (by omega)), ?_, hF.frame (fun j j1 j2 => q2 j (by omega)), ht.frame q1 (q2 85 (by omega)), hp.frame (fun j j1 j2 => q2 j (by omega))⟩
    unfold z_XC at *
    rw [q2 18 (by omega)]
    exact hc
  unfold r_read at hQ
  simp (disch := first | assumption | rfl | exact zle_0 | exact zle_1 | exact zle_2 | exact zle_3 | exact zle_4 | exact zb_0 | exact zb_1 | exact zb01_B | omega) only [zT92_0, zr_aload_0, zT92_1, zr_gf_6, zr_or, zr_go, zf_18_6, zT92_4, zr_iv_127, zcl_i, zcl_r, zcl_l, zcl_n, zv_some, zv_none, Nat.reduceAdd, Nat.reduceMul, Nat.reduceSub, Nat.reduceLT, Nat.reduceLeDiff, Nat.reduceEqDiff, Int.reduceToNat, true_implies, false_implies, implies_true, and_true, true_and, not_true_eq_false, not_false_eq_true, Nat.zero_add, Nat.add_zero, nI_add, nI_ltI, nI_leI, nI_eq, pk_mul, pk_sub, u2_same, u2_row, u2_other, olt_T, olt_F, ole_T, ole_F, oeq_T, oeq_F]
  refine sp_parse hf ht (fun r h1 hr f1 g1 g2 => ?_) (fun l r h1 hl hok f1 g1 g2 g3 g4 => ?_)
  · rw [h1] at hQ
    have nm := nM_eqI (k := 1) (a := r) (by decide) (by decide) (by omega)
    have o := hQ f1 (keep f1 g1 (fun j hj => g2 j (by omega) (by omega) (by omega))) (fun j hj => g2 j (by omega) (by omega) (by omega))
    simp (disch := first | assumption | rfl | exact zle_0 | exact zle_1 | exact zle_2 | exact zle_3 | exact zle_4 | exact zb_0 | exact zb_1 | exact zb01_B | omega) only [zT92_7, zr_istore_1, zT92_8, zr_iload_1, zT92_9, zr_ic_m1, zT92_10, zr_icmp_eq, zT92_13, zr_ic_m10, zT92_15, zT92_16, zr_isub, zT92_17, zr_ret0, zcl_i, zcl_r, zcl_l, zcl_n, zv_some, zv_none, Nat.reduceAdd, Nat.reduceMul, Nat.reduceSub, Nat.reduceLT, Nat.reduceLeDiff, Nat.reduceEqDiff, Int.reduceToNat, true_implies, false_implies, implies_true, and_true, true_and, not_true_eq_false, not_false_eq_true, Nat.zero_add, Nat.add_zero, nI_add, nI_ltI, nI_leI, nI_eq, pk_mul, pk_sub, u2_same, u2_row, u2_other, nm, olt_T, olt_F, ole_T, ole_F, oeq_T, oeq_F]
    exact o
  · rw [h1] at hQ
    dsimp only at hQ
    have em := fun Q => sp_empty (fi := f1) (fl := fl) (Q := Q) k39
    have kn := fun j (hj : j < 39 ∨ 39 + 20 ≤ j) => k_none_fr (fi := f1) (k := 39) hj
    simp (disch := first | assumption | rfl | exact zle_0 | exact zle_1 | exact zle_2 | exact zle_3 | exact zle_4 | exact zb_0 | exact zb_1 | exact zb01_B | omega) only [zT92_7, zr_istore_1, zT92_8, zr_iload_1, zT92_9, zr_ic_m1, zT92_10, zr_icmp_eq, zT92_13, zr_ic_m10, zT92_15, zT92_16, zr_isub, zT92_17, zr_ret0, zT92_18, zr_aload_0, zT92_19, zr_gf_1, zr_or, zr_go, zf_18_1, zf_22_1, zf_42_1, zf_59_1, zf_96_1, zf_116_1, zT92_22, zr_iv_176, zT92_25, zr_ic_0, zT92_26, zr_istore_2, zcl_i, zcl_r, zcl_l, zcl_n, zv_some, zv_none, Nat.reduceAdd, Nat.reduceMul, Nat.reduceSub, Nat.reduceLT, Nat.reduceLeDiff, Nat.reduceEqDiff, Int.reduceToNat, true_implies, false_implies, implies_true, and_true, true_and, not_true_eq_false, not_false_eq_true, Nat.zero_add, Nat.add_zero, nI_add, nI_ltI, nI_leI, nI_eq, pk_mul, pk_sub, u2_same, u2_row, u2_other, em, olt_T, olt_F, ole_T, ole_F, oeq_T, oeq_F]
    refine sx_tells hf hl hok (fi0 := f1) l [] rfl (k_none f1 39) a_none (by rw [kn 84 (by omega)]; exact g2) (g3.frame (kn 86 (by omega)) (kn 87 (by omega))) k_none_K a_W_none (fun j hj => kn j hj) (fun i h2 f2 k1 => ?_) (fun w2 r2 h2 f2 k1 k2 => ?_)
    · rw [show ([] : List (Nat × List Nat)).length = 0 from rfl] at h2
      rw [h2] at hQ
      refine hQ f2 (keep f2 (by rw [k1 84 (by omega)]; exact g1) (fun j hj => ?_)) (fun j hj => ?_)
      · rw [k1 j (by omega)]; exact g4 j (by omega) (by omega) (by omega)
      · rw [k1 j (by omega)]; exact g4 j (by omega) (by omega) (by omega)
    · rw [show ([] : List (Nat × List Nat)).length = 0 from rfl] at h2
      rw [h2] at hQ
      have w2W := a_tells_W l 0 a_none w2 r2 a_W_none h2
      have hr3 : z_KR (u2 f2 70 55 (nI 0)) 39 w2 := k1.fr (fun j j1 j2 => u2_ne (by omega))
      have b54 : z_b01 (u2 f2 70 55 (nI 0) 39 47) = true := by
        rw [hr3.1.2.2.2.1]
        have h54 := w2W.1.2.2.2.2.2.1
        have : w2 54 = 0 ∨ w2 54 = 1 := by omega
        rcases this with e | e <;> rw [e] <;> rfl
      have cp := fun Q => sp_kitchenCopy (fl := fl) (Q := Q) k39 k19 (by decide) b54
      have K := k_copy_K (k := 19) hr3 (by decide) w2W.1.1 w2W.sm w2W.le
      have e84 : k_copy (u2 f2 70 55 (nI 0)) 39 19 84 16 = nI l.length := by
        rw [k_copy_fr (by omega), u2_other (by decide), k2 84 (by omega)]
        exact g2
      have h2s : z_XS f2 ws nn tx := keep f2 (by rw [k2 84 (by omega)]; exact g1) (fun j hj => by rw [k2 j (by omega)]; exact g4 j (by omega) (by omega) (by omega))
      simp (disch := first | assumption | rfl | exact zle_0 | exact zle_1 | exact zle_2 | exact zle_3 | exact zle_4 | exact zb_0 | exact zb_1 | exact zb01_B | omega) only [zT92_68, zr_aload_0, zT92_69, zr_gf_5, zr_or, zr_go, zf_18_5, zT92_72, zr_iv_206, zT92_75, zT92_76, zr_gf_0, zf_18_0, zf_22_0, zf_42_0, zf_59_0, zf_96_0, zf_116_0, zT92_79, zT92_80, zr_gf_1, zf_18_1, zf_22_1, zf_42_1, zf_59_1, zf_96_1, zf_116_1, zT92_83, zr_iv_177, zT92_86, zT92_87, zr_gf_6, zf_18_6, zT92_90, zr_gf_16, zT92_93, zr_ret0, zT206_0, zT206_1, zr_ic_0, zT206_2, zr_pf_55, zT206_5, zr_return, zcl_i, zcl_r, zcl_l, zcl_n, zv_some, zv_none, Nat.reduceAdd, Nat.reduceMul, Nat.reduceSub, Nat.reduceLT, Nat.reduceLeDiff, Nat.reduceEqDiff, Int.reduceToNat, true_implies, false_implies, implies_true, and_true, true_and, not_true_eq_false, not_false_eq_true, Nat.zero_add, Nat.add_zero, nI_add, nI_ltI, nI_leI, nI_eq, pk_mul, pk_sub, u2_same, u2_row, u2_other, cp, e84, olt_T, olt_F, ole_T, ole_F, oeq_T, oeq_F]
      refine hQ _ (h2s.kit K (fun j hj => k_copy_fr (by omega))) (fun j hj => ?_)
      rw [k_copy_fr (by omega), u2_ne (by omega), k2 j (by omega)]
      exact g4 j (by omega) (by omega) (by omega)
end
