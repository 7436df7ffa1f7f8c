/-! through the plan, in the model: a dish's team, and what it adds -/
theorem a_line_lt {th : Nat → Bool} : ∀ (t : List Hd) (hl : Nat → Nat), (∀ c, c < 6 → h_ok (th c) (hl c)) → l_cov hl t = true → ∀ p ∈ a_line t hl, p.2 < 6
  | [], hl, _, _, p, hp => absurd hp List.not_mem_nil
  | x :: t, hl, hv, hc, p, hp => by
    obtain ⟨r, r1, r6, r2, r3⟩ := l_go hv hc
    have lineE : a_line (x :: t) hl = (x.1, r) :: a_line t (uh hl r (h_lo (hl r) x.2.1)) := by
      show (x.1, (l_first hl x t).getD 0) :: a_line t (uh hl ((l_first hl x t).getD 0) (h_lo (hl ((l_first hl x t).getD 0)) x.2.1)) = _
      rw [r1]
      rfl
    rw [lineE] at hp
    rcases List.mem_cons.mp hp with rfl | hp
    · exact r6
    · exact a_line_lt t _ (l_ok hv (h_can_has r2)) r3 p hp
theorem a_rowS_lt {w : Nat → Nat} (hw : a_WF w) {s set : Nat} (hen : a_en w (w 54) (a_keyS w s set) = true) : ∀ p ∈ a_rowS w s set, p.2 < 6 := by
  refine a_line_lt (th := a_thumb w) _ _ (fun c _ => a_ok c) ?_
  unfold a_en a_enough at hen
  rw [Bool.and_eq_true_iff] at hen
  obtain ⟨k1, k2, k3, k4⟩ := l_all_cnt (key := a_keyS w s set) hw
  unfold l_cov a_covN
  rw [k1, k2, k3, k4]
  exact hen.2
def z_RR (fi : Nat → Nat → Int32) (R : List (Nat × Nat)) : Prop := fi 133 90 = nI R.length ∧ R.length ≤ 18 ∧ (∀ j p, R[j]? = some p → fi 143 j = nI p.2 ∧ fi 144 j = nI p.1) ∧ ∀ p ∈ R, p.2 < 6 ∧ p.1 < 3
def oo (C o : Option Nat) : Option Nat := match C with | some r => some r | none => o
def oI (C : Option Nat) : Int32 := match C with | some r => nI r | none => nM 1
def z_GF (fi : Nat → Nat → Int32) (A B : Nat) (C : Option Nat) (P : Nat) : Prop := fi 133 100 = nI A ∧ fi 133 101 = nI B ∧ fi 133 103 = oI C ∧ fi 133 102 = nI P
/-- who is asked about: nobody, or one -/
def z_who (ci : Int32) (tm : Nat → Nat) (g : Nat → Nat) : Prop := (ci = nM 1 ∧ g = fun _ => 0) ∨ ∃ c, c < 6 ∧ ci = nI c ∧ g = shB tm c
theorem two_bits : ∀ T, T < 64 → ((T &&& (T - 1) = 0) ↔ ¬ 2 ≤ pop T) := by decide +kernel
theorem and_less {T : Nat} (hT : T < 64) : nI T &&& (nI T - nI 1) = nI (T &&& (T - 1)) := by
  by_cases c : T = 0
  · subst c; decide
  · have : nI T - nI 1 = nI (T - 1) := pk_sub (a := T) (b := 1) (by omega)
    rw [this, b_and]
section
variable {fi fi' : Nat → Nat → Int32} {fl fl' : Nat → Nat → Int64} {fr : Nat → Nat → Option Nat} {Q : Option Value → Mm → Prop} {w : Nat → Nat} {k : Nat} {M : Mm} {ws : Nat → Nat → Nat} {nn tx : Nat → Nat} {n : Nat}
theorem gt_t_ (hf : z_FR fr) {R : List (Nat × Nat)} (hR : z_RR fi R) {v1 v2 v3 v6 v9 v10 v11 : Int32} {v4 v7 : Int64} {e : Nat} (he : e < 3) : ∀ m j, j + m = R.length → TT 64 73 [some (.ref 133), some (.int v1), some (.int v2), some (.int v3), some (.long v4), none, some (.int v6), some (.long v7), none, some (.int v9), some (.int v10), some (.int v11), some (.int (nI e)), some (.int (nI (t_of e (R.take j)))), some (.int (nI j))] [] (151, fi, fl, fr) Q = TT 64 118 [some (.ref 133), some (.int v1), some (.int v2), some (.int v3), some (.long v4), none, some (.int v6), some (.long v7), none, some (.int v9), some (.int v10), some (.int v11), some (.int (nI e)), some (.int (nI (t_of e R))), some (.int (nI R.length))] [] (151, fi, fl, fr) Q := by
  have o133 : z_ok 151 133 20 = true := rfl; have o143 : z_ok 151 143 1 = true := rfl; have o144 : z_ok 151 144 1 = true := rfl
  have l143 : z_al 143 = 18 := rfl; have l144 : z_al 144 = 18 := rfl
  obtain ⟨r1, r2, r3, r4⟩ := hR
  intro m
  induction m with
  | zero =>
    intro j hj
    obtain rfl : j = R.length := by omega
    rw [List.take_length]
    simp (disch := first | assumption | rfl | exact zle_0 | exact zle_1 | exact zle_2 | exact zle_3 | exact zle_4 | exact zb_0 | exact zb_1 | exact zb01_B | omega) only [zT64_73, zr_iload_14, zT64_75, zr_aload_0, zT64_76, zr_gf_90, zT64_79, zr_icmp_ge, zcl_i, zcl_r, zcl_l, zcl_n, zv_some, zv_none, Nat.reduceAdd, Nat.reduceMul, Nat.reduceSub, Nat.reduceLT, Nat.reduceLeDiff, Nat.reduceEqDiff, Int.reduceToNat, true_implies, false_implies, implies_true, and_true, true_and, not_true_eq_false, not_false_eq_true, Nat.zero_add, Nat.add_zero, nI_add, nI_ltI, nI_leI, nI_eq, pk_mul, pk_sub, u2_same, u2_row, u2_other, r1, olt_T, olt_F, ole_T, ole_F, oeq_T, oeq_F]
  | succ m ih =>
    intro j hj
    have jl : j < R.length := by omega
    have e1 := List.getElem?_eq_getElem jl
    obtain ⟨g1, g2⟩ := r3 j _ e1
    obtain ⟨p6, p3⟩ := r4 _ (List.getElem_mem jl)
    have ih' := ih (j + 1) (by omega)
    have tk : R.take (j + 1) = R.take j ++ [R[j]] := (List.take_append_getElem jl).symm
    rw [tk, t_of_app] at ih'
    generalize R[j] = p at *
    have pw : 2 ^ p.2 < 64 := Nat.pow_lt_pow_right (a := 2) (n := 6) (by decide) p6
    generalize t_of e (R.take j) = acc at *
    generalize t_of e R = res at *
    generalize R.length = len at *
    simp (disch := first | assumption | rfl | exact zle_0 | exact zle_1 | exact zle_2 | exact zle_3 | exact zle_4 | exact zb_0 | exact zb_1 | exact zb01_B | omega) only [zT64_73, zr_iload_14, zcl_i, zcl_r, zcl_l, zcl_n, zv_some, zv_none, Nat.reduceAdd, Nat.reduceMul, Nat.reduceSub, Nat.reduceLT, Nat.reduceLeDiff, Nat.reduceEqDiff, Int.reduceToNat, true_implies, false_implies, implies_true, and_true, true_and, not_true_eq_false, not_false_eq_true, Nat.zero_add, Nat.add_zero, nI_add, nI_ltI, nI_leI, nI_eq, pk_mul, pk_sub, u2_same, u2_row, u2_other]
    by_cases c : p.1 = e
    · rw [if_pos c] at ih'
      rw [c] at g2
      simp (disch := first | assumption | rfl | exact zle_0 | exact zle_1 | exact zle_2 | exact zle_3 | exact zle_4 | exact zb_0 | exact zb_1 | exact zb01_B | omega) only [zT64_75, zr_aload_0, zT64_76, zr_gf_90, zT64_79, zr_icmp_ge, zT64_82, zr_iload_13, zT64_84, zT64_85, zr_gf_91, zr_or, zr_go, zf_133_91, zT64_88, zr_iload_14, zT64_90, zr_iald, zT64_91, zr_iload_12, zT64_93, zr_icmp_ne, zT64_96, zr_ic_1, zT64_97, zT64_98, zr_gf_89, zf_133_89, zT64_101, zT64_103, zT64_104, zr_ishl, zT64_105, zr_goto, zT64_108, zr_ic_0, zT64_109, zr_ior, zT64_110, zr_istore_13, zT64_112, zr_iinc_14_1, zT64_115, zcl_i, zcl_r, zcl_l, zcl_n, zv_some, zv_none, Nat.reduceAdd, Nat.reduceMul, Nat.reduceSub, Nat.reduceLT, Nat.reduceLeDiff, Nat.reduceEqDiff, Int.reduceToNat, true_implies, false_implies, implies_true, and_true, true_and, not_true_eq_false, not_false_eq_true, Nat.zero_add, Nat.add_zero, nI_add, nI_ltI, nI_leI, nI_eq, pk_mul, pk_sub, u2_same, u2_row, u2_other, r1, g1, g2, b_shl, Nat.one_mul, b_or, ih', olt_T, olt_F, ole_T, ole_F, oeq_T, oeq_F]
    · rw [if_neg c] at ih'
      simp (disch := first | assumption | rfl | exact zle_0 | exact zle_1 | exact zle_2 | exact zle_3 | exact zle_4 | exact zb_0 | exact zb_1 | exact zb01_B | omega) only [zT64_75, zr_aload_0, zT64_76, zr_gf_90, zT64_79, zr_icmp_ge, zT64_82, zr_iload_13, zT64_84, zT64_85, zr_gf_91, zr_or, zr_go, zf_133_91, zT64_88, zr_iload_14, zT64_90, zr_iald, zT64_91, zr_iload_12, zT64_93, zr_icmp_ne, zT64_96, zr_ic_1, zT64_97, zT64_98, zr_gf_89, zf_133_89, zT64_101, zT64_103, zT64_104, zr_ishl, zT64_105, zr_goto, zT64_108, zr_ic_0, zT64_109, zr_ior, zT64_110, zr_istore_13, zT64_112, zr_iinc_14_1, zT64_115, zcl_i, zcl_r, zcl_l, zcl_n, zv_some, zv_none, Nat.reduceAdd, Nat.reduceMul, Nat.reduceSub, Nat.reduceLT, Nat.reduceLeDiff, Nat.reduceEqDiff, Int.reduceToNat, true_implies, false_implies, implies_true, and_true, true_and, not_true_eq_false, not_false_eq_true, Nat.zero_add, Nat.add_zero, nI_add, nI_ltI, nI_leI, nI_eq, pk_mul, pk_sub, u2_same, u2_row, u2_other, r1, g1, g2, b_or, Nat.or_zero, ih', olt_T, olt_F, ole_T, ole_F, oeq_T, oeq_F]
end
