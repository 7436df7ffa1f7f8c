/-! the model's share, burns, letGo -/
section
variable {fi fi' : Nat → Nat → Int32} {fl fl' : Nat → Nat → Int64} {fr : Nat → Nat → Option Nat} {Q : Option Value → Mm → Prop} {w : Nat → Nat} {k : Nat} {M : Mm} {ws : Nat → Nat → Nat} {nn tx : Nat → Nat} {n : Nat}
theorem sh_g_ (hf : z_FR fr) {x y z : Int32} {g : Nat} (hQ : ∀ v6, TT 63 29 [some (.ref 133), some (.int x), some (.int y), some (.int z), some (.int (nI g)), some (.int (nI 0)), v6] [] (151, fi, fl, fr) Q) :
    ∀ k b, b < k → ∀ a v6, a < 2 ^ 31 → b < 2 ^ 31 → Nat.gcd a b = g → TT 63 6 [some (.ref 133), some (.int x), some (.int y), some (.int z), some (.int (nI a)), some (.int (nI b)), v6] [] (151, fi, fl, fr) Q := by
  intro k
  induction k with
  | zero => intro b hb; exact absurd hb (Nat.not_lt_zero _)
  | succ k ih =>
    intro b hb a v6 ha hb2 hg
    by_cases c : b = 0
    · subst c
      rw [Nat.gcd_zero_right] at hg
      subst hg
      have o := hQ v6
      simp (disch := first | assumption | rfl | exact zle_0 | exact zle_1 | exact zle_2 | exact zle_3 | exact zle_4 | exact zb_0 | exact zb_1 | exact zb01_B | omega) only [zT63_6, zr_iload_5, zT63_8, zr_if_eq, zcl_i, zcl_r, zcl_l, zcl_n, zv_some, zv_none, Nat.reduceAdd, Nat.reduceMul, Nat.reduceSub, Nat.reduceLT, Nat.reduceLeDiff, Nat.reduceEqDiff, Int.reduceToNat, true_implies, false_implies, implies_true, and_true, true_and, not_true_eq_false, not_false_eq_true, Nat.zero_add, Nat.add_zero, nI_add, nI_ltI, nI_leI, nI_eq, pk_mul, pk_sub, u2_same, u2_row, u2_other, olt_T, olt_F, ole_T, ole_F, oeq_T, oeq_F]
      exact o
    · have lt : a % b < b := Nat.mod_lt _ (by omega)
      have nz := nI_nz (c := b) (by omega) hb2
      have rm := pk_rem (a := a) (d := b) ha (by omega) hb2
      have o := ih (a % b) (by omega) b (some (.int (nI (a % b)))) hb2 (by omega) (by rw [← hg, Nat.gcd_comm a b, Nat.gcd_rec b a, Nat.gcd_comm])
      have nz2 : (nI b = nI 0) = False := by rw [nI_eq hb2 (by decide)]; exact eq_false c
      simp (disch := first | assumption | rfl | exact zle_0 | exact zle_1 | exact zle_2 | exact zle_3 | exact zle_4 | exact zb_0 | exact zb_1 | exact zb01_B | omega) only [zT63_6, zr_iload_5, zcl_i, zcl_r, zcl_l, zcl_n, zv_some, zv_none, Nat.reduceAdd, Nat.reduceMul, Nat.reduceSub, Nat.reduceLT, Nat.reduceLeDiff, Nat.reduceEqDiff, Int.reduceToNat, true_implies, false_implies, implies_true, and_true, true_and, not_true_eq_false, not_false_eq_true, Nat.zero_add, Nat.add_zero, nI_add, nI_ltI, nI_leI, nI_eq, pk_mul, pk_sub, u2_same, u2_row, u2_other]
      simp (disch := first | assumption | rfl | exact zle_0 | exact zle_1 | exact zle_2 | exact zle_3 | exact zle_4 | exact zb_0 | exact zb_1 | exact zb01_B | omega) only [zT63_8, zr_if_eq, zT63_11, zr_iload_4, zT63_13, zr_iload_5, zT63_15, zr_irem, zT63_16, zr_istore_6, zT63_18, zT63_20, zr_istore_4, zT63_22, zr_iload_6, zT63_24, zr_istore_5, zT63_26, zr_goto, zcl_i, zcl_r, zcl_l, zcl_n, zv_some, zv_none, Nat.reduceAdd, Nat.reduceMul, Nat.reduceSub, Nat.reduceLT, Nat.reduceLeDiff, Nat.reduceEqDiff, Int.reduceToNat, true_implies, false_implies, implies_true, and_true, true_and, not_true_eq_false, not_false_eq_true, Nat.zero_add, Nat.add_zero, nI_add, nI_ltI, nI_leI, nI_eq, pk_mul, pk_sub, u2_same, u2_row, u2_other, nz2, rm, olt_T, olt_F, ole_T, ole_F, oeq_T, oeq_F]
      exact o
theorem sh_l_ (hf : z_FR fr) {a b n g A B : Nat} {v5 : Int32} (ga : a / g = A) (gb : (if a = 0 then 1 else b / g) = B) (g0 : 0 < g) (hg : g < 2 ^ 31) (ha : a ≤ 200) (hb : b ≤ 200) (hn : n < 1000) (hv : ∀ i, i ≤ n → A ^ i < LB ^ 8 ∧ B ^ i < LB ^ 8) {fi0 : Nat → Nat → Int32}
    (hQ : ∀ fi' fl', z_ML fi' fl' 97 149 (A ^ n) → z_ML fi' fl' 99 150 (B ^ n) → (∀ F, F ≠ 97 → F ≠ 99 → fi' 133 F = fi0 133 F) → (∀ j, j ≠ 133 → fi' j = fi0 j) → Q (some (.int (nI 1))) (151, fi', fl', fr)) :
    ∀ m i, i + m = n → ∀ f1 l1, z_ML f1 l1 97 149 (A ^ i) → z_ML f1 l1 99 150 (B ^ i) → (∀ F, F ≠ 97 → F ≠ 99 → f1 133 F = fi0 133 F) → (∀ j, j ≠ 133 → f1 j = fi0 j) →
    TT 63 56 [some (.ref 133), some (.int (nI a)), some (.int (nI b)), some (.int (nI n)), some (.int (nI g)), some (.int v5), some (.int (nI i))] [] (151, f1, l1, fr) Q := by
  have o133 : z_ok 151 133 20 = true := rfl; have o149 : z_ok 151 149 3 = true := rfl; have o150 : z_ok 151 150 3 = true := rfl
  have l149 : z_al 149 = 10 := rfl; have l150 : z_al 150 = 10 := rfl
  have A2 : A ≤ 200 := by rw [← ga]; exact Nat.le_trans (Nat.div_le_self _ _) ha
  have B2 : B ≤ 200 := by
    rw [← gb]
    split
    · decide
    · exact Nat.le_trans (Nat.div_le_self _ _) hb
  have nz := nI_nz (c := g) g0 hg
  have dA := pk_div (a := a) (d := g) (by omega) g0 hg
  have dB := pk_div (a := b) (d := g) (by omega) g0 hg
  rw [ga] at dA
  have iA := nI_l (show A < 2 ^ 31 by omega)
  have iB := nI_l (show b / g < 2 ^ 31 from Nat.lt_of_le_of_lt (Nat.div_le_self _ _) (by omega))
  intro m
  induction m with
  | zero =>
    intro i hi f1 l1 h1 h2 h3 h4
    obtain rfl : i = n := by omega
    have o := hQ f1 l1 h1 h2 h3 h4
    simp (disch := first | assumption | rfl | exact zle_0 | exact zle_1 | exact zle_2 | exact zle_3 | exact zle_4 | exact zb_0 | exact zb_1 | exact zb01_B | omega) only [zT63_56, zr_iload_6, zT63_58, zr_iload_3, zT63_59, zr_icmp_ge, zT63_116, zr_ic_1, zT63_117, zr_ret0, zcl_i, zcl_r, zcl_l, zcl_n, zv_some, zv_none, Nat.reduceAdd, Nat.reduceMul, Nat.reduceSub, Nat.reduceLT, Nat.reduceLeDiff, Nat.reduceEqDiff, Int.reduceToNat, true_implies, false_implies, implies_true, and_true, true_and, not_true_eq_false, not_false_eq_true, Nat.zero_add, Nat.add_zero, nI_add, nI_ltI, nI_leI, nI_eq, pk_mul, pk_sub, u2_same, u2_row, u2_other, olt_T, olt_F, ole_T, ole_F, oeq_T, oeq_F]
    exact o
  | succ m ih =>
    intro i hi f1 l1 h1 h2 h3 h4
    obtain ⟨a1, a2, a3⟩ := h1
    obtain ⟨b1, b2, b3⟩ := h2
    have v1 : A ^ i * A < LB ^ 8 ∧ B ^ i * B < LB ^ 8 := ⟨by rw [← Nat.pow_succ]; exact (hv (i + 1) (by omega)).1, by rw [← Nat.pow_succ]; exact (hv (i + 1) (by omega)).2⟩
    simp (disch := first | assumption | rfl | exact zle_0 | exact zle_1 | exact zle_2 | exact zle_3 | exact zle_4 | exact zb_0 | exact zb_1 | exact zb01_B | omega) only [zT63_56, zr_iload_6, zcl_i, zcl_r, zcl_l, zcl_n, zv_some, zv_none, Nat.reduceAdd, Nat.reduceMul, Nat.reduceSub, Nat.reduceLT, Nat.reduceLeDiff, Nat.reduceEqDiff, Int.reduceToNat, true_implies, false_implies, implies_true, and_true, true_and, not_true_eq_false, not_false_eq_true, Nat.zero_add, Nat.add_zero, nI_add, nI_ltI, nI_leI, nI_eq, pk_mul, pk_sub, u2_same, u2_row, u2_other]
    simp (disch := first | assumption | rfl | exact zle_0 | exact zle_1 | exact zle_2 | exact zle_3 | exact zle_4 | exact zb_0 | exact zb_1 | exact zb01_B | omega) only [zT63_58, zr_iload_3, zT63_59, zr_icmp_ge, zT63_62, zr_aload_0, zT63_63, zT63_64, zr_gf_96, zr_or, zr_go, zf_133_96, zT63_67, zT63_68, zr_gf_97, zT63_71, zr_iload_1, zT63_72, zr_iload_4, zT63_74, zr_idiv, zT63_75, zr_i2l, zT63_76, zr_iv_62, zcl_i, zcl_r, zcl_l, zcl_n, zv_some, zv_none, Nat.reduceAdd, Nat.reduceMul, Nat.reduceSub, Nat.reduceLT, Nat.reduceLeDiff, Nat.reduceEqDiff, Int.reduceToNat, true_implies, false_implies, implies_true, and_true, true_and, not_true_eq_false, not_false_eq_true, Nat.zero_add, Nat.add_zero, nI_add, nI_ltI, nI_leI, nI_eq, pk_mul, pk_sub, u2_same, u2_row, u2_other, a1, dA, iA, olt_T, olt_F, ole_T, ole_F, oeq_T, oeq_F]
    refine sm_times hf (arr := 149) rfl rfl a2 a3 A2 v1.1 (fun l2 g1 g2 => ?_)
    have b3' : ∀ k, k < a_len (B ^ i) → l2 150 k = lN (B ^ i / LB ^ k % LB) := fun k hk => by rw [g2 150 (by decide)]; exact b3 k hk
    have tail : TT 62 0 [some (.ref 150), some (.int (nI (a_len (B ^ i)))), some (.long (lN B)), none, none, none, none, none, none, none] [] (151, u2 f1 133 97 (nI (a_len (A ^ i * A))), l2, fr) (fun v M1 => TT 63 107 [some (.ref 133), some (.int (nI a)), some (.int (nI b)), some (.int (nI n)), some (.int (nI g)), some (.int v5), some (.int (nI i))] (v.toList ++ [.ref 133]) M1 Q) := by
      refine sm_times hf (arr := 150) rfl rfl b2 b3' B2 v1.2 (fun l3 g3 g4 => ?_)
      have o := ih (i + 1) (by omega) (u2 (u2 f1 133 97 (nI (a_len (A ^ i * A)))) 133 99 (nI (a_len (B ^ i * B)))) l3 ⟨by rw [Nat.pow_succ, u2_row (by decide), u2_same], by rw [Nat.pow_succ]; exact v1.1, fun k hk => by rw [Nat.pow_succ] at hk ⊢; rw [g4 149 (by decide)]; exact g1 k hk⟩ ⟨by rw [Nat.pow_succ, u2_same], by rw [Nat.pow_succ]; exact v1.2, fun k hk => by rw [Nat.pow_succ] at hk ⊢; exact g3 k hk⟩ (fun F q1 q2 => by rw [u2_row q2, u2_row q1]; exact h3 F q1 q2) (fun j hj => by rw [u2_ne hj, u2_ne hj]; exact h4 j hj)
      simp (disch := first | assumption | rfl | exact zle_0 | exact zle_1 | exact zle_2 | exact zle_3 | exact zle_4 | exact zb_0 | exact zb_1 | exact zb01_B | omega) only [zT63_107, zr_pf_99, zT63_110, zr_iinc_6_1, zT63_113, zr_goto, zcl_i, zcl_r, zcl_l, zcl_n, zv_some, zv_none, Nat.reduceAdd, Nat.reduceMul, Nat.reduceSub, Nat.reduceLT, Nat.reduceLeDiff, Nat.reduceEqDiff, Int.reduceToNat, true_implies, false_implies, implies_true, and_true, true_and, not_true_eq_false, not_false_eq_true, Nat.zero_add, Nat.add_zero, nI_add, nI_ltI, nI_leI, nI_eq, pk_mul, pk_sub, u2_same, u2_row, u2_other, olt_T, olt_F, ole_T, ole_F, oeq_T, oeq_F]
      exact o
    by_cases c : a = 0
    · rw [if_pos c] at gb
      rw [← gb] at tail b1
      subst c
      simp (disch := first | assumption | rfl | exact zle_0 | exact zle_1 | exact zle_2 | exact zle_3 | exact zle_4 | exact zb_0 | exact zb_1 | exact zb01_B | omega) only [zT63_79, zr_pf_97, zT63_82, zr_aload_0, zT63_83, zT63_84, zr_gf_98, zr_or, zr_go, zf_133_98, zT63_87, zT63_88, zr_gf_99, zT63_91, zr_iload_1, zT63_92, zr_if_ne, zT63_95, zr_ldc2, zT63_96, zr_goto, zT63_99, zr_iload_2, zT63_100, zr_iload_4, zT63_102, zr_idiv, zT63_103, zr_i2l, zT63_104, zr_iv_62, zcl_i, zcl_r, zcl_l, zcl_n, zv_some, zv_none, Nat.reduceAdd, Nat.reduceMul, Nat.reduceSub, Nat.reduceLT, Nat.reduceLeDiff, Nat.reduceEqDiff, Int.reduceToNat, true_implies, false_implies, implies_true, and_true, true_and, not_true_eq_false, not_false_eq_true, Nat.zero_add, Nat.add_zero, nI_add, nI_ltI, nI_leI, nI_eq, pk_mul, pk_sub, u2_same, u2_row, u2_other, b1, olt_T, olt_F, ole_T, ole_F, oeq_T, oeq_F]
      exact tail
    · rw [if_neg c] at gb
      rw [gb] at dB iB
      have nz2 : (nI a = nI 0) = False := by rw [nI_eq (by omega) (by decide)]; exact eq_false c
      simp (disch := first | assumption | rfl | exact zle_0 | exact zle_1 | exact zle_2 | exact zle_3 | exact zle_4 | exact zb_0 | exact zb_1 | exact zb01_B | omega) only [zT63_79, zr_pf_97, zT63_82, zr_aload_0, zT63_83, zT63_84, zr_gf_98, zr_or, zr_go, zf_133_98, zT63_87, zT63_88, zr_gf_99, zT63_91, zr_iload_1, zT63_92, zr_if_ne, zT63_95, zr_ldc2, zT63_96, zr_goto, zT63_99, zr_iload_2, zT63_100, zr_iload_4, zT63_102, zr_idiv, zT63_103, zr_i2l, zT63_104, zr_iv_62, zcl_i, zcl_r, zcl_l, zcl_n, zv_some, zv_none, Nat.reduceAdd, Nat.reduceMul, Nat.reduceSub, Nat.reduceLT, Nat.reduceLeDiff, Nat.reduceEqDiff, Int.reduceToNat, true_implies, false_implies, implies_true, and_true, true_and, not_true_eq_false, not_false_eq_true, Nat.zero_add, Nat.add_zero, nI_add, nI_ltI, nI_leI, nI_eq, pk_mul, pk_sub, u2_same, u2_row, u2_other, b1, nz2, dB, iB, olt_T, olt_F, ole_T, ole_F, oeq_T, oeq_F]
      exact tail
theorem ml_one {F arr : Nat} {l1 : Nat → Nat → Int64} (h1 : fi 133 F = nI 1) (h2 : l1 arr 0 = lN 1) : z_ML fi l1 F arr 1 := by
  have e : a_len 1 = 1 := by decide +kernel
  refine ⟨by rw [e]; exact h1, by decide, fun k hk => ?_⟩
  rw [e] at hk
  obtain rfl : k = 0 := by omega
  rw [h2]
  decide +kernel
theorem sm_share (hf : z_FR fr) {a b n : Nat} (ha : a ≤ 200) (hb : b ≤ 200) (b0 : 0 < b) (hn : n < 1000) (hv : ∀ i, i ≤ n → (a / Nat.gcd a b) ^ i < LB ^ 8 ∧ (b / Nat.gcd a b) ^ i < LB ^ 8)
    (hQ : ∀ fi' fl', z_ML fi' fl' 97 149 (a_pA a b n) → z_ML fi' fl' 99 150 (a_pB a b n) → (∀ F, F ≠ 97 → F ≠ 99 → fi' 133 F = fi 133 F) → (∀ j, j ≠ 133 → fi' j = fi j) → Q (some (.int (nI 1))) (151, fi', fl', fr)) :
    TT 63 0 [some (.ref 133), some (.int (nI a)), some (.int (nI b)), some (.int (nI n)), none, none, none] [] (151, fi, fl, fr) Q := by
  have o133 : z_ok 151 133 20 = true := rfl; have o149 : z_ok 151 149 3 = true := rfl; have o150 : z_ok 151 150 3 = true := rfl
  have l149 : z_al 149 = 10 := rfl; have l150 : z_al 150 = 10 := rfl
  have g0 : 0 < Nat.gcd a b := Nat.gcd_pos_of_pos_right _ b0
  have gb : Nat.gcd a b ≤ b := Nat.le_of_dvd b0 (Nat.gcd_dvd_right _ _)
  have ga : a ≠ 0 → Nat.gcd a b ≤ a := fun h => Nat.le_of_dvd (by omega) (Nat.gcd_dvd_left _ _)
  have pB : (if a = 0 then 1 else b / Nat.gcd a b) ^ n = a_pB a b n := by
    unfold a_pB a_pA
    by_cases c : a = 0
    · rw [if_pos c, Nat.one_pow]
      by_cases q : n = 0
      · subst q; simp
      · rw [c, Nat.zero_div, Nat.zero_pow (by omega), if_pos rfl]
    · rw [if_neg c]
      have : 0 < a / Nat.gcd a b := Nat.div_pos (ga c) g0
      have := Nat.pow_pos (n := n) this
      rw [if_neg (by omega)]
  have L := sh_l_ (fi0 := fi) (Q := Q) (a := a) (b := b) (n := n) (v5 := nI 0) hf rfl rfl g0 (by omega) ha hb hn (fun i hi => ⟨(hv i hi).1, by
    split
    · rw [Nat.one_pow]; decide
    · exact (hv i hi).2⟩) (fun f' l' q1 q2 q3 q4 => hQ f' l' q1 (by rw [← pB]; exact q2) q3 q4) n 0 (Nat.zero_add _) (u2 (u2 fi 133 97 (nI 1)) 133 99 (nI 1)) (u2 (u2 fl 149 0 (lN 1)) 150 0 (lN 1)) (by rw [Nat.pow_zero]; exact ml_one (by rw [u2_row (by decide), u2_same]) (by rw [u2_other (by decide), u2_same])) (by rw [Nat.pow_zero]; exact ml_one (by rw [u2_same]) (by rw [u2_same])) (fun F q1 q2 => by rw [u2_row q2, u2_row q1]) (fun j hj => by rw [u2_ne hj, u2_ne hj])
  have G := sh_g_ (fl := fl) (fi := fi) (Q := Q) (x := nI a) (y := nI b) (z := nI n) (g := Nat.gcd a b) hf (fun v6 => by
    simp (disch := first | assumption | rfl | exact zle_0 | exact zle_1 | exact zle_2 | exact zle_3 | exact zle_4 | exact zb_0 | exact zb_1 | exact zb01_B | omega) only [zT63_29, zr_aload_0, zT63_30, zr_gf_96, zr_or, zr_go, zf_133_96, zT63_33, zr_ic_0, zT63_34, zr_ldc2, zT63_35, zr_last, zT63_36, zT63_37, zr_gf_98, zf_133_98, zT63_40, zT63_41, zT63_42, zT63_43, zT63_44, zr_ic_1, zT63_45, zr_pf_97, zT63_48, zT63_49, zT63_50, zr_pf_99, zT63_53, zT63_54, zr_istore_6, zcl_i, zcl_r, zcl_l, zcl_n, zv_some, zv_none, Nat.reduceAdd, Nat.reduceMul, Nat.reduceSub, Nat.reduceLT, Nat.reduceLeDiff, Nat.reduceEqDiff, Int.reduceToNat, true_implies, false_implies, implies_true, and_true, true_and, not_true_eq_false, not_false_eq_true, Nat.zero_add, Nat.add_zero, nI_add, nI_ltI, nI_leI, nI_eq, pk_mul, pk_sub, u2_same, u2_row, u2_other, olt_T, olt_F, ole_T, ole_F, oeq_T, oeq_F]
    exact L) (b + 1) b (Nat.lt_succ_self _) a none (by omega) (by omega) rfl
  simp (disch := first | assumption | rfl | exact zle_0 | exact zle_1 | exact zle_2 | exact zle_3 | exact zle_4 | exact zb_0 | exact zb_1 | exact zb01_B | omega) only [zT63_0, zr_iload_1, zT63_1, zr_istore_4, zT63_3, zr_iload_2, zT63_4, zr_istore_5, zcl_i, zcl_r, zcl_l, zcl_n, zv_some, zv_none, Nat.reduceAdd, Nat.reduceMul, Nat.reduceSub, Nat.reduceLT, Nat.reduceLeDiff, Nat.reduceEqDiff, Int.reduceToNat, true_implies, false_implies, implies_true, and_true, true_and, not_true_eq_false, not_false_eq_true, Nat.zero_add, Nat.add_zero, nI_add, nI_ltI, nI_leI, nI_eq, pk_mul, pk_sub, u2_same, u2_row, u2_other, olt_T, olt_F, ole_T, ole_F, oeq_T, oeq_F]
  exact G
theorem z_MS.frac (h : z_MS fi fl ws nn tx) {A B : Nat} (hA : z_ML fi' fl' 97 149 A) (hB : z_ML fi' fl' 99 150 B) (h1 : ∀ F, F ≠ 97 → F ≠ 99 → fi' 133 F = fi 133 F) (h2 : ∀ j, j ≠ 133 → fi' j = fi j) : z_MS fi' fl' ws (nf6 nn A B) tx := by
  obtain ⟨hk, hc, ht, -, -⟩ := h
  have e : ∀ j, j < 6 → nf6 nn A B j = nn j := fun j hj => by unfold nf6; rw [uh_ne (by omega), uh_ne (by omega)]
  refine ⟨?_, ?_, ?_, ?_, ?_⟩
  · have := hk.frame (fi' := fi') (h2 134 (by decide)) (h2 135 (by decide))
    unfold z_MK at *
    rw [e 0 (by decide), e 1 (by decide)]
    exact this
  · unfold z_MC at *
    rw [h2 137 (by decide), e 3 (by decide), e 4 (by decide), e 5 (by decide)]
    exact hc
  · rw [e 2 (by decide)]
    exact ht.frame (h1 _ (by decide) (by decide)) (h2 136 (by decide))
  · unfold nf6; rw [uh_ne (by decide), uh_same]; exact hA
  · unfold nf6; rw [uh_same]; exact hB
end
