/-! a minute of the plan, in the model -/
section
variable {fi fi' : Nat → Nat → Int32} {fl fl' : Nat → Nat → Int64} {fr : Nat → Nat → Option Nat} {Q : Option Value → Mm → Prop} {w : Nat → Nat} {k : Nat} {M : Mm} {ws : Nat → Nat → Nat} {nn tx : Nat → Nat} {n : Nat}
/-- what a walk through the plan leaves as it was -/
def zg (fi fi' : Nat → Nat → Int32) : Prop := z_sr fi fi' ∧ ∀ j, 140 ≤ j → j ≤ 142 → fi' j = fi j
theorem zg.id_ {a : Nat → Nat → Int32} : zg a a := ⟨z_sr.id_, fun _ _ _ => rfl⟩
theorem zg.tr {a b c : Nat → Nat → Int32} (h : zg a b) (h2 : zg b c) : zg a c := ⟨h.1.tr h2.1, fun j j1 j2 => by rw [h2.2 j j1 j2, h.2 j j1 j2]⟩
theorem zw_f.zg {a b : Nat → Nat → Int32} (h : zw_f a b) : zg a b := ⟨h.sr, fun j j1 j2 => h.2 j (by omega)⟩
theorem zg.up {f : Nat → Nat → Int32} {F : Nat} {v : Int32} (h : F = 100 ∨ F = 101 ∨ F = 103 ∨ F = 102) : zg f (u2 f 133 F v) := by
  refine ⟨⟨?_, fun j hj => u2_ne (by omega)⟩, fun j j1 j2 => u2_ne (by omega)⟩
  rcases h with rfl | rfl | rfl | rfl <;> exact ⟨u2_row (by decide), u2_row (by decide), u2_row (by decide)⟩
theorem z_RR.up {f : Nat → Nat → Int32} {F : Nat} {v : Int32} {R : List (Nat × Nat)} (h : z_RR f R) (hF : F = 100 ∨ F = 101 ∨ F = 103 ∨ F = 102) : z_RR (u2 f 133 F v) R := by
  obtain ⟨h1, h2, h3, h4⟩ := h
  refine ⟨?_, h2, fun j p hp => ?_, h4⟩
  · rw [u2_row (by omega)]; exact h1
  · rw [u2_other (by decide), u2_other (by decide)]; exact h3 j p hp
theorem oo_some {r : Nat} {o : Option Nat} : oo (some r) o = some r := rfl
theorem oo_none {o : Option Nat} : oo none o = o := rfl
theorem oI_ne {r : Nat} (h : r < 2 ^ 31) : (nI r = nM 1) = False := nM_eqI (by decide) (by decide) h
theorem gt_e_ (hf : z_FR fr) {tm g : Nat → Nat} {ci : Int32} (hw : z_who ci tm g) {R : List (Nat × Nat)} {w20 i s q sd : Nat} (hw20 : w20 ≤ 20) (hi : i < 45) {n k A1 B1 P : Nat} {D : Option Nat} {fi0 : Nat → Nat → Int32} {at_ : Nat → Nat}
    (htm : ∀ e, e < 3 → t_of e R = tm (3 * i + e) ∧ tm (3 * i + e) < 64) (hat : ∀ e, e < 3 → at_ (e + 1) = at_ e ||| tm (3 * i + e))
    (hQ : ∀ f x C v13 v14, zg fi0 f → z_RR f R → z_GF f A1 B1 C P → x < 2147483648 → (∀ r, C = some r → r < 1000) → oo C (a_burn tm w20 k (3 * i + 3) x) = D → TT 64 237 [some (.ref 133), some (.int (nI n)), some (.int ci), some (.int (nI w20)), some (.long (lN sd)), none, some (.int (nI s)), some (.long (lN x)), none, some (.int (nI i)), some (.int (nI q)), some (.int (nI (at_ 3))), some (.int (nI 3)), v13, v14] [] (151, f, fl, fr) Q) :
    ∀ m e, e + m = 3 → ∀ f x A B C v13 v14, zg fi0 f → z_RR f R → z_GF f A B C P → x < 2147483648 → (∀ r, C = some r → r < 1000) → oo C (a_burn tm w20 (k + m) (3 * i + e) x) = D → A + c3 (shN tm) i m e = A1 → B + c3 g i m e = B1 →
    TT 64 61 [some (.ref 133), some (.int (nI n)), some (.int ci), some (.int (nI w20)), some (.long (lN sd)), none, some (.int (nI s)), some (.long (lN x)), none, some (.int (nI i)), some (.int (nI q)), some (.int (nI (at_ e))), some (.int (nI e)), v13, v14] [] (151, f, fl, fr) Q := by
  have o133 : z_ok 151 133 20 = true := rfl
  have zt : zB true = nI 1 := rfl
  have zf : zB false = nI 0 := rfl
  intro m
  induction m with
  | zero =>
    intro e he f x A B C v13 v14 hz hR hG hx hC hD hA hB
    obtain rfl : e = 3 := by omega
    obtain rfl : A = A1 := hA
    obtain rfl : B = B1 := hB
    have o := hQ f x C v13 v14 hz hR hG hx hC hD
    simp (disch := first | assumption | rfl | exact zle_0 | exact zle_1 | exact zle_2 | exact zle_3 | exact zle_4 | exact zb_0 | exact zb_1 | exact zb01_B | omega) only [zT64_61, zr_iload_12, zT64_63, zr_ic_3, zT64_64, zr_icmp_ge, zcl_i, zcl_r, zcl_l, zcl_n, zv_some, zv_none, Nat.reduceAdd, Nat.reduceMul, Nat.reduceSub, Nat.reduceLT, Nat.reduceLeDiff, Nat.reduceEqDiff, Int.reduceToNat, true_implies, false_implies, implies_true, and_true, true_and, not_true_eq_false, not_false_eq_true, Nat.zero_add, Nat.add_zero, nI_add, nI_ltI, nI_leI, nI_eq, pk_mul, pk_sub, u2_same, u2_row, u2_other, olt_T, olt_F, ole_T, ole_F, oeq_T, oeq_F]
    exact o
  | succ m ih =>
    intro e he f x A B C v13 v14 hz hR hG hx hC hD hA hB
    have e3 : e < 3 := by omega
    obtain ⟨t1, t64⟩ := htm e e3
    have ta := hat e e3
    have T := fun Q => gt_t_ (fl := fl) (Q := Q) hf hR (v1 := nI n) (v2 := ci) (v3 := nI w20) (v6 := nI s) (v9 := nI i) (v10 := nI q) (v11 := nI (at_ e)) (v4 := lN sd) (v7 := lN x) e3 R.length 0 (Nat.zero_add _)
    rw [show t_of e (R.take 0) = 0 from rfl, t1] at T
    have ih' := ih (e + 1) (by omega)
    rw [ta] at ih'
    rw [show c3 (shN tm) i (m + 1) e = shN tm (3 * i + e) + c3 (shN tm) i m (e + 1) from rfl] at hA
    rw [show c3 g i (m + 1) e = g (3 * i + e) + c3 g i m (e + 1) from rfl] at hB
    rw [show k + (m + 1) = (k + m) + 1 by omega] at hD
    rw [show 3 * i + (e + 1) = 3 * i + e + 1 by omega] at ih'
    have tb := two_bits _ t64
    have al := and_less t64
    have land : tm (3 * i + e) &&& (tm (3 * i + e) - 1) < 2 ^ 31 := Nat.lt_of_le_of_lt Nat.and_le_left (by omega)
    have hs := fun M Q d hd => sm_has (M := M) (Q := Q) (b := tm (3 * i + e)) (d := d) (by omega) hd
    obtain ⟨G1, G2, G3, G4⟩ := hG
    simp (disch := first | assumption | rfl | exact zle_0 | exact zle_1 | exact zle_2 | exact zle_3 | exact zle_4 | exact zb_0 | exact zb_1 | exact zb01_B | omega) only [zT64_61, zr_iload_12, zcl_i, zcl_r, zcl_l, zcl_n, zv_some, zv_none, Nat.reduceAdd, Nat.reduceMul, Nat.reduceSub, Nat.reduceLT, Nat.reduceLeDiff, Nat.reduceEqDiff, Int.reduceToNat, true_implies, false_implies, implies_true, and_true, true_and, not_true_eq_false, not_false_eq_true, Nat.zero_add, Nat.add_zero, nI_add, nI_ltI, nI_leI, nI_eq, pk_mul, pk_sub, u2_same, u2_row, u2_other]
    by_cases c : 2 ≤ pop (tm (3 * i + e))
    · have sh : shd tm (3 * i + e) = true := decide_eq_true c
      have nz : ¬ (tm (3 * i + e) &&& (tm (3 * i + e) - 1) = 0) := fun h => tb.mp h c
      have shn : shN tm (3 * i + e) = 1 := by unfold shN; rw [if_pos sh]
      rw [shn] at hA
      -- by one
      obtain ⟨b, hb, hgb⟩ : ∃ b, g (3 * i + e) = b ∧ ∀ f2 : Nat → Nat → Int32, f2 133 101 = nI B → ∀ v13, TT 64 145 [some (.ref 133), some (.int (nI n)), some (.int ci), some (.int (nI w20)), some (.long (lN sd)), none, some (.int (nI s)), some (.long (lN x)), none, some (.int (nI i)), some (.int (nI q)), some (.int (nI (at_ e ||| tm (3 * i + e)))), some (.int (nI e)), some (.int (nI (tm (3 * i + e)))), some (.int (nI v13))] [] (151, f2, fl, fr) Q = TT 64 172 [some (.ref 133), some (.int (nI n)), some (.int ci), some (.int (nI w20)), some (.long (lN sd)), none, some (.int (nI s)), some (.long (lN x)), none, some (.int (nI i)), some (.int (nI q)), some (.int (nI (at_ e ||| tm (3 * i + e)))), some (.int (nI e)), some (.int (nI (tm (3 * i + e)))), some (.int (nI v13))] [] (151, u2 f2 133 101 (nI (B + b)), fl, fr) Q := by
        rcases hw with ⟨rfl, rfl⟩ | ⟨c, c6, rfl, rfl⟩
        · refine ⟨0, rfl, fun f2 h2 v13 => ?_⟩
          have neg := nM_neg (k := 1) (by decide) (by decide)
          simp (disch := first | assumption | rfl | exact zle_0 | exact zle_1 | exact zle_2 | exact zle_3 | exact zle_4 | exact zb_0 | exact zb_1 | exact zb01_B | omega) only [zT64_145, zr_aload_0, zT64_146, zr_dup_r, zr_dup_i, zT64_147, zr_gf_101, zT64_150, zr_iload_2, zT64_151, zr_if_lt, zT64_154, zr_iload_13, zT64_156, zT64_157, zr_iv_5, zT64_160, zr_if_eq, zT64_163, zr_ic_1, zT64_164, zr_goto, zT64_167, zr_ic_0, zT64_168, zr_iadd, zT64_169, zr_pf_101, zcl_i, zcl_r, zcl_l, zcl_n, zv_some, zv_none, Nat.reduceAdd, Nat.reduceMul, Nat.reduceSub, Nat.reduceLT, Nat.reduceLeDiff, Nat.reduceEqDiff, Int.reduceToNat, true_implies, false_implies, implies_true, and_true, true_and, not_true_eq_false, not_false_eq_true, Nat.zero_add, Nat.add_zero, nI_add, nI_ltI, nI_leI, nI_eq, pk_mul, pk_sub, u2_same, u2_row, u2_other, h2, neg, olt_T, olt_F, ole_T, ole_F, oeq_T, oeq_F]
        · have hsc := fun M Q => hs M Q c (by omega)
          cases hbit : a_bit (tm (3 * i + e)) c
          · rw [hbit] at hsc
            refine ⟨0, by unfold shB; rw [sh, hbit]; rfl, fun f2 h2 v13 => ?_⟩
            simp (disch := first | assumption | rfl | exact zle_0 | exact zle_1 | exact zle_2 | exact zle_3 | exact zle_4 | exact zb_0 | exact zb_1 | exact zb01_B | omega) only [zT64_145, zr_aload_0, zT64_146, zr_dup_r, zr_dup_i, zT64_147, zr_gf_101, zT64_150, zr_iload_2, zT64_151, zr_if_lt, zT64_154, zr_iload_13, zT64_156, zT64_157, zr_iv_5, zT64_160, zr_if_eq, zT64_163, zr_ic_1, zT64_164, zr_goto, zT64_167, zr_ic_0, zT64_168, zr_iadd, zT64_169, zr_pf_101, zcl_i, zcl_r, zcl_l, zcl_n, zv_some, zv_none, Nat.reduceAdd, Nat.reduceMul, Nat.reduceSub, Nat.reduceLT, Nat.reduceLeDiff, Nat.reduceEqDiff, Int.reduceToNat, true_implies, false_implies, implies_true, and_true, true_and, not_true_eq_false, not_false_eq_true, Nat.zero_add, Nat.add_zero, nI_add, nI_ltI, nI_leI, nI_eq, pk_mul, pk_sub, u2_same, u2_row, u2_other, h2, hsc, zB_eq0, olt_T, olt_F, ole_T, ole_F, oeq_T, oeq_F]
          · rw [hbit] at hsc
            refine ⟨1, by unfold shB; rw [sh, hbit]; rfl, fun f2 h2 v13 => ?_⟩
            simp (disch := first | assumption | rfl | exact zle_0 | exact zle_1 | exact zle_2 | exact zle_3 | exact zle_4 | exact zb_0 | exact zb_1 | exact zb01_B | omega) only [zT64_145, zr_aload_0, zT64_146, zr_dup_r, zr_dup_i, zT64_147, zr_gf_101, zT64_150, zr_iload_2, zT64_151, zr_if_lt, zT64_154, zr_iload_13, zT64_156, zT64_157, zr_iv_5, zT64_160, zr_if_eq, zT64_163, zr_ic_1, zT64_164, zr_goto, zT64_167, zr_ic_0, zT64_168, zr_iadd, zT64_169, zr_pf_101, zcl_i, zcl_r, zcl_l, zcl_n, zv_some, zv_none, Nat.reduceAdd, Nat.reduceMul, Nat.reduceSub, Nat.reduceLT, Nat.reduceLeDiff, Nat.reduceEqDiff, Int.reduceToNat, true_implies, false_implies, implies_true, and_true, true_and, not_true_eq_false, not_false_eq_true, Nat.zero_add, Nat.add_zero, nI_add, nI_ltI, nI_leI, nI_eq, pk_mul, pk_sub, u2_same, u2_row, u2_other, h2, hsc, zB_eq0, reduceCtorEq, olt_T, olt_F, ole_T, ole_F, oeq_T, oeq_F]
      rw [hb] at hB
      have yl : (x * 1103515245 + 12345) % 2147483648 < 2147483648 := Nat.mod_lt _ (by decide)
      have r1 := pk_lRem (a := x * 1103515245 + 12345) (b := 2147483648) (by omega) (by decide) (by decide)
      unfold a_burn at hD
      rw [if_pos sh] at hD
      generalize hy : (x * 1103515245 + 12345) % 2147483648 = y at *
      have r2 := pk_lDiv (a := y) (b := 65536) (by omega) (by decide) (by decide)
      have r3 := pk_lRem (a := y / 65536) (b := 20) (by omega) (by decide) (by decide)
      have iw := nI_l (show w20 < 2 ^ 31 by omega)
      have nz1 := lN_nz (k := 2147483648) (by decide) (by decide)
      have nz2 := lN_nz (k := 65536) (by decide) (by decide)
      have nz3 := lN_nz (k := 20) (by decide) (by decide)
      have ml : y / 65536 % 20 < 20 := Nat.mod_lt _ (by decide)
      have cmp := lg_cmpN (a := y / 65536 % 20) (b := w20) (by omega) (by omega)
      have e145 : (u2 f 133 100 (nI (A + 1))) 133 101 = nI B := by rw [u2_row (by decide)]; exact G2
      have H := fun v13 => hgb (u2 f 133 100 (nI (A + 1))) e145 v13
      have fin : ∀ C2 v13 v14, (∀ r, C2 = some r → r < 1000) → oo C2 (a_burn tm w20 (k + m) (3 * i + e + 1) y) = D → TT 64 61 _ [] (151, u2 (u2 (u2 f 133 100 (nI (A + 1))) 133 101 (nI (B + b))) 133 103 (oI C2), fl, fr) Q := fun C2 v13 v14 hC2 hD2 => ih' _ y (A + 1) (B + b) C2 v13 v14 (((hz.tr (zg.up (by simp))).tr (zg.up (by simp))).tr (zg.up (by simp))) (((hR.up (by simp)).up (by simp)).up (by simp)) ⟨by simp (disch := decide) only [u2_row, u2_same], by simp (disch := decide) only [u2_row, u2_same], by rw [u2_same], by simp (disch := decide) only [u2_row]; exact G4⟩ yl hC2 hD2 (by omega) (by omega)
      cases C with
      | some r =>
        have hr := hC r rfl
        have ne := oI_ne (r := r) (by omega)
        have e103 : f 133 103 = nI r := G3
        rw [oo_some] at hD
        have o := fin (some r) (some (.int (nI (tm (3 * i + e))))) (some (.int (nI R.length))) hC (by rw [oo_some]; exact hD)
        rw [show oI (some r) = nI r from rfl] at o
        simp (disch := first | assumption | rfl | exact zle_0 | exact zle_1 | exact zle_2 | exact zle_3 | exact zle_4 | exact zb_0 | exact zb_1 | exact zb01_B | omega) only [zT64_63, zr_ic_3, zT64_64, zr_icmp_ge, zT64_67, zr_ic_0, zT64_68, zr_istore_13, zT64_70, zT64_71, zr_istore_14, zcl_i, zcl_r, zcl_l, zcl_n, zv_some, zv_none, Nat.reduceAdd, Nat.reduceMul, Nat.reduceSub, Nat.reduceLT, Nat.reduceLeDiff, Nat.reduceEqDiff, Int.reduceToNat, true_implies, false_implies, implies_true, and_true, true_and, not_true_eq_false, not_false_eq_true, Nat.zero_add, Nat.add_zero, nI_add, nI_ltI, nI_leI, nI_eq, pk_mul, pk_sub, u2_same, u2_row, u2_other, olt_T, olt_F, ole_T, ole_F, oeq_T, oeq_F]
        rw [T]
        simp (disch := first | assumption | rfl | exact zle_0 | exact zle_1 | exact zle_2 | exact zle_3 | exact zle_4 | exact zb_0 | exact zb_1 | exact zb01_B | omega) only [zT64_118, zr_iload_11, zT64_120, zr_iload_13, zT64_122, zr_ior, zT64_123, zr_istore_11, zT64_125, zT64_127, zT64_129, zr_ic_1, zT64_130, zr_isub, zT64_131, zr_iand, zT64_132, zr_if_eq, zT64_135, zr_aload_0, zT64_136, zr_dup_r, zr_dup_i, zT64_137, zr_gf_100, zT64_140, zT64_141, zr_iadd, zT64_142, zr_pf_100, zcl_i, zcl_r, zcl_l, zcl_n, zv_some, zv_none, Nat.reduceAdd, Nat.reduceMul, Nat.reduceSub, Nat.reduceLT, Nat.reduceLeDiff, Nat.reduceEqDiff, Int.reduceToNat, true_implies, false_implies, implies_true, and_true, true_and, not_true_eq_false, not_false_eq_true, Nat.zero_add, Nat.add_zero, nI_add, nI_ltI, nI_leI, nI_eq, pk_mul, pk_sub, u2_same, u2_row, u2_other, b_or, al, nz, G1, olt_T, olt_F, ole_T, ole_F, oeq_T, oeq_F]
        rw [H]
        simp (disch := first | assumption | rfl | exact zle_0 | exact zle_1 | exact zle_2 | exact zle_3 | exact zle_4 | exact zb_0 | exact zb_1 | exact zb01_B | omega) only [zT64_172, zr_lload_7, zT64_174, zr_ldc2, zT64_177, zr_lmul, zT64_178, zT64_181, zr_ladd, zT64_182, zT64_185, zr_lrem, zT64_186, zr_lstore_7, zT64_188, zr_aload_0, zT64_189, zT64_190, zr_gf_103, zT64_193, zr_ic_m1, zT64_194, zr_icmp_ne, zT64_197, zT64_199, zT64_202, zr_ldiv, zT64_203, zT64_206, zT64_207, zr_iload_3, zT64_208, zr_i2l, zT64_209, zr_lcmp, zT64_210, zr_if_ge, zT64_213, zr_ic_10, zT64_215, zr_iload_9, zT64_217, zr_imul, zT64_218, zr_iload_12, zT64_220, zr_iadd, zT64_221, zr_goto, zT64_224, zT64_225, zT64_228, zr_pf_103, zT64_231, zr_iinc_12_1, zT64_234, zcl_i, zcl_r, zcl_l, zcl_n, zv_some, zv_none, Nat.reduceAdd, Nat.reduceMul, Nat.reduceSub, Nat.reduceLT, Nat.reduceLeDiff, Nat.reduceEqDiff, Int.reduceToNat, true_implies, false_implies, implies_true, and_true, true_and, not_true_eq_false, not_false_eq_true, Nat.zero_add, Nat.add_zero, nI_add, nI_ltI, nI_leI, nI_eq, pk_mul, pk_sub, u2_same, u2_row, u2_other, lN_mul, lN_add, r1, e103, ne, olt_T, olt_F, ole_T, ole_F, oeq_T, oeq_F]
        exact o
      | none =>
        have e103 : f 133 103 = nM 1 := G3
        rw [oo_none, show (3 * i + e) / 3 = i by omega, show (3 * i + e) % 3 = e by omega] at hD
        have hD' := hD
        by_cases lt : y / 65536 % 20 < w20
        · rw [if_pos lt] at hD'
          rw [if_neg (by omega), if_neg (by omega)] at cmp
          have nl' : (nI 0 ≤ nM 1) = False := by
            refine eq_false ?_
            rw [Int32.le_iff_toInt_le, nM_toInt (by decide), nI_toInt (by decide)]
            omega
          have o := fin (some (10 * i + e)) (some (.int (nI (tm (3 * i + e))))) (some (.int (nI R.length))) (fun r hr => by have := Option.some.inj hr; omega) (by rw [oo_some]; exact hD')
          rw [show oI (some (10 * i + e)) = nI (10 * i + e) from rfl] at o
          simp (disch := first | assumption | rfl | exact zle_0 | exact zle_1 | exact zle_2 | exact zle_3 | exact zle_4 | exact zb_0 | exact zb_1 | exact zb01_B | omega) only [zT64_63, zr_ic_3, zT64_64, zr_icmp_ge, zT64_67, zr_ic_0, zT64_68, zr_istore_13, zT64_70, zT64_71, zr_istore_14, zcl_i, zcl_r, zcl_l, zcl_n, zv_some, zv_none, Nat.reduceAdd, Nat.reduceMul, Nat.reduceSub, Nat.reduceLT, Nat.reduceLeDiff, Nat.reduceEqDiff, Int.reduceToNat, true_implies, false_implies, implies_true, and_true, true_and, not_true_eq_false, not_false_eq_true, Nat.zero_add, Nat.add_zero, nI_add, nI_ltI, nI_leI, nI_eq, pk_mul, pk_sub, u2_same, u2_row, u2_other, olt_T, olt_F, ole_T, ole_F, oeq_T, oeq_F]
          rw [T]
          simp (disch := first | assumption | rfl | exact zle_0 | exact zle_1 | exact zle_2 | exact zle_3 | exact zle_4 | exact zb_0 | exact zb_1 | exact zb01_B | omega) only [zT64_118, zr_iload_11, zT64_120, zr_iload_13, zT64_122, zr_ior, zT64_123, zr_istore_11, zT64_125, zT64_127, zT64_129, zr_ic_1, zT64_130, zr_isub, zT64_131, zr_iand, zT64_132, zr_if_eq, zT64_135, zr_aload_0, zT64_136, zr_dup_r, zr_dup_i, zT64_137, zr_gf_100, zT64_140, zT64_141, zr_iadd, zT64_142, zr_pf_100, zcl_i, zcl_r, zcl_l, zcl_n, zv_some, zv_none, Nat.reduceAdd, Nat.reduceMul, Nat.reduceSub, Nat.reduceLT, Nat.reduceLeDiff, Nat.reduceEqDiff, Int.reduceToNat, true_implies, false_implies, implies_true, and_true, true_and, not_true_eq_false, not_false_eq_true, Nat.zero_add, Nat.add_zero, nI_add, nI_ltI, nI_leI, nI_eq, pk_mul, pk_sub, u2_same, u2_row, u2_other, b_or, al, nz, G1, olt_T, olt_F, ole_T, ole_F, oeq_T, oeq_F]
          rw [H]
          simp (disch := first | assumption | rfl | exact zle_0 | exact zle_1 | exact zle_2 | exact zle_3 | exact zle_4 | exact zb_0 | exact zb_1 | exact zb01_B | omega) only [zT64_172, zr_lload_7, zT64_174, zr_ldc2, zT64_177, zr_lmul, zT64_178, zT64_181, zr_ladd, zT64_182, zT64_185, zr_lrem, zT64_186, zr_lstore_7, zT64_188, zr_aload_0, zT64_189, zT64_190, zr_gf_103, zT64_193, zr_ic_m1, zT64_194, zr_icmp_ne, zT64_197, zT64_199, zT64_202, zr_ldiv, zT64_203, zT64_206, zT64_207, zr_iload_3, zT64_208, zr_i2l, zT64_209, zr_lcmp, zT64_210, zr_if_ge, zT64_213, zr_ic_10, zT64_215, zr_iload_9, zT64_217, zr_imul, zT64_218, zr_iload_12, zT64_220, zr_iadd, zT64_221, zr_goto, zT64_224, zT64_225, zT64_228, zr_pf_103, zT64_231, zr_iinc_12_1, zT64_234, zcl_i, zcl_r, zcl_l, zcl_n, zv_some, zv_none, Nat.reduceAdd, Nat.reduceMul, Nat.reduceSub, Nat.reduceLT, Nat.reduceLeDiff, Nat.reduceEqDiff, Int.reduceToNat, true_implies, false_implies, implies_true, and_true, true_and, not_true_eq_false, not_false_eq_true, Nat.zero_add, Nat.add_zero, nI_add, nI_ltI, nI_leI, nI_eq, pk_mul, pk_sub, u2_same, u2_row, u2_other, lN_mul, lN_add, r1, r2, r3, iw, cmp, nl', e103, olt_T, olt_F, ole_T, ole_F, oeq_T, oeq_F]
          exact o
        · rw [if_neg lt] at hD'
          have o := fin none (some (.int (nI (tm (3 * i + e))))) (some (.int (nI R.length))) (fun r hr => absurd hr (by simp)) (by rw [oo_none]; exact hD')
          rw [show oI none = nM 1 from rfl] at o
          by_cases eq : y / 65536 % 20 = w20
          · rw [if_neg (by omega), if_pos eq] at cmp
            simp (disch := first | assumption | rfl | exact zle_0 | exact zle_1 | exact zle_2 | exact zle_3 | exact zle_4 | exact zb_0 | exact zb_1 | exact zb01_B | omega) only [zT64_63, zr_ic_3, zT64_64, zr_icmp_ge, zT64_67, zr_ic_0, zT64_68, zr_istore_13, zT64_70, zT64_71, zr_istore_14, zcl_i, zcl_r, zcl_l, zcl_n, zv_some, zv_none, Nat.reduceAdd, Nat.reduceMul, Nat.reduceSub, Nat.reduceLT, Nat.reduceLeDiff, Nat.reduceEqDiff, Int.reduceToNat, true_implies, false_implies, implies_true, and_true, true_and, not_true_eq_false, not_false_eq_true, Nat.zero_add, Nat.add_zero, nI_add, nI_ltI, nI_leI, nI_eq, pk_mul, pk_sub, u2_same, u2_row, u2_other, olt_T, olt_F, ole_T, ole_F, oeq_T, oeq_F]
            rw [T]
            simp (disch := first | assumption | rfl | exact zle_0 | exact zle_1 | exact zle_2 | exact zle_3 | exact zle_4 | exact zb_0 | exact zb_1 | exact zb01_B | omega) only [zT64_118, zr_iload_11, zT64_120, zr_iload_13, zT64_122, zr_ior, zT64_123, zr_istore_11, zT64_125, zT64_127, zT64_129, zr_ic_1, zT64_130, zr_isub, zT64_131, zr_iand, zT64_132, zr_if_eq, zT64_135, zr_aload_0, zT64_136, zr_dup_r, zr_dup_i, zT64_137, zr_gf_100, zT64_140, zT64_141, zr_iadd, zT64_142, zr_pf_100, zcl_i, zcl_r, zcl_l, zcl_n, zv_some, zv_none, Nat.reduceAdd, Nat.reduceMul, Nat.reduceSub, Nat.reduceLT, Nat.reduceLeDiff, Nat.reduceEqDiff, Int.reduceToNat, true_implies, false_implies, implies_true, and_true, true_and, not_true_eq_false, not_false_eq_true, Nat.zero_add, Nat.add_zero, nI_add, nI_ltI, nI_leI, nI_eq, pk_mul, pk_sub, u2_same, u2_row, u2_other, b_or, al, nz, G1, olt_T, olt_F, ole_T, ole_F, oeq_T, oeq_F]
            rw [H]
            simp (disch := first | assumption | rfl | exact zle_0 | exact zle_1 | exact zle_2 | exact zle_3 | exact zle_4 | exact zb_0 | exact zb_1 | exact zb01_B | omega) only [zT64_172, zr_lload_7, zT64_174, zr_ldc2, zT64_177, zr_lmul, zT64_178, zT64_181, zr_ladd, zT64_182, zT64_185, zr_lrem, zT64_186, zr_lstore_7, zT64_188, zr_aload_0, zT64_189, zT64_190, zr_gf_103, zT64_193, zr_ic_m1, zT64_194, zr_icmp_ne, zT64_197, zT64_199, zT64_202, zr_ldiv, zT64_203, zT64_206, zT64_207, zr_iload_3, zT64_208, zr_i2l, zT64_209, zr_lcmp, zT64_210, zr_if_ge, zT64_213, zr_ic_10, zT64_215, zr_iload_9, zT64_217, zr_imul, zT64_218, zr_iload_12, zT64_220, zr_iadd, zT64_221, zr_goto, zT64_224, zT64_225, zT64_228, zr_pf_103, zT64_231, zr_iinc_12_1, zT64_234, zcl_i, zcl_r, zcl_l, zcl_n, zv_some, zv_none, Nat.reduceAdd, Nat.reduceMul, Nat.reduceSub, Nat.reduceLT, Nat.reduceLeDiff, Nat.reduceEqDiff, Int.reduceToNat, true_implies, false_implies, implies_true, and_true, true_and, not_true_eq_false, not_false_eq_true, Nat.zero_add, Nat.add_zero, nI_add, nI_ltI, nI_leI, nI_eq, pk_mul, pk_sub, u2_same, u2_row, u2_other, lN_mul, lN_add, r1, r2, r3, iw, cmp, e103, olt_T, olt_F, ole_T, ole_F, oeq_T, oeq_F]
            exact o
          · rw [if_pos (by omega)] at cmp
            simp (disch := first | assumption | rfl | exact zle_0 | exact zle_1 | exact zle_2 | exact zle_3 | exact zle_4 | exact zb_0 | exact zb_1 | exact zb01_B | omega) only [zT64_63, zr_ic_3, zT64_64, zr_icmp_ge, zT64_67, zr_ic_0, zT64_68, zr_istore_13, zT64_70, zT64_71, zr_istore_14, zcl_i, zcl_r, zcl_l, zcl_n, zv_some, zv_none, Nat.reduceAdd, Nat.reduceMul, Nat.reduceSub, Nat.reduceLT, Nat.reduceLeDiff, Nat.reduceEqDiff, Int.reduceToNat, true_implies, false_implies, implies_true, and_true, true_and, not_true_eq_false, not_false_eq_true, Nat.zero_add, Nat.add_zero, nI_add, nI_ltI, nI_leI, nI_eq, pk_mul, pk_sub, u2_same, u2_row, u2_other, olt_T, olt_F, ole_T, ole_F, oeq_T, oeq_F]
            rw [T]
            simp (disch := first | assumption | rfl | exact zle_0 | exact zle_1 | exact zle_2 | exact zle_3 | exact zle_4 | exact zb_0 | exact zb_1 | exact zb01_B | omega) only [zT64_118, zr_iload_11, zT64_120, zr_iload_13, zT64_122, zr_ior, zT64_123, zr_istore_11, zT64_125, zT64_127, zT64_129, zr_ic_1, zT64_130, zr_isub, zT64_131, zr_iand, zT64_132, zr_if_eq, zT64_135, zr_aload_0, zT64_136, zr_dup_r, zr_dup_i, zT64_137, zr_gf_100, zT64_140, zT64_141, zr_iadd, zT64_142, zr_pf_100, zcl_i, zcl_r, zcl_l, zcl_n, zv_some, zv_none, Nat.reduceAdd, Nat.reduceMul, Nat.reduceSub, Nat.reduceLT, Nat.reduceLeDiff, Nat.reduceEqDiff, Int.reduceToNat, true_implies, false_implies, implies_true, and_true, true_and, not_true_eq_false, not_false_eq_true, Nat.zero_add, Nat.add_zero, nI_add, nI_ltI, nI_leI, nI_eq, pk_mul, pk_sub, u2_same, u2_row, u2_other, b_or, al, nz, G1, olt_T, olt_F, ole_T, ole_F, oeq_T, oeq_F]
            rw [H]
            simp (disch := first | assumption | rfl | exact zle_0 | exact zle_1 | exact zle_2 | exact zle_3 | exact zle_4 | exact zb_0 | exact zb_1 | exact zb01_B | omega) only [zT64_172, zr_lload_7, zT64_174, zr_ldc2, zT64_177, zr_lmul, zT64_178, zT64_181, zr_ladd, zT64_182, zT64_185, zr_lrem, zT64_186, zr_lstore_7, zT64_188, zr_aload_0, zT64_189, zT64_190, zr_gf_103, zT64_193, zr_ic_m1, zT64_194, zr_icmp_ne, zT64_197, zT64_199, zT64_202, zr_ldiv, zT64_203, zT64_206, zT64_207, zr_iload_3, zT64_208, zr_i2l, zT64_209, zr_lcmp, zT64_210, zr_if_ge, zT64_213, zr_ic_10, zT64_215, zr_iload_9, zT64_217, zr_imul, zT64_218, zr_iload_12, zT64_220, zr_iadd, zT64_221, zr_goto, zT64_224, zT64_225, zT64_228, zr_pf_103, zT64_231, zr_iinc_12_1, zT64_234, zcl_i, zcl_r, zcl_l, zcl_n, zv_some, zv_none, Nat.reduceAdd, Nat.reduceMul, Nat.reduceSub, Nat.reduceLT, Nat.reduceLeDiff, Nat.reduceEqDiff, Int.reduceToNat, true_implies, false_implies, implies_true, and_true, true_and, not_true_eq_false, not_false_eq_true, Nat.zero_add, Nat.add_zero, nI_add, nI_ltI, nI_leI, nI_eq, pk_mul, pk_sub, u2_same, u2_row, u2_other, lN_mul, lN_add, r1, r2, r3, iw, cmp, e103, olt_T, olt_F, ole_T, ole_F, oeq_T, oeq_F]
            exact o
    · have sh : shd tm (3 * i + e) = false := decide_eq_false c
      have nz : tm (3 * i + e) &&& (tm (3 * i + e) - 1) = 0 := tb.mpr c
      have shn : shN tm (3 * i + e) = 0 := by unfold shN; rw [sh]; rfl
      have gz : g (3 * i + e) = 0 := by
        rcases hw with ⟨-, rfl⟩ | ⟨c, -, -, rfl⟩
        · rfl
        · unfold shB; rw [sh]; rfl
      rw [shn, Nat.zero_add] at hA
      rw [gz, Nat.zero_add] at hB
      unfold a_burn at hD
      rw [sh, if_neg (by decide)] at hD
      have o := ih' f x A B C (some (.int (nI (tm (3 * i + e))))) (some (.int (nI R.length))) hz hR ⟨G1, G2, G3, G4⟩ hx hC hD hA hB
      simp (disch := first | assumption | rfl | exact zle_0 | exact zle_1 | exact zle_2 | exact zle_3 | exact zle_4 | exact zb_0 | exact zb_1 | exact zb01_B | omega) only [zT64_63, zr_ic_3, zT64_64, zr_icmp_ge, zT64_67, zr_ic_0, zT64_68, zr_istore_13, zT64_70, zT64_71, zr_istore_14, zcl_i, zcl_r, zcl_l, zcl_n, zv_some, zv_none, Nat.reduceAdd, Nat.reduceMul, Nat.reduceSub, Nat.reduceLT, Nat.reduceLeDiff, Nat.reduceEqDiff, Int.reduceToNat, true_implies, false_implies, implies_true, and_true, true_and, not_true_eq_false, not_false_eq_true, Nat.zero_add, Nat.add_zero, nI_add, nI_ltI, nI_leI, nI_eq, pk_mul, pk_sub, u2_same, u2_row, u2_other, olt_T, olt_F, ole_T, ole_F, oeq_T, oeq_F]
      rw [T]
      simp (disch := first | assumption | rfl | exact zle_0 | exact zle_1 | exact zle_2 | exact zle_3 | exact zle_4 | exact zb_0 | exact zb_1 | exact zb01_B | omega) only [zT64_118, zr_iload_11, zT64_120, zr_iload_13, zT64_122, zr_ior, zT64_123, zr_istore_11, zT64_125, zT64_127, zT64_129, zr_ic_1, zT64_130, zr_isub, zT64_131, zr_iand, zT64_132, zr_if_eq, zT64_231, zr_iinc_12_1, zT64_234, zr_goto, zcl_i, zcl_r, zcl_l, zcl_n, zv_some, zv_none, Nat.reduceAdd, Nat.reduceMul, Nat.reduceSub, Nat.reduceLT, Nat.reduceLeDiff, Nat.reduceEqDiff, Int.reduceToNat, true_implies, false_implies, implies_true, and_true, true_and, not_true_eq_false, not_false_eq_true, Nat.zero_add, Nat.add_zero, nI_add, nI_ltI, nI_leI, nI_eq, pk_mul, pk_sub, u2_same, u2_row, u2_other, b_or, al, nz, olt_T, olt_F, ole_T, ole_F, oeq_T, oeq_F]
      exact o
end
