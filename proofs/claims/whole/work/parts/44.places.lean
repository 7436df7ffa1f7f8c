/-! the planner's places and keys -/
def a_sp (w : Nat → Nat) (d p : Nat) : Nat := if p < a_tot w d then (a_stp w d p).1 else 3
def a_bg (w : Nat → Nat) (d p : Nat) : Bool := decide (p < a_tot w d ∧ 0 < (a_stp w d p).2)
theorem a_sp_lt {w : Nat → Nat} {d p : Nat} (hw : a_WD w d) : a_sp w d p < 4 := by
  unfold a_sp
  split
  · have := (a_stp_spec hw p).1
    have := hw.1
    omega
  · decide
/-- a mask out of a test -/
def msk (f : Nat → Bool) : Nat → Nat
  | 0 => 0
  | n + 1 => if f n then msk f n ||| 2 ^ n else msk f n
theorem msk_lt (f : Nat → Bool) : ∀ n, msk f n < 2 ^ n
  | 0 => (by decide : 0 < 1)
  | n + 1 => by
    have h := msk_lt f n
    have h2 : 2 ^ n < 2 ^ (n + 1) := Nat.pow_lt_pow_right (by decide) (by omega)
    unfold msk
    split
    · exact Nat.or_lt_two_pow (by omega) h2
    · omega
theorem a_bit_test (b d : Nat) : a_bit b d = b.testBit d := by
  unfold a_bit
  rw [Nat.testBit_eq_decide_div_mod_eq]
theorem msk_bit (f : Nat → Bool) : ∀ n i, a_bit (msk f n) i = (decide (i < n) && f i)
  | 0, i => by rw [a_bit_test]; simp [msk]
  | n + 1, i => by
    have h := msk_bit f n i
    rw [a_bit_test] at h ⊢
    unfold msk
    by_cases e : i = n
    · subst e
      have h0 : (msk f i).testBit i = false := by rw [h]; simp
      by_cases c : f i = true
      · rw [if_pos c, Nat.testBit_or, h0, Nat.testBit_two_pow_self]; simp [c]
      · rw [if_neg c, h0]; simp [c]
    · have h2 : (2 ^ n).testBit i = false := by rw [Nat.testBit_two_pow]; simp; omega
      have h3 : decide (i < n + 1) = decide (i < n) := by
        by_cases q : i < n
        · rw [decide_eq_true q, decide_eq_true (by omega)]
        · rw [decide_eq_false q, decide_eq_false (by omega)]
      rw [h3, ← h]
      split
      · rw [Nat.testBit_or, h2, Bool.or_false]
      · rfl
def z_PL (fi : Nat → Nat → Int32) (w : Nat → Nat) (n : Nat) : Prop := ∀ i, i < n → fi 74 i = nI (a_gone w i) ∧ fi 75 i = nI (a_tot w i) ∧ ∀ p, p < 16 → fi 76 (i * 16 + p) = nI (a_sp w i p) ∧ fi 77 (i * 16 + p) = zB (a_bg w i p)
def a_hs (key set : Nat) : Nat → Nat → Bool
  | 0, _ => true
  | m + 1, d => if a_bit set d then (if a_at key d = 3 then false else a_hs key set m (d + 1)) else a_hs key set m (d + 1)
theorem a_hs_iff {key set : Nat} : ∀ m d, (a_hs key set m d = true) ↔ ∀ j, d ≤ j → j < d + m → a_bit set j = true → a_at key j ≠ 3
  | 0, d => by
    simp only [a_hs, true_iff]
    intro j h1 h2
    omega
  | m + 1, d => by
    have ih := a_hs_iff (key := key) (set := set) m (d + 1)
    unfold a_hs
    constructor
    · intro h j h1 h2 hb
      by_cases e : j = d
      · subst e
        rw [if_pos hb] at h
        intro q
        rw [if_pos q] at h
        exact absurd h (by decide)
      · have h' : a_hs key set m (d + 1) = true := by
          split at h
          · split at h
            · exact absurd h (by decide)
            · exact h
          · exact h
        exact ih.mp h' j (by omega) (by omega) hb
    · intro h
      have h' : a_hs key set m (d + 1) = true := ih.mpr (fun j h1 h2 => h j (by omega) (by omega))
      split
      · rename_i hb
        rw [if_neg (h d (Nat.le_refl _) (by omega) hb)]
        exact h'
      · exact h'
/-- the sets that can go on with a key's steps -/
def a_open (en : Nat → Bool) (key : Nat) : Nat := msk (fun set => a_hs key set 3 0 && en (key ||| (z_stT 4).getD set 0)) 8
theorem a_out_lt : ∀ set, set < 8 → (z_stT 4).getD set 0 < 64 := by decide +kernel
section
variable {fi : Nat → Nat → Int32} {fl : Nat → Nat → Int64} {fr : Nat → Nat → Option Nat} {Q : Option Value → Mm → Prop} {w : Nat → Nat} {k : Nat} {M : Mm}
theorem sp_lp2 (hf : z_FR fr) {d i : Nat} (hi : i < 3) (hd : z_Dok fr d) (hd2 : d + 5 < 60) (hw : a_WD w i) :
    ∀ m p, p + m = 16 → ∀ fi : Nat → Nat → Int32, z_DR fi d w i → fi 75 i = nI (a_tot w i) → (∀ q, q < p → fi 76 (i * 16 + q) = nI (a_sp w i q) ∧ fi 77 (i * 16 + q) = zB (a_bg w i q)) →
    (∀ fi', (∀ q, q < 16 → fi' 76 (i * 16 + q) = nI (a_sp w i q) ∧ fi' 77 (i * 16 + q) = zB (a_bg w i q)) → (∀ q, q < i * 16 → fi' 76 q = fi 76 q ∧ fi' 77 q = fi 77 q) → (∀ j, j ≠ 76 → j ≠ 77 → fi' j = fi j) → TT 210 124 [some (.ref 70), some (.int (nI i)), some (.ref d), some (.int (nI 16))] [] (151, fi', fl, fr) Q) →
    TT 210 48 [some (.ref 70), some (.int (nI i)), some (.ref d), some (.int (nI p))] [] (151, fi, fl, fr) Q := by
  have o70 : z_ok 151 70 18 = true := rfl; have o75 : z_ok 151 75 1 = true := rfl; have o76 : z_ok 151 76 1 = true := rfl; have o77 : z_ok 151 77 2 = true := rfl
  have l75 : z_al 75 = 3 := rfl; have l76 : z_al 76 = 48 := rfl; have l77 : z_al 77 = 48 := rfl
  have od := hd.1
  have zt : zB true = nI 1 := rfl
  have zf : zB false = nI 0 := rfl
  have tl := a_tot_le hw
  intro m
  induction m with
  | zero =>
    intro p hp fi hr ht hI hQ
    obtain rfl : p = 16 := by omega
    have := hQ fi hI (fun _ _ => ⟨rfl, rfl⟩) (fun _ _ _ => rfl)
    simp (disch := first | assumption | rfl | exact zle_0 | exact zle_1 | exact zle_2 | exact zle_3 | exact zle_4 | exact zb_0 | exact zb_1 | exact zb01_B | omega) only [zT210_48, zr_iload_3, zT210_49, zr_ic_16, zT210_51, zr_icmp_ge, zcl_i, zcl_r, zcl_l, zcl_n, zv_some, zv_none, Nat.reduceAdd, Nat.reduceMul, Nat.reduceSub, Nat.reduceLT, Nat.reduceLeDiff, Nat.reduceEqDiff, Int.reduceToNat, true_implies, false_implies, implies_true, and_true, true_and, not_true_eq_false, not_false_eq_true, Nat.zero_add, Nat.add_zero, nI_add, nI_ltI, nI_leI, nI_eq, pk_mul, pk_sub, u2_same, u2_row, u2_other, olt_T, olt_F, ole_T, ole_F, oeq_T, oeq_F]
    exact this
  | succ m ih =>
    intro p hp fi hr ht hI hQ
    have sa := fun Q => sp_stepAfter (fl := fl) (Q := Q) hd hr hw (show p < 1000 by omega)
    have hr' : z_DR (u2 fi 76 (i * 16 + p) (nI (a_stp w i p).1)) d w i := hr.frame (fun j j1 j2 => by simp (disch := omega) only [u2_ne])
    have mi := fun Q => sp_minutesIn (fl := fl) (Q := Q) hd hr' hw (show p < 1000 by omega)
    have sp := a_stp_spec hw p
    have fin : ∀ f1 : Nat → Nat → Int32, f1 = u2 (u2 fi 76 (i * 16 + p) (nI (a_sp w i p))) 77 (i * 16 + p) (zB (a_bg w i p)) → TT 210 48 [some (.ref 70), some (.int (nI i)), some (.ref d), some (.int (nI (p + 1)))] [] (151, f1, fl, fr) Q := by
      rintro f1 rfl
      refine ih (p + 1) (by omega) _ (hr.frame (fun j j1 j2 => by simp (disch := omega) only [u2_ne])) (by simp (disch := omega) only [u2_other]; exact ht) (fun q hq => ?_) (fun fi' g1 g2 g3 => hQ fi' g1 (fun q hq => ?_) (fun j j1 j2 => ?_))
      · by_cases e : q = p
        · subst e
          exact ⟨by simp (disch := omega) only [u2_other, u2_same], by simp (disch := omega) only [u2_same]⟩
        · have := hI q (by omega)
          exact ⟨by simp (disch := omega) only [u2_other, u2_row]; exact this.1, by simp (disch := omega) only [u2_other, u2_row]; exact this.2⟩
      · rw [(g2 q hq).1, (g2 q hq).2]
        exact ⟨by simp (disch := omega) only [u2_other, u2_row], by simp (disch := omega) only [u2_other, u2_row]⟩
      · rw [g3 j j1 j2]
        simp (disch := omega) only [u2_ne]
    unfold a_sp a_bg at fin
    have fx : fi 75 i = nI (a_tot w i) := ht
    have fx' : ∀ x, u2 fi 76 (i * 16 + p) x 75 i = nI (a_tot w i) := fun x => by rw [u2_other (by decide)]; exact ht
    simp (disch := first | assumption | rfl | exact zle_0 | exact zle_1 | exact zle_2 | exact zle_3 | exact zle_4 | exact zb_0 | exact zb_1 | exact zb01_B | omega) only [zT210_48, zr_iload_3, zcl_i, zcl_r, zcl_l, zcl_n, zv_some, zv_none, Nat.reduceAdd, Nat.reduceMul, Nat.reduceSub, Nat.reduceLT, Nat.reduceLeDiff, Nat.reduceEqDiff, Int.reduceToNat, true_implies, false_implies, implies_true, and_true, true_and, not_true_eq_false, not_false_eq_true, Nat.zero_add, Nat.add_zero, nI_add, nI_ltI, nI_leI, nI_eq, pk_mul, pk_sub, u2_same, u2_row, u2_other]
    by_cases c : p < a_tot w i
    · rw [if_pos c] at fin
      by_cases c2 : 0 < (a_stp w i p).2
      · rw [decide_eq_true ⟨c, c2⟩] at fin
        simp (disch := first | assumption | rfl | exact zle_0 | exact zle_1 | exact zle_2 | exact zle_3 | exact zle_4 | exact zb_0 | exact zb_1 | exact zb01_B | omega) only [zT210_49, zr_ic_16, zT210_51, zr_icmp_ge, zT210_54, zr_aload_0, zT210_55, zr_gf_59, zr_or, zr_go, zf_70_59, zT210_58, zr_iload_1, zT210_59, zT210_61, zr_imul, zT210_62, zr_iload_3, zT210_63, zr_iadd, zT210_64, zT210_65, zT210_66, zr_gf_58, zf_70_58, zT210_69, zT210_70, zr_iald, zT210_71, zT210_74, zr_aload_2, zT210_75, zT210_76, zr_iv_158, zT210_79, zr_goto, zT210_82, zr_ic_3, zT210_83, zr_iast, zT210_84, zT210_85, zr_gf_60, zf_70_60, zT210_88, zT210_89, zT210_91, zT210_92, zT210_93, zT210_94, zT210_95, zT210_96, zT210_99, zT210_100, zT210_101, zT210_104, zT210_105, zT210_106, zr_iv_159, zT210_109, zr_if_le, zT210_112, zr_ic_1, zT210_113, zT210_116, zr_ic_0, zT210_117, zr_bast, zT210_118, zr_iinc_3_1, zT210_121, zcl_i, zcl_r, zcl_l, zcl_n, zv_some, zv_none, Nat.reduceAdd, Nat.reduceMul, Nat.reduceSub, Nat.reduceLT, Nat.reduceLeDiff, Nat.reduceEqDiff, Int.reduceToNat, true_implies, false_implies, implies_true, and_true, true_and, not_true_eq_false, not_false_eq_true, Nat.zero_add, Nat.add_zero, nI_add, nI_ltI, nI_leI, nI_eq, pk_mul, pk_sub, u2_same, u2_row, u2_other, fx, fx', sa, mi, olt_T, olt_F, ole_T, ole_F, oeq_T, oeq_F]
        exact fin _ rfl
      · rw [decide_eq_false (fun h => c2 h.2)] at fin
        simp (disch := first | assumption | rfl | exact zle_0 | exact zle_1 | exact zle_2 | exact zle_3 | exact zle_4 | exact zb_0 | exact zb_1 | exact zb01_B | omega) only [zT210_49, zr_ic_16, zT210_51, zr_icmp_ge, zT210_54, zr_aload_0, zT210_55, zr_gf_59, zr_or, zr_go, zf_70_59, zT210_58, zr_iload_1, zT210_59, zT210_61, zr_imul, zT210_62, zr_iload_3, zT210_63, zr_iadd, zT210_64, zT210_65, zT210_66, zr_gf_58, zf_70_58, zT210_69, zT210_70, zr_iald, zT210_71, zT210_74, zr_aload_2, zT210_75, zT210_76, zr_iv_158, zT210_79, zr_goto, zT210_82, zr_ic_3, zT210_83, zr_iast, zT210_84, zT210_85, zr_gf_60, zf_70_60, zT210_88, zT210_89, zT210_91, zT210_92, zT210_93, zT210_94, zT210_95, zT210_96, zT210_99, zT210_100, zT210_101, zT210_104, zT210_105, zT210_106, zr_iv_159, zT210_109, zr_if_le, zT210_112, zr_ic_1, zT210_113, zT210_116, zr_ic_0, zT210_117, zr_bast, zT210_118, zr_iinc_3_1, zT210_121, zcl_i, zcl_r, zcl_l, zcl_n, zv_some, zv_none, Nat.reduceAdd, Nat.reduceMul, Nat.reduceSub, Nat.reduceLT, Nat.reduceLeDiff, Nat.reduceEqDiff, Int.reduceToNat, true_implies, false_implies, implies_true, and_true, true_and, not_true_eq_false, not_false_eq_true, Nat.zero_add, Nat.add_zero, nI_add, nI_ltI, nI_leI, nI_eq, pk_mul, pk_sub, u2_same, u2_row, u2_other, fx, fx', sa, mi, olt_T, olt_F, ole_T, ole_F, oeq_T, oeq_F]
        exact fin _ rfl
    · rw [if_neg c, decide_eq_false (fun h => c h.1)] at fin
      simp (disch := first | assumption | rfl | exact zle_0 | exact zle_1 | exact zle_2 | exact zle_3 | exact zle_4 | exact zb_0 | exact zb_1 | exact zb01_B | omega) only [zT210_49, zr_ic_16, zT210_51, zr_icmp_ge, zT210_54, zr_aload_0, zT210_55, zr_gf_59, zr_or, zr_go, zf_70_59, zT210_58, zr_iload_1, zT210_59, zT210_61, zr_imul, zT210_62, zr_iload_3, zT210_63, zr_iadd, zT210_64, zT210_65, zT210_66, zr_gf_58, zf_70_58, zT210_69, zT210_70, zr_iald, zT210_71, zT210_74, zr_aload_2, zT210_75, zT210_76, zr_iv_158, zT210_79, zr_goto, zT210_82, zr_ic_3, zT210_83, zr_iast, zT210_84, zT210_85, zr_gf_60, zf_70_60, zT210_88, zT210_89, zT210_91, zT210_92, zT210_93, zT210_94, zT210_95, zT210_96, zT210_99, zT210_100, zT210_101, zT210_104, zT210_105, zT210_106, zr_iv_159, zT210_109, zr_if_le, zT210_112, zr_ic_1, zT210_113, zT210_116, zr_ic_0, zT210_117, zr_bast, zT210_118, zr_iinc_3_1, zT210_121, zcl_i, zcl_r, zcl_l, zcl_n, zv_some, zv_none, Nat.reduceAdd, Nat.reduceMul, Nat.reduceSub, Nat.reduceLT, Nat.reduceLeDiff, Nat.reduceEqDiff, Int.reduceToNat, true_implies, false_implies, implies_true, and_true, true_and, not_true_eq_false, not_false_eq_true, Nat.zero_add, Nat.add_zero, nI_add, nI_ltI, nI_leI, nI_eq, pk_mul, pk_sub, u2_same, u2_row, u2_other, fx, fx', sa, mi, olt_T, olt_F, ole_T, ole_F, oeq_T, oeq_F]
      exact fin _ rfl
theorem z_PL.frame {fi' : Nat → Nat → Int32} {n : Nat} (h : z_PL fi w n) (hf : ∀ j, 74 ≤ j → j ≤ 77 → fi' j = fi j) : z_PL fi' w n := by
  unfold z_PL at *
  rw [hf 74 (by omega) (by omega), hf 75 (by omega) (by omega), hf 76 (by omega) (by omega), hf 77 (by omega) (by omega)]
  exact h
theorem sp_lp_ (hf : z_FR fr) (hw : a_WF w) : ∀ m i, i + m = 3 → ∀ (fi : Nat → Nat → Int32) (v2 v3 : Option Value), z_KR fi 19 w → z_PL fi w i →
    (∀ fi', z_PL fi' w 3 → (∀ j, j < 74 ∨ 77 < j → fi' j = fi j) → Q none (151, fi', fl, fr)) →
    TT 210 2 [some (.ref 70), some (.int (nI i)), v2, v3] [] (151, fi, fl, fr) Q := by
  have hk := z_Kok_of hf (k := 19) (by decide)
  have o19 : z_ok 151 19 16 = true := rfl; have o70 : z_ok 151 70 18 = true := rfl; have o74 : z_ok 151 74 1 = true := rfl; have o75 : z_ok 151 75 1 = true := rfl; have o76 : z_ok 151 76 1 = true := rfl; have o77 : z_ok 151 77 2 = true := rfl
  have l74 : z_al 74 = 3 := rfl; have l75 : z_al 75 = 3 := rfl; have l76 : z_al 76 = 48 := rfl; have l77 : z_al 77 = 48 := rfl
  intro m
  induction m with
  | zero =>
    intro i hi fi v2 v3 hr hI hQ
    obtain rfl : i = 3 := by omega
    simp (disch := first | assumption | rfl | exact zle_0 | exact zle_1 | exact zle_2 | exact zle_3 | exact zle_4 | exact zb_0 | exact zb_1 | exact zb01_B | omega) only [zT210_2, zr_iload_1, zT210_3, zr_ic_3, zT210_4, zr_icmp_ge, zT210_130, zr_return, zcl_i, zcl_r, zcl_l, zcl_n, zv_some, zv_none, Nat.reduceAdd, Nat.reduceMul, Nat.reduceSub, Nat.reduceLT, Nat.reduceLeDiff, Nat.reduceEqDiff, Int.reduceToNat, true_implies, false_implies, implies_true, and_true, true_and, not_true_eq_false, not_false_eq_true, Nat.zero_add, Nat.add_zero, nI_add, nI_ltI, nI_leI, nI_eq, pk_mul, pk_sub, u2_same, u2_row, u2_other, olt_T, olt_F, ole_T, ole_F, oeq_T, oeq_F]
    exact hQ fi hI (fun _ _ => rfl)
  | succ m ih =>
    intro i hi fi v2 v3 hr hI hQ
    have hi3 : i < 3 := by omega
    have wd := hw.2.2.2.1 i hi3
    have tl := a_tot_le wd.1
    have hda := fun fi Q => sp_dishAt (fi := fi) (fl := fl) (Q := Q) hk hi3
    have hdd := (hk.2.2.2.2 i hi3).2
    have od := hdd.1
    have hrd := hr.2.2.1 i hi3
    have md := hrd.2.1
    have hrd' : z_DR (u2 fi 74 i (nI (a_gone w i))) (19 + 5 + 5 * i) w i := hrd.frame (fun j j1 j2 => by simp (disch := omega) only [u2_ne])
    have ml := fun Q => sp_minutesLong (fl := fl) (Q := Q) hdd hrd' wd.1
    simp (disch := first | assumption | rfl | exact zle_0 | exact zle_1 | exact zle_2 | exact zle_3 | exact zle_4 | exact zb_0 | exact zb_1 | exact zb01_B | omega) only [zT210_2, zr_iload_1, zcl_i, zcl_r, zcl_l, zcl_n, zv_some, zv_none, Nat.reduceAdd, Nat.reduceMul, Nat.reduceSub, Nat.reduceLT, Nat.reduceLeDiff, Nat.reduceEqDiff, Int.reduceToNat, true_implies, false_implies, implies_true, and_true, true_and, not_true_eq_false, not_false_eq_true, Nat.zero_add, Nat.add_zero, nI_add, nI_ltI, nI_leI, nI_eq, pk_mul, pk_sub, u2_same, u2_row, u2_other]
    simp (disch := first | assumption | rfl | exact zle_0 | exact zle_1 | exact zle_2 | exact zle_3 | exact zle_4 | exact zb_0 | exact zb_1 | exact zb01_B | omega) only [zT210_3, zr_ic_3, zT210_4, zr_icmp_ge, zT210_7, zr_aload_0, zT210_8, zr_gf_52, zr_or, zr_go, zf_70_52, zT210_11, zr_iload_1, zT210_12, zr_iv_188, zT210_15, zr_astore_2, zT210_16, zT210_17, zr_gf_57, zf_70_57, zT210_20, zT210_21, zr_aload_2, zT210_22, zr_gf_33, zT210_25, zr_ic_15, zT210_27, zr_fsub, zT210_30, zr_iast, zT210_31, zT210_32, zr_gf_58, zf_70_58, zT210_35, zT210_36, zT210_37, zr_iv_152, zT210_40, zT210_42, zT210_45, zT210_46, zr_ic_0, zT210_47, zr_istore_3, zcl_i, zcl_r, zcl_l, zcl_n, zv_some, zv_none, Nat.reduceAdd, Nat.reduceMul, Nat.reduceSub, Nat.reduceLT, Nat.reduceLeDiff, Nat.reduceEqDiff, Int.reduceToNat, true_implies, false_implies, implies_true, and_true, true_and, not_true_eq_false, not_false_eq_true, Nat.zero_add, Nat.add_zero, nI_add, nI_ltI, nI_leI, nI_eq, pk_mul, pk_sub, u2_same, u2_row, u2_other, hda, md, ml, if_false, olt_T, olt_F, ole_T, ole_F, oeq_T, oeq_F]
    refine sp_lp2 hf hi3 hdd (by omega) wd.1 16 0 rfl _ (hrd'.frame (fun j j1 j2 => by simp (disch := omega) only [u2_ne])) (by rw [u2_same]) (fun q hq => absurd hq (Nat.not_lt_zero _)) (fun f1 g1 g2 g3 => ?_)
    simp (disch := first | assumption | rfl | exact zle_0 | exact zle_1 | exact zle_2 | exact zle_3 | exact zle_4 | exact zb_0 | exact zb_1 | exact zb01_B | omega) only [zT210_124, zr_iinc_1_1, zT210_127, zr_goto, zcl_i, zcl_r, zcl_l, zcl_n, zv_some, zv_none, Nat.reduceAdd, Nat.reduceMul, Nat.reduceSub, Nat.reduceLT, Nat.reduceLeDiff, Nat.reduceEqDiff, Int.reduceToNat, true_implies, false_implies, implies_true, and_true, true_and, not_true_eq_false, not_false_eq_true, Nat.zero_add, Nat.add_zero, nI_add, nI_ltI, nI_leI, nI_eq, pk_mul, pk_sub, u2_same, u2_row, u2_other, olt_T, olt_F, ole_T, ole_F, oeq_T, oeq_F]
    refine ih (i + 1) (by omega) f1 _ _ (hr.fr (fun j j1 j2 => ?_)) (fun e he => ?_) (fun f2 k1 k2 => hQ f2 k1 (fun j hj => ?_))
    · rw [g3 j (by omega) (by omega)]; simp (disch := omega) only [u2_ne]
    · rw [g3 74 (by decide) (by decide), g3 75 (by decide) (by decide)]
      by_cases c : e = i
      · subst c
        exact ⟨by simp (disch := omega) only [u2_other, u2_same], by rw [u2_same], g1⟩
      · obtain ⟨e1, e2, e3⟩ := hI e (by omega)
        refine ⟨by simp (disch := omega) only [u2_other, u2_row]; exact e1, by simp (disch := omega) only [u2_other, u2_row]; exact e2, fun p hp => ?_⟩
        obtain ⟨x1, x2⟩ := g2 (e * 16 + p) (by omega)
        rw [x1, x2]
        simp (disch := omega) only [u2_other]
        exact e3 p hp
    · rw [k2 j hj, g3 j (by omega) (by omega)]
      simp (disch := omega) only [u2_ne]
theorem sp_layPlaces (hf : z_FR fr) (hw : a_WF w) (hr : z_KR fi 19 w)
    (hQ : ∀ fi', z_PL fi' w 3 → (∀ j, j < 74 ∨ 77 < j → fi' j = fi j) → Q none (151, fi', fl, fr)) :
    TT 210 0 [some (.ref 70), none, none, none] [] (151, fi, fl, fr) Q := by
  simp (disch := first | assumption | rfl | exact zle_0 | exact zle_1 | exact zle_2 | exact zle_3 | exact zle_4 | exact zb_0 | exact zb_1 | exact zb01_B | omega) only [zT210_0, zr_ic_0, zT210_1, zr_istore_1, zcl_i, zcl_r, zcl_l, zcl_n, zv_some, zv_none, Nat.reduceAdd, Nat.reduceMul, Nat.reduceSub, Nat.reduceLT, Nat.reduceLeDiff, Nat.reduceEqDiff, Int.reduceToNat, true_implies, false_implies, implies_true, and_true, true_and, not_true_eq_false, not_false_eq_true, Nat.zero_add, Nat.add_zero, nI_add, nI_ltI, nI_leI, nI_eq, pk_mul, pk_sub, u2_same, u2_row, u2_other, olt_T, olt_F, ole_T, ole_F, oeq_T, oeq_F]
  exact sp_lp_ hf hw 3 0 rfl fi _ _ hr (fun i hi => absurd hi (Nat.not_lt_zero _)) hQ
theorem sp_hs_ {key set : Nat} (hk : key < 64) (hs : set < 8) : ∀ m d, d + m = 3 → ∀ Q, TT 212 2 [some (.int (nI key)), some (.int (nI set)), some (.int (nI d))] [] M Q = Q (some (.int (zB (a_hs key set m d)))) M := by
  obtain ⟨nx, fi, fl, fr⟩ := M
  have zt : zB true = nI 1 := rfl
  have zf : zB false = nI 0 := rfl
  intro m
  induction m with
  | zero =>
    intro d hd Q
    obtain rfl : d = 3 := by omega
    simp (disch := first | assumption | rfl | exact zle_0 | exact zle_1 | exact zle_2 | exact zle_3 | exact zle_4 | exact zb_0 | exact zb_1 | exact zb01_B | omega) only [zT212_0, zr_ic_0, zT212_1, zr_istore_2, zT212_2, zr_iload_2, zT212_3, zr_ic_3, zT212_4, zr_icmp_ge, zT212_7, zr_iload_1, zT212_8, zT212_9, zr_iv_119, zT212_12, zr_if_eq, zT212_15, zr_iload_0, zT212_16, zT212_17, zr_iv_121, zT212_20, zT212_21, zr_icmp_ne, zT212_24, zT212_25, zr_ret1_0, zr_ret1_1, zr_ret1_B, zT212_26, zr_iinc_2_1, zT212_29, zr_goto, zT212_32, zr_ic_1, zT212_33, zcl_i, zcl_r, zcl_l, zcl_n, zv_some, zv_none, Nat.reduceAdd, Nat.reduceMul, Nat.reduceSub, Nat.reduceLT, Nat.reduceLeDiff, Nat.reduceEqDiff, Int.reduceToNat, true_implies, false_implies, implies_true, and_true, true_and, not_true_eq_false, not_false_eq_true, Nat.zero_add, Nat.add_zero, nI_add, nI_ltI, nI_leI, nI_eq, pk_mul, pk_sub, u2_same, u2_row, u2_other, olt_T, olt_F, ole_T, ole_F, oeq_T, oeq_F]
    rfl
  | succ m ih =>
    intro d hd Q
    have bi := fun M Q => sp_isIn (M := M) (Q := Q) (b := set) (d := d) (by omega) (by omega)
    have si := fun M Q => sp_stepInKey (M := M) (Q := Q) hk (show d < 3 by omega)
    have ih' := ih (d + 1) (by omega)
    have al := a_at_lt (key := key) (d := d)
    unfold a_hs
    simp (disch := first | assumption | rfl | exact zle_0 | exact zle_1 | exact zle_2 | exact zle_3 | exact zle_4 | exact zb_0 | exact zb_1 | exact zb01_B | omega) only [zT212_2, zr_iload_2, zcl_i, zcl_r, zcl_l, zcl_n, zv_some, zv_none, Nat.reduceAdd, Nat.reduceMul, Nat.reduceSub, Nat.reduceLT, Nat.reduceLeDiff, Nat.reduceEqDiff, Int.reduceToNat, true_implies, false_implies, implies_true, and_true, true_and, not_true_eq_false, not_false_eq_true, Nat.zero_add, Nat.add_zero, nI_add, nI_ltI, nI_leI, nI_eq, pk_mul, pk_sub, u2_same, u2_row, u2_other]
    cases hb : a_bit set d
    · rw [hb] at bi
      simp (disch := first | assumption | rfl | exact zle_0 | exact zle_1 | exact zle_2 | exact zle_3 | exact zle_4 | exact zb_0 | exact zb_1 | exact zb01_B | omega) only [zT212_3, zr_ic_3, zT212_4, zr_icmp_ge, zT212_7, zr_iload_1, zT212_8, zr_iload_2, zT212_9, zr_iv_119, zT212_12, zr_if_eq, zT212_15, zr_iload_0, zT212_16, zT212_17, zr_iv_121, zT212_20, zT212_21, zr_icmp_ne, zT212_24, zr_ic_0, zT212_25, zr_ret1_0, zr_ret1_1, zr_ret1_B, zT212_26, zr_iinc_2_1, zT212_29, zr_goto, zT212_32, zr_ic_1, zT212_33, zcl_i, zcl_r, zcl_l, zcl_n, zv_some, zv_none, Nat.reduceAdd, Nat.reduceMul, Nat.reduceSub, Nat.reduceLT, Nat.reduceLeDiff, Nat.reduceEqDiff, Int.reduceToNat, true_implies, false_implies, implies_true, and_true, true_and, not_true_eq_false, not_false_eq_true, Nat.zero_add, Nat.add_zero, nI_add, nI_ltI, nI_leI, nI_eq, pk_mul, pk_sub, u2_same, u2_row, u2_other, bi, si, zB_eq0, ih', if_false, Bool.false_eq_true, olt_T, olt_F, ole_T, ole_F, oeq_T, oeq_F]
    · rw [hb] at bi
      by_cases c : a_at key d = 3
      · rw [c] at si
        simp (disch := first | assumption | rfl | exact zle_0 | exact zle_1 | exact zle_2 | exact zle_3 | exact zle_4 | exact zb_0 | exact zb_1 | exact zb01_B | omega) only [zT212_3, zr_ic_3, zT212_4, zr_icmp_ge, zT212_7, zr_iload_1, zT212_8, zr_iload_2, zT212_9, zr_iv_119, zT212_12, zr_if_eq, zT212_15, zr_iload_0, zT212_16, zT212_17, zr_iv_121, zT212_20, zT212_21, zr_icmp_ne, zT212_24, zr_ic_0, zT212_25, zr_ret1_0, zr_ret1_1, zr_ret1_B, zT212_26, zr_iinc_2_1, zT212_29, zr_goto, zT212_32, zr_ic_1, zT212_33, zcl_i, zcl_r, zcl_l, zcl_n, zv_some, zv_none, Nat.reduceAdd, Nat.reduceMul, Nat.reduceSub, Nat.reduceLT, Nat.reduceLeDiff, Nat.reduceEqDiff, Int.reduceToNat, true_implies, false_implies, implies_true, and_true, true_and, not_true_eq_false, not_false_eq_true, Nat.zero_add, Nat.add_zero, nI_add, nI_ltI, nI_leI, nI_eq, pk_mul, pk_sub, u2_same, u2_row, u2_other, bi, si, c, zB_eq0, ih', if_true, reduceCtorEq, olt_T, olt_F, ole_T, ole_F, oeq_T, oeq_F]
        rfl
      · simp (disch := first | assumption | rfl | exact zle_0 | exact zle_1 | exact zle_2 | exact zle_3 | exact zle_4 | exact zb_0 | exact zb_1 | exact zb01_B | omega) only [zT212_3, zr_ic_3, zT212_4, zr_icmp_ge, zT212_7, zr_iload_1, zT212_8, zr_iload_2, zT212_9, zr_iv_119, zT212_12, zr_if_eq, zT212_15, zr_iload_0, zT212_16, zT212_17, zr_iv_121, zT212_20, zT212_21, zr_icmp_ne, zT212_24, zr_ic_0, zT212_25, zr_ret1_0, zr_ret1_1, zr_ret1_B, zT212_26, zr_iinc_2_1, zT212_29, zr_goto, zT212_32, zr_ic_1, zT212_33, zcl_i, zcl_r, zcl_l, zcl_n, zv_some, zv_none, Nat.reduceAdd, Nat.reduceMul, Nat.reduceSub, Nat.reduceLT, Nat.reduceLeDiff, Nat.reduceEqDiff, Int.reduceToNat, true_implies, false_implies, implies_true, and_true, true_and, not_true_eq_false, not_false_eq_true, Nat.zero_add, Nat.add_zero, nI_add, nI_ltI, nI_leI, nI_eq, pk_mul, pk_sub, u2_same, u2_row, u2_other, bi, si, zB_eq0, ih', if_true, if_false, reduceCtorEq, olt_T, olt_F, ole_T, ole_F, oeq_T, oeq_F]
theorem sp_hasSteps {key set : Nat} (hk : key < 64) (hs : set < 8) : TT 212 0 [some (.int (nI key)), some (.int (nI set)), none] [] M Q = Q (some (.int (zB (a_hs key set 3 0)))) M := by
  have s := sp_hs_ (M := M) hk hs 3 0 rfl Q
  obtain ⟨nx, fi, fl, fr⟩ := M
  simp (disch := first | assumption | rfl | exact zle_0 | exact zle_1 | exact zle_2 | exact zle_3 | exact zle_4 | exact zb_0 | exact zb_1 | exact zb01_B | omega) only [zT212_0, zr_ic_0, zT212_1, zr_istore_2, zcl_i, zcl_r, zcl_l, zcl_n, zv_some, zv_none, Nat.reduceAdd, Nat.reduceMul, Nat.reduceSub, Nat.reduceLT, Nat.reduceLeDiff, Nat.reduceEqDiff, Int.reduceToNat, true_implies, false_implies, implies_true, and_true, true_and, not_true_eq_false, not_false_eq_true, Nat.zero_add, Nat.add_zero, nI_add, nI_ltI, nI_leI, nI_eq, pk_mul, pk_sub, u2_same, u2_row, u2_other]
  exact s
end
