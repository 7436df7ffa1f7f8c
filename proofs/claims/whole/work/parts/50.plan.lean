/-! the first of the soonest rows, and the plan kept -/
def nf_ (f : Nat → Bool) : Nat → Nat → Nat
  | 0, _ => 0
  | m + 1, i => if f i then i else nf_ f m (i + 1)
theorem nf_spec {f : Nat → Bool} : ∀ m i, (∃ j, i ≤ j ∧ j < i + m ∧ f j = true) → i ≤ nf_ f m i ∧ nf_ f m i < i + m ∧ f (nf_ f m i) = true ∧ ∀ j, i ≤ j → j < nf_ f m i → f j = false
  | 0, i, h => by obtain ⟨j, h1, h2, -⟩ := h; omega
  | m + 1, i, h => by
    unfold nf_
    by_cases e : f i = true
    · rw [if_pos e]
      exact ⟨Nat.le_refl _, by omega, e, fun j h1 h2 => by omega⟩
    · rw [if_neg e]
      obtain ⟨j, h1, h2, h3⟩ := h
      have hne : j ≠ i := by rintro rfl; exact e h3
      obtain ⟨q1, q2, q3, q4⟩ := nf_spec (f := f) m (i + 1) ⟨j, by omega, by omega, h3⟩
      refine ⟨by omega, by omega, q3, fun k k1 k2 => ?_⟩
      by_cases c : k = i
      · rw [c]; simpa using e
      · exact q4 k (by omega) k2
/-- the first set that brings the end nearer by a minute -/
def a_nxt (mv : Nat → Nat → Bool) (E s : Nat) : Nat := nf_ (fun q => mv s q && decide (a_F mv E (nx s q) + 1 = a_F mv E s)) 7 1
def a_sAt (mv : Nat → Nat → Bool) (E s0 : Nat) : Nat → Nat
  | 0 => s0
  | i + 1 => nx (a_sAt mv E s0 i) (a_nxt mv E (a_sAt mv E s0 i))
section
variable {mv : Nat → Nat → Bool} {B : Nat → Prop} {rm : Nat → Nat} {E : Nat}
theorem a_nxt_spec (h : z_sys mv B rm) (hE : B E) {s : Nat} (hb : B s) (h0 : a_F mv E s ≠ 0) (hf : a_F mv E s ≠ 100) : 1 ≤ a_nxt mv E s ∧ a_nxt mv E s < 8 ∧ mv s (a_nxt mv E s) = true ∧ a_F mv E (nx s (a_nxt mv E s)) + 1 = a_F mv E s ∧ B (nx s (a_nxt mv E s)) := by
  have hs : s ≠ E := by
    rintro rfl
    exact h0 (a_F_E h hb)
  obtain ⟨set, h1, h2, h3, h4⟩ := a_F_dn h hb hs hf
  obtain ⟨q1, q2, q3, -⟩ := nf_spec (f := fun q => mv s q && decide (a_F mv E (nx s q) + 1 = a_F mv E s)) 7 1 ⟨set, h1, h2, by rw [h3, decide_eq_true h4]; rfl⟩
  obtain ⟨q4, q5⟩ := Bool.and_eq_true_iff.mp q3
  exact ⟨q1, q2, q4, of_decide_eq_true q5, (h.2 s _ hb q1 q2 q4).1⟩
theorem a_sAt_spec (h : z_sys mv B rm) (hE : B E) {s0 n : Nat} (hb : B s0) (hn : a_F mv E s0 = n) (hn1 : n ≠ 100) : ∀ i, i ≤ n → B (a_sAt mv E s0 i) ∧ a_F mv E (a_sAt mv E s0 i) = n - i
  | 0, _ => ⟨hb, hn⟩
  | i + 1, hi => by
    obtain ⟨h1, h2⟩ := a_sAt_spec h hE hb hn hn1 i (by omega)
    have h45 : n ≤ 45 := by
      rcases a_F_spec (E := E) h hb with ⟨x, -⟩ | ⟨x, -⟩ <;> omega
    obtain ⟨q1, q2, q3, q4, q5⟩ := a_nxt_spec h hE h1 (by omega) (by omega)
    exact ⟨q5, by show a_F mv E (nx _ _) = _; omega⟩
end
/-- the crew as it is, and what it is enough for -/
def a_en (w : Nat → Nat) (b : Nat) : Nat → Bool := a_enough w (a_hands w b) 0 0
def a_mvN (w : Nat → Nat) : Nat → Nat → Bool := a_mv w (a_en w (w 54))
def a_FN (w : Nat → Nat) (s : Nat) : Nat := a_FW w (a_en w (w 54)) s
def a_sN (w : Nat → Nat) : Nat → Nat := a_sAt (a_mvN w) (a_E w) (a_S w)
def a_qN (w : Nat → Nat) (i : Nat) : Nat := a_nxt (a_mvN w) (a_E w) (a_sN w i)
def a_keyS (w : Nat → Nat) (s set : Nat) : Nat := a_kst w s ||| (z_stT 4).getD set 0
/-- the cooks' row in a state for a set -/
def a_rowS (w : Nat → Nat) (s set : Nat) : List (Nat × Nat) := a_line (l_all w (a_keyS w s set) 3 0) (a_hands w (w 54))
def a_tmN (w : Nat → Nat) (p : Nat) : Nat := t_of (p % 3) (a_rowS w (a_sN w (p / 3)) (a_qN w (p / 3)))
theorem a_box_S {w : Nat → Nat} (hw : a_WF w) : a_box w (a_S w) := by rw [← a_fs7]; exact a_box_fs hw
theorem a_ok {w : Nat → Nat} {b : Nat} : ∀ c, h_ok (a_thumb w c) (a_hands w b c) := by
  intro c
  unfold a_thumb a_hands a_kh h_ok
  by_cases h : c < w 0
  · rw [if_pos h]
    by_cases k5 : w (1 + c) = 5
    · rw [decide_eq_true ⟨h, k5⟩, k5]
      exact Or.inl ⟨rfl, Or.inr rfl⟩
    · rw [decide_eq_false (fun q => k5 q.2)]
      refine Or.inr ⟨rfl, ?_⟩
      repeat' split
      all_goals simp
      all_goals omega
  · rw [if_neg h, decide_eq_false (fun q => h q.1)]
    exact Or.inr ⟨rfl, Or.inl rfl⟩
/-- the row of the plan, n minutes of it -/
def z_RN (fi : Nat → Nat → Int32) (w : Nat → Nat) (n : Nat) : Prop := z_RW fi n (a_tmN w) ∧ ∀ i, i < n → fi 72 i = nI (a_qN w i)
/-- all that the planner keeps -/
def z_Plan (fi : Nat → Nat → Int32) (w : Nat → Nat) : Prop := z_SV fi w (a_en w (w 54)) ∧ fi 70 56 = iF (a_FN w (a_S w)) ∧ z_RN fi w (if a_FN w (a_S w) = 100 then 0 else a_FN w (a_S w))
section
variable {fi : Nat → Nat → Int32} {fl : Nat → Nat → Int64} {fr : Nat → Nat → Option Nat} {Q : Option Value → Mm → Prop} {w : Nat → Nat} {k : Nat} {M : Mm}
theorem sp_fs_ (hf : z_FR fr) (hw : a_WF w) {en : Nat → Bool} (h : z_SV fi w en) {s : Nat} (hb : a_box w s) (h0 : a_FW w en s ≠ 0) (h1 : a_FW w en s ≠ 100) :
    ∀ m set, set + m = 8 → 1 ≤ set → ∀ Q, TT 225 2 [some (.ref 70), some (.int (nI s)), some (.int (nI set))] [] (151, fi, fl, fr) Q = Q (some (.int (nI (nf_ (fun q => a_mv w en s q && decide (a_FW w en (nx s q) + 1 = a_FW w en s)) m set)))) (151, fi, fl, fr) := by
  have o70 : z_ok 151 70 18 = true := rfl; have o81 : z_ok 151 81 1 = true := rfl; have o82 : z_ok 151 82 1 = true := rfl
  have l81 : z_al 81 = 4096 := rfl; have l82 : z_al 82 = 4096 := rfl
  obtain ⟨hp, hs, hfw⟩ := h
  have smem := (a_SL_mem hw).mpr hb
  have e81 := hs.2.2 s smem
  have e82 := hfw s smem
  have s4 := hb.1
  have ml : a_mvm w en s < 256 := a_mvm_lt
  have f45 := a_FW_le hw hb (en := en)
  have g1 : gF 1000001 (a_FW w en s) = a_FW w en s := by unfold gF; rw [if_neg h1]
  rw [g1] at e82
  intro m
  induction m with
  | zero =>
    intro set hset h1 Q
    obtain rfl : set = 8 := by omega
    simp (disch := first | assumption | rfl | exact zle_0 | exact zle_1 | exact zle_2 | exact zle_3 | exact zle_4 | exact zb_0 | exact zb_1 | exact zb01_B | omega) only [zT225_2, zr_iload_2, zT225_3, zr_ic_8, zT225_5, zr_icmp_ge, zT225_50, zr_ic_0, zT225_51, zr_ret0, zcl_i, zcl_r, zcl_l, zcl_n, zv_some, zv_none, Nat.reduceAdd, Nat.reduceMul, Nat.reduceSub, Nat.reduceLT, Nat.reduceLeDiff, Nat.reduceEqDiff, Int.reduceToNat, true_implies, false_implies, implies_true, and_true, true_and, not_true_eq_false, not_false_eq_true, Nat.zero_add, Nat.add_zero, nI_add, nI_ltI, nI_leI, nI_eq, pk_mul, pk_sub, u2_same, u2_row, u2_other, olt_T, olt_F, ole_T, ole_F, oeq_T, oeq_F]
    rfl
  | succ m ih =>
    intro set hset h1 Q
    have bi := fun M Q => sp_isIn (M := M) (Q := Q) (b := a_mvm w en s) (d := set) (by omega) (by omega)
    have ih' := ih (set + 1) (by omega) (by omega)
    unfold nf_
    rw [show a_bit (a_mvm w en s) set = a_mv w en s set from rfl] at bi
    simp (disch := first | assumption | rfl | exact zle_0 | exact zle_1 | exact zle_2 | exact zle_3 | exact zle_4 | exact zb_0 | exact zb_1 | exact zb01_B | omega) only [zT225_2, zr_iload_2, zcl_i, zcl_r, zcl_l, zcl_n, zv_some, zv_none, Nat.reduceAdd, Nat.reduceMul, Nat.reduceSub, Nat.reduceLT, Nat.reduceLeDiff, Nat.reduceEqDiff, Int.reduceToNat, true_implies, false_implies, implies_true, and_true, true_and, not_true_eq_false, not_false_eq_true, Nat.zero_add, Nat.add_zero, nI_add, nI_ltI, nI_leI, nI_eq, pk_mul, pk_sub, u2_same, u2_row, u2_other]
    cases hm : a_mv w en s set
    · rw [hm] at bi
      simp (disch := first | assumption | rfl | exact zle_0 | exact zle_1 | exact zle_2 | exact zle_3 | exact zle_4 | exact zb_0 | exact zb_1 | exact zb01_B | omega) only [zT225_3, zr_ic_8, zT225_5, zr_icmp_ge, zT225_8, zr_aload_0, zT225_9, zr_gf_65, zr_or, zr_go, zf_70_65, zT225_12, zr_iload_1, zT225_13, zr_iald, zT225_14, zr_iload_2, zT225_15, zr_iv_119, zT225_18, zr_if_eq, zT225_21, zT225_22, zr_gf_66, zf_70_66, zT225_25, zT225_26, zT225_27, zr_iv_218, zT225_30, zT225_31, zT225_32, zT225_35, zT225_36, zT225_37, zr_ic_1, zT225_38, zr_isub, zT225_39, zr_icmp_ne, zT225_42, zT225_43, zr_ret0, zT225_44, zr_iinc_2_1, zT225_47, zr_goto, zcl_i, zcl_r, zcl_l, zcl_n, zv_some, zv_none, Nat.reduceAdd, Nat.reduceMul, Nat.reduceSub, Nat.reduceLT, Nat.reduceLeDiff, Nat.reduceEqDiff, Int.reduceToNat, true_implies, false_implies, implies_true, and_true, true_and, not_true_eq_false, not_false_eq_true, Nat.zero_add, Nat.add_zero, nI_add, nI_ltI, nI_leI, nI_eq, pk_mul, pk_sub, u2_same, u2_row, u2_other, e81, bi, zB_eq0, ih', Bool.false_and, if_false, Bool.false_eq_true, olt_T, olt_F, ole_T, ole_F, oeq_T, oeq_F]
    · rw [hm] at bi
      obtain ⟨b2, -⟩ := (a_sys hw (en := en)).2 s set hb h1 (by omega) hm
      have n82 := hfw _ ((a_SL_mem hw).mpr b2)
      have n4 := b2.1
      have nl := gF_lt hw b2 (en := en)
      have bh := fun fi Q => sp_behind (fi := fi) (fl := fl) (fr := fr) (Q := Q) (show set < 8 by omega) n4
      have eqv : (gF 1000001 (a_FW w en (nx s set)) = a_FW w en s - 1) = (a_FW w en (nx s set) + 1 = a_FW w en s) := by
        apply propext
        unfold gF
        rcases a_FW_le hw b2 (en := en) with x | x <;> split <;> omega
      have sub1 : nI (a_FW w en s) - nI 1 = nI (a_FW w en s - 1) := pk_sub (by omega)
      by_cases c : a_FW w en (nx s set) + 1 = a_FW w en s
      · have c' := c
        rw [← eqv] at c'
        rw [if_pos (by rw [decide_eq_true c]; rfl)]
        simp (disch := first | assumption | rfl | exact zle_0 | exact zle_1 | exact zle_2 | exact zle_3 | exact zle_4 | exact zb_0 | exact zb_1 | exact zb01_B | omega) only [zT225_3, zr_ic_8, zT225_5, zr_icmp_ge, zT225_8, zr_aload_0, zT225_9, zr_gf_65, zr_or, zr_go, zf_70_65, zT225_12, zr_iload_1, zT225_13, zr_iald, zT225_14, zr_iload_2, zT225_15, zr_iv_119, zT225_18, zr_if_eq, zT225_21, zT225_22, zr_gf_66, zf_70_66, zT225_25, zT225_26, zT225_27, zr_iv_218, zT225_30, zT225_31, zT225_32, zT225_35, zT225_36, zT225_37, zr_ic_1, zT225_38, zr_isub, zT225_39, zr_icmp_ne, zT225_42, zT225_43, zr_ret0, zT225_44, zr_iinc_2_1, zT225_47, zr_goto, zcl_i, zcl_r, zcl_l, zcl_n, zv_some, zv_none, Nat.reduceAdd, Nat.reduceMul, Nat.reduceSub, Nat.reduceLT, Nat.reduceLeDiff, Nat.reduceEqDiff, Int.reduceToNat, true_implies, false_implies, implies_true, and_true, true_and, not_true_eq_false, not_false_eq_true, Nat.zero_add, Nat.add_zero, nI_add, nI_ltI, nI_leI, nI_eq, pk_mul, pk_sub, u2_same, u2_row, u2_other, e81, e82, n82, bi, bh, sub1, zB_eq0, reduceCtorEq, ih', olt_T, olt_F, ole_T, ole_F, oeq_T, oeq_F]
      · have c' := c
        rw [← eqv] at c'
        rw [if_neg (by rw [decide_eq_false c]; decide)]
        simp (disch := first | assumption | rfl | exact zle_0 | exact zle_1 | exact zle_2 | exact zle_3 | exact zle_4 | exact zb_0 | exact zb_1 | exact zb01_B | omega) only [zT225_3, zr_ic_8, zT225_5, zr_icmp_ge, zT225_8, zr_aload_0, zT225_9, zr_gf_65, zr_or, zr_go, zf_70_65, zT225_12, zr_iload_1, zT225_13, zr_iald, zT225_14, zr_iload_2, zT225_15, zr_iv_119, zT225_18, zr_if_eq, zT225_21, zT225_22, zr_gf_66, zf_70_66, zT225_25, zT225_26, zT225_27, zr_iv_218, zT225_30, zT225_31, zT225_32, zT225_35, zT225_36, zT225_37, zr_ic_1, zT225_38, zr_isub, zT225_39, zr_icmp_ne, zT225_42, zT225_43, zr_ret0, zT225_44, zr_iinc_2_1, zT225_47, zr_goto, zcl_i, zcl_r, zcl_l, zcl_n, zv_some, zv_none, Nat.reduceAdd, Nat.reduceMul, Nat.reduceSub, Nat.reduceLT, Nat.reduceLeDiff, Nat.reduceEqDiff, Int.reduceToNat, true_implies, false_implies, implies_true, and_true, true_and, not_true_eq_false, not_false_eq_true, Nat.zero_add, Nat.add_zero, nI_add, nI_ltI, nI_leI, nI_eq, pk_mul, pk_sub, u2_same, u2_row, u2_other, e81, e82, n82, bi, bh, sub1, zB_eq0, reduceCtorEq, ih', olt_T, olt_F, ole_T, ole_F, oeq_T, oeq_F]
theorem sp_firstShortening (hf : z_FR fr) (hw : a_WF w) {en : Nat → Bool} (h : z_SV fi w en) {s : Nat} (hb : a_box w s) (h0 : a_FW w en s ≠ 0) (h1 : a_FW w en s ≠ 100) : TT 225 0 [some (.ref 70), some (.int (nI s)), none] [] (151, fi, fl, fr) Q = Q (some (.int (nI (a_nxt (a_mv w en) (a_E w) s)))) (151, fi, fl, fr) := by
  have L := sp_fs_ (fl := fl) hf hw h hb h0 h1 7 1 rfl (Nat.le_refl _) Q
  simp (disch := first | assumption | rfl | exact zle_0 | exact zle_1 | exact zle_2 | exact zle_3 | exact zle_4 | exact zb_0 | exact zb_1 | exact zb01_B | omega) only [zT225_0, zr_ic_1, zT225_1, zr_istore_2, zcl_i, zcl_r, zcl_l, zcl_n, zv_some, zv_none, Nat.reduceAdd, Nat.reduceMul, Nat.reduceSub, Nat.reduceLT, Nat.reduceLeDiff, Nat.reduceEqDiff, Int.reduceToNat, true_implies, false_implies, implies_true, and_true, true_and, not_true_eq_false, not_false_eq_true, Nat.zero_add, Nat.add_zero, nI_add, nI_ltI, nI_leI, nI_eq, pk_mul, pk_sub, u2_same, u2_row, u2_other]
  exact L
theorem z_SV.frame {fi' : Nat → Nat → Int32} {en : Nat → Bool} (h : z_SV fi w en) (h1 : fi' 70 64 = fi 70 64) (h2 : ∀ j, 74 ≤ j → j ≤ 82 → fi' j = fi j) : z_SV fi' w en :=
  ⟨h.1.frame (fun j j1 j2 => h2 j j1 (by omega)), h.2.1.frame h1 (h2 80 (by decide) (by decide)) (h2 81 (by decide) (by decide)), h.2.2.frame (h2 82 (by decide) (by decide))⟩
theorem z_RN.frame {fi' : Nat → Nat → Int32} {n : Nat} (h : z_RN fi w n) (h1 : fi' 71 = fi 71) (h2 : fi' 72 = fi 72) (h3 : fi' 73 = fi 73) : z_RN fi' w n := by
  unfold z_RN z_RW at *
  rw [h1, h2, h3]
  exact h
theorem sp_wr_ (hf : z_FR fr) (hw : a_WF w) {n : Nat} (hn : a_FN w (a_S w) = n) (hn1 : n ≠ 100) :
    ∀ m i, i + m = n → ∀ (fi : Nat → Nat → Int32) (v3 : Option Value), z_KR fi 19 w → z_SV fi w (a_en w (w 54)) → fi 70 56 = nI n → z_RN fi w i →
    (∀ fi', z_RN fi' w n → (∀ j, (j < 61 ∨ (69 < j ∧ j < 71) ∨ 73 < j) → fi' j = fi j) → Q none (151, fi', fl, fr)) →
    TT 224 14 [some (.ref 70), some (.int (nI (a_sN w i))), some (.int (nI i)), v3] [] (151, fi, fl, fr) Q := by
  have o19 : z_ok 151 19 16 = true := rfl; have o61 : z_ok 151 61 12 = true := rfl; have o70 : z_ok 151 70 18 = true := rfl; have o71 : z_ok 151 71 19 = true := rfl
  have sys := a_sys hw (en := a_en w (w 54))
  have bE := a_box_E hw
  have bS := a_box_S hw
  have h45 : n ≤ 45 := by
    rcases a_FW_le hw bS (en := a_en w (w 54)) with x | x
    · rw [← hn]; exact x
    · exact absurd (hn.symm.trans x) hn1
  have h54 := hw.2.2.2.2.2.1
  intro m
  induction m with
  | zero =>
    intro i hi fi v3 hr hsv hsm hI hQ
    obtain rfl : i = n := by omega
    have := hQ fi hI (fun _ _ => rfl)
    simp (disch := first | assumption | rfl | exact zle_0 | exact zle_1 | exact zle_2 | exact zle_3 | exact zle_4 | exact zb_0 | exact zb_1 | exact zb01_B | omega) only [zT224_14, zr_iload_2, zT224_15, zr_aload_0, zT224_16, zr_gf_56, zT224_19, zr_icmp_ge, zT224_84, zr_return, zcl_i, zcl_r, zcl_l, zcl_n, zv_some, zv_none, Nat.reduceAdd, Nat.reduceMul, Nat.reduceSub, Nat.reduceLT, Nat.reduceLeDiff, Nat.reduceEqDiff, Int.reduceToNat, true_implies, false_implies, implies_true, and_true, true_and, not_true_eq_false, not_false_eq_true, Nat.zero_add, Nat.add_zero, nI_add, nI_ltI, nI_leI, nI_eq, pk_mul, pk_sub, u2_same, u2_row, u2_other, hsm, olt_T, olt_F, ole_T, ole_F, oeq_T, oeq_F]
    exact this
  | succ m ih =>
    intro i hi fi v3 hr hsv hsm hI hQ
    obtain ⟨sb, sF⟩ := a_sAt_spec (E := a_E w) sys bE bS hn hn1 i (by omega)
    have sb' : a_box w (a_sN w i) := sb
    have sF' : a_FW w (a_en w (w 54)) (a_sN w i) = n - i := sF
    have s4 := sb'.1
    obtain ⟨q1, q8, q3, q4, q5⟩ := a_nxt_spec (E := a_E w) sys bE sb' (show a_FW w (a_en w (w 54)) (a_sN w i) ≠ 0 by omega) (show a_FW w (a_en w (w 54)) (a_sN w i) ≠ 100 by omega)
    have fs := fun Q => sp_firstShortening (fl := fl) (Q := Q) hf hw hsv sb' (by omega) (by omega)
    have nx1 : a_sN w (i + 1) = nx (a_sN w i) (a_qN w i) := rfl
    rw [show a_nxt (a_mv w (a_en w (w 54))) (a_E w) (a_sN w i) = a_qN w i from rfl] at q1 q8 q3 q4 q5 fs
    have st := hr.1.2.2.2.1
    have cnk : ∀ c, c < w 0 → w (1 + c) ≤ 5 := fun c hc => (hw.2.1 c hc).1
    simp (disch := first | assumption | rfl | exact zle_0 | exact zle_1 | exact zle_2 | exact zle_3 | exact zle_4 | exact zb_0 | exact zb_1 | exact zb01_B | omega) only [zT224_14, zr_iload_2, zcl_i, zcl_r, zcl_l, zcl_n, zv_some, zv_none, Nat.reduceAdd, Nat.reduceMul, Nat.reduceSub, Nat.reduceLT, Nat.reduceLeDiff, Nat.reduceEqDiff, Int.reduceToNat, true_implies, false_implies, implies_true, and_true, true_and, not_true_eq_false, not_false_eq_true, Nat.zero_add, Nat.add_zero, nI_add, nI_ltI, nI_leI, nI_eq, pk_mul, pk_sub, u2_same, u2_row, u2_other]
    simp (disch := first | assumption | rfl | exact zle_0 | exact zle_1 | exact zle_2 | exact zle_3 | exact zle_4 | exact zb_0 | exact zb_1 | exact zb01_B | omega) only [zT224_15, zr_aload_0, zT224_16, zr_gf_56, zT224_19, zr_icmp_ge, zT224_22, zT224_23, zr_iload_1, zT224_24, zr_iv_225, zT224_27, zr_istore_3, zT224_28, zT224_29, zr_gf_53, zr_or, zr_go, zf_70_53, zT224_32, zT224_33, zr_gf_52, zf_70_52, zT224_36, zr_gf_47, zT224_39, zr_iv_138, zcl_i, zcl_r, zcl_l, zcl_n, zv_some, zv_none, Nat.reduceAdd, Nat.reduceMul, Nat.reduceSub, Nat.reduceLT, Nat.reduceLeDiff, Nat.reduceEqDiff, Int.reduceToNat, true_implies, false_implies, implies_true, and_true, true_and, not_true_eq_false, not_false_eq_true, Nat.zero_add, Nat.add_zero, nI_add, nI_ltI, nI_leI, nI_eq, pk_mul, pk_sub, u2_same, u2_row, u2_other, hsm, fs, st, olt_T, olt_F, ole_T, ole_F, oeq_T, oeq_F]
    refine sp_gather hf h54 hw.1 cnk hr.k0 (fun f1 h1 h2 => ?_)
    have hr1 : z_KR f1 19 w := hr.fr (fun j j1 j2 => h2 j (by omega))
    have hsv1 : z_SV f1 w (a_en w (w 54)) := hsv.frame (by rw [h2 70 (by omega)]) (fun j j1 j2 => h2 j (by omega))
    have ks := fun Q => sp_keyOfState (fl := fl) (Q := Q) hf hw hsv1.1 s4
    have kl := a_kst_lt hw (s := a_sN w i)
    have kl2 : a_kst w (a_sN w i) ||| (z_stT 4).getD (a_qN w i) 0 < 64 := or_lt64 kl (a_out_lt _ q8)
    simp (disch := first | assumption | rfl | exact zle_0 | exact zle_1 | exact zle_2 | exact zle_3 | exact zle_4 | exact zb_0 | exact zb_1 | exact zb01_B | omega) only [zT224_42, zr_aload_0, zT224_43, zr_gf_53, zr_or, zr_go, zf_70_53, zT224_46, zT224_47, zr_iload_1, zT224_48, zr_iv_216, zT224_51, zr_ldc, zs_4, zT224_54, zr_iload_3, zT224_55, zr_iald, zT224_56, zr_ior, zT224_57, zr_iv_144, zcl_i, zcl_r, zcl_l, zcl_n, zv_some, zv_none, Nat.reduceAdd, Nat.reduceMul, Nat.reduceSub, Nat.reduceLT, Nat.reduceLeDiff, Nat.reduceEqDiff, Int.reduceToNat, true_implies, false_implies, implies_true, and_true, true_and, not_true_eq_false, not_false_eq_true, Nat.zero_add, Nat.add_zero, nI_add, nI_ltI, nI_leI, nI_eq, pk_mul, pk_sub, u2_same, u2_row, u2_other, ks, b_or, olt_T, olt_F, ole_T, ole_F, oeq_T, oeq_F]
    refine sp_lineUp hf hw kl2 hr1 h1 (fun c _ => a_ok c) ((a_mv_iff hw q8).mp q3).2.2 (fun f2 h3 h4 => ?_)
    have e71 : f2 71 70 = nI i := by rw [h4 71 (by omega), h2 71 (by omega)]; exact hI.1.2.1
    simp (disch := first | assumption | rfl | exact zle_0 | exact zle_1 | exact zle_2 | exact zle_3 | exact zle_4 | exact zb_0 | exact zb_1 | exact zb01_B | omega) only [zT224_60, zr_aload_0, zT224_61, zr_gf_54, zr_or, zr_go, zf_70_54, zT224_64, zr_iload_3, zT224_65, zT224_66, zr_gf_53, zf_70_53, zT224_69, zr_iv_230, zcl_i, zcl_r, zcl_l, zcl_n, zv_some, zv_none, Nat.reduceAdd, Nat.reduceMul, Nat.reduceSub, Nat.reduceLT, Nat.reduceLeDiff, Nat.reduceEqDiff, Int.reduceToNat, true_implies, false_implies, implies_true, and_true, true_and, not_true_eq_false, not_false_eq_true, Nat.zero_add, Nat.add_zero, nI_add, nI_ltI, nI_leI, nI_eq, pk_mul, pk_sub, u2_same, u2_row, u2_other, olt_T, olt_F, ole_T, ole_F, oeq_T, oeq_F]
    refine sp_addRow hf h3 (by omega) e71 (fun f3 r1 r2 r3 r4 r5 r6 => ?_)
    have bh := fun fi Q => sp_behind (fi := fi) (fl := fl) (fr := fr) (Q := Q) q8 q5.1
    simp (disch := first | assumption | rfl | exact zle_0 | exact zle_1 | exact zle_2 | exact zle_3 | exact zle_4 | exact zb_0 | exact zb_1 | exact zb01_B | omega) only [zT224_72, zr_iload_1, zT224_73, zr_iload_3, zT224_74, zr_iv_218, zT224_77, zr_istore_1, zT224_78, zr_iinc_2_1, zT224_81, zr_goto, zcl_i, zcl_r, zcl_l, zcl_n, zv_some, zv_none, Nat.reduceAdd, Nat.reduceMul, Nat.reduceSub, Nat.reduceLT, Nat.reduceLeDiff, Nat.reduceEqDiff, Int.reduceToNat, true_implies, false_implies, implies_true, and_true, true_and, not_true_eq_false, not_false_eq_true, Nat.zero_add, Nat.add_zero, nI_add, nI_ltI, nI_leI, nI_eq, pk_mul, pk_sub, u2_same, u2_row, u2_other, bh, olt_T, olt_F, ole_T, ole_F, oeq_T, oeq_F]
    rw [← nx1]
    have un : ∀ j, 71 ≤ j → j ≤ 73 → f2 j = fi j := fun j j1 j2 => by rw [h4 j (by omega), h2 j (by omega)]
    refine ih (i + 1) (by omega) f3 _ (hr1.fr (fun j j1 j2 => ?_)) (hsv1.frame ?_ (fun j j1 j2 => ?_)) ?_ ⟨⟨by omega, r1, fun p hp => ?_⟩, fun j hj => ?_⟩ (fun f4 g1 g2 => hQ f4 g1 (fun j hj => ?_))
    · rw [r6 j (by omega), h4 j (by omega)]
    · rw [r6 70 (by omega), h4 70 (by omega)]
    · rw [r6 j (by omega), h4 j (by omega)]
    · rw [r6 70 (by omega), h4 70 (by omega), h2 70 (by omega)]; exact hsm
    · by_cases c : p < 3 * i
      · have := hI.1.2.2 p c
        rw [r5 p c, un 73 (by decide) (by decide)]
        exact this
      · have p3 : p / 3 = i := by omega
        obtain ⟨e, he, rfl⟩ : ∃ e, e < 3 ∧ p = 3 * i + e := ⟨p - 3 * i, by omega, by omega⟩
        have pm : (3 * i + e) % 3 = e := by omega
        rw [r4 e he]
        unfold a_tmN
        rw [p3, pm]
        exact ⟨t_of_lt (fun p hp => (h3.2.1 p hp).2), rfl⟩
    · by_cases c : j = i
      · subst c; exact r2
      · rw [r3 j c, un 72 (by decide) (by decide)]
        exact hI.2 j (by omega)
    · rw [g2 j hj, r6 j (by omega), h4 j (by omega), h2 j (by omega)]
theorem sp_writeRow (hf : z_FR fr) (hw : a_WF w) (hr : z_KR fi 19 w) (hsv : z_SV fi w (a_en w (w 54))) (hsm : fi 70 56 = iF (a_FN w (a_S w)))
    (hQ : ∀ fi', z_RN fi' w (if a_FN w (a_S w) = 100 then 0 else a_FN w (a_S w)) → (∀ j, (j < 61 ∨ (69 < j ∧ j < 71) ∨ 73 < j) → fi' j = fi j) → Q none (151, fi', fl, fr)) :
    TT 224 0 [some (.ref 70), none, none, none] [] (151, fi, fl, fr) Q := by
  have o70 : z_ok 151 70 18 = true := rfl; have o71 : z_ok 151 71 19 = true := rfl
  have e0 : ∀ x, z_RN (u2 fi 71 70 (nI 0)) x 0 := fun x => ⟨⟨by decide, by rw [u2_same], fun p hp => by omega⟩, fun i hi => absurd hi (Nat.not_lt_zero _)⟩
  have hp1 : z_PL (u2 fi 71 70 (nI 0)) w 3 := hsv.1.frame (fun j j1 j2 => by simp (disch := omega) only [u2_ne])
  have fst := fun Q => sp_firstState (fl := fl) (Q := Q) hf hw hp1
  by_cases c : a_FN w (a_S w) = 100
  · have hm : fi 70 56 = nM 1 := by rw [hsm]; unfold iF; rw [if_pos c]
    rw [if_pos c] at hQ
    have le : (nM 1 ≤ nI 0) = True := by
      refine eq_true ?_
      rw [Int32.le_iff_toInt_le, nM_toInt (by decide), nI_toInt (by decide)]
      omega
    simp (disch := first | assumption | rfl | exact zle_0 | exact zle_1 | exact zle_2 | exact zle_3 | exact zle_4 | exact zb_0 | exact zb_1 | exact zb01_B | omega) only [zT224_0, zr_aload_0, zT224_1, zr_gf_54, zr_or, zr_go, zf_70_54, zT224_4, zr_iv_229, zT224_7, zT224_8, zr_iv_219, zT224_11, zr_istore_1, zT224_12, zr_ic_0, zT224_13, zr_istore_2, zT224_14, zr_iload_2, zT224_15, zT224_16, zr_gf_56, zT224_19, zr_icmp_ge, zT224_84, zr_return, zT229_0, zT229_1, zT229_2, zr_pf_70, zT229_5, zcl_i, zcl_r, zcl_l, zcl_n, zv_some, zv_none, Nat.reduceAdd, Nat.reduceMul, Nat.reduceSub, Nat.reduceLT, Nat.reduceLeDiff, Nat.reduceEqDiff, Int.reduceToNat, true_implies, false_implies, implies_true, and_true, true_and, not_true_eq_false, not_false_eq_true, Nat.zero_add, Nat.add_zero, nI_add, nI_ltI, nI_leI, nI_eq, pk_mul, pk_sub, u2_same, u2_row, u2_other, fst, hm, le, olt_T, olt_F, ole_T, ole_F, oeq_T, oeq_F]
    exact hQ _ (e0 w) (fun j hj => by simp (disch := omega) only [u2_ne])
  · have hm : fi 70 56 = nI (a_FN w (a_S w)) := by rw [hsm]; unfold iF; rw [if_neg c]
    rw [if_neg c] at hQ
    simp (disch := first | assumption | rfl | exact zle_0 | exact zle_1 | exact zle_2 | exact zle_3 | exact zle_4 | exact zb_0 | exact zb_1 | exact zb01_B | omega) only [zT224_0, zr_aload_0, zT224_1, zr_gf_54, zr_or, zr_go, zf_70_54, zT224_4, zr_iv_229, zT224_7, zT224_8, zr_iv_219, zT224_11, zr_istore_1, zT224_12, zr_ic_0, zT224_13, zr_istore_2, zT229_0, zT229_1, zT229_2, zr_pf_70, zT229_5, zr_return, zcl_i, zcl_r, zcl_l, zcl_n, zv_some, zv_none, Nat.reduceAdd, Nat.reduceMul, Nat.reduceSub, Nat.reduceLT, Nat.reduceLeDiff, Nat.reduceEqDiff, Int.reduceToNat, true_implies, false_implies, implies_true, and_true, true_and, not_true_eq_false, not_false_eq_true, Nat.zero_add, Nat.add_zero, nI_add, nI_ltI, nI_leI, nI_eq, pk_mul, pk_sub, u2_same, u2_row, u2_other, fst, olt_T, olt_F, ole_T, ole_F, oeq_T, oeq_F]
    refine sp_wr_ hf hw rfl c _ 0 (Nat.zero_add _) _ _ (hr.fr (fun j j1 j2 => by simp (disch := omega) only [u2_ne])) (hsv.frame (by simp (disch := omega) only [u2_other]) (fun j j1 j2 => by simp (disch := omega) only [u2_ne])) (by simp (disch := omega) only [u2_other]; exact hm) (e0 w) (fun f1 g1 g2 => hQ f1 g1 (fun j hj => ?_))
    rw [g2 j hj]
    simp (disch := omega) only [u2_ne]
/-- the plan is made, or known -/
theorem sp_plan (hf : z_FR fr) (hw : a_WF w) (hr : z_KR fi 19 w) {kn : Bool} (hk : fi 70 55 = zB kn) (hpl : kn = true → z_Plan fi w)
    (hQ : ∀ fi', z_Plan fi' w → fi' 70 55 = zB true → (∀ j, (j < 61 ∨ 82 < j) → fi' j = fi j) → Q (some (.int (iF (a_FN w (a_S w))))) (151, fi', fl, fr)) :
    TT 207 0 [some (.ref 70)] [] (151, fi, fl, fr) Q := by
  have o19 : z_ok 151 19 16 = true := rfl; have o61 : z_ok 151 61 12 = true := rfl; have o70 : z_ok 151 70 18 = true := rfl
  have h54 := hw.2.2.2.2.2.1
  have st := hr.1.2.2.2.1
  have cnk : ∀ c, c < w 0 → w (1 + c) ≤ 5 := fun c hc => (hw.2.1 c hc).1
  cases kn
  · simp (disch := first | assumption | rfl | exact zle_0 | exact zle_1 | exact zle_2 | exact zle_3 | exact zle_4 | exact zb_0 | exact zb_1 | exact zb01_B | omega) only [zT207_0, zr_aload_0, zT207_1, zr_gf_55, zT207_4, zr_if_ne, zT207_7, zT207_8, zr_gf_53, zr_or, zr_go, zf_70_53, zT207_11, zT207_12, zr_gf_52, zf_70_52, zT207_15, zr_gf_47, zT207_18, zr_iv_138, zcl_i, zcl_r, zcl_l, zcl_n, zv_some, zv_none, Nat.reduceAdd, Nat.reduceMul, Nat.reduceSub, Nat.reduceLT, Nat.reduceLeDiff, Nat.reduceEqDiff, Int.reduceToNat, true_implies, false_implies, implies_true, and_true, true_and, not_true_eq_false, not_false_eq_true, Nat.zero_add, Nat.add_zero, nI_add, nI_ltI, nI_leI, nI_eq, pk_mul, pk_sub, u2_same, u2_row, u2_other, hk, zB_eq0, st, olt_T, olt_F, ole_T, ole_F, oeq_T, oeq_F]
    refine sp_gather hf h54 hw.1 cnk hr.k0 (fun f1 h1 h2 => ?_)
    simp (disch := first | assumption | rfl | exact zle_0 | exact zle_1 | exact zle_2 | exact zle_3 | exact zle_4 | exact zb_0 | exact zb_1 | exact zb01_B | omega) only [zT207_21, zr_aload_0, zT207_22, zT207_23, zr_iv_209, zcl_i, zcl_r, zcl_l, zcl_n, zv_some, zv_none, Nat.reduceAdd, Nat.reduceMul, Nat.reduceSub, Nat.reduceLT, Nat.reduceLeDiff, Nat.reduceEqDiff, Int.reduceToNat, true_implies, false_implies, implies_true, and_true, true_and, not_true_eq_false, not_false_eq_true, Nat.zero_add, Nat.add_zero, nI_add, nI_ltI, nI_leI, nI_eq, pk_mul, pk_sub, u2_same, u2_row, u2_other, olt_T, olt_F, ole_T, ole_F, oeq_T, oeq_F]
    refine sp_survey hf hw (by decide) (hr.fr (fun j j1 j2 => h2 j (by omega))) h1 (fun f2 h3 h4 h5 => ?_)
    simp (disch := first | assumption | rfl | exact zle_0 | exact zle_1 | exact zle_2 | exact zle_3 | exact zle_4 | exact zb_0 | exact zb_1 | exact zb01_B | omega) only [zT207_26, zr_pf_56, zT207_29, zr_aload_0, zT207_30, zr_iv_224, zcl_i, zcl_r, zcl_l, zcl_n, zv_some, zv_none, Nat.reduceAdd, Nat.reduceMul, Nat.reduceSub, Nat.reduceLT, Nat.reduceLeDiff, Nat.reduceEqDiff, Int.reduceToNat, true_implies, false_implies, implies_true, and_true, true_and, not_true_eq_false, not_false_eq_true, Nat.zero_add, Nat.add_zero, nI_add, nI_ltI, nI_leI, nI_eq, pk_mul, pk_sub, u2_same, u2_row, u2_other, olt_T, olt_F, ole_T, ole_F, oeq_T, oeq_F]
    refine sp_writeRow hf hw (hr.fr (fun j j1 j2 => ?_)) (h3.frame ?_ (fun j j1 j2 => ?_)) ?_ (fun f3 h6 h7 => ?_)
    · simp (disch := omega) only [u2_ne]
      rw [h4 j (by omega), h2 j (by omega)]
    · simp (disch := omega) only [u2_row]
    · simp (disch := omega) only [u2_ne]
    · rw [u2_same]; rfl
    · have sm3 : f3 70 = u2 f2 70 56 (iF (a_FN w (a_S w))) 70 := h7 70 (by omega)
      have smv : f3 70 56 = iF (a_FN w (a_S w)) := by rw [sm3, u2_same]
      simp (disch := first | assumption | rfl | exact zle_0 | exact zle_1 | exact zle_2 | exact zle_3 | exact zle_4 | exact zb_0 | exact zb_1 | exact zb01_B | omega) only [zT207_33, zr_aload_0, zT207_34, zr_ic_1, zT207_35, zr_pf_55, zT207_38, zT207_39, zr_gf_56, zT207_42, zr_ret0, zcl_i, zcl_r, zcl_l, zcl_n, zv_some, zv_none, Nat.reduceAdd, Nat.reduceMul, Nat.reduceSub, Nat.reduceLT, Nat.reduceLeDiff, Nat.reduceEqDiff, Int.reduceToNat, true_implies, false_implies, implies_true, and_true, true_and, not_true_eq_false, not_false_eq_true, Nat.zero_add, Nat.add_zero, nI_add, nI_ltI, nI_leI, nI_eq, pk_mul, pk_sub, u2_same, u2_row, u2_other, smv, olt_T, olt_F, ole_T, ole_F, oeq_T, oeq_F]
      refine hQ _ ⟨h3.frame ?_ (fun j j1 j2 => ?_), ?_, h6.frame ?_ ?_ ?_⟩ ?_ (fun j hj => ?_)
      · simp (disch := omega) only [u2_row]; rw [sm3]; simp (disch := omega) only [u2_row]
      · simp (disch := omega) only [u2_ne]; rw [h7 j (by omega)]; simp (disch := omega) only [u2_ne]
      · simp (disch := omega) only [u2_row]; exact smv
      · simp (disch := omega) only [u2_ne]
      · simp (disch := omega) only [u2_ne]
      · simp (disch := omega) only [u2_ne]
      · rw [u2_same]; rfl
      · simp (disch := omega) only [u2_ne]
        rw [h7 j (by omega)]
        simp (disch := omega) only [u2_ne]
        rw [h4 j (by omega), h2 j (by omega)]
  · have p := hpl rfl
    have sm := p.2.1
    simp (disch := first | assumption | rfl | exact zle_0 | exact zle_1 | exact zle_2 | exact zle_3 | exact zle_4 | exact zb_0 | exact zb_1 | exact zb01_B | omega) only [zT207_0, zr_aload_0, zT207_1, zr_gf_55, zT207_4, zr_if_ne, zT207_7, zT207_8, zr_gf_53, zr_or, zr_go, zf_70_53, zT207_11, zT207_12, zr_gf_52, zf_70_52, zT207_15, zr_gf_47, zT207_18, zr_iv_138, zT207_21, zT207_22, zT207_23, zr_iv_209, zT207_26, zr_pf_56, zT207_29, zT207_30, zr_iv_224, zT207_33, zT207_34, zr_ic_1, zT207_35, zr_pf_55, zT207_38, zT207_39, zr_gf_56, zT207_42, zr_ret0, zcl_i, zcl_r, zcl_l, zcl_n, zv_some, zv_none, Nat.reduceAdd, Nat.reduceMul, Nat.reduceSub, Nat.reduceLT, Nat.reduceLeDiff, Nat.reduceEqDiff, Int.reduceToNat, true_implies, false_implies, implies_true, and_true, true_and, not_true_eq_false, not_false_eq_true, Nat.zero_add, Nat.add_zero, nI_add, nI_ltI, nI_leI, nI_eq, pk_mul, pk_sub, u2_same, u2_row, u2_other, hk, zB_eq0, reduceCtorEq, sm, olt_T, olt_F, ole_T, ole_F, oeq_T, oeq_F]
    exact hQ fi p hk (fun _ _ => rfl)
/-- the fewest minutes with the cooks gathered just now -/
theorem sp_fewest (hf : z_FR fr) (hw : a_WF w) {hl : Nat → Nat} {th : Nat → Bool} {er el : Nat} (he : er ≤ 1 ∧ el ≤ 1) (hr : z_KR fi 19 w) (hc : z_CR fi hl th er el 6)
    (hQ : ∀ fi', fi' 70 55 = zB false → (∀ j, (j < 61 ∨ 82 < j) → fi' j = fi j) → Q (some (.int (iF (a_FW w (a_enough w hl er el) (a_S w))))) (151, fi', fl, fr)) :
    TT 208 0 [some (.ref 70)] [] (151, fi, fl, fr) Q := by
  have o70 : z_ok 151 70 18 = true := rfl
  simp (disch := first | assumption | rfl | exact zle_0 | exact zle_1 | exact zle_2 | exact zle_3 | exact zle_4 | exact zb_0 | exact zb_1 | exact zb01_B | omega) only [zT208_0, zr_aload_0, zT208_1, zr_ic_0, zT208_2, zr_pf_55, zT208_5, zT208_6, zr_iv_209, zcl_i, zcl_r, zcl_l, zcl_n, zv_some, zv_none, Nat.reduceAdd, Nat.reduceMul, Nat.reduceSub, Nat.reduceLT, Nat.reduceLeDiff, Nat.reduceEqDiff, Int.reduceToNat, true_implies, false_implies, implies_true, and_true, true_and, not_true_eq_false, not_false_eq_true, Nat.zero_add, Nat.add_zero, nI_add, nI_ltI, nI_leI, nI_eq, pk_mul, pk_sub, u2_same, u2_row, u2_other, olt_T, olt_F, ole_T, ole_F, oeq_T, oeq_F]
  refine sp_survey hf hw he (hr.fr (fun j j1 j2 => by simp (disch := omega) only [u2_ne])) (hc.frame (fun j j1 j2 => by simp (disch := omega) only [u2_ne])) (fun f2 h3 h4 h5 => ?_)
  simp (disch := first | assumption | rfl | exact zle_0 | exact zle_1 | exact zle_2 | exact zle_3 | exact zle_4 | exact zb_0 | exact zb_1 | exact zb01_B | omega) only [zT208_9, zr_ret0, zcl_i, zcl_r, zcl_l, zcl_n, zv_some, zv_none, Nat.reduceAdd, Nat.reduceMul, Nat.reduceSub, Nat.reduceLT, Nat.reduceLeDiff, Nat.reduceEqDiff, Int.reduceToNat, true_implies, false_implies, implies_true, and_true, true_and, not_true_eq_false, not_false_eq_true, Nat.zero_add, Nat.add_zero, nI_add, nI_ltI, nI_leI, nI_eq, pk_mul, pk_sub, u2_same, u2_row, u2_other, olt_T, olt_F, ole_T, ole_F, oeq_T, oeq_F]
  refine hQ f2 ?_ (fun j hj => ?_)
  · rw [h5 _ (by decide), u2_same]; rfl
  · rw [h4 j (by omega)]; simp (disch := omega) only [u2_ne]
end
