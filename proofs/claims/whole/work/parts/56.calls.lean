/-! the calls of the one that is to be checked: its state, and what is told -/
/-- rows (0 now, 1 and 2 the images), numbers (0, 1 kept; 2 the text's length; 3 .. 5 refused; 6, 7 the fraction) -/
def uw (ws : Nat → Nat → Nat) (w : Nat → Nat) : Nat → Nat → Nat := fun j => if j = 0 then w else ws j
theorem uw_0 {ws : Nat → Nat → Nat} {w : Nat → Nat} : uw ws w 0 = w := rfl
theorem uw_s {ws : Nat → Nat → Nat} {w : Nat → Nat} {j : Nat} : uw ws w (j + 1) = ws (j + 1) := rfl
def z_XK (fi : Nat → Nat → Int32) (ws : Nat → Nat → Nat) (nn : Nat → Nat) : Prop := z_KR fi 19 (ws 0) ∧ (nn 0 = 1 → z_KR fi 93 (ws 1)) ∧ (nn 1 = 1 → z_KR fi 113 (ws 2)) ∧ fi 60 0 = nI (nn 0) ∧ fi 60 1 = nI (nn 1)
def z_XC (fi : Nat → Nat → Int32) (nn : Nat → Nat) : Prop := fi 18 8 = nI (nn 3) ∧ fi 18 9 = nI (nn 4) ∧ fi 18 10 = nI (nn 5)
def z_XF (fi : Nat → Nat → Int32) (nn : Nat → Nat) : Prop := z_Lv fi 89 (nn 6) ∧ z_Lv fi 91 (nn 7)
def z_XP (fi : Nat → Nat → Int32) (w : Nat → Nat) : Prop := ∃ kn, fi 70 55 = zB kn ∧ (kn = true → z_Plan fi w)
def z_XS (fi : Nat → Nat → Int32) (ws : Nat → Nat → Nat) (nn tx : Nat → Nat) : Prop := z_XK fi ws nn ∧ z_XC fi nn ∧ z_XF fi nn ∧ z_Tx fi tx (nn 2) ∧ z_XP fi (ws 0)
/-- what is so of the state at any time -/
def z_G (ws : Nat → Nat → Nat) (nn : Nat → Nat) : Prop := a_W (ws 0) ∧ nn 0 ≤ 1 ∧ nn 1 ≤ 1 ∧ (nn 0 = 1 → a_W (ws 1)) ∧ (nn 1 = 1 → a_W (ws 2)) ∧ nn 2 ≤ 200
def z_XQ (fi : Nat → Nat → Int32) (fl : Nat → Nat → Int64) (fr : Nat → Nat → Option Nat) (Q : Option Value → Mm → Prop) (a : Int32) (ws : Nat → Nat → Nat) (nn tx : Nat → Nat) : Prop := ∀ fi', z_XS fi' ws nn tx → (∀ j, j < 18 ∨ 133 ≤ j → fi' j = fi j) → Q (some (.int a)) (151, fi', fl, fr)
def o_note (a : Int32) (nn : Nat → Nat) : Nat → Nat := if a = nM 2 then uh nn 3 (nn 3 + 1) else if a = nM 3 then uh nn 4 (nn 4 + 1) else if a = nM 4 then uh nn 5 (nn 5 + 1) else nn
def nt (fi : Nat → Nat → Int32) (a : Int32) : Nat → Nat → Int32 := if a = nM 2 then u2 fi 18 8 (fi 18 8 + nI 1) else if a = nM 3 then u2 fi 18 9 (fi 18 9 + nI 1) else if a = nM 4 then u2 fi 18 10 (fi 18 10 + nI 1) else fi
theorem nt_ne {fi : Nat → Nat → Int32} {a : Int32} {j : Nat} (h : j ≠ 18) : nt fi a j = fi j := by
  unfold nt
  repeat' split
  all_goals first | rfl | exact u2_ne h
section
variable {fi fi' : Nat → Nat → Int32} {fl : Nat → Nat → Int64} {fr : Nat → Nat → Option Nat} {Q : Option Value → Mm → Prop} {w : Nat → Nat} {k : Nat} {M : Mm} {ws : Nat → Nat → Nat} {nn tx : Nat → Nat}
theorem z_Plan.frame (h : z_Plan fi w) (hf : ∀ j, 70 ≤ j → j ≤ 82 → fi' j = fi j) : z_Plan fi' w :=
  ⟨h.1.frame (by rw [hf 70 (by decide) (by decide)]) (fun j j1 j2 => hf j (by omega) j2), by rw [hf 70 (by decide) (by decide)]; exact h.2.1, h.2.2.frame (hf 71 (by decide) (by decide)) (hf 72 (by decide) (by decide)) (hf 73 (by decide) (by decide))⟩
theorem z_XP.frame (h : z_XP fi w) (hf : ∀ j, 70 ≤ j → j ≤ 82 → fi' j = fi j) : z_XP fi' w := by
  obtain ⟨kn, h1, h2⟩ := h
  exact ⟨kn, by rw [hf 70 (by decide) (by decide)]; exact h1, fun e => (h2 e).frame hf⟩
theorem z_XK.frame (h : z_XK fi ws nn) (h1 : ∀ j, (19 ≤ j ∧ j < 39) ∨ j = 60 ∨ (93 ≤ j ∧ j < 133) → fi' j = fi j) : z_XK fi' ws nn :=
  ⟨h.1.fr (fun j j1 j2 => h1 j (by omega)), fun e => (h.2.1 e).fr (fun j j1 j2 => h1 j (by omega)), fun e => (h.2.2.1 e).fr (fun j j1 j2 => h1 j (by omega)), by rw [h1 60 (by omega)]; exact h.2.2.2.1, by rw [h1 60 (by omega)]; exact h.2.2.2.2⟩
theorem z_XF.frame (h : z_XF fi nn) (h1 : ∀ j, 89 ≤ j → j ≤ 92 → fi' j = fi j) : z_XF fi' nn :=
  ⟨h.1.frame (h1 89 (by decide) (by decide)) (h1 90 (by decide) (by decide)), h.2.frame (h1 91 (by decide) (by decide)) (h1 92 (by decide) (by decide))⟩
/-- a state when nothing but crew, plan and coldness may have changed -/
theorem z_XS.same (h : z_XS fi ws nn tx) (h1 : ∀ j, j < 61 ∨ 83 < j → fi' j = fi j) (h2 : z_XP fi' (ws 0)) : z_XS fi' ws nn tx := by
  obtain ⟨hk, hc, hF, ht, -⟩ := h
  refine ⟨hk.frame (fun j hj => h1 j (by omega)), ?_, hF.frame (fun j j1 j2 => h1 j (by omega)), ht.frame (by rw [h1 84 (by omega)]) (h1 85 (by omega)), h2⟩
  unfold z_XC at *
  rw [h1 18 (by omega)]
  exact hc
theorem z_XS.nt (h : z_XS fi ws nn tx) (a : Int32) : z_XS (nt fi a) ws (o_note a nn) tx := by
  obtain ⟨hk, hc, hF, ht, hp⟩ := h
  have e : ∀ j, j = 0 ∨ j = 1 ∨ j = 2 ∨ j = 6 ∨ j = 7 → o_note a nn j = nn j := by
    intro j hj
    unfold o_note
    repeat' split
    all_goals first | rfl | exact uh_ne (by omega)
  refine ⟨?_, ?_, ?_, ?_, hp.frame (fun j j1 j2 => nt_ne (by omega))⟩
  · have := hk.frame (fi' := Jvm.Pilot.CCookHandsLaw_law_r4018_ce3b41.nt fi a) (fun j hj => nt_ne (by omega))
    unfold z_XK at *
    rw [e 0 (by omega), e 1 (by omega)]
    exact this
  · unfold z_XC Jvm.Pilot.CCookHandsLaw_law_r4018_ce3b41.nt o_note at *
    obtain ⟨h1, h2, h3⟩ := hc
    repeat' split
    · refine ⟨?_, ?_, ?_⟩
      · rw [u2_same, uh_same, h1, nI_add]
      · rw [u2_row (by decide), uh_ne (by decide)]; exact h2
      · rw [u2_row (by decide), uh_ne (by decide)]; exact h3
    · refine ⟨?_, ?_, ?_⟩
      · rw [u2_row (by decide), uh_ne (by decide)]; exact h1
      · rw [u2_same, uh_same, h2, nI_add]
      · rw [u2_row (by decide), uh_ne (by decide)]; exact h3
    · refine ⟨?_, ?_, ?_⟩
      · rw [u2_row (by decide), uh_ne (by decide)]; exact h1
      · rw [u2_row (by decide), uh_ne (by decide)]; exact h2
      · rw [u2_same, uh_same, h3, nI_add]
    · exact ⟨h1, h2, h3⟩
  · have := hF.frame (fi' := Jvm.Pilot.CCookHandsLaw_law_r4018_ce3b41.nt fi a) (fun j j1 j2 => nt_ne (by omega))
    unfold z_XF at *
    rw [e 6 (by omega), e 7 (by omega)]
    exact this
  · rw [e 2 (by omega)]
    exact ht.frame (by rw [nt_ne (by decide)]) (nt_ne (by decide))
theorem z_XS.kit (h : z_XS fi ws nn tx) (hk : z_KR fi' 19 w) (hf : ∀ j, j < 19 ∨ 39 ≤ j → fi' j = u2 fi 70 55 (nI 0) j) : z_XS fi' (uw ws w) nn tx := by
  obtain ⟨hk0, hc, hF, ht, hp⟩ := h
  have f : ∀ j, j < 19 ∨ (39 ≤ j ∧ j ≠ 70) → fi' j = fi j := fun j hj => by rw [hf j (by omega)]; exact u2_ne (by omega)
  refine ⟨⟨hk, fun e => (hk0.2.1 e).fr (fun j j1 j2 => f j (by omega)), fun e => (hk0.2.2.1 e).fr (fun j j1 j2 => f j (by omega)), by rw [f 60 (by omega)]; exact hk0.2.2.2.1, by rw [f 60 (by omega)]; exact hk0.2.2.2.2⟩, ?_, hF.frame (fun j j1 j2 => f j (by omega)), ht.frame (by rw [f 84 (by omega)]) (f 85 (by omega)), ⟨false, ?_, fun e => absurd e (by decide)⟩⟩
  · unfold z_XC at *
    rw [f 18 (by omega)]
    exact hc
  · rw [hf 70 (by omega), u2_same]; rfl
theorem sp_refuse {r : Nat} {x : Int32} (hr : r = 2 ∨ r = 3 ∨ r = 4) : TT 117 0 [some (.ref 18), some (.int (nM r)), some (.int x)] [] (151, fi, fl, fr) Q = Q (some (.int x)) (151, nt fi (nM r), fl, fr) := by
  refine T_exact (fun Q hQ => ?_) Q
  have o18 : z_ok 151 18 10 = true := rfl
  have n32 : (nM 3 = nM 2) = False := by rw [nM_eq (by decide) (by decide)]; exact eq_false (by decide)
  have n42 : (nM 4 = nM 2) = False := by rw [nM_eq (by decide) (by decide)]; exact eq_false (by decide)
  have n43 : (nM 4 = nM 3) = False := by rw [nM_eq (by decide) (by decide)]; exact eq_false (by decide)
  unfold nt at hQ
  rcases hr with rfl | rfl | rfl
  · rw [if_pos rfl] at hQ
    simp (disch := first | assumption | rfl | exact zle_0 | exact zle_1 | exact zle_2 | exact zle_3 | exact zle_4 | exact zb_0 | exact zb_1 | exact zb01_B | omega) only [zT117_0, zr_iload_1, zT117_1, zr_ic_m2, zT117_3, zr_icmp_ne, zT117_6, zr_aload_0, zT117_7, zr_dup_r, zr_dup_i, zT117_8, zr_gf_8, zT117_11, zr_ic_1, zT117_12, zr_iadd, zT117_13, zr_pf_8, zT117_16, zr_goto, zT117_19, zT117_20, zr_ic_m3, zT117_22, zT117_25, zT117_26, zT117_27, zr_gf_9, zT117_30, zT117_31, zT117_32, zr_pf_9, zT117_35, zT117_38, zT117_39, zT117_40, zr_gf_10, zT117_43, zT117_44, zT117_45, zr_pf_10, zT117_48, zr_iload_2, zT117_49, zr_ret0, zcl_i, zcl_r, zcl_l, zcl_n, zv_some, zv_none, Nat.reduceAdd, Nat.reduceMul, Nat.reduceSub, Nat.reduceLT, Nat.reduceLeDiff, Nat.reduceEqDiff, Int.reduceToNat, true_implies, false_implies, implies_true, and_true, true_and, not_true_eq_false, not_false_eq_true, Nat.zero_add, Nat.add_zero, nI_add, nI_ltI, nI_leI, nI_eq, pk_mul, pk_sub, u2_same, u2_row, u2_other, olt_T, olt_F, ole_T, ole_F, oeq_T, oeq_F]
    exact hQ
  · rw [if_neg (by rw [n32]; exact id), if_pos rfl] at hQ
    simp (disch := first | assumption | rfl | exact zle_0 | exact zle_1 | exact zle_2 | exact zle_3 | exact zle_4 | exact zb_0 | exact zb_1 | exact zb01_B | omega) only [zT117_0, zr_iload_1, zT117_1, zr_ic_m2, zT117_3, zr_icmp_ne, zT117_6, zr_aload_0, zT117_7, zr_dup_r, zr_dup_i, zT117_8, zr_gf_8, zT117_11, zr_ic_1, zT117_12, zr_iadd, zT117_13, zr_pf_8, zT117_16, zr_goto, zT117_19, zT117_20, zr_ic_m3, zT117_22, zT117_25, zT117_26, zT117_27, zr_gf_9, zT117_30, zT117_31, zT117_32, zr_pf_9, zT117_35, zT117_38, zT117_39, zT117_40, zr_gf_10, zT117_43, zT117_44, zT117_45, zr_pf_10, zT117_48, zr_iload_2, zT117_49, zr_ret0, zcl_i, zcl_r, zcl_l, zcl_n, zv_some, zv_none, Nat.reduceAdd, Nat.reduceMul, Nat.reduceSub, Nat.reduceLT, Nat.reduceLeDiff, Nat.reduceEqDiff, Int.reduceToNat, true_implies, false_implies, implies_true, and_true, true_and, not_true_eq_false, not_false_eq_true, Nat.zero_add, Nat.add_zero, nI_add, nI_ltI, nI_leI, nI_eq, pk_mul, pk_sub, u2_same, u2_row, u2_other, n32, olt_T, olt_F, ole_T, ole_F, oeq_T, oeq_F]
    exact hQ
  · rw [if_neg (by rw [n42]; exact id), if_neg (by rw [n43]; exact id), if_pos rfl] at hQ
    simp (disch := first | assumption | rfl | exact zle_0 | exact zle_1 | exact zle_2 | exact zle_3 | exact zle_4 | exact zb_0 | exact zb_1 | exact zb01_B | omega) only [zT117_0, zr_iload_1, zT117_1, zr_ic_m2, zT117_3, zr_icmp_ne, zT117_6, zr_aload_0, zT117_7, zr_dup_r, zr_dup_i, zT117_8, zr_gf_8, zT117_11, zr_ic_1, zT117_12, zr_iadd, zT117_13, zr_pf_8, zT117_16, zr_goto, zT117_19, zT117_20, zr_ic_m3, zT117_22, zT117_25, zT117_26, zT117_27, zr_gf_9, zT117_30, zT117_31, zT117_32, zr_pf_9, zT117_35, zT117_38, zT117_39, zT117_40, zr_gf_10, zT117_43, zT117_44, zT117_45, zr_pf_10, zT117_48, zr_iload_2, zT117_49, zr_ret0, zcl_i, zcl_r, zcl_l, zcl_n, zv_some, zv_none, Nat.reduceAdd, Nat.reduceMul, Nat.reduceSub, Nat.reduceLT, Nat.reduceLeDiff, Nat.reduceEqDiff, Int.reduceToNat, true_implies, false_implies, implies_true, and_true, true_and, not_true_eq_false, not_false_eq_true, Nat.zero_add, Nat.add_zero, nI_add, nI_ltI, nI_leI, nI_eq, pk_mul, pk_sub, u2_same, u2_row, u2_other, n42, n43, olt_T, olt_F, ole_T, ole_F, oeq_T, oeq_F]
    exact hQ
def badA (a : Int32) : Bool := decide (a = nM 2 ∨ a = nM 3 ∨ a = nM 4)
theorem sp_isRefusal {a : Int32} : TT 115 0 [some (.int a)] [] (151, fi, fl, fr) Q = Q (some (.int (zB (badA a)))) (151, fi, fl, fr) := by
  refine T_exact (fun Q hQ => ?_) Q
  unfold badA at hQ
  simp (disch := first | assumption | rfl | exact zle_0 | exact zle_1 | exact zle_2 | exact zle_3 | exact zle_4 | exact zb_0 | exact zb_1 | exact zb01_B | omega) only [zT115_0, zr_iload_0, zT115_1, zr_ic_m2, zT115_3, zr_icmp_eq, zT115_6, zT115_7, zr_ic_m3, zT115_9, zT115_12, zT115_13, zr_ic_m4, zT115_15, zr_icmp_ne, zT115_18, zr_ic_1, zT115_19, zr_goto, zT115_22, zr_ic_0, zT115_23, zr_ret1_0, zr_ret1_1, zr_ret1_B, zcl_i, zcl_r, zcl_l, zcl_n, zv_some, zv_none, Nat.reduceAdd, Nat.reduceMul, Nat.reduceSub, Nat.reduceLT, Nat.reduceLeDiff, Nat.reduceEqDiff, Int.reduceToNat, true_implies, false_implies, implies_true, and_true, true_and, not_true_eq_false, not_false_eq_true, Nat.zero_add, Nat.add_zero, nI_add, nI_ltI, nI_leI, nI_eq, pk_mul, pk_sub, u2_same, u2_row, u2_other]
  by_cases c2 : a = nM 2
  · rw [decide_eq_true (Or.inl c2)] at hQ
    simp only [c2, true_implies, not_true_eq_false, false_implies, and_true]
    exact hQ
  · by_cases c3 : a = nM 3
    · rw [decide_eq_true (Or.inr (Or.inl c3))] at hQ
      simp only [c2, c3, false_implies, true_implies, not_true_eq_false, not_false_eq_true, and_true, true_and]
      exact ⟨fun _ => hQ, fun _ => hQ⟩
    · by_cases c4 : a = nM 4
      · rw [decide_eq_true (Or.inr (Or.inr c4))] at hQ
        refine ⟨fun h => absurd h c2, fun _ => ⟨fun h => absurd h c3, fun _ => ⟨fun h => absurd c4 h, fun _ => hQ⟩⟩⟩
      · rw [decide_eq_false (by simp [c2, c3, c4])] at hQ
        refine ⟨fun h => absurd h c2, fun _ => ⟨fun h => absurd h c3, fun _ => ⟨fun _ => hQ, fun h => absurd c4 h⟩⟩⟩
theorem sp_noted {a : Int32} : TT 116 0 [some (.ref 18), some (.int a)] [] (151, fi, fl, fr) Q = Q (some (.int a)) (151, nt fi a, fl, fr) := by
  refine T_exact (fun Q hQ => ?_) Q
  have o18 : z_ok 151 18 10 = true := rfl
  have ir := fun Q => sp_isRefusal (fi := fi) (fl := fl) (fr := fr) (Q := Q) (a := a)
  cases c : badA a
  · rw [c] at ir
    have e : nt fi a = fi := by
      have h := of_decide_eq_false c
      unfold nt
      rw [if_neg (fun q => h (Or.inl q)), if_neg (fun q => h (Or.inr (Or.inl q))), if_neg (fun q => h (Or.inr (Or.inr q)))]
    rw [e] at hQ
    simp (disch := first | assumption | rfl | exact zle_0 | exact zle_1 | exact zle_2 | exact zle_3 | exact zle_4 | exact zb_0 | exact zb_1 | exact zb01_B | omega) only [zT116_0, zr_iload_1, zT116_1, zr_iv_115, zT116_4, zr_if_eq, zT116_7, zr_aload_0, zT116_8, zT116_9, zT116_10, zr_iv_117, zT116_13, zr_goto, zT116_16, zT116_17, zr_ret0, zcl_i, zcl_r, zcl_l, zcl_n, zv_some, zv_none, Nat.reduceAdd, Nat.reduceMul, Nat.reduceSub, Nat.reduceLT, Nat.reduceLeDiff, Nat.reduceEqDiff, Int.reduceToNat, true_implies, false_implies, implies_true, and_true, true_and, not_true_eq_false, not_false_eq_true, Nat.zero_add, Nat.add_zero, nI_add, nI_ltI, nI_leI, nI_eq, pk_mul, pk_sub, u2_same, u2_row, u2_other, ir, zB_eq0, olt_T, olt_F, ole_T, ole_F, oeq_T, oeq_F]
    exact hQ
  · rw [c] at ir
    have h := of_decide_eq_true c
    obtain ⟨r, hr, rfl⟩ : ∃ r, (r = 2 ∨ r = 3 ∨ r = 4) ∧ a = nM r := by
      rcases h with h | h | h
      · exact ⟨2, Or.inl rfl, h⟩
      · exact ⟨3, Or.inr (Or.inl rfl), h⟩
      · exact ⟨4, Or.inr (Or.inr rfl), h⟩
    have rf := fun Q => sp_refuse (fi := fi) (fl := fl) (fr := fr) (Q := Q) (x := nM r) hr
    simp (disch := first | assumption | rfl | exact zle_0 | exact zle_1 | exact zle_2 | exact zle_3 | exact zle_4 | exact zb_0 | exact zb_1 | exact zb01_B | omega) only [zT116_0, zr_iload_1, zT116_1, zr_iv_115, zT116_4, zr_if_eq, zT116_7, zr_aload_0, zT116_8, zT116_9, zT116_10, zr_iv_117, zT116_13, zr_goto, zT116_16, zT116_17, zr_ret0, zcl_i, zcl_r, zcl_l, zcl_n, zv_some, zv_none, Nat.reduceAdd, Nat.reduceMul, Nat.reduceSub, Nat.reduceLT, Nat.reduceLeDiff, Nat.reduceEqDiff, Int.reduceToNat, true_implies, false_implies, implies_true, and_true, true_and, not_true_eq_false, not_false_eq_true, Nat.zero_add, Nat.add_zero, nI_add, nI_ltI, nI_leI, nI_eq, pk_mul, pk_sub, u2_same, u2_row, u2_other, ir, zB_eq0, reduceCtorEq, rf, olt_T, olt_F, ole_T, ole_F, oeq_T, oeq_F]
    exact hQ
/-- a call that is refused -/
theorem z_XQ.ref {r : Nat} {a : Int32} (hr : r = 2 ∨ r = 3 ∨ r = 4) (h : z_XS fi ws nn tx) (hQ : z_XQ fi fl fr Q a ws (uh nn (r + 1) (nn (r + 1) + 1)) tx) : Q (some (.int a)) (151, nt fi (nM r), fl, fr) := by
  have e : uh nn (r + 1) (nn (r + 1) + 1) = o_note (nM r) nn := by
    have n32 : (nM 3 = nM 2) = False := by rw [nM_eq (by decide) (by decide)]; exact eq_false (by decide)
    have n42 : (nM 4 = nM 2) = False := by rw [nM_eq (by decide) (by decide)]; exact eq_false (by decide)
    have n43 : (nM 4 = nM 3) = False := by rw [nM_eq (by decide) (by decide)]; exact eq_false (by decide)
    unfold o_note
    rcases hr with rfl | rfl | rfl
    · rw [if_pos rfl]
    · rw [if_neg (by rw [n32]; exact id), if_pos rfl]
    · rw [if_neg (by rw [n42]; exact id), if_neg (by rw [n43]; exact id), if_pos rfl]
  rw [e] at hQ
  exact hQ _ (h.nt _) (fun j hj => nt_ne (by omega))
theorem sx_cook (hf : z_FR fr) (h : z_XS fi ws nn tx) (hg : z_G ws nn) {x y : Int32} (hQ : z_XQ fi fl fr Q (o_cook (ws 0) x y).1 (uw ws (o_cook (ws 0) x y).2) (o_note (o_cook (ws 0) x y).1 nn) tx) : TT 84 0 [some (.ref 18), some (.int x), some (.int y)] [] (151, fi, fl, fr) Q := by
  have o18 : z_ok 151 18 10 = true := rfl; have o19 : z_ok 151 19 16 = true := rfl; have o70 : z_ok 151 70 18 = true := rfl
  have hk := z_Kok_of hf (k := 19) (by decide)
  simp (disch := first | assumption | rfl | exact zle_0 | exact zle_1 | exact zle_2 | exact zle_3 | exact zle_4 | exact zb_0 | exact zb_1 | exact zb01_B | omega) only [zT84_0, zr_aload_0, zT84_1, zr_gf_5, zr_or, zr_go, zf_18_5, zT84_4, zr_iv_206, zT84_7, zT84_8, zT84_9, zr_gf_0, zf_18_0, zf_22_0, zf_42_0, zf_59_0, zf_96_0, zf_116_0, zT84_12, zr_iload_1, zT84_13, zr_iload_2, zT84_14, zr_iv_178, zT84_17, zr_iv_116, zT84_20, zr_ret0, zT206_0, zT206_1, zr_ic_0, zT206_2, zr_pf_55, zT206_5, zr_return, zcl_i, zcl_r, zcl_l, zcl_n, zv_some, zv_none, Nat.reduceAdd, Nat.reduceMul, Nat.reduceSub, Nat.reduceLT, Nat.reduceLeDiff, Nat.reduceEqDiff, Int.reduceToNat, true_implies, false_implies, implies_true, and_true, true_and, not_true_eq_false, not_false_eq_true, Nat.zero_add, Nat.add_zero, nI_add, nI_ltI, nI_leI, nI_eq, pk_mul, pk_sub, u2_same, u2_row, u2_other, olt_T, olt_F, ole_T, ole_F, oeq_T, oeq_F]
  refine sp_oCook hk (h.1.1.fr (fun j j1 j2 => u2_ne (by omega))) hg.1 (fun f1 g1 g2 => ?_)
  have nd := fun Q => sp_noted (fi := f1) (fl := fl) (fr := fr) (Q := Q) (a := (o_cook (ws 0) x y).1)
  simp (disch := first | assumption | rfl | exact zle_0 | exact zle_1 | exact zle_2 | exact zle_3 | exact zle_4 | exact zb_0 | exact zb_1 | exact zb01_B | omega) only [zT84_17, zr_iv_116, zT84_20, zr_ret0, zcl_i, zcl_r, zcl_l, zcl_n, zv_some, zv_none, Nat.reduceAdd, Nat.reduceMul, Nat.reduceSub, Nat.reduceLT, Nat.reduceLeDiff, Nat.reduceEqDiff, Int.reduceToNat, true_implies, false_implies, implies_true, and_true, true_and, not_true_eq_false, not_false_eq_true, Nat.zero_add, Nat.add_zero, nI_add, nI_ltI, nI_leI, nI_eq, pk_mul, pk_sub, u2_same, u2_row, u2_other, nd, olt_T, olt_F, ole_T, ole_F, oeq_T, oeq_F]
  refine hQ _ ((h.kit g1 (fun j hj => g2 j (by omega))).nt _) (fun j hj => ?_)
  rw [nt_ne (by omega), g2 j (by omega)]
  exact u2_ne (by omega)
theorem sx_dish (hf : z_FR fr) (h : z_XS fi ws nn tx) (hg : z_G ws nn) (hQ : z_XQ fi fl fr Q (o_dish (ws 0)).1 (uw ws (o_dish (ws 0)).2) (o_note (o_dish (ws 0)).1 nn) tx) : TT 85 0 [some (.ref 18)] [] (151, fi, fl, fr) Q := by
  have o18 : z_ok 151 18 10 = true := rfl; have o19 : z_ok 151 19 16 = true := rfl; have o70 : z_ok 151 70 18 = true := rfl
  have hk := z_Kok_of hf (k := 19) (by decide)
  simp (disch := first | assumption | rfl | exact zle_0 | exact zle_1 | exact zle_2 | exact zle_3 | exact zle_4 | exact zb_0 | exact zb_1 | exact zb01_B | omega) only [zT85_0, zr_aload_0, zT85_1, zr_gf_5, zr_or, zr_go, zf_18_5, zT85_4, zr_iv_206, zT85_7, zT85_8, zT85_9, zr_gf_0, zf_18_0, zf_22_0, zf_42_0, zf_59_0, zf_96_0, zf_116_0, zT85_12, zr_iv_179, zT85_15, zr_iv_116, zT85_18, zr_ret0, zT206_0, zT206_1, zr_ic_0, zT206_2, zr_pf_55, zT206_5, zr_return, zcl_i, zcl_r, zcl_l, zcl_n, zv_some, zv_none, Nat.reduceAdd, Nat.reduceMul, Nat.reduceSub, Nat.reduceLT, Nat.reduceLeDiff, Nat.reduceEqDiff, Int.reduceToNat, true_implies, false_implies, implies_true, and_true, true_and, not_true_eq_false, not_false_eq_true, Nat.zero_add, Nat.add_zero, nI_add, nI_ltI, nI_leI, nI_eq, pk_mul, pk_sub, u2_same, u2_row, u2_other, olt_T, olt_F, ole_T, ole_F, oeq_T, oeq_F]
  refine sp_oDish hk (h.1.1.fr (fun j j1 j2 => u2_ne (by omega))) hg.1 (fun f1 g1 g2 => ?_)
  have nd := fun Q => sp_noted (fi := f1) (fl := fl) (fr := fr) (Q := Q) (a := (o_dish (ws 0)).1)
  simp (disch := first | assumption | rfl | exact zle_0 | exact zle_1 | exact zle_2 | exact zle_3 | exact zle_4 | exact zb_0 | exact zb_1 | exact zb01_B | omega) only [zT85_15, zr_iv_116, zT85_18, zr_ret0, zcl_i, zcl_r, zcl_l, zcl_n, zv_some, zv_none, Nat.reduceAdd, Nat.reduceMul, Nat.reduceSub, Nat.reduceLT, Nat.reduceLeDiff, Nat.reduceEqDiff, Int.reduceToNat, true_implies, false_implies, implies_true, and_true, true_and, not_true_eq_false, not_false_eq_true, Nat.zero_add, Nat.add_zero, nI_add, nI_ltI, nI_leI, nI_eq, pk_mul, pk_sub, u2_same, u2_row, u2_other, nd, olt_T, olt_F, ole_T, ole_F, oeq_T, oeq_F]
  refine hQ _ ((h.kit g1 (fun j hj => g2 j (by omega))).nt _) (fun j hj => ?_)
  rw [nt_ne (by omega), g2 j (by omega)]
  exact u2_ne (by omega)
theorem sx_step (hf : z_FR fr) (h : z_XS fi ws nn tx) (hg : z_G ws nn) {x0 x1 x2 x3 x4 : Int32} (hQ : z_XQ fi fl fr Q (o_step (ws 0) x0 x1 x2 x3 x4).1 (uw ws (o_step (ws 0) x0 x1 x2 x3 x4).2) (o_note (o_step (ws 0) x0 x1 x2 x3 x4).1 nn) tx) : TT 86 0 [some (.ref 18), some (.int x0), some (.int x1), some (.int x2), some (.int x3), some (.int x4)] [] (151, fi, fl, fr) Q := by
  have o18 : z_ok 151 18 10 = true := rfl; have o19 : z_ok 151 19 16 = true := rfl; have o70 : z_ok 151 70 18 = true := rfl
  have hk := z_Kok_of hf (k := 19) (by decide)
  simp (disch := first | assumption | rfl | exact zle_0 | exact zle_1 | exact zle_2 | exact zle_3 | exact zle_4 | exact zb_0 | exact zb_1 | exact zb01_B | omega) only [zT86_0, zr_aload_0, zT86_1, zr_gf_5, zr_or, zr_go, zf_18_5, zT86_4, zr_iv_206, zT86_7, zT86_8, zT86_9, zr_gf_0, zf_18_0, zf_22_0, zf_42_0, zf_59_0, zf_96_0, zf_116_0, zT86_12, zr_iload_1, zT86_13, zr_iload_2, zT86_14, zr_iload_3, zT86_15, zr_iload_4, zT86_17, zr_iload_5, zT86_19, zr_iv_180, zT86_22, zr_iv_116, zT86_25, zr_ret0, zT206_0, zT206_1, zr_ic_0, zT206_2, zr_pf_55, zT206_5, zr_return, zcl_i, zcl_r, zcl_l, zcl_n, zv_some, zv_none, Nat.reduceAdd, Nat.reduceMul, Nat.reduceSub, Nat.reduceLT, Nat.reduceLeDiff, Nat.reduceEqDiff, Int.reduceToNat, true_implies, false_implies, implies_true, and_true, true_and, not_true_eq_false, not_false_eq_true, Nat.zero_add, Nat.add_zero, nI_add, nI_ltI, nI_leI, nI_eq, pk_mul, pk_sub, u2_same, u2_row, u2_other, olt_T, olt_F, ole_T, ole_F, oeq_T, oeq_F]
  refine sp_oStep hk (h.1.1.fr (fun j j1 j2 => u2_ne (by omega))) hg.1 (fun f1 g1 g2 => ?_)
  have nd := fun Q => sp_noted (fi := f1) (fl := fl) (fr := fr) (Q := Q) (a := (o_step (ws 0) x0 x1 x2 x3 x4).1)
  simp (disch := first | assumption | rfl | exact zle_0 | exact zle_1 | exact zle_2 | exact zle_3 | exact zle_4 | exact zb_0 | exact zb_1 | exact zb01_B | omega) only [zT86_22, zr_iv_116, zT86_25, zr_ret0, zcl_i, zcl_r, zcl_l, zcl_n, zv_some, zv_none, Nat.reduceAdd, Nat.reduceMul, Nat.reduceSub, Nat.reduceLT, Nat.reduceLeDiff, Nat.reduceEqDiff, Int.reduceToNat, true_implies, false_implies, implies_true, and_true, true_and, not_true_eq_false, not_false_eq_true, Nat.zero_add, Nat.add_zero, nI_add, nI_ltI, nI_leI, nI_eq, pk_mul, pk_sub, u2_same, u2_row, u2_other, nd, olt_T, olt_F, ole_T, ole_F, oeq_T, oeq_F]
  refine hQ _ ((h.kit g1 (fun j hj => g2 j (by omega))).nt _) (fun j hj => ?_)
  rw [nt_ne (by omega), g2 j (by omega)]
  exact u2_ne (by omega)
theorem sx_knives (hf : z_FR fr) (h : z_XS fi ws nn tx) (hg : z_G ws nn) {x : Int32} (hQ : z_XQ fi fl fr Q (o_knives (ws 0) x).1 (uw ws (o_knives (ws 0) x).2) (o_note (o_knives (ws 0) x).1 nn) tx) : TT 87 0 [some (.ref 18), some (.int x)] [] (151, fi, fl, fr) Q := by
  have o18 : z_ok 151 18 10 = true := rfl; have o19 : z_ok 151 19 16 = true := rfl; have o70 : z_ok 151 70 18 = true := rfl
  have hk := z_Kok_of hf (k := 19) (by decide)
  simp (disch := first | assumption | rfl | exact zle_0 | exact zle_1 | exact zle_2 | exact zle_3 | exact zle_4 | exact zb_0 | exact zb_1 | exact zb01_B | omega) only [zT87_0, zr_aload_0, zT87_1, zr_gf_5, zr_or, zr_go, zf_18_5, zT87_4, zr_iv_206, zT87_7, zT87_8, zT87_9, zr_gf_0, zf_18_0, zf_22_0, zf_42_0, zf_59_0, zf_96_0, zf_116_0, zT87_12, zr_iload_1, zT87_13, zr_iv_181, zT87_16, zr_iv_116, zT87_19, zr_ret0, zT206_0, zT206_1, zr_ic_0, zT206_2, zr_pf_55, zT206_5, zr_return, zcl_i, zcl_r, zcl_l, zcl_n, zv_some, zv_none, Nat.reduceAdd, Nat.reduceMul, Nat.reduceSub, Nat.reduceLT, Nat.reduceLeDiff, Nat.reduceEqDiff, Int.reduceToNat, true_implies, false_implies, implies_true, and_true, true_and, not_true_eq_false, not_false_eq_true, Nat.zero_add, Nat.add_zero, nI_add, nI_ltI, nI_leI, nI_eq, pk_mul, pk_sub, u2_same, u2_row, u2_other, olt_T, olt_F, ole_T, ole_F, oeq_T, oeq_F]
  refine sp_oKnives hk (h.1.1.fr (fun j j1 j2 => u2_ne (by omega))) hg.1 (fun f1 g1 g2 => ?_)
  have nd := fun Q => sp_noted (fi := f1) (fl := fl) (fr := fr) (Q := Q) (a := (o_knives (ws 0) x).1)
  simp (disch := first | assumption | rfl | exact zle_0 | exact zle_1 | exact zle_2 | exact zle_3 | exact zle_4 | exact zb_0 | exact zb_1 | exact zb01_B | omega) only [zT87_16, zr_iv_116, zT87_19, zr_ret0, zcl_i, zcl_r, zcl_l, zcl_n, zv_some, zv_none, Nat.reduceAdd, Nat.reduceMul, Nat.reduceSub, Nat.reduceLT, Nat.reduceLeDiff, Nat.reduceEqDiff, Int.reduceToNat, true_implies, false_implies, implies_true, and_true, true_and, not_true_eq_false, not_false_eq_true, Nat.zero_add, Nat.add_zero, nI_add, nI_ltI, nI_leI, nI_eq, pk_mul, pk_sub, u2_same, u2_row, u2_other, nd, olt_T, olt_F, ole_T, ole_F, oeq_T, oeq_F]
  refine hQ _ ((h.kit g1 (fun j hj => g2 j (by omega))).nt _) (fun j hj => ?_)
  rw [nt_ne (by omega), g2 j (by omega)]
  exact u2_ne (by omega)
theorem sx_strike (hf : z_FR fr) (h : z_XS fi ws nn tx) (hg : z_G ws nn) {b : Nat} (hb : b ≤ 1) (hQ : z_XQ fi fl fr Q (o_strike (ws 0) b).1 (uw ws (o_strike (ws 0) b).2) (o_note (o_strike (ws 0) b).1 nn) tx) : TT 88 0 [some (.ref 18), some (.int (nI b))] [] (151, fi, fl, fr) Q := by
  have o18 : z_ok 151 18 10 = true := rfl; have o19 : z_ok 151 19 16 = true := rfl; have o70 : z_ok 151 70 18 = true := rfl
  have hk := z_Kok_of hf (k := 19) (by decide)
  simp (disch := first | assumption | rfl | exact zle_0 | exact zle_1 | exact zle_2 | exact zle_3 | exact zle_4 | exact zb_0 | exact zb_1 | exact zb01_B | omega) only [zT88_0, zr_aload_0, zT88_1, zr_gf_5, zr_or, zr_go, zf_18_5, zT88_4, zr_iv_206, zT88_7, zT88_8, zT88_9, zr_gf_0, zf_18_0, zf_22_0, zf_42_0, zf_59_0, zf_96_0, zf_116_0, zT88_12, zr_iload_1, zT88_13, zr_iv_182, zT88_16, zr_iv_116, zT88_19, zr_ret0, zT206_0, zT206_1, zr_ic_0, zT206_2, zr_pf_55, zT206_5, zr_return, zcl_i, zcl_r, zcl_l, zcl_n, zv_some, zv_none, Nat.reduceAdd, Nat.reduceMul, Nat.reduceSub, Nat.reduceLT, Nat.reduceLeDiff, Nat.reduceEqDiff, Int.reduceToNat, true_implies, false_implies, implies_true, and_true, true_and, not_true_eq_false, not_false_eq_true, Nat.zero_add, Nat.add_zero, nI_add, nI_ltI, nI_leI, nI_eq, pk_mul, pk_sub, u2_same, u2_row, u2_other, olt_T, olt_F, ole_T, ole_F, oeq_T, oeq_F]
  refine sp_oStrike hk (h.1.1.fr (fun j j1 j2 => u2_ne (by omega))) hg.1 hb (fun f1 g1 g2 => ?_)
  have nd := fun Q => sp_noted (fi := f1) (fl := fl) (fr := fr) (Q := Q) (a := (o_strike (ws 0) b).1)
  simp (disch := first | assumption | rfl | exact zle_0 | exact zle_1 | exact zle_2 | exact zle_3 | exact zle_4 | exact zb_0 | exact zb_1 | exact zb01_B | omega) only [zT88_16, zr_iv_116, zT88_19, zr_ret0, zcl_i, zcl_r, zcl_l, zcl_n, zv_some, zv_none, Nat.reduceAdd, Nat.reduceMul, Nat.reduceSub, Nat.reduceLT, Nat.reduceLeDiff, Nat.reduceEqDiff, Int.reduceToNat, true_implies, false_implies, implies_true, and_true, true_and, not_true_eq_false, not_false_eq_true, Nat.zero_add, Nat.add_zero, nI_add, nI_ltI, nI_leI, nI_eq, pk_mul, pk_sub, u2_same, u2_row, u2_other, nd, olt_T, olt_F, ole_T, ole_F, oeq_T, oeq_F]
  refine hQ _ ((h.kit g1 (fun j hj => g2 j (by omega))).nt _) (fun j hj => ?_)
  rw [nt_ne (by omega), g2 j (by omega)]
  exact u2_ne (by omega)
end
