/-! the crew: of each cook what his hands still are (as numbers: 1 a right one, 2 a left one, 4 one for both sides, 8 more: no knife), and what they come to -/
def uh (hl : Nat → Nat) (c m : Nat) : Nat → Nat := fun j => if j = c then m else hl j
theorem uh_same {hl : Nat → Nat} {c m : Nat} : uh hl c m c = m := by simp [uh]
theorem uh_ne {hl : Nat → Nat} {c m j : Nat} (h : j ≠ c) : uh hl c m j = hl j := by simp [uh, h]
def a_cnt (f : Nat → Nat) (hl : Nat → Nat) : Nat → Nat
  | 0 => 0
  | n + 1 => a_cnt f hl n + f (hl n)
theorem a_cnt_out {f hl : Nat → Nat} {c m : Nat} : ∀ n, n ≤ c → a_cnt f (uh hl c m) n = a_cnt f hl n
  | 0, _ => rfl
  | n + 1, h => by
    show a_cnt f (uh hl c m) n + f (uh hl c m n) = a_cnt f hl n + f (hl n)
    rw [a_cnt_out n (by omega), uh_ne (by omega)]
theorem a_cnt_uh {f hl : Nat → Nat} {c m : Nat} : ∀ n, c < n → a_cnt f (uh hl c m) n + f (hl c) = a_cnt f hl n + f m
  | 0, h => absurd h (Nat.not_lt_zero _)
  | n + 1, h => by
    show a_cnt f (uh hl c m) n + f (uh hl c m n) + f (hl c) = a_cnt f hl n + f (hl n) + f m
    by_cases e : c = n
    · subst e
      rw [a_cnt_out _ (Nat.le_refl _), uh_same]
      omega
    · have := a_cnt_uh (f := f) (hl := hl) (c := c) (m := m) n (by omega)
      rw [uh_ne (hl := hl) (c := c) (m := m) (j := n) (by omega)]
      omega
theorem a_cnt_le {f hl : Nat → Nat} (hf : ∀ m, f m ≤ 1) : ∀ n, a_cnt f hl n ≤ n
  | 0 => Nat.le_refl _
  | n + 1 => by
    have := a_cnt_le (hl := hl) hf n
    have := hf (hl n)
    show a_cnt f hl n + f (hl n) ≤ n + 1
    omega
theorem a_cnt_congr {f hl hl2 : Nat → Nat} : ∀ n, (∀ c, c < n → hl c = hl2 c) → a_cnt f hl n = a_cnt f hl2 n
  | 0, _ => rfl
  | n + 1, h => by
    show a_cnt f hl n + f (hl n) = a_cnt f hl2 n + f (hl2 n)
    rw [a_cnt_congr n (fun c hc => h c (by omega)), h n (by omega)]
def hsr (m : Nat) : Nat := if m = 1 ∨ m = 3 then 1 else 0
def hbr (m : Nat) : Nat := if m = 9 then 1 else 0
def hsl (m : Nat) : Nat := if m = 2 ∨ m = 3 then 1 else 0
def hei (m : Nat) : Nat := if m = 12 then 1 else 0
theorem hsr_le (m : Nat) : hsr m ≤ 1 := by unfold hsr; split <;> omega
theorem hbr_le (m : Nat) : hbr m ≤ 1 := by unfold hbr; split <;> omega
theorem hsl_le (m : Nat) : hsl m ≤ 1 := by unfold hsl; split <;> omega
theorem hei_le (m : Nat) : hei m ≤ 1 := by unfold hei; split <;> omega
def hR (m : Nat) : Bool := decide (m = 1 ∨ m = 3 ∨ m = 9 ∨ m = 12)
def hL (m : Nat) : Bool := decide (m = 2 ∨ m = 3 ∨ m = 12)
def hK (m : Nat) : Bool := decide (m < 4)
/-- the crew with so many cooks gathered -/
def z_CR (fi : Nat → Nat → Int32) (hl : Nat → Nat) (th : Nat → Bool) (er el n : Nat) : Prop :=
  (∀ c, c < n → fi 62 c = zB (hR (hl c)) ∧ fi 63 c = zB (hL (hl c)) ∧ fi 64 c = zB (hK (hl c)) ∧ fi 65 c = zB (th c)) ∧
  fi 66 36 = nI (a_cnt hsr hl n) ∧ fi 66 37 = nI (a_cnt hbr hl n + er) ∧ fi 66 38 = nI (a_cnt hsl hl n) ∧ fi 66 39 = nI el ∧ fi 66 40 = nI (a_cnt hei hl n)
/-- a hand (th: a thumb's; right) that is, and is not, among a cook's -/
def h_mv (t ri : Bool) (lo hi : Nat) : Prop := (t = false ∧ ri = true ∧ lo = 0 ∧ hi = 1) ∨ (t = false ∧ ri = true ∧ lo = 2 ∧ hi = 3) ∨ (t = false ∧ ri = true ∧ lo = 8 ∧ hi = 9) ∨ (t = true ∧ ri = true ∧ lo = 8 ∧ hi = 12) ∨ (t = false ∧ ri = false ∧ lo = 0 ∧ hi = 2) ∨ (t = false ∧ ri = false ∧ lo = 1 ∧ hi = 3) ∨ (t = true ∧ ri = false ∧ lo = 8 ∧ hi = 12)
theorem h_mv.r0 : h_mv false true 0 1 := Or.inl ⟨rfl, rfl, rfl, rfl⟩
theorem h_mv.r2 : h_mv false true 2 3 := Or.inr (Or.inl ⟨rfl, rfl, rfl, rfl⟩)
theorem h_mv.r8 : h_mv false true 8 9 := Or.inr (Or.inr (Or.inl ⟨rfl, rfl, rfl, rfl⟩))
theorem h_mv.rt : h_mv true true 8 12 := Or.inr (Or.inr (Or.inr (Or.inl ⟨rfl, rfl, rfl, rfl⟩)))
theorem h_mv.l0 : h_mv false false 0 2 := Or.inr (Or.inr (Or.inr (Or.inr (Or.inl ⟨rfl, rfl, rfl, rfl⟩))))
theorem h_mv.l1 : h_mv false false 1 3 := Or.inr (Or.inr (Or.inr (Or.inr (Or.inr (Or.inl ⟨rfl, rfl, rfl, rfl⟩)))))
theorem h_mv.lt : h_mv true false 8 12 := Or.inr (Or.inr (Or.inr (Or.inr (Or.inr (Or.inr (⟨rfl, rfl, rfl, rfl⟩))))))
section
variable {fi : Nat → Nat → Int32} {fl : Nat → Nat → Int64} {fr : Nat → Nat → Option Nat} {Q : Option Value → Mm → Prop} {w : Nat → Nat} {k : Nat} {M : Mm}
theorem z_CR.move {hl : Nat → Nat} {th : Nat → Bool} {er el n c m : Nat} {fi' : Nat → Nat → Int32} (h : z_CR fi hl th er el n) (hc : c < n)
    (h1 : fi' 62 c = zB (hR m) ∧ fi' 63 c = zB (hL m) ∧ fi' 64 c = zB (hK m) ∧ fi' 65 c = zB (th c))
    (h2 : ∀ j, j ≠ c → fi' 62 j = fi 62 j ∧ fi' 63 j = fi 63 j ∧ fi' 64 j = fi 64 j ∧ fi' 65 j = fi 65 j)
    (h3 : fi' 66 36 = nI (a_cnt hsr hl n + hsr m - hsr (hl c)) ∧ fi' 66 37 = nI (a_cnt hbr hl n + er + hbr m - hbr (hl c)) ∧ fi' 66 38 = nI (a_cnt hsl hl n + hsl m - hsl (hl c)) ∧ fi' 66 39 = nI el ∧ fi' 66 40 = nI (a_cnt hei hl n + hei m - hei (hl c))) :
    z_CR fi' (uh hl c m) th er el n := by
  refine ⟨fun j hj => ?_, ?_, ?_, ?_, h3.2.2.2.1, ?_⟩
  · by_cases e : j = c
    · subst e
      rw [uh_same]
      exact h1
    · rw [uh_ne e, (h2 j e).1, (h2 j e).2.1, (h2 j e).2.2.1, (h2 j e).2.2.2]
      exact h.1 j hj
  · rw [h3.1]; congr 1; have := a_cnt_uh (f := hsr) (hl := hl) (m := m) n hc; omega
  · rw [h3.2.1]; congr 1; have := a_cnt_uh (f := hbr) (hl := hl) (m := m) n hc; omega
  · rw [h3.2.2.1]; congr 1; have := a_cnt_uh (f := hsl) (hl := hl) (m := m) n hc; omega
  · rw [h3.2.2.2.2]; congr 1; have := a_cnt_uh (f := hei) (hl := hl) (m := m) n hc; omega
theorem a_cnt_pos {f hl : Nat → Nat} {c : Nat} : ∀ n, c < n → f (hl c) ≤ a_cnt f hl n
  | 0, h => absurd h (Nat.not_lt_zero _)
  | n + 1, h => by
    show f (hl c) ≤ a_cnt f hl n + f (hl n)
    by_cases e2 : c = n
    · subst e2; omega
    · have := a_cnt_pos (f := f) (hl := hl) (c := c) n (by omega)
      omega
theorem sp_take (hf : z_FR fr) {hl : Nat → Nat} {th : Nat → Bool} {er el n c lo : Nat} {ri : Bool} (h : z_CR fi hl th er el n) (hn : n ≤ 6) (hb : er ≤ 1 ∧ el ≤ 1) (hc : c < n) (hm : h_mv (th c) ri lo (hl c))
    (hQ : ∀ fi', z_CR fi' (uh hl c lo) th er el n → (∀ j, j ≠ 62 → j ≠ 63 → j ≠ 66 → fi' j = fi j) → Q none (151, fi', fl, fr)) :
    TT 141 0 [some (.ref 61), some (.int (nI c)), some (.int (zB ri)), some (.int (nI 0)), none] [] (151, fi, fl, fr) Q := by
  obtain ⟨e1, e2, e3, e4⟩ := h.1 c hc
  obtain ⟨n1, n2, n3, n4, n5⟩ := h.2
  have p1 := a_cnt_pos (f := hsr) (hl := hl) n hc
  have p2 := a_cnt_pos (f := hbr) (hl := hl) n hc
  have p3 := a_cnt_pos (f := hsl) (hl := hl) n hc
  have p4 := a_cnt_pos (f := hei) (hl := hl) n hc
  have o61 : z_ok 151 61 12 = true := rfl; have o62 : z_ok 151 62 2 = true := rfl; have o63 : z_ok 151 63 2 = true := rfl; have o64 : z_ok 151 64 2 = true := rfl; have o65 : z_ok 151 65 2 = true := rfl; have o66 : z_ok 151 66 15 = true := rfl
  have l62 : z_al 62 = 6 := rfl; have l63 : z_al 63 = 6 := rfl; have l64 : z_al 64 = 6 := rfl; have l65 : z_al 65 = 6 := rfl
  have zt : zB true = nI 1 := rfl
  have zf : zB false = nI 0 := rfl
  generalize hh : hl c = x at e1 e2 e3 p1 p2 p3 p4 hm
  generalize ht : th c = tc at e4 hm
  rcases hm with ⟨rfl, rfl, rfl, rfl⟩ | ⟨rfl, rfl, rfl, rfl⟩ | ⟨rfl, rfl, rfl, rfl⟩ | ⟨rfl, rfl, rfl, rfl⟩ | ⟨rfl, rfl, rfl, rfl⟩ | ⟨rfl, rfl, rfl, rfl⟩ | ⟨rfl, rfl, rfl, rfl⟩
  · have e1' : fi 62 c = nI 1 := e1
    have e2' : fi 63 c = nI 0 := e2
    have e3' : fi 64 c = nI 1 := e3
    have e4' : fi 65 c = nI 0 := e4
    have p5 : 1 ≤ a_cnt hsr hl n := p1
    simp (disch := first | assumption | rfl | exact zle_0 | exact zle_1 | exact zle_2 | exact zle_3 | exact zle_4 | exact zb_0 | exact zb_1 | exact zb01_B | omega) only [zT141_0, zr_iload_3, zT141_1, zr_if_eq, zT141_4, zr_ic_1, zT141_5, zr_goto, zT141_8, zr_ic_m1, zT141_9, zr_istore_4, zT141_11, zr_aload_0, zT141_12, zr_gf_21, zr_or, zr_go, zf_61_21, zT141_15, zr_iload_1, zT141_16, zr_bald, zT141_17, zT141_20, zT141_21, zr_gf_22, zf_61_22, zT141_24, zr_dup_r, zr_dup_i, zT141_25, zr_gf_40, zT141_28, zr_iload_4, zT141_30, zr_iadd, zT141_31, zr_pf_40, zT141_34, zT141_37, zT141_38, zT141_41, zr_iload_2, zT141_42, zT141_43, zr_gf_20, zf_61_20, zT141_46, zT141_47, zT141_48, zT141_50, zr_iv_167, zT141_53, zT141_54, zr_if_ne, zT141_57, zT141_58, zT141_61, zT141_62, zT141_63, zT141_66, zT141_67, zr_gf_18, zf_61_18, zT141_70, zT141_71, zT141_72, zr_bast, zT141_73, zT141_74, zT141_77, zT141_78, zT141_81, zT141_82, zT141_83, zT141_86, zT141_87, zr_gf_19, zf_61_19, zT141_90, zT141_91, zT141_92, zT141_93, zr_return, zT167_0, zT167_1, zT167_4, zT167_5, zT167_8, zT167_9, zT167_10, zr_gf_36, zT167_13, zT167_14, zT167_15, zr_pf_36, zT167_18, zT167_21, zT167_22, zT167_25, zT167_26, zT167_27, zr_gf_37, zT167_30, zT167_31, zT167_32, zr_pf_37, zT167_35, zT167_38, zT167_39, zT167_42, zT167_43, zT167_44, zr_gf_38, zT167_47, zT167_48, zT167_49, zr_pf_38, zT167_52, zT167_55, zT167_56, zT167_57, zr_gf_39, zT167_60, zT167_61, zT167_62, zr_pf_39, zT167_65, zcl_i, zcl_r, zcl_l, zcl_n, zv_some, zv_none, Nat.reduceAdd, Nat.reduceMul, Nat.reduceSub, Nat.reduceLT, Nat.reduceLeDiff, Nat.reduceEqDiff, Int.reduceToNat, true_implies, false_implies, implies_true, and_true, true_and, not_true_eq_false, not_false_eq_true, Nat.zero_add, Nat.add_zero, nI_add, nI_ltI, nI_leI, nI_eq, pk_mul, pk_sub, u2_same, u2_row, u2_other, e1', e2', e3', e4', n1, n2, n3, n4, n5, nI_addM, zt, zf]
    refine hQ _ (h.move hc ⟨?_, ?_, ?_, ?_⟩ (fun j hj => ⟨?_, ?_, ?_, ?_⟩) ⟨?_, ?_, ?_, ?_, ?_⟩) (fun j j1 j2 j3 => ?_)
    all_goals first
      | (simp (disch := first | assumption | omega) only [u2_same, u2_row, u2_other, e1', e2', e3', e4', n1, n2, n3, n4, n5, hh, ht]; done)
      | (simp (disch := first | assumption | omega) only [u2_same, u2_row, u2_other, e1', e2', e3', e4', n1, n2, n3, n4, n5, hh, ht]; rfl)
      | (simp (disch := first | assumption | omega) only [u2_same, u2_row, u2_other, e1', e2', e3', e4', n1, n2, n3, n4, n5, hh, ht]; congr 1; simp [hsr, hbr, hsl, hei]; done)
      | (simp (disch := first | assumption | omega) only [u2_same, u2_row, u2_other, e1', e2', e3', e4', n1, n2, n3, n4, n5, hh, ht]; congr 1; simp [hsr, hbr, hsl, hei]; omega)
      | (simp (disch := first | assumption | omega) only [u2_ne])
  · have e1' : fi 62 c = nI 1 := e1
    have e2' : fi 63 c = nI 1 := e2
    have e3' : fi 64 c = nI 1 := e3
    have e4' : fi 65 c = nI 0 := e4
    have p5 : 1 ≤ a_cnt hsr hl n := p1
    simp (disch := first | assumption | rfl | exact zle_0 | exact zle_1 | exact zle_2 | exact zle_3 | exact zle_4 | exact zb_0 | exact zb_1 | exact zb01_B | omega) only [zT141_0, zr_iload_3, zT141_1, zr_if_eq, zT141_4, zr_ic_1, zT141_5, zr_goto, zT141_8, zr_ic_m1, zT141_9, zr_istore_4, zT141_11, zr_aload_0, zT141_12, zr_gf_21, zr_or, zr_go, zf_61_21, zT141_15, zr_iload_1, zT141_16, zr_bald, zT141_17, zT141_20, zT141_21, zr_gf_22, zf_61_22, zT141_24, zr_dup_r, zr_dup_i, zT141_25, zr_gf_40, zT141_28, zr_iload_4, zT141_30, zr_iadd, zT141_31, zr_pf_40, zT141_34, zT141_37, zT141_38, zT141_41, zr_iload_2, zT141_42, zT141_43, zr_gf_20, zf_61_20, zT141_46, zT141_47, zT141_48, zT141_50, zr_iv_167, zT141_53, zT141_54, zr_if_ne, zT141_57, zT141_58, zT141_61, zT141_62, zT141_63, zT141_66, zT141_67, zr_gf_18, zf_61_18, zT141_70, zT141_71, zT141_72, zr_bast, zT141_73, zT141_74, zT141_77, zT141_78, zT141_81, zT141_82, zT141_83, zT141_86, zT141_87, zr_gf_19, zf_61_19, zT141_90, zT141_91, zT141_92, zT141_93, zr_return, zT167_0, zT167_1, zT167_4, zT167_5, zT167_8, zT167_9, zT167_10, zr_gf_36, zT167_13, zT167_14, zT167_15, zr_pf_36, zT167_18, zT167_21, zT167_22, zT167_25, zT167_26, zT167_27, zr_gf_37, zT167_30, zT167_31, zT167_32, zr_pf_37, zT167_35, zT167_38, zT167_39, zT167_42, zT167_43, zT167_44, zr_gf_38, zT167_47, zT167_48, zT167_49, zr_pf_38, zT167_52, zT167_55, zT167_56, zT167_57, zr_gf_39, zT167_60, zT167_61, zT167_62, zr_pf_39, zT167_65, zcl_i, zcl_r, zcl_l, zcl_n, zv_some, zv_none, Nat.reduceAdd, Nat.reduceMul, Nat.reduceSub, Nat.reduceLT, Nat.reduceLeDiff, Nat.reduceEqDiff, Int.reduceToNat, true_implies, false_implies, implies_true, and_true, true_and, not_true_eq_false, not_false_eq_true, Nat.zero_add, Nat.add_zero, nI_add, nI_ltI, nI_leI, nI_eq, pk_mul, pk_sub, u2_same, u2_row, u2_other, e1', e2', e3', e4', n1, n2, n3, n4, n5, nI_addM, zt, zf]
    refine hQ _ (h.move hc ⟨?_, ?_, ?_, ?_⟩ (fun j hj => ⟨?_, ?_, ?_, ?_⟩) ⟨?_, ?_, ?_, ?_, ?_⟩) (fun j j1 j2 j3 => ?_)
    all_goals first
      | (simp (disch := first | assumption | omega) only [u2_same, u2_row, u2_other, e1', e2', e3', e4', n1, n2, n3, n4, n5, hh, ht]; done)
      | (simp (disch := first | assumption | omega) only [u2_same, u2_row, u2_other, e1', e2', e3', e4', n1, n2, n3, n4, n5, hh, ht]; rfl)
      | (simp (disch := first | assumption | omega) only [u2_same, u2_row, u2_other, e1', e2', e3', e4', n1, n2, n3, n4, n5, hh, ht]; congr 1; simp [hsr, hbr, hsl, hei]; done)
      | (simp (disch := first | assumption | omega) only [u2_same, u2_row, u2_other, e1', e2', e3', e4', n1, n2, n3, n4, n5, hh, ht]; congr 1; simp [hsr, hbr, hsl, hei]; omega)
      | (simp (disch := first | assumption | omega) only [u2_ne])
  · have e1' : fi 62 c = nI 1 := e1
    have e2' : fi 63 c = nI 0 := e2
    have e3' : fi 64 c = nI 0 := e3
    have e4' : fi 65 c = nI 0 := e4
    have p5 : 1 ≤ a_cnt hbr hl n := p2
    simp (disch := first | assumption | rfl | exact zle_0 | exact zle_1 | exact zle_2 | exact zle_3 | exact zle_4 | exact zb_0 | exact zb_1 | exact zb01_B | omega) only [zT141_0, zr_iload_3, zT141_1, zr_if_eq, zT141_4, zr_ic_1, zT141_5, zr_goto, zT141_8, zr_ic_m1, zT141_9, zr_istore_4, zT141_11, zr_aload_0, zT141_12, zr_gf_21, zr_or, zr_go, zf_61_21, zT141_15, zr_iload_1, zT141_16, zr_bald, zT141_17, zT141_20, zT141_21, zr_gf_22, zf_61_22, zT141_24, zr_dup_r, zr_dup_i, zT141_25, zr_gf_40, zT141_28, zr_iload_4, zT141_30, zr_iadd, zT141_31, zr_pf_40, zT141_34, zT141_37, zT141_38, zT141_41, zr_iload_2, zT141_42, zT141_43, zr_gf_20, zf_61_20, zT141_46, zT141_47, zT141_48, zT141_50, zr_iv_167, zT141_53, zT141_54, zr_if_ne, zT141_57, zT141_58, zT141_61, zT141_62, zT141_63, zT141_66, zT141_67, zr_gf_18, zf_61_18, zT141_70, zT141_71, zT141_72, zr_bast, zT141_73, zT141_74, zT141_77, zT141_78, zT141_81, zT141_82, zT141_83, zT141_86, zT141_87, zr_gf_19, zf_61_19, zT141_90, zT141_91, zT141_92, zT141_93, zr_return, zT167_0, zT167_1, zT167_4, zT167_5, zT167_8, zT167_9, zT167_10, zr_gf_36, zT167_13, zT167_14, zT167_15, zr_pf_36, zT167_18, zT167_21, zT167_22, zT167_25, zT167_26, zT167_27, zr_gf_37, zT167_30, zT167_31, zT167_32, zr_pf_37, zT167_35, zT167_38, zT167_39, zT167_42, zT167_43, zT167_44, zr_gf_38, zT167_47, zT167_48, zT167_49, zr_pf_38, zT167_52, zT167_55, zT167_56, zT167_57, zr_gf_39, zT167_60, zT167_61, zT167_62, zr_pf_39, zT167_65, zcl_i, zcl_r, zcl_l, zcl_n, zv_some, zv_none, Nat.reduceAdd, Nat.reduceMul, Nat.reduceSub, Nat.reduceLT, Nat.reduceLeDiff, Nat.reduceEqDiff, Int.reduceToNat, true_implies, false_implies, implies_true, and_true, true_and, not_true_eq_false, not_false_eq_true, Nat.zero_add, Nat.add_zero, nI_add, nI_ltI, nI_leI, nI_eq, pk_mul, pk_sub, u2_same, u2_row, u2_other, e1', e2', e3', e4', n1, n2, n3, n4, n5, nI_addM, zt, zf]
    refine hQ _ (h.move hc ⟨?_, ?_, ?_, ?_⟩ (fun j hj => ⟨?_, ?_, ?_, ?_⟩) ⟨?_, ?_, ?_, ?_, ?_⟩) (fun j j1 j2 j3 => ?_)
    all_goals first
      | (simp (disch := first | assumption | omega) only [u2_same, u2_row, u2_other, e1', e2', e3', e4', n1, n2, n3, n4, n5, hh, ht]; done)
      | (simp (disch := first | assumption | omega) only [u2_same, u2_row, u2_other, e1', e2', e3', e4', n1, n2, n3, n4, n5, hh, ht]; rfl)
      | (simp (disch := first | assumption | omega) only [u2_same, u2_row, u2_other, e1', e2', e3', e4', n1, n2, n3, n4, n5, hh, ht]; congr 1; simp [hsr, hbr, hsl, hei]; done)
      | (simp (disch := first | assumption | omega) only [u2_same, u2_row, u2_other, e1', e2', e3', e4', n1, n2, n3, n4, n5, hh, ht]; congr 1; simp [hsr, hbr, hsl, hei]; omega)
      | (simp (disch := first | assumption | omega) only [u2_ne])
  · have e1' : fi 62 c = nI 1 := e1
    have e2' : fi 63 c = nI 1 := e2
    have e3' : fi 64 c = nI 0 := e3
    have e4' : fi 65 c = nI 1 := e4
    have p5 : 1 ≤ a_cnt hei hl n := p4
    simp (disch := first | assumption | rfl | exact zle_0 | exact zle_1 | exact zle_2 | exact zle_3 | exact zle_4 | exact zb_0 | exact zb_1 | exact zb01_B | omega) only [zT141_0, zr_iload_3, zT141_1, zr_if_eq, zT141_4, zr_ic_1, zT141_5, zr_goto, zT141_8, zr_ic_m1, zT141_9, zr_istore_4, zT141_11, zr_aload_0, zT141_12, zr_gf_21, zr_or, zr_go, zf_61_21, zT141_15, zr_iload_1, zT141_16, zr_bald, zT141_17, zT141_20, zT141_21, zr_gf_22, zf_61_22, zT141_24, zr_dup_r, zr_dup_i, zT141_25, zr_gf_40, zT141_28, zr_iload_4, zT141_30, zr_iadd, zT141_31, zr_pf_40, zT141_34, zT141_37, zT141_38, zT141_41, zr_iload_2, zT141_42, zT141_43, zr_gf_20, zf_61_20, zT141_46, zT141_47, zT141_48, zT141_50, zr_iv_167, zT141_53, zT141_54, zr_if_ne, zT141_57, zT141_58, zT141_61, zT141_62, zT141_63, zT141_66, zT141_67, zr_gf_18, zf_61_18, zT141_70, zT141_71, zT141_72, zr_bast, zT141_73, zT141_74, zT141_77, zT141_78, zT141_81, zT141_82, zT141_83, zT141_86, zT141_87, zr_gf_19, zf_61_19, zT141_90, zT141_91, zT141_92, zT141_93, zr_return, zT167_0, zT167_1, zT167_4, zT167_5, zT167_8, zT167_9, zT167_10, zr_gf_36, zT167_13, zT167_14, zT167_15, zr_pf_36, zT167_18, zT167_21, zT167_22, zT167_25, zT167_26, zT167_27, zr_gf_37, zT167_30, zT167_31, zT167_32, zr_pf_37, zT167_35, zT167_38, zT167_39, zT167_42, zT167_43, zT167_44, zr_gf_38, zT167_47, zT167_48, zT167_49, zr_pf_38, zT167_52, zT167_55, zT167_56, zT167_57, zr_gf_39, zT167_60, zT167_61, zT167_62, zr_pf_39, zT167_65, zcl_i, zcl_r, zcl_l, zcl_n, zv_some, zv_none, Nat.reduceAdd, Nat.reduceMul, Nat.reduceSub, Nat.reduceLT, Nat.reduceLeDiff, Nat.reduceEqDiff, Int.reduceToNat, true_implies, false_implies, implies_true, and_true, true_and, not_true_eq_false, not_false_eq_true, Nat.zero_add, Nat.add_zero, nI_add, nI_ltI, nI_leI, nI_eq, pk_mul, pk_sub, u2_same, u2_row, u2_other, e1', e2', e3', e4', n1, n2, n3, n4, n5, nI_addM, zt, zf]
    refine hQ _ (h.move hc ⟨?_, ?_, ?_, ?_⟩ (fun j hj => ⟨?_, ?_, ?_, ?_⟩) ⟨?_, ?_, ?_, ?_, ?_⟩) (fun j j1 j2 j3 => ?_)
    all_goals first
      | (simp (disch := first | assumption | omega) only [u2_same, u2_row, u2_other, e1', e2', e3', e4', n1, n2, n3, n4, n5, hh, ht]; done)
      | (simp (disch := first | assumption | omega) only [u2_same, u2_row, u2_other, e1', e2', e3', e4', n1, n2, n3, n4, n5, hh, ht]; rfl)
      | (simp (disch := first | assumption | omega) only [u2_same, u2_row, u2_other, e1', e2', e3', e4', n1, n2, n3, n4, n5, hh, ht]; congr 1; simp [hsr, hbr, hsl, hei]; done)
      | (simp (disch := first | assumption | omega) only [u2_same, u2_row, u2_other, e1', e2', e3', e4', n1, n2, n3, n4, n5, hh, ht]; congr 1; simp [hsr, hbr, hsl, hei]; omega)
      | (simp (disch := first | assumption | omega) only [u2_ne])
  · have e1' : fi 62 c = nI 0 := e1
    have e2' : fi 63 c = nI 1 := e2
    have e3' : fi 64 c = nI 1 := e3
    have e4' : fi 65 c = nI 0 := e4
    have p5 : 1 ≤ a_cnt hsl hl n := p3
    simp (disch := first | assumption | rfl | exact zle_0 | exact zle_1 | exact zle_2 | exact zle_3 | exact zle_4 | exact zb_0 | exact zb_1 | exact zb01_B | omega) only [zT141_0, zr_iload_3, zT141_1, zr_if_eq, zT141_4, zr_ic_1, zT141_5, zr_goto, zT141_8, zr_ic_m1, zT141_9, zr_istore_4, zT141_11, zr_aload_0, zT141_12, zr_gf_21, zr_or, zr_go, zf_61_21, zT141_15, zr_iload_1, zT141_16, zr_bald, zT141_17, zT141_20, zT141_21, zr_gf_22, zf_61_22, zT141_24, zr_dup_r, zr_dup_i, zT141_25, zr_gf_40, zT141_28, zr_iload_4, zT141_30, zr_iadd, zT141_31, zr_pf_40, zT141_34, zT141_37, zT141_38, zT141_41, zr_iload_2, zT141_42, zT141_43, zr_gf_20, zf_61_20, zT141_46, zT141_47, zT141_48, zT141_50, zr_iv_167, zT141_53, zT141_54, zr_if_ne, zT141_57, zT141_58, zT141_61, zT141_62, zT141_63, zT141_66, zT141_67, zr_gf_18, zf_61_18, zT141_70, zT141_71, zT141_72, zr_bast, zT141_73, zT141_74, zT141_77, zT141_78, zT141_81, zT141_82, zT141_83, zT141_86, zT141_87, zr_gf_19, zf_61_19, zT141_90, zT141_91, zT141_92, zT141_93, zr_return, zT167_0, zT167_1, zT167_4, zT167_5, zT167_8, zT167_9, zT167_10, zr_gf_36, zT167_13, zT167_14, zT167_15, zr_pf_36, zT167_18, zT167_21, zT167_22, zT167_25, zT167_26, zT167_27, zr_gf_37, zT167_30, zT167_31, zT167_32, zr_pf_37, zT167_35, zT167_38, zT167_39, zT167_42, zT167_43, zT167_44, zr_gf_38, zT167_47, zT167_48, zT167_49, zr_pf_38, zT167_52, zT167_55, zT167_56, zT167_57, zr_gf_39, zT167_60, zT167_61, zT167_62, zr_pf_39, zT167_65, zcl_i, zcl_r, zcl_l, zcl_n, zv_some, zv_none, Nat.reduceAdd, Nat.reduceMul, Nat.reduceSub, Nat.reduceLT, Nat.reduceLeDiff, Nat.reduceEqDiff, Int.reduceToNat, true_implies, false_implies, implies_true, and_true, true_and, not_true_eq_false, not_false_eq_true, Nat.zero_add, Nat.add_zero, nI_add, nI_ltI, nI_leI, nI_eq, pk_mul, pk_sub, u2_same, u2_row, u2_other, e1', e2', e3', e4', n1, n2, n3, n4, n5, nI_addM, zt, zf]
    refine hQ _ (h.move hc ⟨?_, ?_, ?_, ?_⟩ (fun j hj => ⟨?_, ?_, ?_, ?_⟩) ⟨?_, ?_, ?_, ?_, ?_⟩) (fun j j1 j2 j3 => ?_)
    all_goals first
      | (simp (disch := first | assumption | omega) only [u2_same, u2_row, u2_other, e1', e2', e3', e4', n1, n2, n3, n4, n5, hh, ht]; done)
      | (simp (disch := first | assumption | omega) only [u2_same, u2_row, u2_other, e1', e2', e3', e4', n1, n2, n3, n4, n5, hh, ht]; rfl)
      | (simp (disch := first | assumption | omega) only [u2_same, u2_row, u2_other, e1', e2', e3', e4', n1, n2, n3, n4, n5, hh, ht]; congr 1; simp [hsr, hbr, hsl, hei]; done)
      | (simp (disch := first | assumption | omega) only [u2_same, u2_row, u2_other, e1', e2', e3', e4', n1, n2, n3, n4, n5, hh, ht]; congr 1; simp [hsr, hbr, hsl, hei]; omega)
      | (simp (disch := first | assumption | omega) only [u2_ne])
  · have e1' : fi 62 c = nI 1 := e1
    have e2' : fi 63 c = nI 1 := e2
    have e3' : fi 64 c = nI 1 := e3
    have e4' : fi 65 c = nI 0 := e4
    have p5 : 1 ≤ a_cnt hsl hl n := p3
    simp (disch := first | assumption | rfl | exact zle_0 | exact zle_1 | exact zle_2 | exact zle_3 | exact zle_4 | exact zb_0 | exact zb_1 | exact zb01_B | omega) only [zT141_0, zr_iload_3, zT141_1, zr_if_eq, zT141_4, zr_ic_1, zT141_5, zr_goto, zT141_8, zr_ic_m1, zT141_9, zr_istore_4, zT141_11, zr_aload_0, zT141_12, zr_gf_21, zr_or, zr_go, zf_61_21, zT141_15, zr_iload_1, zT141_16, zr_bald, zT141_17, zT141_20, zT141_21, zr_gf_22, zf_61_22, zT141_24, zr_dup_r, zr_dup_i, zT141_25, zr_gf_40, zT141_28, zr_iload_4, zT141_30, zr_iadd, zT141_31, zr_pf_40, zT141_34, zT141_37, zT141_38, zT141_41, zr_iload_2, zT141_42, zT141_43, zr_gf_20, zf_61_20, zT141_46, zT141_47, zT141_48, zT141_50, zr_iv_167, zT141_53, zT141_54, zr_if_ne, zT141_57, zT141_58, zT141_61, zT141_62, zT141_63, zT141_66, zT141_67, zr_gf_18, zf_61_18, zT141_70, zT141_71, zT141_72, zr_bast, zT141_73, zT141_74, zT141_77, zT141_78, zT141_81, zT141_82, zT141_83, zT141_86, zT141_87, zr_gf_19, zf_61_19, zT141_90, zT141_91, zT141_92, zT141_93, zr_return, zT167_0, zT167_1, zT167_4, zT167_5, zT167_8, zT167_9, zT167_10, zr_gf_36, zT167_13, zT167_14, zT167_15, zr_pf_36, zT167_18, zT167_21, zT167_22, zT167_25, zT167_26, zT167_27, zr_gf_37, zT167_30, zT167_31, zT167_32, zr_pf_37, zT167_35, zT167_38, zT167_39, zT167_42, zT167_43, zT167_44, zr_gf_38, zT167_47, zT167_48, zT167_49, zr_pf_38, zT167_52, zT167_55, zT167_56, zT167_57, zr_gf_39, zT167_60, zT167_61, zT167_62, zr_pf_39, zT167_65, zcl_i, zcl_r, zcl_l, zcl_n, zv_some, zv_none, Nat.reduceAdd, Nat.reduceMul, Nat.reduceSub, Nat.reduceLT, Nat.reduceLeDiff, Nat.reduceEqDiff, Int.reduceToNat, true_implies, false_implies, implies_true, and_true, true_and, not_true_eq_false, not_false_eq_true, Nat.zero_add, Nat.add_zero, nI_add, nI_ltI, nI_leI, nI_eq, pk_mul, pk_sub, u2_same, u2_row, u2_other, e1', e2', e3', e4', n1, n2, n3, n4, n5, nI_addM, zt, zf]
    refine hQ _ (h.move hc ⟨?_, ?_, ?_, ?_⟩ (fun j hj => ⟨?_, ?_, ?_, ?_⟩) ⟨?_, ?_, ?_, ?_, ?_⟩) (fun j j1 j2 j3 => ?_)
    all_goals first
      | (simp (disch := first | assumption | omega) only [u2_same, u2_row, u2_other, e1', e2', e3', e4', n1, n2, n3, n4, n5, hh, ht]; done)
      | (simp (disch := first | assumption | omega) only [u2_same, u2_row, u2_other, e1', e2', e3', e4', n1, n2, n3, n4, n5, hh, ht]; rfl)
      | (simp (disch := first | assumption | omega) only [u2_same, u2_row, u2_other, e1', e2', e3', e4', n1, n2, n3, n4, n5, hh, ht]; congr 1; simp [hsr, hbr, hsl, hei]; done)
      | (simp (disch := first | assumption | omega) only [u2_same, u2_row, u2_other, e1', e2', e3', e4', n1, n2, n3, n4, n5, hh, ht]; congr 1; simp [hsr, hbr, hsl, hei]; omega)
      | (simp (disch := first | assumption | omega) only [u2_ne])
  · have e1' : fi 62 c = nI 1 := e1
    have e2' : fi 63 c = nI 1 := e2
    have e3' : fi 64 c = nI 0 := e3
    have e4' : fi 65 c = nI 1 := e4
    have p5 : 1 ≤ a_cnt hei hl n := p4
    simp (disch := first | assumption | rfl | exact zle_0 | exact zle_1 | exact zle_2 | exact zle_3 | exact zle_4 | exact zb_0 | exact zb_1 | exact zb01_B | omega) only [zT141_0, zr_iload_3, zT141_1, zr_if_eq, zT141_4, zr_ic_1, zT141_5, zr_goto, zT141_8, zr_ic_m1, zT141_9, zr_istore_4, zT141_11, zr_aload_0, zT141_12, zr_gf_21, zr_or, zr_go, zf_61_21, zT141_15, zr_iload_1, zT141_16, zr_bald, zT141_17, zT141_20, zT141_21, zr_gf_22, zf_61_22, zT141_24, zr_dup_r, zr_dup_i, zT141_25, zr_gf_40, zT141_28, zr_iload_4, zT141_30, zr_iadd, zT141_31, zr_pf_40, zT141_34, zT141_37, zT141_38, zT141_41, zr_iload_2, zT141_42, zT141_43, zr_gf_20, zf_61_20, zT141_46, zT141_47, zT141_48, zT141_50, zr_iv_167, zT141_53, zT141_54, zr_if_ne, zT141_57, zT141_58, zT141_61, zT141_62, zT141_63, zT141_66, zT141_67, zr_gf_18, zf_61_18, zT141_70, zT141_71, zT141_72, zr_bast, zT141_73, zT141_74, zT141_77, zT141_78, zT141_81, zT141_82, zT141_83, zT141_86, zT141_87, zr_gf_19, zf_61_19, zT141_90, zT141_91, zT141_92, zT141_93, zr_return, zT167_0, zT167_1, zT167_4, zT167_5, zT167_8, zT167_9, zT167_10, zr_gf_36, zT167_13, zT167_14, zT167_15, zr_pf_36, zT167_18, zT167_21, zT167_22, zT167_25, zT167_26, zT167_27, zr_gf_37, zT167_30, zT167_31, zT167_32, zr_pf_37, zT167_35, zT167_38, zT167_39, zT167_42, zT167_43, zT167_44, zr_gf_38, zT167_47, zT167_48, zT167_49, zr_pf_38, zT167_52, zT167_55, zT167_56, zT167_57, zr_gf_39, zT167_60, zT167_61, zT167_62, zr_pf_39, zT167_65, zcl_i, zcl_r, zcl_l, zcl_n, zv_some, zv_none, Nat.reduceAdd, Nat.reduceMul, Nat.reduceSub, Nat.reduceLT, Nat.reduceLeDiff, Nat.reduceEqDiff, Int.reduceToNat, true_implies, false_implies, implies_true, and_true, true_and, not_true_eq_false, not_false_eq_true, Nat.zero_add, Nat.add_zero, nI_add, nI_ltI, nI_leI, nI_eq, pk_mul, pk_sub, u2_same, u2_row, u2_other, e1', e2', e3', e4', n1, n2, n3, n4, n5, nI_addM, zt, zf]
    refine hQ _ (h.move hc ⟨?_, ?_, ?_, ?_⟩ (fun j hj => ⟨?_, ?_, ?_, ?_⟩) ⟨?_, ?_, ?_, ?_, ?_⟩) (fun j j1 j2 j3 => ?_)
    all_goals first
      | (simp (disch := first | assumption | omega) only [u2_same, u2_row, u2_other, e1', e2', e3', e4', n1, n2, n3, n4, n5, hh, ht]; done)
      | (simp (disch := first | assumption | omega) only [u2_same, u2_row, u2_other, e1', e2', e3', e4', n1, n2, n3, n4, n5, hh, ht]; rfl)
      | (simp (disch := first | assumption | omega) only [u2_same, u2_row, u2_other, e1', e2', e3', e4', n1, n2, n3, n4, n5, hh, ht]; congr 1; simp [hsr, hbr, hsl, hei]; done)
      | (simp (disch := first | assumption | omega) only [u2_same, u2_row, u2_other, e1', e2', e3', e4', n1, n2, n3, n4, n5, hh, ht]; congr 1; simp [hsr, hbr, hsl, hei]; omega)
      | (simp (disch := first | assumption | omega) only [u2_ne])
theorem sp_give (hf : z_FR fr) {hl : Nat → Nat} {th : Nat → Bool} {er el n c hi : Nat} {ri : Bool} (h : z_CR fi hl th er el n) (hn : n ≤ 6) (hb : er ≤ 1 ∧ el ≤ 1) (hc : c < n) (hm : h_mv (th c) ri (hl c) hi)
    (hQ : ∀ fi', z_CR fi' (uh hl c hi) th er el n → (∀ j, j ≠ 62 → j ≠ 63 → j ≠ 66 → fi' j = fi j) → Q none (151, fi', fl, fr)) :
    TT 141 0 [some (.ref 61), some (.int (nI c)), some (.int (zB ri)), some (.int (nI 1)), none] [] (151, fi, fl, fr) Q := by
  obtain ⟨e1, e2, e3, e4⟩ := h.1 c hc
  obtain ⟨n1, n2, n3, n4, n5⟩ := h.2
  have p1 := a_cnt_pos (f := hsr) (hl := hl) n hc
  have p2 := a_cnt_pos (f := hbr) (hl := hl) n hc
  have p3 := a_cnt_pos (f := hsl) (hl := hl) n hc
  have p4 := a_cnt_pos (f := hei) (hl := hl) n hc
  have o61 : z_ok 151 61 12 = true := rfl; have o62 : z_ok 151 62 2 = true := rfl; have o63 : z_ok 151 63 2 = true := rfl; have o64 : z_ok 151 64 2 = true := rfl; have o65 : z_ok 151 65 2 = true := rfl; have o66 : z_ok 151 66 15 = true := rfl
  have l62 : z_al 62 = 6 := rfl; have l63 : z_al 63 = 6 := rfl; have l64 : z_al 64 = 6 := rfl; have l65 : z_al 65 = 6 := rfl
  have zt : zB true = nI 1 := rfl
  have zf : zB false = nI 0 := rfl
  generalize hh : hl c = x at e1 e2 e3 p1 p2 p3 p4 hm
  generalize ht : th c = tc at e4 hm
  rcases hm with ⟨rfl, rfl, rfl, rfl⟩ | ⟨rfl, rfl, rfl, rfl⟩ | ⟨rfl, rfl, rfl, rfl⟩ | ⟨rfl, rfl, rfl, rfl⟩ | ⟨rfl, rfl, rfl, rfl⟩ | ⟨rfl, rfl, rfl, rfl⟩ | ⟨rfl, rfl, rfl, rfl⟩
  · have e1' : fi 62 c = nI 0 := e1
    have e2' : fi 63 c = nI 0 := e2
    have e3' : fi 64 c = nI 1 := e3
    have e4' : fi 65 c = nI 0 := e4
    simp (disch := first | assumption | rfl | exact zle_0 | exact zle_1 | exact zle_2 | exact zle_3 | exact zle_4 | exact zb_0 | exact zb_1 | exact zb01_B | omega) only [zT141_0, zr_iload_3, zT141_1, zr_if_eq, zT141_4, zr_ic_1, zT141_5, zr_goto, zT141_8, zr_ic_m1, zT141_9, zr_istore_4, zT141_11, zr_aload_0, zT141_12, zr_gf_21, zr_or, zr_go, zf_61_21, zT141_15, zr_iload_1, zT141_16, zr_bald, zT141_17, zT141_20, zT141_21, zr_gf_22, zf_61_22, zT141_24, zr_dup_r, zr_dup_i, zT141_25, zr_gf_40, zT141_28, zr_iload_4, zT141_30, zr_iadd, zT141_31, zr_pf_40, zT141_34, zT141_37, zT141_38, zT141_41, zr_iload_2, zT141_42, zT141_43, zr_gf_20, zf_61_20, zT141_46, zT141_47, zT141_48, zT141_50, zr_iv_167, zT141_53, zT141_54, zr_if_ne, zT141_57, zT141_58, zT141_61, zT141_62, zT141_63, zT141_66, zT141_67, zr_gf_18, zf_61_18, zT141_70, zT141_71, zT141_72, zr_bast, zT141_73, zT141_74, zT141_77, zT141_78, zT141_81, zT141_82, zT141_83, zT141_86, zT141_87, zr_gf_19, zf_61_19, zT141_90, zT141_91, zT141_92, zT141_93, zr_return, zT167_0, zT167_1, zT167_4, zT167_5, zT167_8, zT167_9, zT167_10, zr_gf_36, zT167_13, zT167_14, zT167_15, zr_pf_36, zT167_18, zT167_21, zT167_22, zT167_25, zT167_26, zT167_27, zr_gf_37, zT167_30, zT167_31, zT167_32, zr_pf_37, zT167_35, zT167_38, zT167_39, zT167_42, zT167_43, zT167_44, zr_gf_38, zT167_47, zT167_48, zT167_49, zr_pf_38, zT167_52, zT167_55, zT167_56, zT167_57, zr_gf_39, zT167_60, zT167_61, zT167_62, zr_pf_39, zT167_65, zcl_i, zcl_r, zcl_l, zcl_n, zv_some, zv_none, Nat.reduceAdd, Nat.reduceMul, Nat.reduceSub, Nat.reduceLT, Nat.reduceLeDiff, Nat.reduceEqDiff, Int.reduceToNat, true_implies, false_implies, implies_true, and_true, true_and, not_true_eq_false, not_false_eq_true, Nat.zero_add, Nat.add_zero, nI_add, nI_ltI, nI_leI, nI_eq, pk_mul, pk_sub, u2_same, u2_row, u2_other, e1', e2', e3', e4', n1, n2, n3, n4, n5, nI_addM, zt, zf]
    refine hQ _ (h.move hc ⟨?_, ?_, ?_, ?_⟩ (fun j hj => ⟨?_, ?_, ?_, ?_⟩) ⟨?_, ?_, ?_, ?_, ?_⟩) (fun j j1 j2 j3 => ?_)
    all_goals first
      | (simp (disch := first | assumption | omega) only [u2_same, u2_row, u2_other, e1', e2', e3', e4', n1, n2, n3, n4, n5, hh, ht]; done)
      | (simp (disch := first | assumption | omega) only [u2_same, u2_row, u2_other, e1', e2', e3', e4', n1, n2, n3, n4, n5, hh, ht]; rfl)
      | (simp (disch := first | assumption | omega) only [u2_same, u2_row, u2_other, e1', e2', e3', e4', n1, n2, n3, n4, n5, hh, ht]; congr 1; simp [hsr, hbr, hsl, hei]; done)
      | (simp (disch := first | assumption | omega) only [u2_same, u2_row, u2_other, e1', e2', e3', e4', n1, n2, n3, n4, n5, hh, ht]; congr 1; simp [hsr, hbr, hsl, hei]; omega)
      | (simp (disch := first | assumption | omega) only [u2_ne])
  · have e1' : fi 62 c = nI 0 := e1
    have e2' : fi 63 c = nI 1 := e2
    have e3' : fi 64 c = nI 1 := e3
    have e4' : fi 65 c = nI 0 := e4
    simp (disch := first | assumption | rfl | exact zle_0 | exact zle_1 | exact zle_2 | exact zle_3 | exact zle_4 | exact zb_0 | exact zb_1 | exact zb01_B | omega) only [zT141_0, zr_iload_3, zT141_1, zr_if_eq, zT141_4, zr_ic_1, zT141_5, zr_goto, zT141_8, zr_ic_m1, zT141_9, zr_istore_4, zT141_11, zr_aload_0, zT141_12, zr_gf_21, zr_or, zr_go, zf_61_21, zT141_15, zr_iload_1, zT141_16, zr_bald, zT141_17, zT141_20, zT141_21, zr_gf_22, zf_61_22, zT141_24, zr_dup_r, zr_dup_i, zT141_25, zr_gf_40, zT141_28, zr_iload_4, zT141_30, zr_iadd, zT141_31, zr_pf_40, zT141_34, zT141_37, zT141_38, zT141_41, zr_iload_2, zT141_42, zT141_43, zr_gf_20, zf_61_20, zT141_46, zT141_47, zT141_48, zT141_50, zr_iv_167, zT141_53, zT141_54, zr_if_ne, zT141_57, zT141_58, zT141_61, zT141_62, zT141_63, zT141_66, zT141_67, zr_gf_18, zf_61_18, zT141_70, zT141_71, zT141_72, zr_bast, zT141_73, zT141_74, zT141_77, zT141_78, zT141_81, zT141_82, zT141_83, zT141_86, zT141_87, zr_gf_19, zf_61_19, zT141_90, zT141_91, zT141_92, zT141_93, zr_return, zT167_0, zT167_1, zT167_4, zT167_5, zT167_8, zT167_9, zT167_10, zr_gf_36, zT167_13, zT167_14, zT167_15, zr_pf_36, zT167_18, zT167_21, zT167_22, zT167_25, zT167_26, zT167_27, zr_gf_37, zT167_30, zT167_31, zT167_32, zr_pf_37, zT167_35, zT167_38, zT167_39, zT167_42, zT167_43, zT167_44, zr_gf_38, zT167_47, zT167_48, zT167_49, zr_pf_38, zT167_52, zT167_55, zT167_56, zT167_57, zr_gf_39, zT167_60, zT167_61, zT167_62, zr_pf_39, zT167_65, zcl_i, zcl_r, zcl_l, zcl_n, zv_some, zv_none, Nat.reduceAdd, Nat.reduceMul, Nat.reduceSub, Nat.reduceLT, Nat.reduceLeDiff, Nat.reduceEqDiff, Int.reduceToNat, true_implies, false_implies, implies_true, and_true, true_and, not_true_eq_false, not_false_eq_true, Nat.zero_add, Nat.add_zero, nI_add, nI_ltI, nI_leI, nI_eq, pk_mul, pk_sub, u2_same, u2_row, u2_other, e1', e2', e3', e4', n1, n2, n3, n4, n5, nI_addM, zt, zf]
    refine hQ _ (h.move hc ⟨?_, ?_, ?_, ?_⟩ (fun j hj => ⟨?_, ?_, ?_, ?_⟩) ⟨?_, ?_, ?_, ?_, ?_⟩) (fun j j1 j2 j3 => ?_)
    all_goals first
      | (simp (disch := first | assumption | omega) only [u2_same, u2_row, u2_other, e1', e2', e3', e4', n1, n2, n3, n4, n5, hh, ht]; done)
      | (simp (disch := first | assumption | omega) only [u2_same, u2_row, u2_other, e1', e2', e3', e4', n1, n2, n3, n4, n5, hh, ht]; rfl)
      | (simp (disch := first | assumption | omega) only [u2_same, u2_row, u2_other, e1', e2', e3', e4', n1, n2, n3, n4, n5, hh, ht]; congr 1; simp [hsr, hbr, hsl, hei]; done)
      | (simp (disch := first | assumption | omega) only [u2_same, u2_row, u2_other, e1', e2', e3', e4', n1, n2, n3, n4, n5, hh, ht]; congr 1; simp [hsr, hbr, hsl, hei]; omega)
      | (simp (disch := first | assumption | omega) only [u2_ne])
  · have e1' : fi 62 c = nI 0 := e1
    have e2' : fi 63 c = nI 0 := e2
    have e3' : fi 64 c = nI 0 := e3
    have e4' : fi 65 c = nI 0 := e4
    simp (disch := first | assumption | rfl | exact zle_0 | exact zle_1 | exact zle_2 | exact zle_3 | exact zle_4 | exact zb_0 | exact zb_1 | exact zb01_B | omega) only [zT141_0, zr_iload_3, zT141_1, zr_if_eq, zT141_4, zr_ic_1, zT141_5, zr_goto, zT141_8, zr_ic_m1, zT141_9, zr_istore_4, zT141_11, zr_aload_0, zT141_12, zr_gf_21, zr_or, zr_go, zf_61_21, zT141_15, zr_iload_1, zT141_16, zr_bald, zT141_17, zT141_20, zT141_21, zr_gf_22, zf_61_22, zT141_24, zr_dup_r, zr_dup_i, zT141_25, zr_gf_40, zT141_28, zr_iload_4, zT141_30, zr_iadd, zT141_31, zr_pf_40, zT141_34, zT141_37, zT141_38, zT141_41, zr_iload_2, zT141_42, zT141_43, zr_gf_20, zf_61_20, zT141_46, zT141_47, zT141_48, zT141_50, zr_iv_167, zT141_53, zT141_54, zr_if_ne, zT141_57, zT141_58, zT141_61, zT141_62, zT141_63, zT141_66, zT141_67, zr_gf_18, zf_61_18, zT141_70, zT141_71, zT141_72, zr_bast, zT141_73, zT141_74, zT141_77, zT141_78, zT141_81, zT141_82, zT141_83, zT141_86, zT141_87, zr_gf_19, zf_61_19, zT141_90, zT141_91, zT141_92, zT141_93, zr_return, zT167_0, zT167_1, zT167_4, zT167_5, zT167_8, zT167_9, zT167_10, zr_gf_36, zT167_13, zT167_14, zT167_15, zr_pf_36, zT167_18, zT167_21, zT167_22, zT167_25, zT167_26, zT167_27, zr_gf_37, zT167_30, zT167_31, zT167_32, zr_pf_37, zT167_35, zT167_38, zT167_39, zT167_42, zT167_43, zT167_44, zr_gf_38, zT167_47, zT167_48, zT167_49, zr_pf_38, zT167_52, zT167_55, zT167_56, zT167_57, zr_gf_39, zT167_60, zT167_61, zT167_62, zr_pf_39, zT167_65, zcl_i, zcl_r, zcl_l, zcl_n, zv_some, zv_none, Nat.reduceAdd, Nat.reduceMul, Nat.reduceSub, Nat.reduceLT, Nat.reduceLeDiff, Nat.reduceEqDiff, Int.reduceToNat, true_implies, false_implies, implies_true, and_true, true_and, not_true_eq_false, not_false_eq_true, Nat.zero_add, Nat.add_zero, nI_add, nI_ltI, nI_leI, nI_eq, pk_mul, pk_sub, u2_same, u2_row, u2_other, e1', e2', e3', e4', n1, n2, n3, n4, n5, nI_addM, zt, zf]
    refine hQ _ (h.move hc ⟨?_, ?_, ?_, ?_⟩ (fun j hj => ⟨?_, ?_, ?_, ?_⟩) ⟨?_, ?_, ?_, ?_, ?_⟩) (fun j j1 j2 j3 => ?_)
    all_goals first
      | (simp (disch := first | assumption | omega) only [u2_same, u2_row, u2_other, e1', e2', e3', e4', n1, n2, n3, n4, n5, hh, ht]; done)
      | (simp (disch := first | assumption | omega) only [u2_same, u2_row, u2_other, e1', e2', e3', e4', n1, n2, n3, n4, n5, hh, ht]; rfl)
      | (simp (disch := first | assumption | omega) only [u2_same, u2_row, u2_other, e1', e2', e3', e4', n1, n2, n3, n4, n5, hh, ht]; congr 1; simp [hsr, hbr, hsl, hei]; done)
      | (simp (disch := first | assumption | omega) only [u2_same, u2_row, u2_other, e1', e2', e3', e4', n1, n2, n3, n4, n5, hh, ht]; congr 1; simp [hsr, hbr, hsl, hei]; omega)
      | (simp (disch := first | assumption | omega) only [u2_ne])
  · have e1' : fi 62 c = nI 0 := e1
    have e2' : fi 63 c = nI 0 := e2
    have e3' : fi 64 c = nI 0 := e3
    have e4' : fi 65 c = nI 1 := e4
    simp (disch := first | assumption | rfl | exact zle_0 | exact zle_1 | exact zle_2 | exact zle_3 | exact zle_4 | exact zb_0 | exact zb_1 | exact zb01_B | omega) only [zT141_0, zr_iload_3, zT141_1, zr_if_eq, zT141_4, zr_ic_1, zT141_5, zr_goto, zT141_8, zr_ic_m1, zT141_9, zr_istore_4, zT141_11, zr_aload_0, zT141_12, zr_gf_21, zr_or, zr_go, zf_61_21, zT141_15, zr_iload_1, zT141_16, zr_bald, zT141_17, zT141_20, zT141_21, zr_gf_22, zf_61_22, zT141_24, zr_dup_r, zr_dup_i, zT141_25, zr_gf_40, zT141_28, zr_iload_4, zT141_30, zr_iadd, zT141_31, zr_pf_40, zT141_34, zT141_37, zT141_38, zT141_41, zr_iload_2, zT141_42, zT141_43, zr_gf_20, zf_61_20, zT141_46, zT141_47, zT141_48, zT141_50, zr_iv_167, zT141_53, zT141_54, zr_if_ne, zT141_57, zT141_58, zT141_61, zT141_62, zT141_63, zT141_66, zT141_67, zr_gf_18, zf_61_18, zT141_70, zT141_71, zT141_72, zr_bast, zT141_73, zT141_74, zT141_77, zT141_78, zT141_81, zT141_82, zT141_83, zT141_86, zT141_87, zr_gf_19, zf_61_19, zT141_90, zT141_91, zT141_92, zT141_93, zr_return, zT167_0, zT167_1, zT167_4, zT167_5, zT167_8, zT167_9, zT167_10, zr_gf_36, zT167_13, zT167_14, zT167_15, zr_pf_36, zT167_18, zT167_21, zT167_22, zT167_25, zT167_26, zT167_27, zr_gf_37, zT167_30, zT167_31, zT167_32, zr_pf_37, zT167_35, zT167_38, zT167_39, zT167_42, zT167_43, zT167_44, zr_gf_38, zT167_47, zT167_48, zT167_49, zr_pf_38, zT167_52, zT167_55, zT167_56, zT167_57, zr_gf_39, zT167_60, zT167_61, zT167_62, zr_pf_39, zT167_65, zcl_i, zcl_r, zcl_l, zcl_n, zv_some, zv_none, Nat.reduceAdd, Nat.reduceMul, Nat.reduceSub, Nat.reduceLT, Nat.reduceLeDiff, Nat.reduceEqDiff, Int.reduceToNat, true_implies, false_implies, implies_true, and_true, true_and, not_true_eq_false, not_false_eq_true, Nat.zero_add, Nat.add_zero, nI_add, nI_ltI, nI_leI, nI_eq, pk_mul, pk_sub, u2_same, u2_row, u2_other, e1', e2', e3', e4', n1, n2, n3, n4, n5, nI_addM, zt, zf]
    refine hQ _ (h.move hc ⟨?_, ?_, ?_, ?_⟩ (fun j hj => ⟨?_, ?_, ?_, ?_⟩) ⟨?_, ?_, ?_, ?_, ?_⟩) (fun j j1 j2 j3 => ?_)
    all_goals first
      | (simp (disch := first | assumption | omega) only [u2_same, u2_row, u2_other, e1', e2', e3', e4', n1, n2, n3, n4, n5, hh, ht]; done)
      | (simp (disch := first | assumption | omega) only [u2_same, u2_row, u2_other, e1', e2', e3', e4', n1, n2, n3, n4, n5, hh, ht]; rfl)
      | (simp (disch := first | assumption | omega) only [u2_same, u2_row, u2_other, e1', e2', e3', e4', n1, n2, n3, n4, n5, hh, ht]; congr 1; simp [hsr, hbr, hsl, hei]; done)
      | (simp (disch := first | assumption | omega) only [u2_same, u2_row, u2_other, e1', e2', e3', e4', n1, n2, n3, n4, n5, hh, ht]; congr 1; simp [hsr, hbr, hsl, hei]; omega)
      | (simp (disch := first | assumption | omega) only [u2_ne])
  · have e1' : fi 62 c = nI 0 := e1
    have e2' : fi 63 c = nI 0 := e2
    have e3' : fi 64 c = nI 1 := e3
    have e4' : fi 65 c = nI 0 := e4
    simp (disch := first | assumption | rfl | exact zle_0 | exact zle_1 | exact zle_2 | exact zle_3 | exact zle_4 | exact zb_0 | exact zb_1 | exact zb01_B | omega) only [zT141_0, zr_iload_3, zT141_1, zr_if_eq, zT141_4, zr_ic_1, zT141_5, zr_goto, zT141_8, zr_ic_m1, zT141_9, zr_istore_4, zT141_11, zr_aload_0, zT141_12, zr_gf_21, zr_or, zr_go, zf_61_21, zT141_15, zr_iload_1, zT141_16, zr_bald, zT141_17, zT141_20, zT141_21, zr_gf_22, zf_61_22, zT141_24, zr_dup_r, zr_dup_i, zT141_25, zr_gf_40, zT141_28, zr_iload_4, zT141_30, zr_iadd, zT141_31, zr_pf_40, zT141_34, zT141_37, zT141_38, zT141_41, zr_iload_2, zT141_42, zT141_43, zr_gf_20, zf_61_20, zT141_46, zT141_47, zT141_48, zT141_50, zr_iv_167, zT141_53, zT141_54, zr_if_ne, zT141_57, zT141_58, zT141_61, zT141_62, zT141_63, zT141_66, zT141_67, zr_gf_18, zf_61_18, zT141_70, zT141_71, zT141_72, zr_bast, zT141_73, zT141_74, zT141_77, zT141_78, zT141_81, zT141_82, zT141_83, zT141_86, zT141_87, zr_gf_19, zf_61_19, zT141_90, zT141_91, zT141_92, zT141_93, zr_return, zT167_0, zT167_1, zT167_4, zT167_5, zT167_8, zT167_9, zT167_10, zr_gf_36, zT167_13, zT167_14, zT167_15, zr_pf_36, zT167_18, zT167_21, zT167_22, zT167_25, zT167_26, zT167_27, zr_gf_37, zT167_30, zT167_31, zT167_32, zr_pf_37, zT167_35, zT167_38, zT167_39, zT167_42, zT167_43, zT167_44, zr_gf_38, zT167_47, zT167_48, zT167_49, zr_pf_38, zT167_52, zT167_55, zT167_56, zT167_57, zr_gf_39, zT167_60, zT167_61, zT167_62, zr_pf_39, zT167_65, zcl_i, zcl_r, zcl_l, zcl_n, zv_some, zv_none, Nat.reduceAdd, Nat.reduceMul, Nat.reduceSub, Nat.reduceLT, Nat.reduceLeDiff, Nat.reduceEqDiff, Int.reduceToNat, true_implies, false_implies, implies_true, and_true, true_and, not_true_eq_false, not_false_eq_true, Nat.zero_add, Nat.add_zero, nI_add, nI_ltI, nI_leI, nI_eq, pk_mul, pk_sub, u2_same, u2_row, u2_other, e1', e2', e3', e4', n1, n2, n3, n4, n5, nI_addM, zt, zf]
    refine hQ _ (h.move hc ⟨?_, ?_, ?_, ?_⟩ (fun j hj => ⟨?_, ?_, ?_, ?_⟩) ⟨?_, ?_, ?_, ?_, ?_⟩) (fun j j1 j2 j3 => ?_)
    all_goals first
      | (simp (disch := first | assumption | omega) only [u2_same, u2_row, u2_other, e1', e2', e3', e4', n1, n2, n3, n4, n5, hh, ht]; done)
      | (simp (disch := first | assumption | omega) only [u2_same, u2_row, u2_other, e1', e2', e3', e4', n1, n2, n3, n4, n5, hh, ht]; rfl)
      | (simp (disch := first | assumption | omega) only [u2_same, u2_row, u2_other, e1', e2', e3', e4', n1, n2, n3, n4, n5, hh, ht]; congr 1; simp [hsr, hbr, hsl, hei]; done)
      | (simp (disch := first | assumption | omega) only [u2_same, u2_row, u2_other, e1', e2', e3', e4', n1, n2, n3, n4, n5, hh, ht]; congr 1; simp [hsr, hbr, hsl, hei]; omega)
      | (simp (disch := first | assumption | omega) only [u2_ne])
  · have e1' : fi 62 c = nI 1 := e1
    have e2' : fi 63 c = nI 0 := e2
    have e3' : fi 64 c = nI 1 := e3
    have e4' : fi 65 c = nI 0 := e4
    simp (disch := first | assumption | rfl | exact zle_0 | exact zle_1 | exact zle_2 | exact zle_3 | exact zle_4 | exact zb_0 | exact zb_1 | exact zb01_B | omega) only [zT141_0, zr_iload_3, zT141_1, zr_if_eq, zT141_4, zr_ic_1, zT141_5, zr_goto, zT141_8, zr_ic_m1, zT141_9, zr_istore_4, zT141_11, zr_aload_0, zT141_12, zr_gf_21, zr_or, zr_go, zf_61_21, zT141_15, zr_iload_1, zT141_16, zr_bald, zT141_17, zT141_20, zT141_21, zr_gf_22, zf_61_22, zT141_24, zr_dup_r, zr_dup_i, zT141_25, zr_gf_40, zT141_28, zr_iload_4, zT141_30, zr_iadd, zT141_31, zr_pf_40, zT141_34, zT141_37, zT141_38, zT141_41, zr_iload_2, zT141_42, zT141_43, zr_gf_20, zf_61_20, zT141_46, zT141_47, zT141_48, zT141_50, zr_iv_167, zT141_53, zT141_54, zr_if_ne, zT141_57, zT141_58, zT141_61, zT141_62, zT141_63, zT141_66, zT141_67, zr_gf_18, zf_61_18, zT141_70, zT141_71, zT141_72, zr_bast, zT141_73, zT141_74, zT141_77, zT141_78, zT141_81, zT141_82, zT141_83, zT141_86, zT141_87, zr_gf_19, zf_61_19, zT141_90, zT141_91, zT141_92, zT141_93, zr_return, zT167_0, zT167_1, zT167_4, zT167_5, zT167_8, zT167_9, zT167_10, zr_gf_36, zT167_13, zT167_14, zT167_15, zr_pf_36, zT167_18, zT167_21, zT167_22, zT167_25, zT167_26, zT167_27, zr_gf_37, zT167_30, zT167_31, zT167_32, zr_pf_37, zT167_35, zT167_38, zT167_39, zT167_42, zT167_43, zT167_44, zr_gf_38, zT167_47, zT167_48, zT167_49, zr_pf_38, zT167_52, zT167_55, zT167_56, zT167_57, zr_gf_39, zT167_60, zT167_61, zT167_62, zr_pf_39, zT167_65, zcl_i, zcl_r, zcl_l, zcl_n, zv_some, zv_none, Nat.reduceAdd, Nat.reduceMul, Nat.reduceSub, Nat.reduceLT, Nat.reduceLeDiff, Nat.reduceEqDiff, Int.reduceToNat, true_implies, false_implies, implies_true, and_true, true_and, not_true_eq_false, not_false_eq_true, Nat.zero_add, Nat.add_zero, nI_add, nI_ltI, nI_leI, nI_eq, pk_mul, pk_sub, u2_same, u2_row, u2_other, e1', e2', e3', e4', n1, n2, n3, n4, n5, nI_addM, zt, zf]
    refine hQ _ (h.move hc ⟨?_, ?_, ?_, ?_⟩ (fun j hj => ⟨?_, ?_, ?_, ?_⟩) ⟨?_, ?_, ?_, ?_, ?_⟩) (fun j j1 j2 j3 => ?_)
    all_goals first
      | (simp (disch := first | assumption | omega) only [u2_same, u2_row, u2_other, e1', e2', e3', e4', n1, n2, n3, n4, n5, hh, ht]; done)
      | (simp (disch := first | assumption | omega) only [u2_same, u2_row, u2_other, e1', e2', e3', e4', n1, n2, n3, n4, n5, hh, ht]; rfl)
      | (simp (disch := first | assumption | omega) only [u2_same, u2_row, u2_other, e1', e2', e3', e4', n1, n2, n3, n4, n5, hh, ht]; congr 1; simp [hsr, hbr, hsl, hei]; done)
      | (simp (disch := first | assumption | omega) only [u2_same, u2_row, u2_other, e1', e2', e3', e4', n1, n2, n3, n4, n5, hh, ht]; congr 1; simp [hsr, hbr, hsl, hei]; omega)
      | (simp (disch := first | assumption | omega) only [u2_ne])
  · have e1' : fi 62 c = nI 0 := e1
    have e2' : fi 63 c = nI 0 := e2
    have e3' : fi 64 c = nI 0 := e3
    have e4' : fi 65 c = nI 1 := e4
    simp (disch := first | assumption | rfl | exact zle_0 | exact zle_1 | exact zle_2 | exact zle_3 | exact zle_4 | exact zb_0 | exact zb_1 | exact zb01_B | omega) only [zT141_0, zr_iload_3, zT141_1, zr_if_eq, zT141_4, zr_ic_1, zT141_5, zr_goto, zT141_8, zr_ic_m1, zT141_9, zr_istore_4, zT141_11, zr_aload_0, zT141_12, zr_gf_21, zr_or, zr_go, zf_61_21, zT141_15, zr_iload_1, zT141_16, zr_bald, zT141_17, zT141_20, zT141_21, zr_gf_22, zf_61_22, zT141_24, zr_dup_r, zr_dup_i, zT141_25, zr_gf_40, zT141_28, zr_iload_4, zT141_30, zr_iadd, zT141_31, zr_pf_40, zT141_34, zT141_37, zT141_38, zT141_41, zr_iload_2, zT141_42, zT141_43, zr_gf_20, zf_61_20, zT141_46, zT141_47, zT141_48, zT141_50, zr_iv_167, zT141_53, zT141_54, zr_if_ne, zT141_57, zT141_58, zT141_61, zT141_62, zT141_63, zT141_66, zT141_67, zr_gf_18, zf_61_18, zT141_70, zT141_71, zT141_72, zr_bast, zT141_73, zT141_74, zT141_77, zT141_78, zT141_81, zT141_82, zT141_83, zT141_86, zT141_87, zr_gf_19, zf_61_19, zT141_90, zT141_91, zT141_92, zT141_93, zr_return, zT167_0, zT167_1, zT167_4, zT167_5, zT167_8, zT167_9, zT167_10, zr_gf_36, zT167_13, zT167_14, zT167_15, zr_pf_36, zT167_18, zT167_21, zT167_22, zT167_25, zT167_26, zT167_27, zr_gf_37, zT167_30, zT167_31, zT167_32, zr_pf_37, zT167_35, zT167_38, zT167_39, zT167_42, zT167_43, zT167_44, zr_gf_38, zT167_47, zT167_48, zT167_49, zr_pf_38, zT167_52, zT167_55, zT167_56, zT167_57, zr_gf_39, zT167_60, zT167_61, zT167_62, zr_pf_39, zT167_65, zcl_i, zcl_r, zcl_l, zcl_n, zv_some, zv_none, Nat.reduceAdd, Nat.reduceMul, Nat.reduceSub, Nat.reduceLT, Nat.reduceLeDiff, Nat.reduceEqDiff, Int.reduceToNat, true_implies, false_implies, implies_true, and_true, true_and, not_true_eq_false, not_false_eq_true, Nat.zero_add, Nat.add_zero, nI_add, nI_ltI, nI_leI, nI_eq, pk_mul, pk_sub, u2_same, u2_row, u2_other, e1', e2', e3', e4', n1, n2, n3, n4, n5, nI_addM, zt, zf]
    refine hQ _ (h.move hc ⟨?_, ?_, ?_, ?_⟩ (fun j hj => ⟨?_, ?_, ?_, ?_⟩) ⟨?_, ?_, ?_, ?_, ?_⟩) (fun j j1 j2 j3 => ?_)
    all_goals first
      | (simp (disch := first | assumption | omega) only [u2_same, u2_row, u2_other, e1', e2', e3', e4', n1, n2, n3, n4, n5, hh, ht]; done)
      | (simp (disch := first | assumption | omega) only [u2_same, u2_row, u2_other, e1', e2', e3', e4', n1, n2, n3, n4, n5, hh, ht]; rfl)
      | (simp (disch := first | assumption | omega) only [u2_same, u2_row, u2_other, e1', e2', e3', e4', n1, n2, n3, n4, n5, hh, ht]; congr 1; simp [hsr, hbr, hsl, hei]; done)
      | (simp (disch := first | assumption | omega) only [u2_same, u2_row, u2_other, e1', e2', e3', e4', n1, n2, n3, n4, n5, hh, ht]; congr 1; simp [hsr, hbr, hsl, hei]; omega)
      | (simp (disch := first | assumption | omega) only [u2_ne])
end
