/-! the law, from its start -/
def f00 : Nat → Nat → Int32 := fun _ _ => 0
def eqo {α : Type} (f g : Nat → Nat → α) : Prop := ∀ j, j ≠ 0 → f j = g j
theorem eqo_0 {α : Type} {f g : Nat → Nat → α} {a : Nat} {x : α} (h : eqo f g) : eqo (u0 f a x) (u0 g a x) := fun j hj => by
  funext k
  unfold u0
  split
  · rfl
  · rw [h j hj]
theorem eqo_2 {α : Type} {f g : Nat → Nat → α} {a k : Nat} {x : α} (h : eqo f g) : eqo (u2 f a k x) (u2 g a k x) := fun j hj => by
  funext i
  unfold u2
  rw [h j hj]
theorem eqo_m {f : Nat → Nat → Int32} (h : eqo f f00) : eqo (zni (zmi f)) (zni (zmi f00)) := by
  unfold zni zmi
  repeat first
    | exact h
    | apply eqo_2
    | apply eqo_0
def ws00 : Nat → Nat → Nat := fun _ => a_none
def nn00 : Nat → Nat := fun j => if j = 7 then 1 else 0
def tx00 : Nat → Nat := fun _ => 0
section
variable {fi fi' : Nat → Nat → Int32} {fl fl' : Nat → Nat → Int64} {fr : Nat → Nat → Option Nat} {Q : Option Value → Mm → Prop} {w : Nat → Nat} {ws : Nat → Nat → Nat} {nn tx : Nat → Nat}
theorem z_XS.mid (h : z_XS fi ws nn tx) (hj : ∀ j, 18 ≤ j → fi' j = fi j) : z_XS fi' ws nn tx := by
  obtain ⟨hk, hc, hF, ht, hp⟩ := h
  refine ⟨hk.frame (fun j h => hj j (by omega)), ?_, hF.frame (fun j j1 j2 => hj j (by omega)), ht.frame (by rw [hj 84 (by omega)]) (hj 85 (by omega)), hp.frame (fun j j1 j2 => hj j (by omega))⟩
  unfold z_XC at *
  rw [hj 18 (by omega)]
  exact hc
theorem len_01 : a_len 0 = 0 ∧ a_len 1 = 1 := by decide +kernel
theorem none_n : (∀ c, ¬ c < a_none 0) ∧ (∀ d, d < 3 → a_sm a_none d = 0 ∧ a_gone a_none d = 0) ∧ ∀ i, ¬ i < a_none 58 := by
  refine ⟨fun c h => absurd h (Nat.not_lt_zero _), fun d hd => ?_, fun c h => absurd h (Nat.not_lt_zero _)⟩
  have : d = 0 ∨ d = 1 ∨ d = 2 := by omega
  rcases this with rfl | rfl | rfl <;> exact ⟨rfl, rfl⟩
theorem start_XS : z_XS (zni (zmi f00)) ws00 nn00 tx00 := by
  refine ⟨⟨⟨by decide +kernel, fun c hc => absurd hc (none_n.1 c), fun d hd => ?_, fun i hi => absurd hi (none_n.2.2 i)⟩, fun h => absurd h (by decide), fun h => absurd h (by decide), by decide +kernel, by decide +kernel⟩, by unfold z_XC; decide +kernel, ⟨⟨by decide +kernel, by decide, fun i hi => ?_⟩, ⟨by decide +kernel, by decide, fun i hi => ?_⟩⟩, ⟨by decide, by decide +kernel, fun i hi => absurd hi (Nat.not_lt_zero _)⟩, ⟨false, by decide +kernel, fun h => absurd h (by decide)⟩⟩
  · have e := (none_n.2.1 d hd).1
    have : d = 0 ∨ d = 1 ∨ d = 2 := by omega
    rcases this with rfl | rfl | rfl <;> exact ⟨by decide +kernel, by decide +kernel, fun s hs => absurd hs (by show ¬ s < a_sm a_none _; rw [e]; exact Nat.not_lt_zero _)⟩
  · rw [show nn00 6 = 0 from rfl, len_01.1] at hi
    exact absurd hi (Nat.not_lt_zero _)
  · rw [show nn00 7 = 1 from rfl, len_01.2] at hi
    obtain rfl : i = 0 := by omega
    decide +kernel
theorem start_MS : z_MS (zni (zmi f00)) (znl (zml fun _ _ => 0)) ws00 nn00 tx00 := by
  refine ⟨⟨by unfold z_MR; decide +kernel, fun h => absurd h (by decide), fun h => absurd h (by decide), by decide +kernel, by decide +kernel⟩, by unfold z_MC; decide +kernel, ⟨by decide, by decide +kernel, fun i hi => absurd hi (Nat.not_lt_zero _)⟩, ⟨by decide +kernel, by decide, fun i hi => ?_⟩, ⟨by decide +kernel, by decide, fun i hi => ?_⟩⟩
  · rw [show nn00 6 = 0 from rfl, len_01.1] at hi
    exact absurd hi (Nat.not_lt_zero _)
  · rw [show nn00 7 = 1 from rfl, len_01.2] at hi
    obtain rfl : i = 0 := by omega
    decide +kernel
theorem start_G : z_G ws00 nn00 := ⟨a_W_none, by decide, by decide, fun h => absurd h (by decide), fun h => absurd h (by decide), by decide⟩
theorem start_FR : z_FR (znr (zmr fun _ _ => none)) := by
  unfold z_FR
  decide +kernel
theorem zero_m {f : Nat → Nat → Int32} : zni (zmi f) 0 = f 0 := by
  have h0 : ∀ (F : Nat → Nat → Int32) a x, a ≠ 0 → u0 F a x 0 = F 0 := fun F a x h => by
    funext k
    unfold u0
    rw [if_neg (Ne.symm h)]
  have h2 : ∀ (F : Nat → Nat → Int32) a k x, a ≠ 0 → u2 F a k x 0 = F 0 := fun F a k x h => u2_ne (Ne.symm h)
  unfold zni zmi
  simp (disch := decide) only [h0, h2]
theorem law_runs {L : Nat} {xs : Nat → Int32} (hL : L ≤ 3072) : TT 0 0 [some (.ref 0), none, none, none] [] (z_M0 L xs) (fun r M' => r = some (.int 1) ∧ M'.1 ≤ 151) := by
  have eq0 : eqo (fun a j => if a = 0 then z_g L xs j else 0) f00 := fun j hj => by
    funext k
    show (if j = 0 then _ else _) = _
    rw [if_neg hj]
    rfl
  have e := eqo_m eq0
  have Lp := law_loop (Q := fun r M' => r = some (.int 1) ∧ M'.1 ≤ 151) (LL := L) (xs := xs) start_FR hL (fun f l => ⟨rfl, Nat.le_refl _⟩) 4000 0 (by omega) (by decide) (zni (zmi fun a j => if a = 0 then z_g L xs j else 0)) (znl (zml fun _ _ => 0)) ⟨ws00, nn00, tx00, start_XS.mid (fun j hj => e j (by omega)), start_MS.hi (fun j hj => e j (by omega)), start_G, by rw [zero_m]; rfl⟩
  have mX := fun (f : Nat → Nat → Int32) (l : Nat → Nat → Int64) (r : Nat → Nat → Option Nat) (Q : Option Value → Mm → Prop) (h : Q none (133, zmi f, zml l, zmr r)) => (⟨3000, none, _, z_madeX f l r, h⟩ : TT 83 0 [some (.ref 18), none] [] (19, u0 f 18 0, u0 l 18 0, u0 r 18 none) Q)
  have mM := fun (f : Nat → Nat → Int32) (l : Nat → Nat → Int64) (r : Nat → Nat → Option Nat) (Q : Option Value → Mm → Prop) (h : Q none (151, zni f, znl l, znr r)) => (⟨3000, none, _, z_madeM f l r, h⟩ : TT 1 0 [some (.ref 133)] [] (134, u0 f 133 0, u0 l 133 0, u0 r 133 none) Q)
  unfold z_M0
  rw [zT0_0]
  show TT 0 3 [some (.ref 0), none, none, none] [.ref 18] (19, u0 _ 18 0, u0 _ 18 0, u0 _ 18 none) _
  simp (disch := first | assumption | rfl | exact zle_0 | exact zle_1 | exact zle_2 | exact zle_3 | exact zle_4 | exact zb_0 | exact zb_1 | exact zb01_B | omega) only [zT0_3, zr_dup_r, zr_dup_i, zT0_4, zr_iv_83, zcl_i, zcl_r, zcl_l, zcl_n, zv_some, zv_none, Nat.reduceAdd, Nat.reduceMul, Nat.reduceSub, Nat.reduceLT, Nat.reduceLeDiff, Nat.reduceEqDiff, Int.reduceToNat, true_implies, false_implies, implies_true, and_true, true_and, not_true_eq_false, not_false_eq_true, Nat.zero_add, Nat.add_zero, nI_add, nI_ltI, nI_leI, nI_eq, pk_mul, pk_sub, u2_same, u2_row, u2_other, olt_T, olt_F, ole_T, ole_F, oeq_T, oeq_F]
  refine mX _ _ _ _ ?_
  show TT 0 7 [some (.ref 0), none, none, none] [.ref 18] (133, _, _, _) _
  simp (disch := first | assumption | rfl | exact zle_0 | exact zle_1 | exact zle_2 | exact zle_3 | exact zle_4 | exact zb_0 | exact zb_1 | exact zb01_B | omega) only [zT0_7, zr_astore_1, zcl_i, zcl_r, zcl_l, zcl_n, zv_some, zv_none, Nat.reduceAdd, Nat.reduceMul, Nat.reduceSub, Nat.reduceLT, Nat.reduceLeDiff, Nat.reduceEqDiff, Int.reduceToNat, true_implies, false_implies, implies_true, and_true, true_and, not_true_eq_false, not_false_eq_true, Nat.zero_add, Nat.add_zero, nI_add, nI_ltI, nI_leI, nI_eq, pk_mul, pk_sub, u2_same, u2_row, u2_other, olt_T, olt_F, ole_T, ole_F, oeq_T, oeq_F]
  rw [zT0_8]
  show TT 0 11 _ _ (134, u0 _ 133 0, u0 _ 133 0, u0 _ 133 none) _
  simp (disch := first | assumption | rfl | exact zle_0 | exact zle_1 | exact zle_2 | exact zle_3 | exact zle_4 | exact zb_0 | exact zb_1 | exact zb01_B | omega) only [zT0_11, zr_dup_r, zr_dup_i, zT0_12, zr_iv_1, zcl_i, zcl_r, zcl_l, zcl_n, zv_some, zv_none, Nat.reduceAdd, Nat.reduceMul, Nat.reduceSub, Nat.reduceLT, Nat.reduceLeDiff, Nat.reduceEqDiff, Int.reduceToNat, true_implies, false_implies, implies_true, and_true, true_and, not_true_eq_false, not_false_eq_true, Nat.zero_add, Nat.add_zero, nI_add, nI_ltI, nI_leI, nI_eq, pk_mul, pk_sub, u2_same, u2_row, u2_other, olt_T, olt_F, ole_T, ole_F, oeq_T, oeq_F]
  refine mM _ _ _ _ ?_
  show TT 0 15 [some (.ref 0), some (.ref 18), none, none] [.ref 133] (151, _, _, _) _
  simp (disch := first | assumption | rfl | exact zle_0 | exact zle_1 | exact zle_2 | exact zle_3 | exact zle_4 | exact zb_0 | exact zb_1 | exact zb01_B | omega) only [zT0_15, zr_astore_2, zT0_16, zr_ic_0, zT0_17, zr_istore_3, zcl_i, zcl_r, zcl_l, zcl_n, zv_some, zv_none, Nat.reduceAdd, Nat.reduceMul, Nat.reduceSub, Nat.reduceLT, Nat.reduceLeDiff, Nat.reduceEqDiff, Int.reduceToNat, true_implies, false_implies, implies_true, and_true, true_and, not_true_eq_false, not_false_eq_true, Nat.zero_add, Nat.add_zero, nI_add, nI_ltI, nI_leI, nI_eq, pk_mul, pk_sub, u2_same, u2_row, u2_other, olt_T, olt_F, ole_T, ole_F, oeq_T, oeq_F]
  exact Lp
end
