/-! the model's words -/
theorem u2_u2 {α : Type} {f : Nat → Nat → α} {a k : Nat} {x y : α} : u2 (u2 f a k x) a k y = u2 f a k y := by
  funext b j
  by_cases h1 : b = a
  · subst h1
    by_cases h2 : j = k
    · subst h2; rw [u2_same, u2_same]
    · rw [u2_row h2, u2_row h2, u2_row h2]
  · rw [u2_other h1, u2_other h1, u2_other h1]
theorem u2_self {α : Type} {f : Nat → Nat → α} {a k : Nat} {x : α} (h : f a k = x) : u2 f a k x = f := by
  funext b j
  by_cases h1 : b = a
  · subst h1
    by_cases h2 : j = k
    · subst h2; rw [u2_same, h]
    · rw [u2_row h2]
  · rw [u2_other h1]
/-- letters as figures, the first k from p on -/
def a_le (tx : Nat → Nat) (p : Nat) : Nat → Nat
  | 0 => 0
  | k + 1 => 32 * a_le tx p k + tx (p + k) - 96
theorem a_le_lt {tx : Nat → Nat} {p : Nat} : ∀ k, (∀ j, j < k → 97 ≤ tx (p + j) ∧ tx (p + j) ≤ 122) → a_le tx p k < 32 ^ k
  | 0, _ => (by decide : 0 < 1)
  | k + 1, h => by
    have ih := a_le_lt (tx := tx) (p := p) k (fun j hj => h j (by omega))
    have := h k (by omega)
    unfold a_le
    rw [Nat.pow_succ]
    omega
theorem isw4 {tx : Nat → Nat} {p e a c0 c1 c2 c3 : Nat} (hl : wlen a = 4) (h0 : wch a 0 = c0) (h1 : wch a 1 = c1) (h2 : wch a 2 = c2) (h3 : wch a 3 = c3) : (isw tx p e a = true) ↔ (e = p + 4 ∧ tx p = c0 ∧ tx (p + 1) = c1 ∧ tx (p + 2) = c2 ∧ tx (p + 3) = c3) := by
  unfold isw
  rw [hl, Bool.and_eq_true_iff, decide_eq_true_iff]
  simp only [sp_eq, h0, h1, h2, h3, Nat.add_zero, Nat.zero_add, Nat.reduceAdd]
  constructor
  · rintro ⟨q, h⟩
    refine ⟨q, ?_⟩
    repeat' split at h
    all_goals first | exact absurd h (by decide) | (refine ⟨?_, ?_, ?_, ?_⟩ <;> assumption)
  · rintro ⟨q, q0, q1, q2, q3⟩
    refine ⟨q, ?_⟩
    rw [if_pos q0, if_pos q1, if_pos q2, if_pos q3]
theorem isw6 {tx : Nat → Nat} {p e a c0 c1 c2 c3 c4 c5 : Nat} (hl : wlen a = 6) (h0 : wch a 0 = c0) (h1 : wch a 1 = c1) (h2 : wch a 2 = c2) (h3 : wch a 3 = c3) (h4 : wch a 4 = c4) (h5 : wch a 5 = c5) : (isw tx p e a = true) ↔ (e = p + 6 ∧ tx p = c0 ∧ tx (p + 1) = c1 ∧ tx (p + 2) = c2 ∧ tx (p + 3) = c3 ∧ tx (p + 4) = c4 ∧ tx (p + 5) = c5) := by
  unfold isw
  rw [hl, Bool.and_eq_true_iff, decide_eq_true_iff]
  simp only [sp_eq, h0, h1, h2, h3, h4, h5, Nat.add_zero, Nat.zero_add, Nat.reduceAdd]
  constructor
  · rintro ⟨q, h⟩
    refine ⟨q, ?_⟩
    repeat' split at h
    all_goals first | exact absurd h (by decide) | (refine ⟨?_, ?_, ?_, ?_, ?_, ?_⟩ <;> assumption)
  · rintro ⟨q, q0, q1, q2, q3, q4, q5⟩
    refine ⟨q, ?_⟩
    rw [if_pos q0, if_pos q1, if_pos q2, if_pos q3, if_pos q4, if_pos q5]
/-- what the letters come to, by how many there are -/
theorem a_le_cases {tx : Nat → Nat} {p e : Nat} (hpe : p ≤ e) (h : ∀ j, p ≤ j → j < e → 97 ≤ tx j ∧ tx j ≤ 122) {v : Nat} (hv : v = a_le tx p (min (e - p) 7)) :
    (v < 32768 ∧ e < p + 4) ∨ (e = p + 4 ∧ v = 32768 * (tx p - 96) + 1024 * (tx (p + 1) - 96) + 32 * (tx (p + 2) - 96) + (tx (p + 3) - 96) ∧ (97 ≤ tx p ∧ tx p ≤ 122) ∧ (97 ≤ tx (p + 1) ∧ tx (p + 1) ≤ 122) ∧ (97 ≤ tx (p + 2) ∧ tx (p + 2) ≤ 122) ∧ (97 ≤ tx (p + 3) ∧ tx (p + 3) ≤ 122)) ∨
    (e = p + 5 ∧ 1048576 ≤ v ∧ v < 33554432) ∨ (e = p + 6 ∧ v = 33554432 * (tx p - 96) + 1048576 * (tx (p + 1) - 96) + 32768 * (tx (p + 2) - 96) + 1024 * (tx (p + 3) - 96) + 32 * (tx (p + 4) - 96) + (tx (p + 5) - 96) ∧ (97 ≤ tx p ∧ tx p ≤ 122) ∧ (97 ≤ tx (p + 1) ∧ tx (p + 1) ≤ 122) ∧ (97 ≤ tx (p + 2) ∧ tx (p + 2) ≤ 122) ∧ (97 ≤ tx (p + 3) ∧ tx (p + 3) ≤ 122) ∧ (97 ≤ tx (p + 4) ∧ tx (p + 4) ≤ 122) ∧ (97 ≤ tx (p + 5) ∧ tx (p + 5) ≤ 122)) ∨
    (p + 7 ≤ e ∧ 1073741824 ≤ v) := by
  have b : ∀ j, j < e - p → 97 ≤ tx (p + j) ∧ tx (p + j) ≤ 122 := fun j hj => h (p + j) (by omega) (by omega)
  have c : e - p = 0 ∨ e - p = 1 ∨ e - p = 2 ∨ e - p = 3 ∨ e - p = 4 ∨ e - p = 5 ∨ e - p = 6 ∨ 7 ≤ e - p := by omega
  rcases c with c | c | c | c | c | c | c | c
  · rw [c] at hv
    have : v = 0 := hv
    exact Or.inl ⟨by omega, by omega⟩
  · rw [c] at hv
    have b0 := b 0 (by omega)
    have : v = 32 * 0 + tx (p + 0) - 96 := hv
    exact Or.inl ⟨by omega, by omega⟩
  · rw [c] at hv
    have b0 := b 0 (by omega)
    have b1 := b 1 (by omega)
    have : v = 32 * (32 * 0 + tx (p + 0) - 96) + tx (p + 1) - 96 := hv
    exact Or.inl ⟨by omega, by omega⟩
  · rw [c] at hv
    have b0 := b 0 (by omega)
    have b1 := b 1 (by omega)
    have b2 := b 2 (by omega)
    have : v = 32 * (32 * (32 * 0 + tx (p + 0) - 96) + tx (p + 1) - 96) + tx (p + 2) - 96 := hv
    exact Or.inl ⟨by omega, by omega⟩
  · rw [c] at hv
    have b0 := b 0 (by omega)
    have b1 := b 1 (by omega)
    have b2 := b 2 (by omega)
    have b3 := b 3 (by omega)
    have : v = 32 * (32 * (32 * (32 * 0 + tx (p + 0) - 96) + tx (p + 1) - 96) + tx (p + 2) - 96) + tx (p + 3) - 96 := hv
    rw [Nat.add_zero] at b0 this
    exact Or.inr (Or.inl ⟨by omega, by omega, b0, b1, b2, b3⟩)
  · rw [c] at hv
    have b0 := b 0 (by omega)
    have b1 := b 1 (by omega)
    have b2 := b 2 (by omega)
    have b3 := b 3 (by omega)
    have b4 := b 4 (by omega)
    have : v = 32 * (32 * (32 * (32 * (32 * 0 + tx (p + 0) - 96) + tx (p + 1) - 96) + tx (p + 2) - 96) + tx (p + 3) - 96) + tx (p + 4) - 96 := hv
    rw [Nat.add_zero] at b0 this
    exact Or.inr (Or.inr (Or.inl ⟨by omega, by omega, by omega⟩))
  · rw [c] at hv
    have b0 := b 0 (by omega)
    have b1 := b 1 (by omega)
    have b2 := b 2 (by omega)
    have b3 := b 3 (by omega)
    have b4 := b 4 (by omega)
    have b5 := b 5 (by omega)
    have : v = 32 * (32 * (32 * (32 * (32 * (32 * 0 + tx (p + 0) - 96) + tx (p + 1) - 96) + tx (p + 2) - 96) + tx (p + 3) - 96) + tx (p + 4) - 96) + tx (p + 5) - 96 := hv
    rw [Nat.add_zero] at b0 this
    exact Or.inr (Or.inr (Or.inr (Or.inl ⟨by omega, by omega, b0, b1, b2, b3, b4, b5⟩)))
  · rw [Nat.min_eq_right c] at hv
    have b0 := b 0 (by omega)
    have b1 := b 1 (by omega)
    have b2 := b 2 (by omega)
    have b3 := b 3 (by omega)
    have b4 := b 4 (by omega)
    have b5 := b 5 (by omega)
    have b6 := b 6 (by omega)
    have : v = 32 * (32 * (32 * (32 * (32 * (32 * (32 * 0 + tx (p + 0) - 96) + tx (p + 1) - 96) + tx (p + 2) - 96) + tx (p + 3) - 96) + tx (p + 4) - 96) + tx (p + 5) - 96) + tx (p + 6) - 96 := hv
    rw [Nat.add_zero] at b0 this
    exact Or.inr (Or.inr (Or.inr (Or.inr ⟨by omega, by omega⟩)))
theorem wd_letters {tx : Nat → Nat} {p e : Nat} (hpe : p ≤ e) (h : ∀ j, p ≤ j → j < e → 97 ≤ tx j ∧ tx j ≤ 122) {v : Nat} (hv : v = a_le tx p (min (e - p) 7)) :
    wd_ tx p e = if v = 114155 then 0 else if v = 140904 then 1 else if v = 643248 then 2 else if v = 384096435 then 3 else if v = 659105125 then 4 else 5 := by
  have c := a_le_cases hpe h hv
  have w7 := isw4 (tx := tx) (p := p) (e := e) (a := 7) (c0 := 99) (c1 := 111) (c2 := 111) (c3 := 107) rfl rfl rfl rfl rfl
  have w8 := isw4 (tx := tx) (p := p) (e := e) (a := 8) (c0 := 100) (c1 := 105) (c2 := 115) (c3 := 104) rfl rfl rfl rfl rfl
  have w9 := isw4 (tx := tx) (p := p) (e := e) (a := 9) (c0 := 115) (c1 := 116) (c2 := 101) (c3 := 112) rfl rfl rfl rfl rfl
  have w10 := isw6 (tx := tx) (p := p) (e := e) (a := 10) (c0 := 107) (c1 := 110) (c2 := 105) (c3 := 118) (c4 := 101) (c5 := 115) rfl rfl rfl rfl rfl rfl rfl
  have w11 := isw6 (tx := tx) (p := p) (e := e) (a := 11) (c0 := 115) (c1 := 116) (c2 := 114) (c3 := 105) (c4 := 107) (c5 := 101) rfl rfl rfl rfl rfl rfl rfl
  clear hv h
  have i7 : (isw tx p e 7 = true) ↔ v = 114155 := by
    rw [w7]
    rcases c with ⟨c1, c2⟩ | ⟨c1, c2, b0, b1, b2, b3⟩ | ⟨c1, c2, c3⟩ | ⟨c1, c2, b0, b1, b2, b3, b4, b5⟩ | ⟨c1, c2⟩
    · exact ⟨fun q => by omega, fun q => by omega⟩
    · refine ⟨fun ⟨_, q0, q1, q2, q3⟩ => by rw [q0, q1, q2, q3] at c2; exact c2, fun q => ?_⟩
      have q0 : tx p = 99 := by omega
      have q1 : tx (p + 1) = 111 := by omega
      have q2 : tx (p + 2) = 111 := by omega
      exact ⟨c1, q0, q1, q2, by omega⟩
    · exact ⟨fun q => by omega, fun q => by omega⟩
    · exact ⟨fun q => by omega, fun q => by omega⟩
    · exact ⟨fun q => by omega, fun q => by omega⟩
  have i8 : (isw tx p e 8 = true) ↔ v = 140904 := by
    rw [w8]
    rcases c with ⟨c1, c2⟩ | ⟨c1, c2, b0, b1, b2, b3⟩ | ⟨c1, c2, c3⟩ | ⟨c1, c2, b0, b1, b2, b3, b4, b5⟩ | ⟨c1, c2⟩
    · exact ⟨fun q => by omega, fun q => by omega⟩
    · refine ⟨fun ⟨_, q0, q1, q2, q3⟩ => by rw [q0, q1, q2, q3] at c2; exact c2, fun q => ?_⟩
      have q0 : tx p = 100 := by omega
      have q1 : tx (p + 1) = 105 := by omega
      have q2 : tx (p + 2) = 115 := by omega
      exact ⟨c1, q0, q1, q2, by omega⟩
    · exact ⟨fun q => by omega, fun q => by omega⟩
    · exact ⟨fun q => by omega, fun q => by omega⟩
    · exact ⟨fun q => by omega, fun q => by omega⟩
  have i9 : (isw tx p e 9 = true) ↔ v = 643248 := by
    rw [w9]
    rcases c with ⟨c1, c2⟩ | ⟨c1, c2, b0, b1, b2, b3⟩ | ⟨c1, c2, c3⟩ | ⟨c1, c2, b0, b1, b2, b3, b4, b5⟩ | ⟨c1, c2⟩
    · exact ⟨fun q => by omega, fun q => by omega⟩
    · refine ⟨fun ⟨_, q0, q1, q2, q3⟩ => by rw [q0, q1, q2, q3] at c2; exact c2, fun q => ?_⟩
      have q0 : tx p = 115 := by omega
      have q1 : tx (p + 1) = 116 := by omega
      have q2 : tx (p + 2) = 101 := by omega
      exact ⟨c1, q0, q1, q2, by omega⟩
    · exact ⟨fun q => by omega, fun q => by omega⟩
    · exact ⟨fun q => by omega, fun q => by omega⟩
    · exact ⟨fun q => by omega, fun q => by omega⟩
  have i10 : (isw tx p e 10 = true) ↔ v = 384096435 := by
    rw [w10]
    rcases c with ⟨c1, c2⟩ | ⟨c1, c2, b0, b1, b2, b3⟩ | ⟨c1, c2, c3⟩ | ⟨c1, c2, b0, b1, b2, b3, b4, b5⟩ | ⟨c1, c2⟩
    · exact ⟨fun q => by omega, fun q => by omega⟩
    · exact ⟨fun q => by omega, fun q => by omega⟩
    · exact ⟨fun q => by omega, fun q => by omega⟩
    · refine ⟨fun ⟨_, q0, q1, q2, q3, q4, q5⟩ => by rw [q0, q1, q2, q3, q4, q5] at c2; exact c2, fun q => ?_⟩
      have q0 : tx p = 107 := by omega
      have q1 : tx (p + 1) = 110 := by omega
      have q2 : tx (p + 2) = 105 := by omega
      have q3 : tx (p + 3) = 118 := by omega
      have q4 : tx (p + 4) = 101 := by omega
      exact ⟨c1, q0, q1, q2, q3, q4, by omega⟩
    · exact ⟨fun q => by omega, fun q => by omega⟩
  have i11 : (isw tx p e 11 = true) ↔ v = 659105125 := by
    rw [w11]
    rcases c with ⟨c1, c2⟩ | ⟨c1, c2, b0, b1, b2, b3⟩ | ⟨c1, c2, c3⟩ | ⟨c1, c2, b0, b1, b2, b3, b4, b5⟩ | ⟨c1, c2⟩
    · exact ⟨fun q => by omega, fun q => by omega⟩
    · exact ⟨fun q => by omega, fun q => by omega⟩
    · exact ⟨fun q => by omega, fun q => by omega⟩
    · refine ⟨fun ⟨_, q0, q1, q2, q3, q4, q5⟩ => by rw [q0, q1, q2, q3, q4, q5] at c2; exact c2, fun q => ?_⟩
      have q0 : tx p = 115 := by omega
      have q1 : tx (p + 1) = 116 := by omega
      have q2 : tx (p + 2) = 114 := by omega
      have q3 : tx (p + 3) = 105 := by omega
      have q4 : tx (p + 4) = 107 := by omega
      exact ⟨c1, q0, q1, q2, q3, q4, by omega⟩
    · exact ⟨fun q => by omega, fun q => by omega⟩
  unfold wd_
  simp only [i7, i8, i9, i10, i11]
section
variable {fi fi' : Nat → Nat → Int32} {fl fl' : Nat → Nat → Int64} {fr : Nat → Nat → Option Nat} {Q : Option Value → Mm → Prop} {w : Nat → Nat} {k : Nat} {M : Mm} {ws : Nat → Nat → Nat} {tx : Nat → Nat} {n : Nat}
theorem lg_ce {a b : Nat} (ha : a < 2 ^ 63) (hb : b < 2 ^ 63) : (lg_cmp (lN a) (lN b) = nI 0) = (a = b) := by
  rw [lg_cmpN ha hb]
  by_cases c : b < a
  · rw [if_pos c]; exact propext ⟨fun h => absurd h (by decide), fun h => by omega⟩
  · rw [if_neg c]
    by_cases e : a = b
    · rw [if_pos e]; exact propext ⟨fun _ => e, fun _ => rfl⟩
    · rw [if_neg e]; exact propext ⟨fun h => absurd h (by decide), fun h => absurd h e⟩
def a_wI (x : Nat) : Int32 := if x = 5 then nM 1 else nI x
theorem sm_wordOf {v : Nat} (hv : v < 2 ^ 63) : TT 29 0 [some (.long (lN v)), none] [] M Q = Q (some (.int (a_wI (if v = 114155 then 0 else if v = 140904 then 1 else if v = 643248 then 2 else if v = 384096435 then 3 else if v = 659105125 then 4 else 5)))) M := by
  refine T_exact (fun Q hQ => ?_) Q
  obtain ⟨nx, fi, fl, fr⟩ := M
  have e1 := lg_ce hv (show 114155 < 2 ^ 63 by decide)
  have e2 := lg_ce hv (show 140904 < 2 ^ 63 by decide)
  have e3 := lg_ce hv (show 643248 < 2 ^ 63 by decide)
  have e4 := lg_ce hv (show 384096435 < 2 ^ 63 by decide)
  have e5 := lg_ce hv (show 659105125 < 2 ^ 63 by decide)
  by_cases c1 : v = 114155
  · rw [if_pos c1] at hQ
    simp (disch := first | assumption | rfl | exact zle_0 | exact zle_1 | exact zle_2 | exact zle_3 | exact zle_4 | exact zb_0 | exact zb_1 | exact zb01_B | omega) only [zT29_0, zr_lload_0, zT29_1, zr_ldc2, zT29_4, zr_lcmp, zT29_5, zr_if_ne, zT29_8, zr_ic_0, zT29_9, zr_goto, zT29_12, zT29_13, zT29_16, zT29_17, zT29_20, zr_ic_1, zT29_21, zT29_24, zT29_25, zT29_28, zT29_29, zT29_32, zr_ic_2, zT29_33, zT29_36, zT29_37, zT29_40, zT29_41, zT29_44, zr_ic_3, zT29_45, zT29_48, zT29_49, zT29_52, zT29_53, zT29_56, zr_ic_4, zT29_57, zT29_60, zr_ic_m1, zT29_61, zr_ret0, zcl_i, zcl_r, zcl_l, zcl_n, zv_some, zv_none, Nat.reduceAdd, Nat.reduceMul, Nat.reduceSub, Nat.reduceLT, Nat.reduceLeDiff, Nat.reduceEqDiff, Int.reduceToNat, true_implies, false_implies, implies_true, and_true, true_and, not_true_eq_false, not_false_eq_true, Nat.zero_add, Nat.add_zero, nI_add, nI_ltI, nI_leI, nI_eq, pk_mul, pk_sub, u2_same, u2_row, u2_other, e1, olt_T, olt_F, ole_T, ole_F, oeq_T, oeq_F]
    exact hQ
  · rw [if_neg c1] at hQ
    by_cases c2 : v = 140904
    · rw [if_pos c2] at hQ
      simp (disch := first | assumption | rfl | exact zle_0 | exact zle_1 | exact zle_2 | exact zle_3 | exact zle_4 | exact zb_0 | exact zb_1 | exact zb01_B | omega) only [zT29_0, zr_lload_0, zT29_1, zr_ldc2, zT29_4, zr_lcmp, zT29_5, zr_if_ne, zT29_8, zr_ic_0, zT29_9, zr_goto, zT29_12, zT29_13, zT29_16, zT29_17, zT29_20, zr_ic_1, zT29_21, zT29_24, zT29_25, zT29_28, zT29_29, zT29_32, zr_ic_2, zT29_33, zT29_36, zT29_37, zT29_40, zT29_41, zT29_44, zr_ic_3, zT29_45, zT29_48, zT29_49, zT29_52, zT29_53, zT29_56, zr_ic_4, zT29_57, zT29_60, zr_ic_m1, zT29_61, zr_ret0, zcl_i, zcl_r, zcl_l, zcl_n, zv_some, zv_none, Nat.reduceAdd, Nat.reduceMul, Nat.reduceSub, Nat.reduceLT, Nat.reduceLeDiff, Nat.reduceEqDiff, Int.reduceToNat, true_implies, false_implies, implies_true, and_true, true_and, not_true_eq_false, not_false_eq_true, Nat.zero_add, Nat.add_zero, nI_add, nI_ltI, nI_leI, nI_eq, pk_mul, pk_sub, u2_same, u2_row, u2_other, e1, e2, olt_T, olt_F, ole_T, ole_F, oeq_T, oeq_F]
      exact hQ
    · rw [if_neg c2] at hQ
      by_cases c3 : v = 643248
      · rw [if_pos c3] at hQ
        simp (disch := first | assumption | rfl | exact zle_0 | exact zle_1 | exact zle_2 | exact zle_3 | exact zle_4 | exact zb_0 | exact zb_1 | exact zb01_B | omega) only [zT29_0, zr_lload_0, zT29_1, zr_ldc2, zT29_4, zr_lcmp, zT29_5, zr_if_ne, zT29_8, zr_ic_0, zT29_9, zr_goto, zT29_12, zT29_13, zT29_16, zT29_17, zT29_20, zr_ic_1, zT29_21, zT29_24, zT29_25, zT29_28, zT29_29, zT29_32, zr_ic_2, zT29_33, zT29_36, zT29_37, zT29_40, zT29_41, zT29_44, zr_ic_3, zT29_45, zT29_48, zT29_49, zT29_52, zT29_53, zT29_56, zr_ic_4, zT29_57, zT29_60, zr_ic_m1, zT29_61, zr_ret0, zcl_i, zcl_r, zcl_l, zcl_n, zv_some, zv_none, Nat.reduceAdd, Nat.reduceMul, Nat.reduceSub, Nat.reduceLT, Nat.reduceLeDiff, Nat.reduceEqDiff, Int.reduceToNat, true_implies, false_implies, implies_true, and_true, true_and, not_true_eq_false, not_false_eq_true, Nat.zero_add, Nat.add_zero, nI_add, nI_ltI, nI_leI, nI_eq, pk_mul, pk_sub, u2_same, u2_row, u2_other, e1, e2, e3, olt_T, olt_F, ole_T, ole_F, oeq_T, oeq_F]
        exact hQ
      · rw [if_neg c3] at hQ
        by_cases c4 : v = 384096435
        · rw [if_pos c4] at hQ
          simp (disch := first | assumption | rfl | exact zle_0 | exact zle_1 | exact zle_2 | exact zle_3 | exact zle_4 | exact zb_0 | exact zb_1 | exact zb01_B | omega) only [zT29_0, zr_lload_0, zT29_1, zr_ldc2, zT29_4, zr_lcmp, zT29_5, zr_if_ne, zT29_8, zr_ic_0, zT29_9, zr_goto, zT29_12, zT29_13, zT29_16, zT29_17, zT29_20, zr_ic_1, zT29_21, zT29_24, zT29_25, zT29_28, zT29_29, zT29_32, zr_ic_2, zT29_33, zT29_36, zT29_37, zT29_40, zT29_41, zT29_44, zr_ic_3, zT29_45, zT29_48, zT29_49, zT29_52, zT29_53, zT29_56, zr_ic_4, zT29_57, zT29_60, zr_ic_m1, zT29_61, zr_ret0, zcl_i, zcl_r, zcl_l, zcl_n, zv_some, zv_none, Nat.reduceAdd, Nat.reduceMul, Nat.reduceSub, Nat.reduceLT, Nat.reduceLeDiff, Nat.reduceEqDiff, Int.reduceToNat, true_implies, false_implies, implies_true, and_true, true_and, not_true_eq_false, not_false_eq_true, Nat.zero_add, Nat.add_zero, nI_add, nI_ltI, nI_leI, nI_eq, pk_mul, pk_sub, u2_same, u2_row, u2_other, e1, e2, e3, e4, olt_T, olt_F, ole_T, ole_F, oeq_T, oeq_F]
          exact hQ
        · rw [if_neg c4] at hQ
          by_cases c5 : v = 659105125
          · rw [if_pos c5] at hQ
            simp (disch := first | assumption | rfl | exact zle_0 | exact zle_1 | exact zle_2 | exact zle_3 | exact zle_4 | exact zb_0 | exact zb_1 | exact zb01_B | omega) only [zT29_0, zr_lload_0, zT29_1, zr_ldc2, zT29_4, zr_lcmp, zT29_5, zr_if_ne, zT29_8, zr_ic_0, zT29_9, zr_goto, zT29_12, zT29_13, zT29_16, zT29_17, zT29_20, zr_ic_1, zT29_21, zT29_24, zT29_25, zT29_28, zT29_29, zT29_32, zr_ic_2, zT29_33, zT29_36, zT29_37, zT29_40, zT29_41, zT29_44, zr_ic_3, zT29_45, zT29_48, zT29_49, zT29_52, zT29_53, zT29_56, zr_ic_4, zT29_57, zT29_60, zr_ic_m1, zT29_61, zr_ret0, zcl_i, zcl_r, zcl_l, zcl_n, zv_some, zv_none, Nat.reduceAdd, Nat.reduceMul, Nat.reduceSub, Nat.reduceLT, Nat.reduceLeDiff, Nat.reduceEqDiff, Int.reduceToNat, true_implies, false_implies, implies_true, and_true, true_and, not_true_eq_false, not_false_eq_true, Nat.zero_add, Nat.add_zero, nI_add, nI_ltI, nI_leI, nI_eq, pk_mul, pk_sub, u2_same, u2_row, u2_other, e1, e2, e3, e4, e5, olt_T, olt_F, ole_T, ole_F, oeq_T, oeq_F]
            exact hQ
          · rw [if_neg c5] at hQ
            simp (disch := first | assumption | rfl | exact zle_0 | exact zle_1 | exact zle_2 | exact zle_3 | exact zle_4 | exact zb_0 | exact zb_1 | exact zb01_B | omega) only [zT29_0, zr_lload_0, zT29_1, zr_ldc2, zT29_4, zr_lcmp, zT29_5, zr_if_ne, zT29_8, zr_ic_0, zT29_9, zr_goto, zT29_12, zT29_13, zT29_16, zT29_17, zT29_20, zr_ic_1, zT29_21, zT29_24, zT29_25, zT29_28, zT29_29, zT29_32, zr_ic_2, zT29_33, zT29_36, zT29_37, zT29_40, zT29_41, zT29_44, zr_ic_3, zT29_45, zT29_48, zT29_49, zT29_52, zT29_53, zT29_56, zr_ic_4, zT29_57, zT29_60, zr_ic_m1, zT29_61, zr_ret0, zcl_i, zcl_r, zcl_l, zcl_n, zv_some, zv_none, Nat.reduceAdd, Nat.reduceMul, Nat.reduceSub, Nat.reduceLT, Nat.reduceLeDiff, Nat.reduceEqDiff, Int.reduceToNat, true_implies, false_implies, implies_true, and_true, true_and, not_true_eq_false, not_false_eq_true, Nat.zero_add, Nat.add_zero, nI_add, nI_ltI, nI_leI, nI_eq, pk_mul, pk_sub, u2_same, u2_row, u2_other, e1, e2, e3, e4, e5, olt_T, olt_F, ole_T, ole_F, oeq_T, oeq_F]
            exact hQ
theorem z_MT.frame (h : z_MT fi tx n) (h1 : fi' 133 74 = fi 133 74) (h2 : fi' 136 = fi 136) : z_MT fi' tx n := by
  unfold z_MT at *
  rw [h1, h2]
  exact h
theorem sm_isEnd (hf : z_FR fr) : ∀ m p, n - p = m → p ≤ n → ∀ fi : Nat → Nat → Int32, z_MT fi tx n → fi 133 79 = nI p → ∀ Q, TT 28 0 [some (.ref 133)] [] (151, fi, fl, fr) Q = Q (some (.int (zB (decide (sk tx n p = n))))) (151, u2 fi 133 79 (nI (sk tx n p)), fl, fr) := by
  have o133 : z_ok 151 133 20 = true := rfl; have o136 : z_ok 151 136 1 = true := rfl
  have l136 : z_al 136 = 200 := rfl
  have zt : nI 1 = zB true := rfl
  have zf : nI 0 = zB false := rfl
  intro m
  induction m with
  | zero =>
    intro p hp hpn fi ht hat Q
    obtain rfl : p = n := by omega
    have h200 := ht.1
    have ln := ht.2.1
    have e : sk tx p p = p := ren_end (by omega)
    rw [e, u2_self hat, decide_eq_true rfl]
    simp (disch := first | assumption | rfl | exact zle_0 | exact zle_1 | exact zle_2 | exact zle_3 | exact zle_4 | exact zb_0 | exact zb_1 | exact zb01_B | omega) only [zT28_0, zr_aload_0, zT28_1, zr_gf_79, zT28_4, zT28_5, zr_gf_74, zT28_8, zr_icmp_ge, zT28_38, zT28_39, zT28_42, zT28_43, zT28_46, zr_icmp_ne, zT28_49, zr_ic_1, zT28_50, zr_goto, zT28_53, zr_ic_0, zT28_54, zr_ret1_0, zr_ret1_1, zr_ret1_B, zcl_i, zcl_r, zcl_l, zcl_n, zv_some, zv_none, Nat.reduceAdd, Nat.reduceMul, Nat.reduceSub, Nat.reduceLT, Nat.reduceLeDiff, Nat.reduceEqDiff, Int.reduceToNat, true_implies, false_implies, implies_true, and_true, true_and, not_true_eq_false, not_false_eq_true, Nat.zero_add, Nat.add_zero, nI_add, nI_ltI, nI_leI, nI_eq, pk_mul, pk_sub, u2_same, u2_row, u2_other, hat, ln, olt_T, olt_F, ole_T, ole_F, oeq_T, oeq_F]
    rfl
  | succ m ih =>
    intro p hp hpn fi ht hat Q
    have h200 := ht.1
    have ln := ht.2.1
    have pn : p < n := by omega
    have tp := ht.2.2 p pn
    have t2 := tp.2
    by_cases c : tx p = 32
    · have e : sk tx n p = sk tx n (p + 1) := ren_go ⟨pn, by omega, by omega⟩
      have ih' := ih (p + 1) (by omega) (by omega) (u2 fi 133 79 (nI (p + 1))) (ht.frame (by simp (disch := decide) only [u2_row]) (by simp (disch := decide) only [u2_ne])) u2_same Q
      rw [u2_u2, ← e] at ih'
      simp (disch := first | assumption | rfl | exact zle_0 | exact zle_1 | exact zle_2 | exact zle_3 | exact zle_4 | exact zb_0 | exact zb_1 | exact zb01_B | omega) only [zT28_0, zr_aload_0, zcl_i, zcl_r, zcl_l, zcl_n, zv_some, zv_none, Nat.reduceAdd, Nat.reduceMul, Nat.reduceSub, Nat.reduceLT, Nat.reduceLeDiff, Nat.reduceEqDiff, Int.reduceToNat, true_implies, false_implies, implies_true, and_true, true_and, not_true_eq_false, not_false_eq_true, Nat.zero_add, Nat.add_zero, nI_add, nI_ltI, nI_leI, nI_eq, pk_mul, pk_sub, u2_same, u2_row, u2_other]
      simp (disch := first | assumption | rfl | exact zle_0 | exact zle_1 | exact zle_2 | exact zle_3 | exact zle_4 | exact zb_0 | exact zb_1 | exact zb01_B | omega) only [zT28_1, zr_gf_79, zT28_4, zr_aload_0, zT28_5, zr_gf_74, zT28_8, zr_icmp_ge, zT28_11, zT28_12, zr_gf_73, zr_or, zr_go, zf_133_73, zT28_15, zT28_16, zT28_19, zr_iald, zT28_20, zr_ic_32, zT28_22, zr_icmp_ne, zT28_25, zT28_26, zr_dup_r, zr_dup_i, zT28_27, zT28_30, zr_ic_1, zT28_31, zr_iadd, zT28_32, zr_pf_79, zT28_35, zr_goto, zcl_i, zcl_r, zcl_l, zcl_n, zv_some, zv_none, Nat.reduceAdd, Nat.reduceMul, Nat.reduceSub, Nat.reduceLT, Nat.reduceLeDiff, Nat.reduceEqDiff, Int.reduceToNat, true_implies, false_implies, implies_true, and_true, true_and, not_true_eq_false, not_false_eq_true, Nat.zero_add, Nat.add_zero, nI_add, nI_ltI, nI_leI, nI_eq, pk_mul, pk_sub, u2_same, u2_row, u2_other, hat, ln, t2, olt_T, olt_F, ole_T, ole_F, oeq_T, oeq_F]
      exact ih'
    · have e : sk tx n p = p := ren_end (by omega)
      rw [e, u2_self hat, decide_eq_false (by omega)]
      simp (disch := first | assumption | rfl | exact zle_0 | exact zle_1 | exact zle_2 | exact zle_3 | exact zle_4 | exact zb_0 | exact zb_1 | exact zb01_B | omega) only [zT28_0, zr_aload_0, zT28_1, zr_gf_79, zT28_4, zT28_5, zr_gf_74, zT28_8, zr_icmp_ge, zT28_11, zT28_12, zr_gf_73, zr_or, zr_go, zf_133_73, zT28_15, zT28_16, zT28_19, zr_iald, zT28_20, zr_ic_32, zT28_22, zr_icmp_ne, zT28_25, zT28_26, zr_dup_r, zr_dup_i, zT28_27, zT28_30, zr_ic_1, zT28_31, zr_iadd, zT28_32, zr_pf_79, zT28_35, zr_goto, zT28_38, zT28_39, zT28_42, zT28_43, zT28_46, zT28_49, zT28_50, zT28_53, zr_ic_0, zT28_54, zr_ret1_0, zr_ret1_1, zr_ret1_B, zcl_i, zcl_r, zcl_l, zcl_n, zv_some, zv_none, Nat.reduceAdd, Nat.reduceMul, Nat.reduceSub, Nat.reduceLT, Nat.reduceLeDiff, Nat.reduceEqDiff, Int.reduceToNat, true_implies, false_implies, implies_true, and_true, true_and, not_true_eq_false, not_false_eq_true, Nat.zero_add, Nat.add_zero, nI_add, nI_ltI, nI_leI, nI_eq, pk_mul, pk_sub, u2_same, u2_row, u2_other, hat, ln, t2, olt_T, olt_F, ole_T, ole_F, oeq_T, oeq_F]
      rfl
theorem sm_end (hf : z_FR fr) {p : Nat} (hpn : p ≤ n) (ht : z_MT fi tx n) (hat : fi 133 79 = nI p) : TT 28 0 [some (.ref 133)] [] (151, fi, fl, fr) Q = Q (some (.int (zB (decide (sk tx n p = n))))) (151, u2 fi 133 79 (nI (sk tx n p)), fl, fr) := sm_isEnd hf (n - p) p rfl hpn fi ht hat Q
theorem sm_tw_ (hf : z_FR fr) {p0 e : Nat} (he : e = ren tx n 97 122 p0) (hp0 : p0 ≤ n)
    (hQ : ∀ fi', fi' 133 79 = nI e → (∀ f, f ≠ 79 → fi' 133 f = fi 133 f) → (∀ j, j ≠ 133 → fi' j = fi j) → TT 31 89 [some (.ref 133), some (.int (nI p0)), some (.long (lN (a_le tx p0 (min (e - p0) 7)))), none, none] [] (151, fi', fl, fr) Q) :
    ∀ m p, p + m = e → p0 ≤ p → ∀ f1 : Nat → Nat → Int32, z_MT f1 tx n → f1 133 79 = nI p → (∀ f, f ≠ 79 → f1 133 f = fi 133 f) → (∀ j, j ≠ 133 → f1 j = fi j) → TT 31 7 [some (.ref 133), some (.int (nI p0)), some (.long (lN (a_le tx p0 (min (p - p0) 7)))), none, none] [] (151, f1, fl, fr) Q := by
  have o133 : z_ok 151 133 20 = true := rfl; have o136 : z_ok 151 136 1 = true := rfl
  have l136 : z_al 136 = 200 := rfl
  obtain ⟨r1, r2, r3, r4⟩ := ren_spec (tx := tx) (n := n) (lo := 97) (hi := 122) (n - p0) p0 rfl
  rw [← he] at r1 r2 r3 r4
  have r2' := r2 hp0
  have si := fun M Q v lo hi => sm_in (M := M) (Q := Q) (v := v) (lo := lo) (hi := hi)
  have l97 : (lN 97).toInt = 97 := by decide
  have l122 : (lN 122).toInt = 122 := by decide
  intro m
  induction m with
  | zero =>
    intro p hp hpp f1 ht hat g1 g2
    obtain rfl : p = e := by omega
    have h200 := ht.1
    have ln := ht.2.1
    have o := hQ f1 hat g1 g2
    by_cases c : p < n
    · have tp := ht.2.2 p c
      have t2 := tp.2
      have ti := nI_toInt (show tx p < 2 ^ 31 by omega)
      have nd : ¬ ((97 : Int) ≤ (tx p : Int) ∧ (tx p : Int) ≤ 122) := by omega
      simp (disch := first | assumption | rfl | exact zle_0 | exact zle_1 | exact zle_2 | exact zle_3 | exact zle_4 | exact zb_0 | exact zb_1 | exact zb01_B | omega) only [zT31_7, zr_aload_0, zT31_8, zr_gf_79, zT31_11, zT31_12, zr_gf_74, zT31_15, zr_icmp_ge, zT31_18, zT31_19, zr_gf_73, zr_or, zr_go, zf_133_73, zT31_22, zT31_23, zT31_26, zr_iald, zT31_27, zr_i2l, zT31_28, zr_ldc2, zT31_31, zT31_34, zr_iv_2, zT31_37, zr_if_eq, zcl_i, zcl_r, zcl_l, zcl_n, zv_some, zv_none, Nat.reduceAdd, Nat.reduceMul, Nat.reduceSub, Nat.reduceLT, Nat.reduceLeDiff, Nat.reduceEqDiff, Int.reduceToNat, true_implies, false_implies, implies_true, and_true, true_and, not_true_eq_false, not_false_eq_true, Nat.zero_add, Nat.add_zero, nI_add, nI_ltI, nI_leI, nI_eq, pk_mul, pk_sub, u2_same, u2_row, u2_other, hat, ln, t2, si, x64, ti, l97, l122, dcd_F nd, zB_eq0, olt_T, olt_F, ole_T, ole_F, oeq_T, oeq_F]
      exact o
    · simp (disch := first | assumption | rfl | exact zle_0 | exact zle_1 | exact zle_2 | exact zle_3 | exact zle_4 | exact zb_0 | exact zb_1 | exact zb01_B | omega) only [zT31_7, zr_aload_0, zT31_8, zr_gf_79, zT31_11, zT31_12, zr_gf_74, zT31_15, zr_icmp_ge, zcl_i, zcl_r, zcl_l, zcl_n, zv_some, zv_none, Nat.reduceAdd, Nat.reduceMul, Nat.reduceSub, Nat.reduceLT, Nat.reduceLeDiff, Nat.reduceEqDiff, Int.reduceToNat, true_implies, false_implies, implies_true, and_true, true_and, not_true_eq_false, not_false_eq_true, Nat.zero_add, Nat.add_zero, nI_add, nI_ltI, nI_leI, nI_eq, pk_mul, pk_sub, u2_same, u2_row, u2_other, hat, ln, olt_T, olt_F, ole_T, ole_F, oeq_T, oeq_F]
      exact o
  | succ m ih =>
    intro p hp hpp f1 ht hat g1 g2
    have h200 := ht.1
    have ln := ht.2.1
    obtain ⟨c, t97, t122⟩ := r3 p hpp (by omega)
    have tp := ht.2.2 p c
    have t2 := tp.2
    have ti := nI_toInt (show tx p < 2 ^ 31 by omega)
    have yd : (97 : Int) ≤ (tx p : Int) ∧ (tx p : Int) ≤ 122 := by omega
    have il := nI_l (show tx p < 2 ^ 31 by omega)
    have ih' := ih (p + 1) (by omega) (by omega) (u2 f1 133 79 (nI (p + 1))) (ht.frame (by simp (disch := decide) only [u2_row]) (by simp (disch := decide) only [u2_ne])) u2_same (fun f hff => by simp (disch := assumption) only [u2_row]; exact g1 f hff) (fun j hj => by simp (disch := assumption) only [u2_ne]; exact g2 j hj)
    by_cases c7 : p - p0 < 7
    · rw [Nat.min_eq_left (show p + 1 - p0 ≤ 7 by omega), show p + 1 - p0 = (p - p0) + 1 by omega, show a_le tx p0 (p - p0 + 1) = 32 * a_le tx p0 (p - p0) + tx (p0 + (p - p0)) - 96 from rfl, show p0 + (p - p0) = p by omega] at ih'
      rw [Nat.min_eq_left (show p - p0 ≤ 7 by omega)]
      generalize a_le tx p0 (p - p0) = acc at *
      have sb := lN_sub (a := 32 * acc + tx p) (b := 96) (by omega)
      simp (disch := first | assumption | rfl | exact zle_0 | exact zle_1 | exact zle_2 | exact zle_3 | exact zle_4 | exact zb_0 | exact zb_1 | exact zb01_B | omega) only [zT31_7, zr_aload_0, zcl_i, zcl_r, zcl_l, zcl_n, zv_some, zv_none, Nat.reduceAdd, Nat.reduceMul, Nat.reduceSub, Nat.reduceLT, Nat.reduceLeDiff, Nat.reduceEqDiff, Int.reduceToNat, true_implies, false_implies, implies_true, and_true, true_and, not_true_eq_false, not_false_eq_true, Nat.zero_add, Nat.add_zero, nI_add, nI_ltI, nI_leI, nI_eq, pk_mul, pk_sub, u2_same, u2_row, u2_other]
      have lt := lN_toInt (show tx p < 2 ^ 31 by omega)
      simp (disch := first | assumption | rfl | exact zle_0 | exact zle_1 | exact zle_2 | exact zle_3 | exact zle_4 | exact zb_0 | exact zb_1 | exact zb01_B | omega) only [zT31_8, zr_gf_79, zT31_11, zr_aload_0, zT31_12, zr_gf_74, zT31_15, zr_icmp_ge, zT31_18, zT31_19, zr_gf_73, zr_or, zr_go, zf_133_73, zT31_22, zT31_23, zT31_26, zr_iald, zT31_27, zr_i2l, zT31_28, zr_ldc2, zT31_31, zT31_34, zr_iv_2, zT31_37, zr_if_eq, zT31_40, zT31_41, zT31_44, zr_iload_1, zT31_45, zr_isub, zT31_46, zr_ic_7, zT31_48, zT31_51, zT31_54, zr_lload_2, zT31_55, zr_lmul, zT31_56, zT31_57, zT31_60, zT31_61, zT31_64, zT31_65, zT31_66, zr_ladd, zT31_67, zT31_70, zr_lsub, zT31_71, zr_goto, zT31_74, zT31_75, zr_lstore_2, zT31_76, zT31_77, zr_dup_r, zr_dup_i, zT31_78, zT31_81, zr_ic_1, zT31_82, zr_iadd, zT31_83, zr_pf_79, zT31_86, zcl_i, zcl_r, zcl_l, zcl_n, zv_some, zv_none, Nat.reduceAdd, Nat.reduceMul, Nat.reduceSub, Nat.reduceLT, Nat.reduceLeDiff, Nat.reduceEqDiff, Int.reduceToNat, true_implies, false_implies, implies_true, and_true, true_and, not_true_eq_false, not_false_eq_true, Nat.zero_add, Nat.add_zero, nI_add, nI_ltI, nI_leI, nI_eq, pk_mul, pk_sub, u2_same, u2_row, u2_other, hat, ln, t2, si, l97, l122, lt, dcd_T yd, zB_eq0, reduceCtorEq, il, lN_mul, lN_add, sb, olt_T, olt_F, ole_T, ole_F, oeq_T, oeq_F]
      exact ih'
    · rw [Nat.min_eq_right (show 7 ≤ p + 1 - p0 by omega)] at ih'
      rw [Nat.min_eq_right (show 7 ≤ p - p0 by omega)]
      generalize a_le tx p0 7 = acc at *
      simp (disch := first | assumption | rfl | exact zle_0 | exact zle_1 | exact zle_2 | exact zle_3 | exact zle_4 | exact zb_0 | exact zb_1 | exact zb01_B | omega) only [zT31_7, zr_aload_0, zcl_i, zcl_r, zcl_l, zcl_n, zv_some, zv_none, Nat.reduceAdd, Nat.reduceMul, Nat.reduceSub, Nat.reduceLT, Nat.reduceLeDiff, Nat.reduceEqDiff, Int.reduceToNat, true_implies, false_implies, implies_true, and_true, true_and, not_true_eq_false, not_false_eq_true, Nat.zero_add, Nat.add_zero, nI_add, nI_ltI, nI_leI, nI_eq, pk_mul, pk_sub, u2_same, u2_row, u2_other]
      simp (disch := first | assumption | rfl | exact zle_0 | exact zle_1 | exact zle_2 | exact zle_3 | exact zle_4 | exact zb_0 | exact zb_1 | exact zb01_B | omega) only [zT31_8, zr_gf_79, zT31_11, zr_aload_0, zT31_12, zr_gf_74, zT31_15, zr_icmp_ge, zT31_18, zT31_19, zr_gf_73, zr_or, zr_go, zf_133_73, zT31_22, zT31_23, zT31_26, zr_iald, zT31_27, zr_i2l, zT31_28, zr_ldc2, zT31_31, zT31_34, zr_iv_2, zT31_37, zr_if_eq, zT31_40, zT31_41, zT31_44, zr_iload_1, zT31_45, zr_isub, zT31_46, zr_ic_7, zT31_48, zT31_51, zT31_54, zr_lload_2, zT31_55, zr_lmul, zT31_56, zT31_57, zT31_60, zT31_61, zT31_64, zT31_65, zT31_66, zr_ladd, zT31_67, zT31_70, zr_lsub, zT31_71, zr_goto, zT31_74, zT31_75, zr_lstore_2, zT31_76, zT31_77, zr_dup_r, zr_dup_i, zT31_78, zT31_81, zr_ic_1, zT31_82, zr_iadd, zT31_83, zr_pf_79, zT31_86, zcl_i, zcl_r, zcl_l, zcl_n, zv_some, zv_none, Nat.reduceAdd, Nat.reduceMul, Nat.reduceSub, Nat.reduceLT, Nat.reduceLeDiff, Nat.reduceEqDiff, Int.reduceToNat, true_implies, false_implies, implies_true, and_true, true_and, not_true_eq_false, not_false_eq_true, Nat.zero_add, Nat.add_zero, nI_add, nI_ltI, nI_leI, nI_eq, pk_mul, pk_sub, u2_same, u2_row, u2_other, hat, ln, t2, si, x64, ti, l97, l122, dcd_T yd, zB_eq0, reduceCtorEq, olt_T, olt_F, ole_T, ole_F, oeq_T, oeq_F]
      exact ih'
theorem sm_takeWord (hf : z_FR fr) (ht : z_MT fi tx n) {p : Nat} (hat : fi 133 79 = nI p) (hpn : p ≤ n)
    (hQ : ∀ fi', fi' 133 79 = nI (ren tx n 97 122 p) → fi' 133 80 = (if a_wdAt tx n p = 5 then nI p else fi 133 80) → (∀ f, f ≠ 79 → f ≠ 80 → fi' 133 f = fi 133 f) → (∀ j, j ≠ 133 → fi' j = fi j) → Q (some (.int (a_wI (a_wdAt tx n p)))) (151, fi', fl, fr)) :
    TT 31 0 [some (.ref 133), none, none, none, none] [] (151, fi, fl, fr) Q := by
  have o133 : z_ok 151 133 20 = true := rfl; have o136 : z_ok 151 136 1 = true := rfl
  obtain ⟨r1, r2, r3, r4⟩ := ren_spec (tx := tx) (n := n) (lo := 97) (hi := 122) (n - p) p rfl
  have r2' := r2 hpn
  have h200 := ht.1
  have wl := wd_letters r1 (fun j j1 j2 => (r3 j j1 j2).2) rfl
  have alt : a_le tx p (min (ren tx n 97 122 p - p) 7) < 2 ^ 63 := by
    have k7 : min (ren tx n 97 122 p - p) 7 ≤ 7 := Nat.min_le_right _ _
    have h1 := a_le_lt (tx := tx) (p := p) (min (ren tx n 97 122 p - p) 7) (fun j hj => (r3 (p + j) (by omega) (by omega)).2)
    have h2 : 32 ^ min (ren tx n 97 122 p - p) 7 ≤ 32 ^ 7 := Nat.pow_le_pow_right (by decide) k7
    omega
  have wo := fun M Q => sm_wordOf (M := M) (Q := Q) alt
  rw [← wl] at wo
  rw [show wd_ tx p (ren tx n 97 122 p) = a_wdAt tx n p from rfl] at wo
  have L := sm_tw_ (fi := fi) (fl := fl) (Q := Q) hf rfl hpn (fun f1 g1 g2 g3 => by
    have w5 := wd_le (tx := tx) (p := p) (e := ren tx n 97 122 p)
    rw [show wd_ tx p (ren tx n 97 122 p) = a_wdAt tx n p from rfl] at w5
    have ff := g2 80 (by decide)
    generalize a_wdAt tx n p = x at *
    unfold a_wI at hQ wo
    by_cases c : x = 5
    · rw [if_pos c, if_pos c] at hQ
      rw [if_pos c] at wo
      simp (disch := first | assumption | rfl | exact zle_0 | exact zle_1 | exact zle_2 | exact zle_3 | exact zle_4 | exact zb_0 | exact zb_1 | exact zb01_B | omega) only [zT31_89, zr_lload_2, zT31_90, zr_iv_29, zT31_93, zr_istore_4, zT31_95, zr_aload_0, zT31_96, zr_iload_4, zT31_98, zr_ic_m1, zT31_99, zr_icmp_ne, zT31_102, zr_iload_1, zT31_103, zr_goto, zT31_106, zT31_107, zr_gf_80, zT31_110, zr_pf_80, zT31_113, zT31_115, zr_ret0, zcl_i, zcl_r, zcl_l, zcl_n, zv_some, zv_none, Nat.reduceAdd, Nat.reduceMul, Nat.reduceSub, Nat.reduceLT, Nat.reduceLeDiff, Nat.reduceEqDiff, Int.reduceToNat, true_implies, false_implies, implies_true, and_true, true_and, not_true_eq_false, not_false_eq_true, Nat.zero_add, Nat.add_zero, nI_add, nI_ltI, nI_leI, nI_eq, pk_mul, pk_sub, u2_same, u2_row, u2_other, wo, olt_T, olt_F, ole_T, ole_F, oeq_T, oeq_F]
      refine hQ _ ?_ u2_same (fun f f1 f2 => ?_) (fun j hj => ?_)
      · simp (disch := decide) only [u2_row]; exact g1
      · simp (disch := assumption) only [u2_row]; exact g2 f f1
      · simp (disch := assumption) only [u2_ne]; exact g3 j hj
    · rw [if_neg c, if_neg c] at hQ
      rw [if_neg c] at wo
      have nm := nM_eqI (k := 1) (a := x) (by decide) (by decide) (by omega)
      simp (disch := first | assumption | rfl | exact zle_0 | exact zle_1 | exact zle_2 | exact zle_3 | exact zle_4 | exact zb_0 | exact zb_1 | exact zb01_B | omega) only [zT31_89, zr_lload_2, zT31_90, zr_iv_29, zT31_93, zr_istore_4, zT31_95, zr_aload_0, zT31_96, zr_iload_4, zT31_98, zr_ic_m1, zT31_99, zr_icmp_ne, zT31_102, zr_iload_1, zT31_103, zr_goto, zT31_106, zT31_107, zr_gf_80, zT31_110, zr_pf_80, zT31_113, zT31_115, zr_ret0, zcl_i, zcl_r, zcl_l, zcl_n, zv_some, zv_none, Nat.reduceAdd, Nat.reduceMul, Nat.reduceSub, Nat.reduceLT, Nat.reduceLeDiff, Nat.reduceEqDiff, Int.reduceToNat, true_implies, false_implies, implies_true, and_true, true_and, not_true_eq_false, not_false_eq_true, Nat.zero_add, Nat.add_zero, nI_add, nI_ltI, nI_leI, nI_eq, pk_mul, pk_sub, u2_same, u2_row, u2_other, wo, nm, ff, olt_T, olt_F, ole_T, ole_F, oeq_T, oeq_F]
      refine hQ _ ?_ u2_same (fun f f1 f2 => ?_) (fun j hj => ?_)
      · simp (disch := decide) only [u2_row]; exact g1
      · simp (disch := assumption) only [u2_row]; exact g2 f f1
      · simp (disch := assumption) only [u2_ne]; exact g3 j hj) (ren tx n 97 122 p - p) p (by omega) (Nat.le_refl _) fi ht hat (fun _ _ => rfl) (fun _ _ => rfl)
  rw [Nat.sub_self, show a_le tx p (min 0 7) = 0 from rfl] at L
  simp (disch := first | assumption | rfl | exact zle_0 | exact zle_1 | exact zle_2 | exact zle_3 | exact zle_4 | exact zb_0 | exact zb_1 | exact zb01_B | omega) only [zT31_0, zr_aload_0, zT31_1, zr_gf_79, zT31_4, zr_istore_1, zT31_5, zr_ldc2, zT31_6, zr_lstore_2, zcl_i, zcl_r, zcl_l, zcl_n, zv_some, zv_none, Nat.reduceAdd, Nat.reduceMul, Nat.reduceSub, Nat.reduceLT, Nat.reduceLeDiff, Nat.reduceEqDiff, Int.reduceToNat, true_implies, false_implies, implies_true, and_true, true_and, not_true_eq_false, not_false_eq_true, Nat.zero_add, Nat.add_zero, nI_add, nI_ltI, nI_leI, nI_eq, pk_mul, pk_sub, u2_same, u2_row, u2_other, hat, olt_T, olt_F, ole_T, ole_F, oeq_T, oeq_F]
  exact L
end
