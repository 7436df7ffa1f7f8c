/-! what is told to a kitchen: the answer and the row after it -/
def o_cook (w : Nat → Nat) (x y : Int32) : Int32 × (Nat → Nat) := if 0 ≤ x.toInt ∧ x.toInt < 6 ∧ 0 ≤ y.toInt ∧ y.toInt ≤ 9 then (if w 0 = 6 then (nM 4, w) else (nI (w 0), a_addCook w x.toInt.toNat y.toInt.toNat)) else (nM 2, w)
def o_dish (w : Nat → Nat) : Int32 × (Nat → Nat) := if w 13 = 3 then (nM 4, w) else (nI (w 13), a_addDish w)
def o_step (w : Nat → Nat) (x0 x1 x2 x3 x4 : Int32) : Int32 × (Nat → Nat) := if 0 ≤ x0.toInt ∧ x0.toInt < w 13 ∧ 0 ≤ x1.toInt ∧ x1.toInt ≤ 3 ∧ 0 ≤ x2.toInt ∧ x2.toInt ≤ 3 ∧ 0 < x1.toInt + x2.toInt ∧ 0 ≤ x3.toInt ∧ x3.toInt ≤ x1.toInt + x2.toInt ∧ 1 ≤ x4.toInt ∧ x4.toInt ≤ 5 then
  (if a_sm w x0.toInt.toNat = 3 then (nM 4, w) else (nI (a_sm w x0.toInt.toNat), a_addStep w x0.toInt.toNat x1.toInt.toNat x2.toInt.toNat x3.toInt.toNat x4.toInt.toNat)) else (nM 2, w)
def o_knives (w : Nat → Nat) (x : Int32) : Int32 × (Nat → Nat) := if 0 ≤ x.toInt ∧ x.toInt ≤ 6 then (nI (w 53), a_knives w x.toInt.toNat) else (nM 2, w)
def o_strike (w : Nat → Nat) (b : Nat) : Int32 × (Nat → Nat) := if b = w 54 then (nM 3, w) else (nI 1, a_strike w b)
/-- how many of the first n minutes past hold a dish -/
def a_pc (w : Nat → Nat) (d : Nat) : Nat → Nat
  | 0 => 0
  | n + 1 => a_pc w d n + if a_bit (w (59 + n)) d then 1 else 0
/-- a row that can be, and what is past in it -/
def a_W (w : Nat → Nat) : Prop := a_WF w ∧ (∀ i, i < w 58 → 0 < w (59 + i) ∧ w (59 + i) < 2 ^ w 13) ∧ ∀ d, d < 3 → a_gone w d = a_pc w d (w 58)
theorem a_W.le {w : Nat → Nat} (h : a_W w) : w 58 ≤ 45 := by
  have t0 := a_tot_le (h.1.2.2.2.1 0 (by decide)).1
  have t1 := a_tot_le (h.1.2.2.2.1 1 (by decide)).1
  have t2 := a_tot_le (h.1.2.2.2.1 2 (by decide)).1
  have g0 := (h.1.2.2.2.1 0 (by decide)).2.2
  have g1 := (h.1.2.2.2.1 1 (by decide)).2.2
  have g2 := (h.1.2.2.2.1 2 (by decide)).2.2
  have := h.1.2.2.2.2.2.2
  omega
/-- a row begun anew -/
theorem a_W.ba {w : Nat → Nat} (h : w 0 ≤ 6 ∧ (∀ c, c < w 0 → w (1 + c) ≤ 5 ∧ w (7 + c) ≤ 9) ∧ w 13 ≤ 3 ∧ (∀ d, d < 3 → a_WD w d ∧ (w 13 ≤ d → a_sm w d = 0)) ∧ w 53 ≤ 6 ∧ w 54 ≤ 1) : a_W (a_ba w) := by
  obtain ⟨h0, h1, h2, h3, h4, h5⟩ := h
  have e : ∀ j, j < 55 → a_ba w j = w j := fun j hj => a_ba_lo hj
  have e58 : a_ba w 58 = 0 := a_ba_mid (by decide) (by decide)
  have eg : ∀ d, d < 3 → a_gone (a_ba w) d = 0 := fun d hd => a_ba_mid (by omega) (by omega)
  refine ⟨⟨by rw [e 0 (by decide)]; exact h0, fun c hc => ?_, by rw [e 13 (by decide)]; exact h2, fun d hd => ?_, by rw [e 53 (by decide)]; exact h4, by rw [e 54 (by decide)]; exact h5, by rw [e58]; exact Nat.zero_le _⟩, fun i hi => ?_, fun d hd => ?_⟩
  · rw [e 0 (by decide)] at hc
    rw [e _ (by omega), e _ (by omega)]
    exact h1 c hc
  · obtain ⟨q1, q2⟩ := h3 d hd
    refine ⟨⟨by rw [a_ba_sm hd]; exact q1.1, fun s hs => ?_⟩, fun hk => ?_, by rw [eg d hd]; exact Nat.zero_le _⟩
    · rw [a_ba_sm hd] at hs
      have := q1.1
      rw [a_ba_st hd (by omega) (by decide), a_ba_st hd (by omega) (by decide), a_ba_st hd (by omega) (by decide), a_ba_st hd (by omega) (by decide)]
      exact q1.2 s hs
    · rw [a_ba_sm hd]
      rw [e 13 (by decide)] at hk
      exact q2 hk
  · rw [e58] at hi
    exact absurd hi (Nat.not_lt_zero _)
  · rw [eg d hd, e58]
    rfl
theorem a_WD.congr {w w' : Nat → Nat} {d : Nat} (h : a_WD w d) (h1 : a_sm w' d = a_sm w d) (h2 : ∀ s k, s < 3 → k < 4 → a_st w' d s k = a_st w d s k) : a_WD w' d := by
  refine ⟨by rw [h1]; exact h.1, fun s hs => ?_⟩
  rw [h1] at hs
  have := h.1
  rw [h2 s 0 (by omega) (by decide), h2 s 1 (by omega) (by decide), h2 s 2 (by omega) (by decide), h2 s 3 (by omega) (by decide)]
  exact h.2 s hs
theorem a_W.set_cook {w : Nat → Nat} (h : a_W w) {a b : Nat} (h6 : w 0 < 6) (ha : a < 6) (hb : b ≤ 9) : a_W (a_addCook w a b) := by
  obtain ⟨⟨h0, h1, h2, h3, h4, h5, h7⟩, -, -⟩ := h
  refine a_W.ba ⟨?_, fun c hc => ?_, ?_, fun d hd => ⟨?_, fun hk => ?_⟩, ?_, ?_⟩
  · rw [a_set_same]; omega
  · rw [a_set_same] at hc
    by_cases e : c = w 0
    · subst e
      constructor
      · rw [a_set_ne (by omega), a_set_ne (by omega), a_set_eq (by omega)]; omega
      · rw [a_set_ne (by omega), a_set_eq (by omega)]; omega
    · have := h1 c (by omega)
      constructor
      · rw [a_set_ne (by omega), a_set_ne (by omega), a_set_ne (by omega)]; exact this.1
      · rw [a_set_ne (by omega), a_set_ne (by omega), a_set_ne (by omega)]; exact this.2
  · rw [a_set_ne (by decide), a_set_ne (by omega), a_set_ne (by omega)]; exact h2
  · refine (h3 d hd).1.congr ?_ (fun s k hs hk => ?_)
    · unfold a_sm; rw [a_set_ne (by omega), a_set_ne (by omega), a_set_ne (by omega)]
    · unfold a_st; rw [a_set_ne (by omega), a_set_ne (by omega), a_set_ne (by omega)]
  · rw [a_set_ne (by decide), a_set_ne (by omega), a_set_ne (by omega)] at hk
    unfold a_sm; rw [a_set_ne (by omega), a_set_ne (by omega), a_set_ne (by omega)]
    exact (h3 d hd).2.1 hk
  · rw [a_set_ne (by decide), a_set_ne (by omega), a_set_ne (by omega)]; exact h4
  · rw [a_set_ne (by decide), a_set_ne (by omega), a_set_ne (by omega)]; exact h5
theorem a_W.set_dish {w : Nat → Nat} (h : a_W w) (h6 : w 13 < 3) : a_W (a_addDish w) := by
  obtain ⟨⟨h0, h1, h2, h3, h4, h5, h7⟩, -, -⟩ := h
  have z : a_sm w (w 13) = 0 := (h3 _ (by omega)).2.1 (Nat.le_refl _)
  have sm : ∀ d, d < 3 → a_sm (a_set (a_set w (14 + w 13) 0) 13 (w 13 + 1)) d = a_sm w d := by
    intro d hd
    unfold a_sm at z ⊢
    rw [a_set_ne (by omega)]
    by_cases e : d = w 13
    · rw [a_set_eq (by omega), e, z]
    · rw [a_set_ne (by omega)]
  refine a_W.ba ⟨?_, fun c hc => ?_, ?_, fun d hd => ⟨?_, fun hk => ?_⟩, ?_, ?_⟩
  · rw [a_set_ne (by decide), a_set_ne (by omega)]; exact h0
  · rw [a_set_ne (by decide), a_set_ne (by omega)] at hc
    rw [a_set_ne (by omega), a_set_ne (by omega), a_set_ne (by omega), a_set_ne (by omega)]
    exact h1 c hc
  · rw [a_set_same]; omega
  · refine (h3 d hd).1.congr (sm d hd) (fun s k hs hk => ?_)
    unfold a_st; rw [a_set_ne (by omega), a_set_ne (by omega)]
  · rw [a_set_same] at hk
    rw [sm d hd]
    exact (h3 d hd).2.1 (by omega)
  · rw [a_set_ne (by decide), a_set_ne (by omega)]; exact h4
  · rw [a_set_ne (by decide), a_set_ne (by omega)]; exact h5
theorem a_W.set_step {w : Nat → Nat} (h : a_W w) {d r l kn mi : Nat} (hd : d < w 13) (h3' : a_sm w d < 3) (b1 : r ≤ 3) (b2 : l ≤ 3) (b3 : 0 < r + l) (b4 : kn ≤ r + l) (b5 : 1 ≤ mi) (b6 : mi ≤ 5) : a_W (a_addStep w d r l kn mi) := by
  obtain ⟨⟨h0, h1, h2, h3, h4, h5, h7⟩, -, -⟩ := h
  have off : ∀ j, j < 14 ∨ 53 ≤ j → a_set (a_set (a_set (a_set (a_set w (17 + 12 * d + 4 * a_sm w d) r) (17 + 12 * d + 4 * a_sm w d + 1) l) (17 + 12 * d + 4 * a_sm w d + 2) kn) (17 + 12 * d + 4 * a_sm w d + 3) mi) (14 + d) (a_sm w d + 1) j = w j := by
    intro j hj
    rw [a_set_ne (by omega), a_set_ne (by omega), a_set_ne (by omega), a_set_ne (by omega), a_set_ne (by omega)]
  refine a_W.ba ⟨?_, fun c hc => ?_, ?_, fun e he => ⟨?_, fun hk => ?_⟩, ?_, ?_⟩
  · rw [off 0 (by omega)]; exact h0
  · rw [off 0 (by omega)] at hc
    rw [off _ (by omega), off _ (by omega)]
    exact h1 c hc
  · rw [off 13 (by omega)]; exact h2
  · by_cases c : e = d
    · subst c
      have sm : a_sm (a_set (a_set (a_set (a_set (a_set w (17 + 12 * e + 4 * a_sm w e) r) (17 + 12 * e + 4 * a_sm w e + 1) l) (17 + 12 * e + 4 * a_sm w e + 2) kn) (17 + 12 * e + 4 * a_sm w e + 3) mi) (14 + e) (a_sm w e + 1)) e = a_sm w e + 1 := a_set_same
      refine ⟨by rw [sm]; omega, fun s hs => ?_⟩
      rw [sm] at hs
      unfold a_st
      by_cases q : s = a_sm w e
      · subst q
        refine (?_ : _ ∧ _)
        have x0 : a_set (a_set (a_set (a_set (a_set w (17 + 12 * e + 4 * a_sm w e) r) (17 + 12 * e + 4 * a_sm w e + 1) l) (17 + 12 * e + 4 * a_sm w e + 2) kn) (17 + 12 * e + 4 * a_sm w e + 3) mi) (14 + e) (a_sm w e + 1) (17 + 12 * e + 4 * a_sm w e + 0) = r := by
          rw [a_set_ne (by omega), a_set_ne (by omega), a_set_ne (by omega), a_set_ne (by omega), a_set_eq (by omega)]
        have x1 : a_set (a_set (a_set (a_set (a_set w (17 + 12 * e + 4 * a_sm w e) r) (17 + 12 * e + 4 * a_sm w e + 1) l) (17 + 12 * e + 4 * a_sm w e + 2) kn) (17 + 12 * e + 4 * a_sm w e + 3) mi) (14 + e) (a_sm w e + 1) (17 + 12 * e + 4 * a_sm w e + 1) = l := by
          rw [a_set_ne (by omega), a_set_ne (by omega), a_set_ne (by omega), a_set_eq (by omega)]
        have x2 : a_set (a_set (a_set (a_set (a_set w (17 + 12 * e + 4 * a_sm w e) r) (17 + 12 * e + 4 * a_sm w e + 1) l) (17 + 12 * e + 4 * a_sm w e + 2) kn) (17 + 12 * e + 4 * a_sm w e + 3) mi) (14 + e) (a_sm w e + 1) (17 + 12 * e + 4 * a_sm w e + 2) = kn := by
          rw [a_set_ne (by omega), a_set_ne (by omega), a_set_eq (by omega)]
        have x3 : a_set (a_set (a_set (a_set (a_set w (17 + 12 * e + 4 * a_sm w e) r) (17 + 12 * e + 4 * a_sm w e + 1) l) (17 + 12 * e + 4 * a_sm w e + 2) kn) (17 + 12 * e + 4 * a_sm w e + 3) mi) (14 + e) (a_sm w e + 1) (17 + 12 * e + 4 * a_sm w e + 3) = mi := by
          rw [a_set_ne (by omega), a_set_eq (by omega)]
        rw [x0, x1, x2, x3]
        omega
      · have old := (h3 e he).1.2 s (by omega)
        unfold a_st at old
        have y : ∀ k, k < 4 → a_set (a_set (a_set (a_set (a_set w (17 + 12 * e + 4 * a_sm w e) r) (17 + 12 * e + 4 * a_sm w e + 1) l) (17 + 12 * e + 4 * a_sm w e + 2) kn) (17 + 12 * e + 4 * a_sm w e + 3) mi) (14 + e) (a_sm w e + 1) (17 + 12 * e + 4 * s + k) = w (17 + 12 * e + 4 * s + k) := by
          intro k hk
          rw [a_set_ne (by omega), a_set_ne (by omega), a_set_ne (by omega), a_set_ne (by omega), a_set_ne (by omega)]
        rw [y 0 (by decide), y 1 (by decide), y 2 (by decide), y 3 (by decide)]
        exact old
    · refine (h3 e he).1.congr ?_ (fun s k hs hk => ?_)
      · unfold a_sm; rw [a_set_ne (by omega), a_set_ne (by unfold a_sm at h3'; omega), a_set_ne (by unfold a_sm at h3'; omega), a_set_ne (by unfold a_sm at h3'; omega), a_set_ne (by unfold a_sm at h3'; omega)]
      · unfold a_st; rw [a_set_ne (by omega), a_set_ne (by omega), a_set_ne (by omega), a_set_ne (by omega), a_set_ne (by omega)]
  · rw [off 13 (by omega)] at hk
    have c : e ≠ d := by omega
    have := (h3 e he).2.1 hk
    unfold a_sm at this h3' ⊢
    rw [a_set_ne (by omega), a_set_ne (by omega), a_set_ne (by omega), a_set_ne (by omega), a_set_ne (by omega)]
    exact this
  · rw [off 53 (by omega)]; exact h4
  · rw [off 54 (by omega)]; exact h5
theorem a_W.set_one {w : Nat → Nat} (h : a_W w) {j v : Nat} (hj : j = 53 ∧ v ≤ 6 ∨ j = 54 ∧ v ≤ 1) : a_W (a_ba (a_set w j v)) := by
  obtain ⟨⟨h0, h1, h2, h3, h4, h5, h7⟩, -, -⟩ := h
  refine a_W.ba ⟨?_, fun c hc => ?_, ?_, fun d hd => ⟨?_, fun hk => ?_⟩, ?_, ?_⟩
  · rw [a_set_ne (by omega)]; exact h0
  · rw [a_set_ne (by omega)] at hc
    rw [a_set_ne (by omega), a_set_ne (by omega)]
    exact h1 c hc
  · rw [a_set_ne (by omega)]; exact h2
  · refine (h3 d hd).1.congr ?_ (fun s k hs hk => ?_)
    · unfold a_sm; rw [a_set_ne (by omega)]
    · unfold a_st; rw [a_set_ne (by omega)]
  · rw [a_set_ne (by omega)] at hk
    unfold a_sm; rw [a_set_ne (by omega)]
    exact (h3 d hd).2.1 hk
  · rcases hj with ⟨rfl, hv⟩ | ⟨rfl, hv⟩
    · rw [a_set_same]; exact hv
    · rw [a_set_ne (by decide)]; exact h4
  · rcases hj with ⟨rfl, hv⟩ | ⟨rfl, hv⟩
    · rw [a_set_ne (by decide)]; exact h5
    · rw [a_set_same]; exact hv
theorem a_W_none : a_W a_none := by
  have e : a_ba a_none = a_none := by
    funext j
    unfold a_ba a_none
    by_cases c : 55 ≤ j ∧ j ≤ 58
    · rw [if_pos c, if_neg (by omega)]
    · rw [if_neg c]
  rw [← e]
  refine a_W.ba ⟨by decide, fun c hc => absurd hc (Nat.not_lt_zero _), by decide, fun d hd => ⟨⟨?_, fun s hs => ?_⟩, fun _ => ?_⟩, by decide, by decide⟩
  · show (if 14 + d = 53 then 2 else 0) ≤ 3
    rw [if_neg (by omega)]; exact Nat.zero_le _
  · have : a_sm a_none d = 0 := by show (if 14 + d = 53 then 2 else 0) = 0; rw [if_neg (by omega)]
    rw [this] at hs
    exact absurd hs (Nat.not_lt_zero _)
  · show (if 14 + d = 53 then 2 else 0) = 0; rw [if_neg (by omega)]
theorem o_cook_W {w : Nat → Nat} (h : a_W w) (x y : Int32) : a_W (o_cook w x y).2 := by
  unfold o_cook
  split
  · split
    · exact h
    · have := h.1.1
      exact h.set_cook (by omega) (by omega) (by omega)
  · exact h
theorem o_dish_W {w : Nat → Nat} (h : a_W w) : a_W (o_dish w).2 := by
  unfold o_dish
  split
  · exact h
  · have := h.1.2.2.1
    exact h.set_dish (by omega)
theorem o_step_W {w : Nat → Nat} (h : a_W w) (x0 x1 x2 x3 x4 : Int32) : a_W (o_step w x0 x1 x2 x3 x4).2 := by
  unfold o_step
  split
  · split
    · exact h
    · have h13 := h.1.2.2.1
      have := (h.1.2.2.2.1 x0.toInt.toNat (by omega)).1.1
      exact h.set_step (by omega) (by omega) (by omega) (by omega) (by omega) (by omega) (by omega) (by omega)
  · exact h
theorem o_knives_W {w : Nat → Nat} (h : a_W w) (x : Int32) : a_W (o_knives w x).2 := by
  unfold o_knives
  split
  · exact h.set_one (Or.inl ⟨rfl, by omega⟩)
  · exact h
theorem o_strike_W {w : Nat → Nat} (h : a_W w) {b : Nat} (hb : b ≤ 1) : a_W (o_strike w b).2 := by
  unfold o_strike
  split
  · exact h
  · exact h.set_one (Or.inr ⟨rfl, hb⟩)
section
variable {fi : Nat → Nat → Int32} {fl : Nat → Nat → Int64} {fr : Nat → Nat → Option Nat} {Q : Option Value → Mm → Prop} {w : Nat → Nat} {k : Nat} {M : Mm}
theorem a_W.sm {w : Nat → Nat} (h : a_W w) : ∀ d, d < 3 → a_sm w d ≤ 3 := fun d hd => (h.1.2.2.2.1 d hd).1.1
theorem sp_oCook (hk : z_Kok fr k) (hr : z_KR fi k w) (hw : a_W w) {x y : Int32} (hQ : ∀ fi', z_KR fi' k (o_cook w x y).2 → (∀ j, j < k ∨ k + 20 ≤ j → fi' j = fi j) → Q (some (.int (o_cook w x y).1)) (151, fi', fl, fr)) : TT 178 0 [some (.ref k), some (.int x), some (.int y)] [] (151, fi, fl, fr) Q := by
  unfold o_cook at hQ
  have h0 := hw.1.1
  by_cases c : 0 ≤ x.toInt ∧ x.toInt < 6 ∧ 0 ≤ y.toInt ∧ y.toInt ≤ 9
  · rw [if_pos c] at hQ
    obtain ⟨ex, lx⟩ := nI_ofInt c.1
    obtain ⟨ey, ly⟩ := nI_ofInt c.2.2.1
    generalize hx : x.toInt.toNat = a at *
    generalize hy : y.toInt.toNat = b at *
    rw [ex, ey]
    by_cases c6 : w 0 = 6
    · rw [if_pos c6] at hQ
      rw [sp_addCook_full hk hr.k0 c6 (show a < 6 by omega) (show b ≤ 9 by omega)]
      exact hQ fi hr (fun _ _ => rfl)
    · rw [if_neg c6] at hQ
      exact sp_addCook hk hr.k0 hw.sm (by omega) (by omega) (by omega) hQ
  · rw [if_neg c] at hQ
    rw [sp_addCook_bad]
    · exact hQ fi hr (fun _ _ => rfl)
    · simp only [Int32.lt_iff_toInt_lt, Int32.le_iff_toInt_le, nI_toInt (show 0 < 2 ^ 31 by decide), nI_toInt (show 6 < 2 ^ 31 by decide), nI_toInt (show 9 < 2 ^ 31 by decide)]
      omega
theorem sp_oDish (hk : z_Kok fr k) (hr : z_KR fi k w) (hw : a_W w) (hQ : ∀ fi', z_KR fi' k (o_dish w).2 → (∀ j, j < k ∨ k + 20 ≤ j → fi' j = fi j) → Q (some (.int (o_dish w).1)) (151, fi', fl, fr)) : TT 179 0 [some (.ref k)] [] (151, fi, fl, fr) Q := by
  unfold o_dish at hQ
  have h13 := hw.1.2.2.1
  by_cases c : w 13 = 3
  · rw [if_pos c] at hQ
    rw [sp_addDish_full hk hr.k0 c]
    exact hQ fi hr (fun _ _ => rfl)
  · rw [if_neg c] at hQ
    exact sp_addDish hk hr.k0 hw.1.1 hw.sm (by omega) ((hw.1.2.2.2.1 _ (by omega)).2.1 (Nat.le_refl _)) hQ
theorem sp_oStep (hk : z_Kok fr k) (hr : z_KR fi k w) (hw : a_W w) {x0 x1 x2 x3 x4 : Int32} (hQ : ∀ fi', z_KR fi' k (o_step w x0 x1 x2 x3 x4).2 → (∀ j, j < k ∨ k + 20 ≤ j → fi' j = fi j) → Q (some (.int (o_step w x0 x1 x2 x3 x4).1)) (151, fi', fl, fr)) : TT 180 0 [some (.ref k), some (.int x0), some (.int x1), some (.int x2), some (.int x3), some (.int x4), none] [] (151, fi, fl, fr) Q := by
  unfold o_step at hQ
  have h13 := hw.1.2.2.1
  by_cases c : 0 ≤ x0.toInt ∧ x0.toInt < w 13 ∧ 0 ≤ x1.toInt ∧ x1.toInt ≤ 3 ∧ 0 ≤ x2.toInt ∧ x2.toInt ≤ 3 ∧ 0 < x1.toInt + x2.toInt ∧ 0 ≤ x3.toInt ∧ x3.toInt ≤ x1.toInt + x2.toInt ∧ 1 ≤ x4.toInt ∧ x4.toInt ≤ 5
  · rw [if_pos c] at hQ
    obtain ⟨e0, l0⟩ := nI_ofInt (x := x0) (by omega)
    obtain ⟨e1, l1⟩ := nI_ofInt (x := x1) (by omega)
    obtain ⟨e2, l2⟩ := nI_ofInt (x := x2) (by omega)
    obtain ⟨e3, l3⟩ := nI_ofInt (x := x3) (by omega)
    obtain ⟨e4, l4⟩ := nI_ofInt (x := x4) (by omega)
    generalize hx0 : x0.toInt.toNat = a0 at *
    generalize hx1 : x1.toInt.toNat = a1 at *
    generalize hx2 : x2.toInt.toNat = a2 at *
    generalize hx3 : x3.toInt.toNat = a3 at *
    generalize hx4 : x4.toInt.toNat = a4 at *
    rw [e0, e1, e2, e3, e4]
    have sm3 := hw.sm a0 (by omega)
    by_cases c3 : a_sm w a0 = 3
    · rw [if_pos c3] at hQ
      rw [sp_step_full hk hr.k0 h13 (show a0 < w 13 by omega) c3 (show a1 ≤ 3 by omega) (show a2 ≤ 3 by omega) (by omega) (show a3 ≤ a1 + a2 by omega) (show 1 ≤ a4 by omega) (by omega)]
      exact hQ fi hr (fun _ _ => rfl)
    · rw [if_neg c3] at hQ
      exact sp_step hk hr.k0 hw.1.1 hw.sm h13 (by omega) (by omega) (by omega) (by omega) (by omega) (by omega) (by omega) (by omega) hQ
  · rw [if_neg c] at hQ
    rw [sp_step_bad hk h13 hr.1.2.1 c]
    exact hQ fi hr (fun _ _ => rfl)
theorem sp_oKnives (hk : z_Kok fr k) (hr : z_KR fi k w) (hw : a_W w) {x : Int32} (hQ : ∀ fi', z_KR fi' k (o_knives w x).2 → (∀ j, j < k ∨ k + 20 ≤ j → fi' j = fi j) → Q (some (.int (o_knives w x).1)) (151, fi', fl, fr)) : TT 181 0 [some (.ref k), some (.int x), none] [] (151, fi, fl, fr) Q := by
  unfold o_knives at hQ
  by_cases c : 0 ≤ x.toInt ∧ x.toInt ≤ 6
  · rw [if_pos c] at hQ
    obtain ⟨ex, lx⟩ := nI_ofInt c.1
    generalize hx : x.toInt.toNat = a at *
    rw [ex]
    exact sp_knives hk hr.k0 hw.1.1 hw.sm (by omega) hQ
  · rw [if_neg c] at hQ
    rw [sp_knives_bad c]
    exact hQ fi hr (fun _ _ => rfl)
theorem sp_oStrike (hk : z_Kok fr k) (hr : z_KR fi k w) (hw : a_W w) {b : Nat} (hb : b ≤ 1) (hQ : ∀ fi', z_KR fi' k (o_strike w b).2 → (∀ j, j < k ∨ k + 20 ≤ j → fi' j = fi j) → Q (some (.int (o_strike w b).1)) (151, fi', fl, fr)) : TT 182 0 [some (.ref k), some (.int (nI b))] [] (151, fi, fl, fr) Q := by
  unfold o_strike at hQ
  by_cases c : b = w 54
  · rw [if_pos c] at hQ
    rw [sp_strike_no hk hr.k0 hw.1.2.2.2.2.2.1 c]
    exact hQ fi hr (fun _ _ => rfl)
  · rw [if_neg c] at hQ
    exact sp_strike hk hr.k0 hw.1.1 hw.sm hw.1.2.2.2.2.2.1 hb c hQ
end
