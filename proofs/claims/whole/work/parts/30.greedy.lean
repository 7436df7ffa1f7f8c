/-! a hand that is wanted can be given, if the hands are enough -/
theorem a_cnt_ex {f hl : Nat → Nat} : ∀ n, 1 ≤ a_cnt f hl n → ∃ c, c < n ∧ 1 ≤ f (hl c)
  | 0, h => absurd h (by show ¬ 1 ≤ 0; omega)
  | n + 1, h => by
    have h' : 1 ≤ a_cnt f hl n + f (hl n) := h
    by_cases e : 1 ≤ f (hl n)
    · exact ⟨n, by omega, e⟩
    · obtain ⟨c, hc, q⟩ := a_cnt_ex (f := f) (hl := hl) n (by omega)
      exact ⟨c, by omega, q⟩
theorem a_first_ex {hl : Nat → Nat} {ri sh : Bool} {a b c d : Nat} : ∀ n j, (∃ r, j ≤ r ∧ r < j + n ∧ h_can (hl r) ri sh = true ∧ a_covN (uh hl r (h_lo (hl r) ri)) a b c d = true) → ∃ r, a_first hl ri sh a b c d n j = some r ∧ j ≤ r ∧ r < j + n ∧ h_can (hl r) ri sh = true ∧ a_covN (uh hl r (h_lo (hl r) ri)) a b c d = true
  | 0, j, h => by obtain ⟨r, h1, h2, -⟩ := h; omega
  | n + 1, j, h => by
    unfold a_first
    by_cases e : (h_can (hl j) ri sh && a_covN (uh hl j (h_lo (hl j) ri)) a b c d) = true
    · rw [if_pos e]
      have := Bool.and_eq_true_iff.mp e
      exact ⟨j, rfl, by omega, by omega, this.1, this.2⟩
    · rw [if_neg e]
      obtain ⟨r, h1, h2, h3, h4⟩ := h
      have hne : r ≠ j := by
        rintro rfl
        exact e (by rw [h3, h4]; rfl)
      obtain ⟨q, q1, q2, q3, q4⟩ := a_first_ex n (j + 1) ⟨r, by omega, by omega, h3, h4⟩
      exact ⟨q, q1, by omega, by omega, q4⟩
theorem a_covN_iff {hl : Nat → Nat} {a b c d : Nat} : (a_covN hl a b c d = true) ↔ (a ≤ a_cnt hsr hl 6 ∧ c ≤ a_cnt hsl hl 6 ∧ (b - a_cnt hbr hl 6 - (a_cnt hsr hl 6 - a)) + (d - 0 - (a_cnt hsl hl 6 - c)) ≤ a_cnt hei hl 6) := by
  unfold a_covN a_cov
  exact decide_eq_true_iff
/-- what is left when cook r gives a hand -/
theorem a_cnt_lo {hl : Nat → Nat} {r : Nat} (hr : r < 6) {ri : Bool} (f : Nat → Nat) : a_cnt f (uh hl r (h_lo (hl r) ri)) 6 + f (hl r) = a_cnt f hl 6 + f (h_lo (hl r) ri) := a_cnt_uh 6 hr
theorem hsr_m {m : Nat} (h : 1 ≤ hsr m) : m = 1 ∨ m = 3 := by
  unfold hsr at h
  split at h
  · assumption
  · omega
theorem hsl_m {m : Nat} (h : 1 ≤ hsl m) : m = 2 ∨ m = 3 := by
  unfold hsl at h
  split at h
  · assumption
  · omega
theorem hbr_m {m : Nat} (h : 1 ≤ hbr m) : m = 9 := by
  unfold hbr at h
  split at h
  · assumption
  · omega
theorem hei_m {m : Nat} (h : 1 ≤ hei m) : m = 12 := by
  unfold hei at h
  split at h
  · assumption
  · omega
/-- one of the cooks can -/
theorem a_greedy {hl : Nat → Nat} {th : Nat → Bool} (hv : ∀ c, c < 6 → h_ok (th c) (hl c)) {ri sh : Bool} {a b c d : Nat} (h1 : (if ri then (if sh then a else b) else (if sh then c else d)) ≠ 0) (hc : a_covN hl a b c d = true) :
    ∃ r, r < 6 ∧ h_can (hl r) ri sh = true ∧ a_covN (uh hl r (h_lo (hl r) ri)) (n_less ri sh a b c d).1 (n_less ri sh a b c d).2.1 (n_less ri sh a b c d).2.2.1 (n_less ri sh a b c d).2.2.2 = true := by
  rw [a_covN_iff] at hc
  obtain ⟨c1, c2, c3⟩ := hc
  have key : ∀ f : Nat → Nat, 1 ≤ a_cnt f hl 6 → ∃ r, r < 6 ∧ 1 ≤ f (hl r) := fun f h => a_cnt_ex 6 h
  have fin : ∀ r, r < 6 → ∀ m, hl r = m → h_can m ri sh = true →
      (a_cnt hsr hl 6 + hsr (h_lo m ri) - hsr m ≥ (n_less ri sh a b c d).1 ∧ a_cnt hsl hl 6 + hsl (h_lo m ri) - hsl m ≥ (n_less ri sh a b c d).2.2.1 ∧ ((n_less ri sh a b c d).2.1 - (a_cnt hbr hl 6 + hbr (h_lo m ri) - hbr m) - (a_cnt hsr hl 6 + hsr (h_lo m ri) - hsr m - (n_less ri sh a b c d).1)) + ((n_less ri sh a b c d).2.2.2 - 0 - (a_cnt hsl hl 6 + hsl (h_lo m ri) - hsl m - (n_less ri sh a b c d).2.2.1)) ≤ a_cnt hei hl 6 + hei (h_lo m ri) - hei m) →
      ∃ r, r < 6 ∧ h_can (hl r) ri sh = true ∧ a_covN (uh hl r (h_lo (hl r) ri)) (n_less ri sh a b c d).1 (n_less ri sh a b c d).2.1 (n_less ri sh a b c d).2.2.1 (n_less ri sh a b c d).2.2.2 = true := by
    intro r hr m hm hcan hx
    refine ⟨r, hr, by rw [hm]; exact hcan, ?_⟩
    rw [a_covN_iff]
    have q1 := a_cnt_lo (hl := hl) hr (ri := ri) hsr
    have q2 := a_cnt_lo (hl := hl) hr (ri := ri) hbr
    have q3 := a_cnt_lo (hl := hl) hr (ri := ri) hsl
    have q4 := a_cnt_lo (hl := hl) hr (ri := ri) hei
    rw [hm] at q1 q2 q3 q4 ⊢
    omega
  cases ri <;> cases sh <;> simp only [if_true, if_false, n_less, Bool.false_eq_true] at h1 fin ⊢
  · by_cases s : c < a_cnt hsl hl 6
    · obtain ⟨r, hr, q⟩ := key hsl (by omega)
      have hp := a_cnt_pos (f := hsl) (hl := hl) 6 hr
      have hm := hsl_m q
      rcases hm with hm | hm
      · rw [hm] at hp
        refine fin r hr _ hm rfl ?_
        simp [hsr, hbr, hsl, hei, h_lo] at hp ⊢
        omega
      · rw [hm] at hp
        refine fin r hr _ hm rfl ?_
        simp [hsr, hbr, hsl, hei, h_lo] at hp ⊢
        omega
    · obtain ⟨r, hr, q⟩ := key hei (by omega)
      have hp := a_cnt_pos (f := hei) (hl := hl) 6 hr
      have hm := hei_m q
      rw [hm] at hp
      refine fin r hr _ hm rfl ?_
      simp [hsr, hbr, hsl, hei, h_lo] at hp ⊢
      omega
  · obtain ⟨r, hr, q⟩ := key hsl (by omega)
    have hp := a_cnt_pos (f := hsl) (hl := hl) 6 hr
    have hm := hsl_m q
    rcases hm with hm | hm
    · rw [hm] at hp
      refine fin r hr _ hm rfl ?_
      simp [hsr, hbr, hsl, hei, h_lo] at hp ⊢
      omega
    · rw [hm] at hp
      refine fin r hr _ hm rfl ?_
      simp [hsr, hbr, hsl, hei, h_lo] at hp ⊢
      omega
  · by_cases s0 : 1 ≤ a_cnt hbr hl 6
    · obtain ⟨r, hr, q⟩ := key hbr (by omega)
      have hp := a_cnt_pos (f := hbr) (hl := hl) 6 hr
      have hm := hbr_m q
      rw [hm] at hp
      refine fin r hr _ hm rfl ?_
      simp [hsr, hbr, hsl, hei, h_lo] at hp ⊢
      omega
    · by_cases s : a < a_cnt hsr hl 6
      · obtain ⟨r, hr, q⟩ := key hsr (by omega)
        have hp := a_cnt_pos (f := hsr) (hl := hl) 6 hr
        have hm := hsr_m q
        rcases hm with hm | hm
        · rw [hm] at hp
          refine fin r hr _ hm rfl ?_
          simp [hsr, hbr, hsl, hei, h_lo] at hp ⊢
          omega
        · rw [hm] at hp
          refine fin r hr _ hm rfl ?_
          simp [hsr, hbr, hsl, hei, h_lo] at hp ⊢
          omega
      · obtain ⟨r, hr, q⟩ := key hei (by omega)
        have hp := a_cnt_pos (f := hei) (hl := hl) 6 hr
        have hm := hei_m q
        rw [hm] at hp
        refine fin r hr _ hm rfl ?_
        simp [hsr, hbr, hsl, hei, h_lo] at hp ⊢
        omega
  · obtain ⟨r, hr, q⟩ := key hsr (by omega)
    have hp := a_cnt_pos (f := hsr) (hl := hl) 6 hr
    have hm := hsr_m q
    rcases hm with hm | hm
    · rw [hm] at hp
      refine fin r hr _ hm rfl ?_
      simp [hsr, hbr, hsl, hei, h_lo] at hp ⊢
      omega
    · rw [hm] at hp
      refine fin r hr _ hm rfl ?_
      simp [hsr, hbr, hsl, hei, h_lo] at hp ⊢
      omega
