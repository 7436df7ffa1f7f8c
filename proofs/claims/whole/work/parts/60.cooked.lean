/-! cooked, whose -/
theorem a_bit_lt {b n j : Nat} (hb : b < 2 ^ n) (hj : n ≤ j) : a_bit b j = false := by
  rw [a_bit_test]
  exact Nat.testBit_lt_two_pow (Nat.lt_of_lt_of_le hb (Nat.pow_le_pow_right (by decide) hj))
theorem a_anyDone_iff {w : Nat → Nat} {b : Nat} : ∀ n d, (a_anyDone w b n d = true) ↔ ∃ j, d ≤ j ∧ j < d + n ∧ a_bit b j = true ∧ a_done w j = true
  | 0, d => by
    simp only [a_anyDone, Bool.false_eq_true, false_iff]
    rintro ⟨j, h1, h2, -⟩
    omega
  | n + 1, d => by
    simp only [a_anyDone, Bool.or_eq_true, Bool.and_eq_true, a_anyDone_iff n (d + 1)]
    constructor
    · rintro (⟨h1, h2⟩ | ⟨j, h1, h2, h3⟩)
      · exact ⟨d, Nat.le_refl _, by omega, h1, h2⟩
      · exact ⟨j, by omega, by omega, h3⟩
    · rintro ⟨j, h1, h2, h3⟩
      by_cases e : j = d
      · subst e; exact Or.inl h3
      · exact Or.inr ⟨j, by omega, by omega, h3⟩
theorem a_bit_or {a b d : Nat} : a_bit (a ||| b) d = (a_bit a d || a_bit b d) := by
  rw [a_bit_test, a_bit_test, a_bit_test, Nat.testBit_or]
theorem a_bit_pow {n d : Nat} : a_bit (2 ^ n) d = decide (n = d) := by
  rw [a_bit_test, Nat.testBit_two_pow]
theorem a_begun_bit {w : Nat → Nat} {j : Nat} : ∀ n d s, (a_bit (a_begun w n d s) j = true) ↔ (a_bit s j = true ∨ (d ≤ j ∧ j < d + n ∧ 0 < (a_stp w j (a_gone w j)).2))
  | 0, d, s => by
    simp only [a_begun]
    constructor
    · exact fun h => Or.inl h
    · rintro (h | ⟨h1, h2, -⟩)
      · exact h
      · omega
  | n + 1, d, s => by
    unfold a_begun
    rw [a_begun_bit n (d + 1)]
    by_cases c : 0 < (a_stp w d (a_gone w d)).2
    · rw [if_pos c, a_bit_or, a_bit_pow, Bool.or_eq_true, decide_eq_true_iff]
      constructor
      · rintro ((h | rfl) | ⟨h1, h2, h3⟩)
        · exact Or.inl h
        · exact Or.inr ⟨Nat.le_refl _, by omega, c⟩
        · exact Or.inr ⟨by omega, by omega, h3⟩
      · rintro (h | ⟨h1, h2, h3⟩)
        · exact Or.inl (Or.inl h)
        · by_cases e : d = j
          · exact Or.inl (Or.inr e)
          · exact Or.inr ⟨by omega, by omega, h3⟩
    · rw [if_neg c]
      constructor
      · rintro (h | ⟨h1, h2, h3⟩)
        · exact Or.inl h
        · exact Or.inr ⟨by omega, by omega, h3⟩
      · rintro (h | ⟨h1, h2, h3⟩)
        · exact Or.inl h
        · refine Or.inr ⟨?_, by omega, h3⟩
          by_cases e : d = j
          · subst e; exact absurd h3 c
          · omega
theorem a_begun_lt {w : Nat → Nat} : ∀ n d s, s < 8 → d + n ≤ 3 → a_begun w n d s < 8
  | 0, d, s, hs, _ => hs
  | n + 1, d, s, hs, h => by
    unfold a_begun
    refine a_begun_lt n (d + 1) _ ?_ (by omega)
    split
    · exact Nat.or_lt_two_pow (n := 3) hs (Nat.pow_lt_pow_right (by decide) (by omega))
    · exact hs
theorem a_keyOf_at {w : Nat → Nat} (hw : a_WF w) {b j : Nat} (hj : j < 3) : ∀ n d key, key < 64 → d + n ≤ 3 → a_keyOf w b n d key < 64 ∧ a_at (a_keyOf w b n d key) j = if d ≤ j ∧ j < d + n ∧ a_bit b j = true ∧ a_done w j = false then (a_stp w j (a_gone w j)).1 else a_at key j
  | 0, d, key, hk, h => by
    refine ⟨hk, ?_⟩
    rw [if_neg (by omega)]
    rfl
  | n + 1, d, key, hk, h => by
    unfold a_keyOf
    have wd := (hw.2.2.2.1 d (by omega)).1
    have st : (a_stp w d (a_gone w d)).1 < 4 := Nat.lt_succ_of_le (Nat.le_trans (a_stp_spec wd (a_gone w d)).1 wd.1)
    obtain ⟨p1, p2⟩ := a_put_at key hk d (by omega) _ st
    by_cases c : (a_bit b d && !(a_done w d)) = true
    · rw [if_pos c]
      obtain ⟨c1, c2⟩ := Bool.and_eq_true_iff.mp c
      obtain ⟨h1, h2⟩ := a_keyOf_at hw (b := b) hj n (d + 1) (a_put key d (a_stp w d (a_gone w d)).1) p1 (by omega)
      refine ⟨h1, ?_⟩
      rw [h2, p2 j hj]
      by_cases e : j = d
      · subst e
        rw [if_neg (by omega), if_pos rfl, if_pos ⟨Nat.le_refl _, by omega, c1, by simpa using c2⟩]
      · rw [if_neg e]
        by_cases q : d + 1 ≤ j ∧ j < d + 1 + n ∧ a_bit b j = true ∧ a_done w j = false
        · rw [if_pos q, if_pos ⟨by omega, by omega, q.2.2⟩]
        · rw [if_neg q, if_neg (fun r => q ⟨by omega, by omega, r.2.2⟩)]
    · rw [if_neg c]
      obtain ⟨h1, h2⟩ := a_keyOf_at hw (b := b) hj n (d + 1) key hk (by omega)
      refine ⟨h1, ?_⟩
      rw [h2]
      by_cases q : d + 1 ≤ j ∧ j < d + 1 + n ∧ a_bit b j = true ∧ a_done w j = false
      · rw [if_pos q, if_pos ⟨by omega, by omega, q.2.2⟩]
      · rw [if_neg q, if_neg (fun r => ?_)]
        by_cases e : j = d
        · subst e
          exact c (Bool.and_eq_true_iff.mpr ⟨r.2.2.1, by rw [r.2.2.2]; rfl⟩)
        · exact q ⟨by omega, by omega, r.2.2⟩
theorem a_stp_end {w : Nat → Nat} {d : Nat} (hw : a_WD w d) : (a_stp w d (a_tot w d)).2 = 0 := by
  obtain ⟨h1, h2, h3⟩ := a_stp_spec hw (a_tot w d)
  generalize (a_stp w d (a_tot w d)).1 = s at *
  generalize (a_stp w d (a_tot w d)).2 = r at *
  have : s = 0 ∨ s = 1 ∨ s = 2 ∨ s = 3 := by have := hw.1; omega
  unfold a_tot a_pre at h2
  rcases hw.cases with e | ⟨e, s0⟩ | ⟨e, s0, s1⟩ | ⟨e, s0, s1, s2⟩ <;> rw [e] at h1 h2 h3 <;> rcases this with rfl | rfl | rfl | rfl <;> simp at h1 h2 h3 <;> omega
theorem a_S_plc {w : Nat → Nat} (hw : a_WF w) {d : Nat} (hd : d < 3) : plc (a_S w) d = a_gone w d := by
  have h := (a_fs_plc hw (set := 7)).2 d hd
  rw [a_fs7] at h
  rw [h]
  have : d = 0 ∨ d = 1 ∨ d = 2 := by omega
  rcases this with rfl | rfl | rfl <;> rfl
theorem a_keyS_at {w : Nat → Nat} (hw : a_WF w) {s b d : Nat} (h8 : b < 8) (hd : d < 3) : a_at (a_keyS w s b) d = if a_bit b d then a_sp w d (plc s d) else 3 := by
  unfold a_keyS
  rw [a_out_at _ (a_kst_lt hw) b h8 d hd, a_kst_at hw d hd]
theorem a_enough_congr {w hl : Nat → Nat} {er el k1 k2 : Nat} (h : ∀ d, d < 3 → a_at k1 d = a_at k2 d) : a_enough w hl er el k1 = a_enough w hl er el k2 := by
  have e : ∀ f : Nat → Nat → Nat, n_sum f k1 3 = n_sum f k2 3 := by
    intro f
    simp only [n_sum]
    rw [h 0 (by decide), h 1 (by decide), h 2 (by decide)]
  unfold a_enough
  simp only [e]
theorem l_all_congr {w : Nat → Nat} {k1 k2 : Nat} (h : ∀ d, d < 3 → a_at k1 d = a_at k2 d) : l_all w k1 3 0 = l_all w k2 3 0 := by
  simp only [l_all]
  rw [h 0 (by decide), h (0 + 1) (by decide), h (0 + 1 + 1) (by decide)]
/-- no dish of a set is done: the key of the set is the state's -/
theorem a_key_same {w : Nat → Nat} (hw : a_WF w) {b : Nat} (hb : b < 2 ^ w 13) (hd : a_anyDone w b (w 13) 0 = false) : ∀ d, d < 3 → a_at (a_keyOf w b (w 13) 0 63) d = a_at (a_keyS w (a_S w) b) d := by
  intro d hd3
  have h13 := hw.2.2.1
  have b8 : b < 8 := Nat.lt_of_lt_of_le hb (Nat.pow_le_pow_right (by decide) h13)
  have a63 : ∀ d, d < 3 → a_at 63 d = 3 := by decide +kernel
  rw [(a_keyOf_at hw hd3 (w 13) 0 63 (by decide) (by omega)).2, a_keyS_at hw b8 hd3, a63 d hd3, a_S_plc hw hd3]
  cases hbd : a_bit b d
  · rw [if_neg (fun q => by exact absurd q.2.2.1 (by decide)), if_neg (by decide)]
  · have d13 : d < w 13 := by
      rcases Nat.lt_or_ge d (w 13) with q | q
      · exact q
      · rw [a_bit_lt hb q] at hbd; exact absurd hbd (by decide)
    have dn : a_done w d = false := by
      cases q : a_done w d
      · rfl
      · rw [(a_anyDone_iff (w 13) 0).mpr ⟨d, Nat.zero_le _, by omega, hbd, q⟩] at hd
        exact absurd hd (by decide)
    rw [if_pos ⟨Nat.zero_le _, by omega, rfl, dn⟩, if_pos rfl]
    unfold a_sp
    unfold a_done at dn
    have := of_decide_eq_false dn
    have := (hw.2.2.2.1 d hd3).2.2
    rw [if_pos (by omega)]
theorem a_go_iff {w : Nat → Nat} (hw : a_WF w) {b : Nat} (hb : b < 2 ^ w 13) : (a_mvN w (a_S w) b = true) ↔ (a_anyDone w b (w 13) 0 = false ∧ (∀ j, j < 3 → a_bit (a_begun w (w 13) 0 0) j = true → a_bit b j = true) ∧ a_en w (w 54) (a_keyS w (a_S w) b) = true) := by
  have h13 := hw.2.2.1
  have b8 : b < 8 := Nat.lt_of_lt_of_le hb (Nat.pow_le_pow_right (by decide) h13)
  unfold a_mvN
  rw [a_mv_iff hw b8]
  have e1 : (∀ d, d < 3 → a_bit b d = true → plc (a_S w) d < a_tot w d) ↔ a_anyDone w b (w 13) 0 = false := by
    constructor
    · intro h
      cases q : a_anyDone w b (w 13) 0
      · rfl
      · obtain ⟨j, j1, j2, j3, j4⟩ := (a_anyDone_iff (w 13) 0).mp q
        have := h j (by omega) j3
        rw [a_S_plc hw (by omega)] at this
        have := of_decide_eq_true j4
        omega
    · intro h d hd hbd
      rw [a_S_plc hw hd]
      have g := (hw.2.2.2.1 d hd).2.2
      have d13 : d < w 13 := by
        rcases Nat.lt_or_ge d (w 13) with q | q
        · exact q
        · rw [a_bit_lt hb q] at hbd; exact absurd hbd (by decide)
      have : a_done w d = false := by
        cases q : a_done w d
        · rfl
        · rw [(a_anyDone_iff (w 13) 0).mpr ⟨d, Nat.zero_le _, by omega, hbd, q⟩] at h
          exact absurd h (by decide)
      have := of_decide_eq_false this
      omega
  have e2 : (∀ d, d < 3 → a_bg w d (plc (a_S w) d) = true → a_bit b d = true) ↔ (∀ j, j < 3 → a_bit (a_begun w (w 13) 0 0) j = true → a_bit b j = true) := by
    have eq : ∀ d, d < 3 → ((a_bg w d (plc (a_S w) d) = true) ↔ a_bit (a_begun w (w 13) 0 0) d = true) := by
      intro d hd
      rw [a_S_plc hw hd, a_begun_bit]
      unfold a_bg
      rw [decide_eq_true_iff]
      have wd := hw.2.2.2.1 d hd
      have z0 : a_bit 0 d = false := by rw [a_bit_test]; simp
      constructor
      · rintro ⟨h1, h2⟩
        refine Or.inr ⟨Nat.zero_le _, ?_, h2⟩
        rcases Nat.lt_or_ge d (w 13) with q | q
        · omega
        · have := wd.2.1 q
          unfold a_tot at h1
          rw [this] at h1
          simp at h1
      · rintro (h | ⟨-, h2, h3⟩)
        · rw [z0] at h; exact absurd h (by decide)
        · refine ⟨?_, h3⟩
          rcases Nat.lt_or_ge (a_gone w d) (a_tot w d) with q | q
          · exact q
          · have e : a_gone w d = a_tot w d := by omega
            rw [e, a_stp_end wd.1] at h3
            omega
    constructor
    · intro h j hj hb
      exact h j hj ((eq j hj).mpr hb)
    · intro h j hj hb
      exact h j hj ((eq j hj).mp hb)
  rw [e1, e2]
  rfl
theorem a_sub8_ : ∀ x, x < 8 → ∀ b, b < 8 → decide (x ^^^ (x &&& b) = 0) = ((!a_bit x 0 || a_bit b 0) && ((!a_bit x 1 || a_bit b 1) && (!a_bit x 2 || a_bit b 2))) := by decide +kernel
theorem a_sub8 {x b : Nat} (hx : x < 8) (hb : b < 8) : (x ^^^ (x &&& b) = 0) ↔ ∀ j, j < 3 → a_bit x j = true → a_bit b j = true := by
  have h := a_sub8_ x hx b hb
  rw [← decide_eq_true_iff (p := x ^^^ (x &&& b) = 0), h]
  simp only [Bool.and_eq_true, Bool.or_eq_true, Bool.not_eq_true']
  constructor
  · rintro ⟨h0, h1, h2⟩ d hd h
    have : d = 0 ∨ d = 1 ∨ d = 2 := by omega
    rcases this with rfl | rfl | rfl
    · exact h0.resolve_left (by rw [h]; decide)
    · exact h1.resolve_left (by rw [h]; decide)
    · exact h2.resolve_left (by rw [h]; decide)
  · intro h
    refine ⟨?_, ?_, ?_⟩
    · cases e : a_bit x 0
      · exact Or.inl rfl
      · exact Or.inr (h 0 (by decide) e)
    · cases e : a_bit x 1
      · exact Or.inl rfl
      · exact Or.inr (h 1 (by decide) e)
    · cases e : a_bit x 2
      · exact Or.inl rfl
      · exact Or.inr (h 2 (by decide) e)
def r_cooked (ws : Nat → Nat → Nat) (nn : Nat → Nat) (x : Int32) : Int32 × (Nat → Nat → Nat) × (Nat → Nat) := if 1 ≤ x.toInt ∧ x.toInt < 2 ^ ws 0 13 then (if a_mvN (ws 0) (a_S (ws 0)) x.toInt.toNat = true then (nI (a_doneCount (a_on (ws 0) x.toInt.toNat) (ws 0 13) 0 0), uw ws (a_on (ws 0) x.toInt.toNat), nn) else (nM 3, ws, rf nn 3)) else (nM 2, ws, rf nn 2)
def r_whose (ws : Nat → Nat → Nat) (nn : Nat → Nat) (x y : Int32) : Int32 × (Nat → Nat) := if 0 ≤ x.toInt ∧ x.toInt < 2 ^ ws 0 13 ∧ 0 ≤ y.toInt ∧ a_anyDone (ws 0) x.toInt.toNat (ws 0 13) 0 = false then
  (if a_en (ws 0) (ws 0 54) (a_keyS (ws 0) (a_S (ws 0)) x.toInt.toNat) = true then (match (a_rowS (ws 0) (a_S (ws 0)) x.toInt.toNat)[y.toInt.toNat]? with | some p => nI p.2 | none => nM 5, nn) else (nM 1, nn)) else (nM 10, rf nn 2)
/-- a minute more is past -/
theorem a_on_lo {w : Nat → Nat} {b j : Nat} (h : j < 55) : a_on w b j = w j := by
  unfold a_on
  rw [if_neg (by omega), if_neg (by omega), if_neg (by omega)]
theorem a_on_gone {w : Nat → Nat} (h13 : w 13 ≤ 3) {b d : Nat} (hd : d < 3) (hb : b < 2 ^ w 13) : a_gone (a_on w b) d = a_gone w d + if a_bit b d then 1 else 0 := by
  unfold a_gone a_on
  rw [if_neg (by omega), if_neg (by omega), show 55 + d - 55 = d by omega]
  cases h : a_bit b d
  · rw [if_neg (by simp)]; simp
  · have : d < w 13 := by
      rcases Nat.lt_or_ge d (w 13) with q | q
      · exact q
      · rw [a_bit_lt hb q] at h; exact absurd h (by decide)
    rw [if_pos ⟨by omega, by omega, rfl⟩]; simp
theorem a_pc_congr {w w' : Nat → Nat} {d : Nat} : ∀ n, (∀ i, i < n → w' (59 + i) = w (59 + i)) → a_pc w' d n = a_pc w d n
  | 0, _ => rfl
  | n + 1, h => by
    unfold a_pc
    rw [a_pc_congr n (fun i hi => h i (by omega)), h n (by omega)]
theorem a_bits1 : ∀ b, b < 8 → 0 < b → 1 ≤ (if a_bit b 0 then 1 else 0) + (if a_bit b 1 then 1 else 0) + (if a_bit b 2 then 1 else 0) := by decide +kernel
theorem a_pc_sum {w : Nat → Nat} : ∀ n, (∀ i, i < n → 0 < w (59 + i) ∧ w (59 + i) < 8) → n ≤ a_pc w 0 n + a_pc w 1 n + a_pc w 2 n
  | 0, _ => Nat.zero_le _
  | n + 1, h => by
    have ih := a_pc_sum (w := w) n (fun i hi => h i (by omega))
    obtain ⟨h1, h2⟩ := h n (by omega)
    have := a_bits1 _ h2 h1
    unfold a_pc
    omega
/-- rows that only differ in what is cooked -/
theorem a_WF.cook {w w' : Nat → Nat} (h : a_WF w) (hl : ∀ j, j < 55 → w' j = w j) (hp : ∀ i, i < w' 58 → 0 < w' (59 + i) ∧ w' (59 + i) < 2 ^ w 13) (hg : ∀ d, d < 3 → a_gone w' d = a_pc w' d (w' 58)) (ht : ∀ d, d < 3 → a_gone w' d ≤ a_tot w d) : a_W w' := by
  have h13 := h.2.2.1
  have e8 : 2 ^ w 13 ≤ 2 ^ 3 := Nat.pow_le_pow_right (by decide) h13
  have sm : ∀ d, d < 3 → a_sm w' d = a_sm w d := fun d hd => hl _ (by omega)
  have st : ∀ d s k, d < 3 → s < 3 → k < 4 → a_st w' d s k = a_st w d s k := fun d s k hd hs hk => hl _ (by omega)
  have tot : ∀ d, d < 3 → a_tot w' d = a_tot w d := by
    intro d hd
    unfold a_tot
    rw [sm d hd, st d 0 3 hd (by decide) (by decide), st d 1 3 hd (by decide) (by decide), st d 2 3 hd (by decide) (by decide)]
  refine ⟨⟨by rw [hl 0 (by decide)]; exact h.1, fun c hc => ?_, by rw [hl 13 (by decide)]; exact h13, fun d hd => ⟨(h.2.2.2.1 d hd).1.congr (sm d hd) (fun s k hs hk => st d s k hd hs hk), fun q => ?_, ?_⟩, by rw [hl 53 (by decide)]; exact h.2.2.2.2.1, by rw [hl 54 (by decide)]; exact h.2.2.2.2.2.1, ?_⟩, fun i hi => ?_, hg⟩
  · rw [hl 0 (by decide)] at hc
    have := h.1
    rw [hl _ (by omega), hl _ (by omega)]
    exact h.2.1 c hc
  · rw [hl 13 (by decide)] at q
    rw [sm d hd]
    exact (h.2.2.2.1 d hd).2.1 q
  · rw [tot d hd]; exact ht d hd
  · rw [hg 0 (by decide), hg 1 (by decide), hg 2 (by decide)]
    exact a_pc_sum _ (fun i hi => ⟨(hp i hi).1, Nat.lt_of_lt_of_le (hp i hi).2 e8⟩)
  · rw [hl 13 (by decide)]; exact hp i hi
theorem a_on_W {w : Nat → Nat} (h : a_W w) {b : Nat} (h0 : 0 < b) (hb : b < 2 ^ w 13) (hm : a_mvN w (a_S w) b = true) : a_W (a_on w b) := by
  have h13 := h.1.2.2.1
  have e8 : 2 ^ w 13 ≤ 2 ^ 3 := Nat.pow_le_pow_right (by decide) h13
  have mv := ((a_mv_iff h.1 (by omega)).mp hm).1
  have e58 : a_on w b 58 = w 58 + 1 := by
    unfold a_on
    rw [if_neg (by omega), if_pos rfl]
  have past : ∀ i, i < w 58 → a_on w b (59 + i) = w (59 + i) := by
    intro i hi
    unfold a_on
    rw [if_neg (by omega), if_neg (by omega), if_neg (by omega)]
  have now : a_on w b (59 + w 58) = b := by
    unfold a_on
    rw [if_pos rfl]
  refine h.1.cook (fun j hj => a_on_lo hj) (fun i hi => ?_) (fun d hd => ?_) (fun d hd => ?_)
  · rw [e58] at hi
    by_cases e : i = w 58
    · subst e; rw [now]; exact ⟨h0, hb⟩
    · rw [past i (by omega)]
      exact h.2.1 i (by omega)
  · rw [a_on_gone h13 hd hb, e58, h.2.2 d hd]
    show _ = a_pc (a_on w b) d (w 58) + _
    rw [a_pc_congr _ past, now]
  · rw [a_on_gone h13 hd hb]
    have g := (h.1.2.2.2.1 d hd).2.2
    cases q : a_bit b d
    · simpa using g
    · have := mv d hd q
      rw [a_S_plc h.1 hd] at this
      simp only [if_true]
      omega
theorem a_back_W {w : Nat → Nat} (h : a_W w) (h0 : w 58 ≠ 0) : a_W (a_back w) := by
  have h13 := h.1.2.2.1
  obtain ⟨n, hn⟩ : ∃ n, w 58 = n + 1 := ⟨w 58 - 1, by omega⟩
  have e58 : a_back w 58 = n := by
    unfold a_back
    rw [if_pos rfl, hn]
    rfl
  have lo : ∀ j, j < 55 → a_back w j = w j := by
    intro j hj
    unfold a_back
    rw [if_neg (by omega), if_neg (by omega)]
  have past : ∀ i, a_back w (59 + i) = w (59 + i) := by
    intro i
    unfold a_back
    rw [if_neg (by omega), if_neg (by omega)]
  have l8 := (h.2.1 n (by omega)).2
  have gone : ∀ d, d < 3 → a_gone (a_back w) d + (if a_bit (w (59 + n)) d then 1 else 0) = a_gone w d := by
    intro d hd
    have pc := h.2.2 d hd
    rw [hn] at pc
    unfold a_pc at pc
    unfold a_gone a_back
    rw [if_neg (by omega), show 55 + d - 55 = d by omega, show 58 + w 58 = 59 + n by omega]
    unfold a_gone at pc
    cases q : a_bit (w (59 + n)) d
    · rw [if_neg (by simp)]; simp
    · have : d < w 13 := by
        rcases Nat.lt_or_ge d (w 13) with r | r
        · exact r
        · rw [a_bit_lt l8 r] at q; exact absurd q (by decide)
      rw [q] at pc
      rw [if_pos ⟨by omega, by omega, rfl⟩]
      simp only [if_true] at pc ⊢
      omega
  refine h.1.cook lo (fun i hi => ?_) (fun d hd => ?_) (fun d hd => ?_)
  · rw [e58] at hi
    rw [past i]
    exact h.2.1 i (by omega)
  · have g := gone d hd
    have pc := h.2.2 d hd
    rw [hn] at pc
    unfold a_pc at pc
    rw [e58, a_pc_congr _ (fun i _ => past i)]
    omega
  · have g := gone d hd
    have := (h.1.2.2.2.1 d hd).2.2
    omega
