/-! the planner's states -/
def plc (s d : Nat) : Nat := s / 2 ^ (4 * d) % 16
/-- the key of all dishes at their steps -/
def a_kst (w : Nat → Nat) (s : Nat) : Nat := (a_sp w 0 (plc s 0) ||| a_sp w 1 (plc s 1) * 4) ||| a_sp w 2 (plc s 2) * 16
def a_bst (w : Nat → Nat) (s : Nat) : Nat := msk (fun d => a_bg w d (plc s d)) 3
def a_mvm (w : Nat → Nat) (en : Nat → Bool) (s : Nat) : Nat := a_open en (a_kst w s) &&& (z_stT 5).getD (a_bst w s) 0
/-- whether a set may go on in a state -/
def a_mv (w : Nat → Nat) (en : Nat → Bool) (s set : Nat) : Bool := a_bit (a_mvm w en s) set
theorem a_kst_at3 : ∀ x, x < 4 → ∀ y, y < 4 → ∀ z, z < 4 → ((x ||| y * 4) ||| z * 16) < 64 ∧ a_at ((x ||| y * 4) ||| z * 16) 0 = x ∧ a_at ((x ||| y * 4) ||| z * 16) 1 = y ∧ a_at ((x ||| y * 4) ||| z * 16) 2 = z := by decide +kernel
theorem a_kst_lt {w : Nat → Nat} (hw : a_WF w) {s : Nat} : a_kst w s < 64 := (a_kst_at3 _ (a_sp_lt (hw.2.2.2.1 0 (by decide)).1) _ (a_sp_lt (hw.2.2.2.1 1 (by decide)).1) _ (a_sp_lt (hw.2.2.2.1 2 (by decide)).1)).1
theorem a_kst_at {w : Nat → Nat} (hw : a_WF w) {s : Nat} : ∀ d, d < 3 → a_at (a_kst w s) d = a_sp w d (plc s d) := by
  have h := (a_kst_at3 _ (a_sp_lt (hw.2.2.2.1 0 (by decide)).1 (p := plc s 0)) _ (a_sp_lt (hw.2.2.2.1 1 (by decide)).1 (p := plc s 1)) _ (a_sp_lt (hw.2.2.2.1 2 (by decide)).1 (p := plc s 2))).2
  intro d hd
  have : d = 0 ∨ d = 1 ∨ d = 2 := by omega
  rcases this with rfl | rfl | rfl
  · exact h.1
  · exact h.2.1
  · exact h.2.2
theorem a_hold_ : ∀ b, b < 8 → ∀ set, set < 8 → a_bit ((z_stT 5).getD b 0) set = ((!a_bit b 0 || a_bit set 0) && ((!a_bit b 1 || a_bit set 1) && (!a_bit b 2 || a_bit set 2))) := by decide +kernel
theorem a_hold {b set : Nat} (hb : b < 8) (hs : set < 8) : (a_bit ((z_stT 5).getD b 0) set = true) ↔ ∀ d, d < 3 → a_bit b d = true → a_bit set d = true := by
  rw [a_hold_ b hb set hs]
  simp only [Bool.and_eq_true, Bool.or_eq_true, Bool.not_eq_true']
  constructor
  · rintro ⟨h0, h1, h2⟩ d hd h
    have : d = 0 ∨ d = 1 ∨ d = 2 := by omega
    rcases this with rfl | rfl | rfl
    · exact h0.resolve_left (by rw [h]; decide)
    · exact h1.resolve_left (by rw [h]; decide)
    · exact h2.resolve_left (by rw [h]; decide)
  · intro h
    refine ⟨?_, ?_, ?_⟩
    · cases e : a_bit b 0
      · exact Or.inl rfl
      · exact Or.inr (h 0 (by decide) e)
    · cases e : a_bit b 1
      · exact Or.inl rfl
      · exact Or.inr (h 1 (by decide) e)
    · cases e : a_bit b 2
      · exact Or.inl rfl
      · exact Or.inr (h 2 (by decide) e)
theorem a_hold_lt : ∀ b, b < 8 → (z_stT 5).getD b 0 < 256 := by decide +kernel
theorem a_out_at : ∀ key, key < 64 → ∀ set, set < 8 → ∀ d, d < 3 → a_at (key ||| (z_stT 4).getD set 0) d = if a_bit set d then a_at key d else 3 := by decide +kernel
theorem a_bit_and (a b d : Nat) : a_bit (a &&& b) d = (a_bit a d && a_bit b d) := by
  rw [a_bit_test, a_bit_test, a_bit_test, Nat.testBit_and]
theorem a_mvm_lt {w : Nat → Nat} {en : Nat → Bool} {s : Nat} : a_mvm w en s < 256 := Nat.lt_of_le_of_lt Nat.and_le_left (msk_lt _ 8)
theorem a_mv_iff {w : Nat → Nat} (hw : a_WF w) {en : Nat → Bool} {s set : Nat} (h8 : set < 8) :
    (a_mv w en s set = true) ↔ ((∀ d, d < 3 → a_bit set d = true → plc s d < a_tot w d) ∧ (∀ d, d < 3 → a_bg w d (plc s d) = true → a_bit set d = true) ∧ en (a_kst w s ||| (z_stT 4).getD set 0) = true) := by
  unfold a_mv a_mvm
  rw [a_bit_and, Bool.and_eq_true_iff, a_hold (b := a_bst w s) (msk_lt _ 3) h8]
  unfold a_open
  rw [msk_bit, decide_eq_true h8, Bool.true_and, Bool.and_eq_true_iff, a_hs_iff]
  have k3 : ∀ d, d < 3 → (a_at (a_kst w s) d ≠ 3 ↔ plc s d < a_tot w d) := by
    intro d hd
    have wd := (hw.2.2.2.1 d hd).1
    rw [a_kst_at hw d hd]
    unfold a_sp
    by_cases c : plc s d < a_tot w d
    · rw [if_pos c]
      have sp := a_stp_spec wd (plc s d)
      refine ⟨fun _ => c, fun _ e => ?_⟩
      have sm : a_sm w d = 3 := by have := wd.1; omega
      have : a_tot w d = a_pre w d 3 := by unfold a_tot a_pre; rw [sm]
      rw [e] at sp
      omega
    · rw [if_neg c]
      exact ⟨fun h => absurd rfl h, fun h => absurd h c⟩
  have bst : ∀ d, d < 3 → a_bit (a_bst w s) d = a_bg w d (plc s d) := by
    intro d hd
    unfold a_bst
    rw [msk_bit, decide_eq_true hd, Bool.true_and]
  constructor
  · rintro ⟨⟨h1, h2⟩, h3⟩
    exact ⟨fun d hd hb => (k3 d hd).mp (h1 d (Nat.zero_le _) (by omega) hb), fun d hd hb => h3 d hd (by rw [bst d hd]; exact hb), h2⟩
  · rintro ⟨h1, h2, h3⟩
    exact ⟨⟨fun d _ hd hb => (k3 d (by omega)).mpr (h1 d (by omega) hb), h3⟩, fun d hd hb => h2 d hd (by rw [← bst d hd]; exact hb)⟩
def inc (hi : Nat) : Nat → List Nat → Prop
  | lo, [] => lo ≤ hi
  | lo, s :: t => lo ≤ s ∧ s < hi ∧ inc hi (s + 1) t
theorem inc.le {hi : Nat} : ∀ {l : List Nat} {lo lo' : Nat}, inc hi lo l → lo' ≤ lo → inc hi lo' l
  | [], lo, lo', h, h2 => Nat.le_trans h2 h
  | s :: t, lo, lo', h, h2 => ⟨Nat.le_trans h2 h.1, h.2.1, h.2.2⟩
theorem inc.app {m hi : Nat} (hm : m ≤ hi) : ∀ {a : List Nat} {lo : Nat} {b : List Nat}, inc m lo a → inc hi m b → inc hi lo (a ++ b)
  | [], lo, b, h, h2 => h2.le h
  | s :: t, lo, b, h, h2 => ⟨h.1, Nat.lt_of_lt_of_le h.2.1 hm, inc.app hm h.2.2 h2⟩
theorem inc.up {hi hi' : Nat} (hh : hi ≤ hi') : ∀ {l : List Nat} {lo : Nat}, inc hi lo l → inc hi' lo l
  | [], lo, h => Nat.le_trans h hh
  | s :: t, lo, h => ⟨h.1, Nat.lt_of_lt_of_le h.2.1 hh, inc.up hh h.2.2⟩
theorem inc.lh {hi : Nat} : ∀ {l : List Nat} {lo : Nat}, inc hi lo l → lo ≤ hi
  | [], lo, h => h
  | s :: t, lo, h => Nat.le_trans h.1 (Nat.le_of_lt h.2.1)
theorem inc.len {hi : Nat} : ∀ {l : List Nat} {lo : Nat}, inc hi lo l → l.length + lo ≤ hi
  | [], lo, h => by
    have h' : lo ≤ hi := h
    simpa using h'
  | s :: t, lo, h => by
    have := inc.len h.2.2
    have := h.1
    rw [List.length_cons]
    omega
theorem inc.mem {hi : Nat} : ∀ {l : List Nat} {lo : Nat}, inc hi lo l → ∀ s ∈ l, lo ≤ s ∧ s < hi
  | [], lo, h, s, hs => absurd hs List.not_mem_nil
  | x :: t, lo, h, s, hs => by
    rcases List.mem_cons.mp hs with rfl | hs
    · exact ⟨h.1, h.2.1⟩
    · have := inc.mem h.2.2 s hs
      have := h.1
      omega
theorem inc.split {hi : Nat} : ∀ {a : List Nat} {lo s : Nat} {b : List Nat}, inc hi lo (a ++ s :: b) → (∀ t ∈ a, t < s) ∧ (∀ t ∈ b, s < t)
  | [], lo, s, b, h => ⟨fun t ht => absurd ht List.not_mem_nil, fun t ht => (inc.mem h.2.2 t ht).1⟩
  | x :: a, lo, s, b, h => by
    have ih := inc.split (a := a) h.2.2
    refine ⟨fun t ht => ?_, ih.2⟩
    rcases List.mem_cons.mp ht with rfl | ht
    · have := (inc.mem h.2.2 s (by simp)).1
      omega
    · exact ih.1 t ht
def s_x (c : Nat) : Nat → Nat → List Nat
  | 0, _ => []
  | n + 1, x => (x + c) :: s_x c n (x + 1)
def s_y (x0 nx c : Nat) : Nat → Nat → List Nat
  | 0, _ => []
  | n + 1, y => s_x (16 * y + c) nx x0 ++ s_y x0 nx c n (y + 1)
def s_z (x0 nx y0 ny : Nat) : Nat → Nat → List Nat
  | 0, _ => []
  | n + 1, z => s_y x0 nx (256 * z) ny y0 ++ s_z x0 nx y0 ny n (z + 1)
theorem s_x_inc {c : Nat} : ∀ n x, inc (x + n + c) (x + c) (s_x c n x)
  | 0, x => Nat.le_refl _
  | n + 1, x => by
    have h := s_x_inc (c := c) n (x + 1)
    rw [show x + 1 + n + c = x + (n + 1) + c by omega, show x + 1 + c = x + c + 1 by omega] at h
    exact ⟨Nat.le_refl _, by omega, h⟩
theorem s_x_mem {c s : Nat} : ∀ n x, s ∈ s_x c n x ↔ ∃ i, x ≤ i ∧ i < x + n ∧ s = i + c
  | 0, x => by
    simp only [s_x, List.not_mem_nil, false_iff]
    rintro ⟨i, h1, h2, -⟩
    omega
  | n + 1, x => by
    simp only [s_x, List.mem_cons, s_x_mem n (x + 1)]
    constructor
    · rintro (rfl | ⟨i, h1, h2, rfl⟩)
      · exact ⟨x, Nat.le_refl _, by omega, rfl⟩
      · exact ⟨i, by omega, by omega, rfl⟩
    · rintro ⟨i, h1, h2, rfl⟩
      by_cases e : i = x
      · subst e; exact Or.inl rfl
      · exact Or.inr ⟨i, by omega, by omega, rfl⟩
theorem s_y_inc {x0 nx c : Nat} (hx : x0 + nx ≤ 16) : ∀ n y, inc (16 * (y + n) + c) (16 * y + c) (s_y x0 nx c n y)
  | 0, y => Nat.le_refl _
  | n + 1, y => by
    have h := s_y_inc (c := c) hx n (y + 1)
    rw [show y + 1 + n = y + (n + 1) by omega] at h
    have h1 := s_x_inc (c := 16 * y + c) nx x0
    exact inc.app (m := 16 * (y + 1) + c) (by omega) ((inc.up (by omega) h1).le (by omega)) h
theorem s_y_mem {x0 nx c s : Nat} : ∀ n y, s ∈ s_y x0 nx c n y ↔ ∃ i j, x0 ≤ i ∧ i < x0 + nx ∧ y ≤ j ∧ j < y + n ∧ s = i + (16 * j + c)
  | 0, y => by
    simp only [s_y, List.not_mem_nil, false_iff]
    rintro ⟨i, j, -, -, h1, h2, -⟩
    omega
  | n + 1, y => by
    simp only [s_y, List.mem_append, s_x_mem, s_y_mem n (y + 1)]
    constructor
    · rintro (⟨i, h1, h2, rfl⟩ | ⟨i, j, h1, h2, h3, h4, rfl⟩)
      · exact ⟨i, y, h1, h2, Nat.le_refl _, by omega, rfl⟩
      · exact ⟨i, j, h1, h2, by omega, by omega, rfl⟩
    · rintro ⟨i, j, h1, h2, h3, h4, rfl⟩
      by_cases e : j = y
      · subst e; exact Or.inl ⟨i, h1, h2, rfl⟩
      · exact Or.inr ⟨i, j, h1, h2, by omega, by omega, rfl⟩
theorem s_z_inc {x0 nx y0 ny : Nat} (hx : x0 + nx ≤ 16) (hy : y0 + ny ≤ 16) : ∀ n z, inc (256 * (z + n)) (256 * z) (s_z x0 nx y0 ny n z)
  | 0, z => Nat.le_refl _
  | n + 1, z => by
    have h := s_z_inc hx hy n (z + 1)
    rw [show z + 1 + n = z + (n + 1) by omega] at h
    have h1 := s_y_inc (c := 256 * z) hx ny y0
    exact inc.app (m := 256 * (z + 1)) (by omega) ((inc.up (by omega) h1).le (by omega)) h
theorem s_z_mem {x0 nx y0 ny s : Nat} : ∀ n z, s ∈ s_z x0 nx y0 ny n z ↔ ∃ i j k, x0 ≤ i ∧ i < x0 + nx ∧ y0 ≤ j ∧ j < y0 + ny ∧ z ≤ k ∧ k < z + n ∧ s = i + (16 * j + 256 * k)
  | 0, z => by
    simp only [s_z, List.not_mem_nil, false_iff]
    rintro ⟨i, j, k, -, -, -, -, h1, h2, -⟩
    omega
  | n + 1, z => by
    simp only [s_z, List.mem_append, s_y_mem, s_z_mem n (z + 1)]
    constructor
    · rintro (⟨i, j, h1, h2, h3, h4, rfl⟩ | ⟨i, j, k, h1, h2, h3, h4, h5, h6, rfl⟩)
      · exact ⟨i, j, z, h1, h2, h3, h4, Nat.le_refl _, by omega, rfl⟩
      · exact ⟨i, j, k, h1, h2, h3, h4, by omega, by omega, rfl⟩
    · rintro ⟨i, j, k, h1, h2, h3, h4, h5, h6, rfl⟩
      by_cases e : k = z
      · subst e; exact Or.inl ⟨i, j, h1, h2, h3, h4, rfl⟩
      · exact Or.inr ⟨i, j, k, h1, h2, h3, h4, by omega, by omega, rfl⟩
def a_SL (w : Nat → Nat) : List Nat := s_z (a_gone w 0) (a_tot w 0 + 1 - a_gone w 0) (a_gone w 1) (a_tot w 1 + 1 - a_gone w 1) (a_tot w 2 + 1 - a_gone w 2) (a_gone w 2)
theorem plc_of {i j k : Nat} (hi : i < 16) (hj : j < 16) (hk : k < 16) : plc (i + (16 * j + 256 * k)) 0 = i ∧ plc (i + (16 * j + 256 * k)) 1 = j ∧ plc (i + (16 * j + 256 * k)) 2 = k ∧ i + (16 * j + 256 * k) < 4096 := by
  unfold plc
  simp only [Nat.reduceMul, Nat.reducePow]
  omega
theorem plc_sum {s : Nat} (h : s < 4096) : s = plc s 0 + (16 * plc s 1 + 256 * plc s 2) := by
  unfold plc
  simp only [Nat.reduceMul, Nat.reducePow]
  omega
/-- a state in the planner's box -/
def a_box (w : Nat → Nat) (s : Nat) : Prop := s < 4096 ∧ ∀ d, d < 3 → a_gone w d ≤ plc s d ∧ plc s d ≤ a_tot w d
theorem a_SL_inc {w : Nat → Nat} (hw : a_WF w) : inc 4096 0 (a_SL w) := by
  have t0 := a_tot_le (hw.2.2.2.1 0 (by decide)).1
  have t1 := a_tot_le (hw.2.2.2.1 1 (by decide)).1
  have t2 := a_tot_le (hw.2.2.2.1 2 (by decide)).1
  have g0 := (hw.2.2.2.1 0 (by decide)).2.2
  have g1 := (hw.2.2.2.1 1 (by decide)).2.2
  have g2 := (hw.2.2.2.1 2 (by decide)).2.2
  exact (inc.up (by omega) (s_z_inc (by omega) (by omega) _ _)).le (Nat.zero_le _)
theorem a_SL_mem {w : Nat → Nat} (hw : a_WF w) {s : Nat} : s ∈ a_SL w ↔ a_box w s := by
  have t0 := a_tot_le (hw.2.2.2.1 0 (by decide)).1
  have t1 := a_tot_le (hw.2.2.2.1 1 (by decide)).1
  have t2 := a_tot_le (hw.2.2.2.1 2 (by decide)).1
  have g0 := (hw.2.2.2.1 0 (by decide)).2.2
  have g1 := (hw.2.2.2.1 1 (by decide)).2.2
  have g2 := (hw.2.2.2.1 2 (by decide)).2.2
  unfold a_SL
  rw [s_z_mem]
  constructor
  · rintro ⟨i, j, k, h1, h2, h3, h4, h5, h6, rfl⟩
    obtain ⟨e0, e1, e2, e3⟩ := plc_of (i := i) (j := j) (k := k) (by omega) (by omega) (by omega)
    refine ⟨e3, fun d hd => ?_⟩
    have : d = 0 ∨ d = 1 ∨ d = 2 := by omega
    rcases this with rfl | rfl | rfl
    · rw [e0]; omega
    · rw [e1]; omega
    · rw [e2]; omega
  · rintro ⟨h1, h2⟩
    have d0 := h2 0 (by decide)
    have d1 := h2 1 (by decide)
    have d2 := h2 2 (by decide)
    exact ⟨plc s 0, plc s 1, plc s 2, d0.1, by omega, d1.1, by omega, d2.1, by omega, plc_sum h1⟩
