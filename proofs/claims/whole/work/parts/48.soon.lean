/-! how soon: the fewest minutes, over states (no code here) -/
def nx (s set : Nat) : Nat := s + (z_stT 3).getD set 0
theorem nx_plc {s set : Nat} (hs : s < 4096) (h8 : set < 8) (hb : ∀ d, d < 3 → a_bit set d = true → plc s d < 15) : nx s set < 4096 ∧ ∀ d, d < 3 → plc (nx s set) d = plc s d + if a_bit set d then 1 else 0 := by
  have e := plc_sum hs
  have l0 : plc s 0 < 16 := Nat.mod_lt _ (by decide)
  have l1 : plc s 1 < 16 := Nat.mod_lt _ (by decide)
  have l2 : plc s 2 < 16 := Nat.mod_lt _ (by decide)
  have b0 := hb 0 (by decide)
  have b1 := hb 1 (by decide)
  have b2 := hb 2 (by decide)
  generalize plc s 0 = i at *
  generalize plc s 1 = j at *
  generalize plc s 2 = k at *
  subst e
  have c : set = 0 ∨ set = 1 ∨ set = 2 ∨ set = 3 ∨ set = 4 ∨ set = 5 ∨ set = 6 ∨ set = 7 := by omega
  have fin : ∀ a b c : Nat, (a < 2 ∧ b < 2 ∧ c < 2) → i + a < 16 → j + b < 16 → k + c < 16 → a_bit set 0 = decide (a = 1) → a_bit set 1 = decide (b = 1) → a_bit set 2 = decide (c = 1) → nx (i + (16 * j + 256 * k)) set = (i + a) + (16 * (j + b) + 256 * (k + c)) →
      nx (i + (16 * j + 256 * k)) set < 4096 ∧ ∀ d, d < 3 → plc (nx (i + (16 * j + 256 * k)) set) d = plc (i + (16 * j + 256 * k)) d + if a_bit set d then 1 else 0 := by
    intro a b c h012 ha hb hc e0 e1 e2 en
    obtain ⟨p0, p1, p2, p3⟩ := plc_of ha hb hc
    obtain ⟨q0, q1, q2, -⟩ := plc_of l0 l1 l2
    rw [en]
    refine ⟨p3, fun d hd => ?_⟩
    have : d = 0 ∨ d = 1 ∨ d = 2 := by omega
    rcases this with rfl | rfl | rfl
    · rw [p0, q0, e0]
      have : a = 0 ∨ a = 1 := by omega
      rcases this with rfl | rfl <;> rfl
    · rw [p1, q1, e1]
      have : b = 0 ∨ b = 1 := by omega
      rcases this with rfl | rfl <;> rfl
    · rw [p2, q2, e2]
      have : c = 0 ∨ c = 1 := by omega
      rcases this with rfl | rfl <;> rfl
  rcases c with rfl | rfl | rfl | rfl | rfl | rfl | rfl | rfl
  · exact fin 0 0 0 (by omega) (by omega) (by omega) (by omega) rfl rfl rfl (by show _ + 0 = _; omega)
  · have := b0 rfl
    exact fin 1 0 0 (by omega) (by omega) (by omega) (by omega) rfl rfl rfl (by show _ + 1 = _; omega)
  · have := b1 rfl
    exact fin 0 1 0 (by omega) (by omega) (by omega) (by omega) rfl rfl rfl (by show _ + 16 = _; omega)
  · have := b0 rfl
    have := b1 rfl
    exact fin 1 1 0 (by omega) (by omega) (by omega) (by omega) rfl rfl rfl (by show _ + 17 = _; omega)
  · have := b2 rfl
    exact fin 0 0 1 (by omega) (by omega) (by omega) (by omega) rfl rfl rfl (by show _ + 256 = _; omega)
  · have := b0 rfl
    have := b2 rfl
    exact fin 1 0 1 (by omega) (by omega) (by omega) (by omega) rfl rfl rfl (by show _ + 257 = _; omega)
  · have := b1 rfl
    have := b2 rfl
    exact fin 0 1 1 (by omega) (by omega) (by omega) (by omega) rfl rfl rfl (by show _ + 272 = _; omega)
  · have := b0 rfl
    have := b1 rfl
    have := b2 rfl
    exact fin 1 1 1 (by omega) (by omega) (by omega) (by omega) rfl rfl rfl (by show _ + 273 = _; omega)
def ex7 (f : Nat → Bool) : Bool := f 1 || (f 2 || (f 3 || (f 4 || (f 5 || (f 6 || f 7)))))
theorem ex7_iff {f : Nat → Bool} : (ex7 f = true) ↔ ∃ s, 1 ≤ s ∧ s < 8 ∧ f s = true := by
  unfold ex7
  simp only [Bool.or_eq_true]
  constructor
  · rintro (h | h | h | h | h | h | h)
    · exact ⟨1, by decide, by decide, h⟩
    · exact ⟨2, by decide, by decide, h⟩
    · exact ⟨3, by decide, by decide, h⟩
    · exact ⟨4, by decide, by decide, h⟩
    · exact ⟨5, by decide, by decide, h⟩
    · exact ⟨6, by decide, by decide, h⟩
    · exact ⟨7, by decide, by decide, h⟩
  · rintro ⟨s, h1, h2, h⟩
    have : s = 1 ∨ s = 2 ∨ s = 3 ∨ s = 4 ∨ s = 5 ∨ s = 6 ∨ s = 7 := by omega
    rcases this with rfl | rfl | rfl | rfl | rfl | rfl | rfl <;> simp [h]
/-- in n minutes the end is reached -/
def rch (mv : Nat → Nat → Bool) (E : Nat) : Nat → Nat → Bool
  | 0, s => decide (s = E)
  | n + 1, s => ex7 (fun set => mv s set && rch mv E n (nx s set))
def fst_ (f : Nat → Bool) : Nat → Nat → Nat
  | 0, _ => 100
  | n + 1, i => if f i then i else fst_ f n (i + 1)
/-- the fewest minutes; 100: never -/
def a_F (mv : Nat → Nat → Bool) (E s : Nat) : Nat := fst_ (fun n => rch mv E n s) 46 0
theorem fst_spec {f : Nat → Bool} : ∀ n i, i + n ≤ 100 → (fst_ f n i = 100 ∧ ∀ j, i ≤ j → j < i + n → f j = false) ∨ (i ≤ fst_ f n i ∧ fst_ f n i < i + n ∧ f (fst_ f n i) = true ∧ ∀ j, i ≤ j → j < fst_ f n i → f j = false)
  | 0, i, h => Or.inl ⟨rfl, fun j h1 h2 => by omega⟩
  | n + 1, i, h => by
    unfold fst_
    by_cases e : f i = true
    · rw [if_pos e]
      exact Or.inr ⟨Nat.le_refl _, by omega, e, fun j h1 h2 => by omega⟩
    · rw [if_neg e]
      have e' : f i = false := by simpa using e
      rcases fst_spec (f := f) n (i + 1) (by omega) with ⟨h1, h2⟩ | ⟨h1, h2, h3, h4⟩
      · refine Or.inl ⟨h1, fun j j1 j2 => ?_⟩
        by_cases c : j = i
        · rw [c]; exact e'
        · exact h2 j (by omega) (by omega)
      · refine Or.inr ⟨by omega, by omega, h3, fun j j1 j2 => ?_⟩
        by_cases c : j = i
        · rw [c]; exact e'
        · exact h4 j (by omega) j2
/-- a system of moves: in its box each move brings the end nearer -/
def z_sys (mv : Nat → Nat → Bool) (B : Nat → Prop) (rm : Nat → Nat) : Prop := (∀ s, B s → rm s ≤ 45) ∧ ∀ s set, B s → 1 ≤ set → set < 8 → mv s set = true → B (nx s set) ∧ rm (nx s set) < rm s
section
variable {mv : Nat → Nat → Bool} {B : Nat → Prop} {rm : Nat → Nat} {E : Nat}
theorem rch_le (h : z_sys mv B rm) : ∀ n s, B s → rch mv E n s = true → n ≤ rm s
  | 0, s, _, _ => Nat.zero_le _
  | n + 1, s, hb, hr => by
    unfold rch at hr
    obtain ⟨set, h1, h2, h3⟩ := ex7_iff.mp hr
    obtain ⟨h4, h5⟩ := Bool.and_eq_true_iff.mp h3
    obtain ⟨b2, r2⟩ := h.2 s set hb h1 h2 h4
    have := rch_le h n _ b2 h5
    omega
theorem a_F_spec (h : z_sys mv B rm) {s : Nat} (hb : B s) : (a_F mv E s = 100 ∧ ∀ n, rch mv E n s = false) ∨ (a_F mv E s ≤ 45 ∧ rch mv E (a_F mv E s) s = true ∧ ∀ n, n < a_F mv E s → rch mv E n s = false) := by
  rcases fst_spec (f := fun n => rch mv E n s) 46 0 (by decide) with ⟨h1, h2⟩ | ⟨h1, h2, h3, h4⟩
  · refine Or.inl ⟨h1, fun n => ?_⟩
    by_cases c : n < 46
    · exact h2 n (Nat.zero_le _) (by omega)
    · cases e : rch mv E n s
      · rfl
      · have := rch_le h n s hb e
        have := h.1 s hb
        omega
  · exact Or.inr ⟨Nat.le_of_lt_succ (by simpa [a_F] using h2), h3, fun n hn => h4 n (Nat.zero_le _) hn⟩
theorem a_F_of (h : z_sys mv B rm) {s n : Nat} (hb : B s) (hr : rch mv E n s = true) : a_F mv E s ≤ n := by
  rcases a_F_spec (E := E) h hb with ⟨-, h2⟩ | ⟨-, -, h3⟩
  · rw [h2 n] at hr
    exact absurd hr (by decide)
  · rcases Nat.lt_or_ge n (a_F mv E s) with c | c
    · rw [h3 n c] at hr
      exact absurd hr (by decide)
    · exact c
theorem a_F_E (h : z_sys mv B rm) (hb : B E) : a_F mv E E = 0 := Nat.le_zero.mp (a_F_of h hb (n := 0) (decide_eq_true rfl))
theorem a_F_ne (h : z_sys mv B rm) {s : Nat} (hb : B s) (hs : s ≠ E) : a_F mv E s ≠ 0 := by
  intro e
  rcases a_F_spec (E := E) h hb with ⟨h1, -⟩ | ⟨-, h2, -⟩
  · omega
  · rw [e] at h2
    exact hs (of_decide_eq_true h2)
theorem a_F_up (h : z_sys mv B rm) {s set : Nat} (hb : B s) (h1 : 1 ≤ set) (h8 : set < 8) (hm : mv s set = true) : a_F mv E s ≤ a_F mv E (nx s set) + 1 := by
  obtain ⟨b2, -⟩ := h.2 s set hb h1 h8 hm
  rcases a_F_spec (E := E) h b2 with ⟨e, -⟩ | ⟨-, e, -⟩
  · rcases a_F_spec (E := E) h hb with ⟨e2, -⟩ | ⟨e2, -⟩ <;> omega
  · refine a_F_of h hb ?_
    unfold rch
    exact ex7_iff.mpr ⟨set, h1, h8, by rw [hm, e]; rfl⟩
theorem a_F_dn (h : z_sys mv B rm) {s : Nat} (hb : B s) (hs : s ≠ E) (hf : a_F mv E s ≠ 100) : ∃ set, 1 ≤ set ∧ set < 8 ∧ mv s set = true ∧ a_F mv E (nx s set) + 1 = a_F mv E s := by
  rcases a_F_spec (E := E) h hb with ⟨e, -⟩ | ⟨-, e, -⟩
  · exact absurd e hf
  · have n0 := a_F_ne (E := E) h hb hs
    obtain ⟨k, hk⟩ : ∃ k, a_F mv E s = k + 1 := ⟨a_F mv E s - 1, by omega⟩
    rw [hk] at e
    unfold rch at e
    obtain ⟨set, h1, h2, h3⟩ := ex7_iff.mp e
    obtain ⟨h4, h5⟩ := Bool.and_eq_true_iff.mp h3
    obtain ⟨b2, -⟩ := h.2 s set hb h1 h2 h4
    have u := a_F_up (E := E) h hb h1 h2 h4
    have l := a_F_of (E := E) h b2 h5
    exact ⟨set, h1, h2, h4, by omega⟩
/-- what the least behind a state comes to, with a number for never -/
theorem a_F_least (h : z_sys mv B rm) {s L N K : Nat} (hN : 100 ≤ N) (hK : N ≤ K) (hb : B s) (hs : s ≠ E) (h1 : L ≤ N) (h2 : ∀ q, 1 ≤ q → q < 8 → mv s q = true → L ≤ (if a_F mv E (nx s q) = 100 then K else a_F mv E (nx s q)))
    (h3 : L = N ∨ ∃ q, 1 ≤ q ∧ q < 8 ∧ mv s q = true ∧ L = (if a_F mv E (nx s q) = 100 then K else a_F mv E (nx s q))) : L + 1 = if a_F mv E s = 100 then N + 1 else a_F mv E s := by
  by_cases hf : a_F mv E s = 100
  · rw [if_pos hf]
    rcases h3 with h3 | ⟨q, q1, q2, q3, q4⟩
    · omega
    · have u := a_F_up (E := E) h hb q1 q2 q3
      by_cases e : a_F mv E (nx s q) = 100
      · rw [if_pos e] at q4; omega
      · obtain ⟨b2, -⟩ := h.2 s q hb q1 q2 q3
        rcases a_F_spec (E := E) h b2 with ⟨x, -⟩ | ⟨x, -⟩ <;> omega
  · rw [if_neg hf]
    obtain ⟨set, s1, s2, s3, s4⟩ := a_F_dn h hb hs hf
    have l := h2 set s1 s2 s3
    have f45 : a_F mv E s ≤ 45 := by
      rcases a_F_spec (E := E) h hb with ⟨x, -⟩ | ⟨x, -⟩
      · exact absurd x hf
      · exact x
    rw [if_neg (by omega)] at l
    rcases h3 with h3 | ⟨q, q1, q2, q3, q4⟩
    · omega
    · have u := a_F_up (E := E) h hb q1 q2 q3
      by_cases e : a_F mv E (nx s q) = 100
      · rw [if_pos e] at q4; omega
      · rw [if_neg e] at q4; omega
end
/-- the planner's end, and what is still to do -/
def a_E (w : Nat → Nat) : Nat := a_tot w 0 + (16 * a_tot w 1 + 256 * a_tot w 2)
def a_S (w : Nat → Nat) : Nat := a_gone w 0 + (16 * a_gone w 1 + 256 * a_gone w 2)
def a_rm (w : Nat → Nat) (s : Nat) : Nat := (a_tot w 0 - plc s 0) + (a_tot w 1 - plc s 1) + (a_tot w 2 - plc s 2)
theorem bit8 : ∀ set, 1 ≤ set → set < 8 → a_bit set 0 = true ∨ a_bit set 1 = true ∨ a_bit set 2 = true := by
  intro set h1 h8
  have : set = 1 ∨ set = 2 ∨ set = 3 ∨ set = 4 ∨ set = 5 ∨ set = 6 ∨ set = 7 := by omega
  rcases this with rfl | rfl | rfl | rfl | rfl | rfl | rfl <;> decide
theorem a_rm_nx {w : Nat → Nat} {s set : Nat} (hb : a_box w s) (ht : ∀ d, d < 3 → a_tot w d ≤ 15) (h1 : 1 ≤ set) (h8 : set < 8) (hm : ∀ d, d < 3 → a_bit set d = true → plc s d < a_tot w d) : a_box w (nx s set) ∧ a_rm w (nx s set) < a_rm w s := by
  obtain ⟨n1, n2⟩ := nx_plc hb.1 h8 (fun d hd h => Nat.lt_of_lt_of_le (hm d hd h) (ht d hd))
  have m0 := hm 0 (by decide)
  have m1 := hm 1 (by decide)
  have m2 := hm 2 (by decide)
  have b0 := hb.2 0 (by decide)
  have b1 := hb.2 1 (by decide)
  have b2 := hb.2 2 (by decide)
  have p0 := n2 0 (by decide)
  have p1 := n2 1 (by decide)
  have p2 := n2 2 (by decide)
  have b8 := bit8 set h1 h8
  unfold a_rm
  rw [p0, p1, p2]
  refine ⟨⟨n1, fun d hd => ?_⟩, ?_⟩
  · rw [n2 d hd]
    have bd := hb.2 d hd
    have md := hm d hd
    cases e : a_bit set d
    · simp only [Bool.false_eq_true, if_false]; omega
    · have := md e
      simp only [if_true]; omega
  · cases e0 : a_bit set 0 <;> cases e1 : a_bit set 1 <;> cases e2 : a_bit set 2 <;> simp only [e0, e1, e2, if_true, if_false, Bool.false_eq_true, true_implies, false_implies, or_self, or_true, true_or, false_or, or_false] at * <;> omega
theorem a_sys {w : Nat → Nat} (hw : a_WF w) {en : Nat → Bool} : z_sys (a_mv w en) (a_box w) (a_rm w) := by
  have t : ∀ d, d < 3 → a_tot w d ≤ 15 := fun d hd => a_tot_le (hw.2.2.2.1 d hd).1
  refine ⟨fun s hs => ?_, fun s set hb h1 h8 hm => a_rm_nx hb t h1 h8 ((a_mv_iff hw h8).mp hm).1⟩
  have t0 := t 0 (by decide)
  have t1 := t 1 (by decide)
  have t2 := t 2 (by decide)
  unfold a_rm
  omega
theorem a_box_E {w : Nat → Nat} (hw : a_WF w) : a_box w (a_E w) := by
  have t : ∀ d, d < 3 → a_tot w d ≤ 15 := fun d hd => a_tot_le (hw.2.2.2.1 d hd).1
  obtain ⟨p0, p1, p2, p3⟩ := plc_of (i := a_tot w 0) (j := a_tot w 1) (k := a_tot w 2) (by have := t 0 (by decide); omega) (by have := t 1 (by decide); omega) (by have := t 2 (by decide); omega)
  refine ⟨p3, fun d hd => ?_⟩
  have g := (hw.2.2.2.1 d hd).2.2
  have : d = 0 ∨ d = 1 ∨ d = 2 := by omega
  unfold a_E
  rcases this with rfl | rfl | rfl
  · rw [p0]; exact ⟨g, Nat.le_refl _⟩
  · rw [p1]; exact ⟨g, Nat.le_refl _⟩
  · rw [p2]; exact ⟨g, Nat.le_refl _⟩
/-- the state from which only some dishes are to be done -/
def a_fs (w : Nat → Nat) (set : Nat) : Nat := (if a_bit set 0 then a_gone w 0 else a_tot w 0) + (16 * (if a_bit set 1 then a_gone w 1 else a_tot w 1) + 256 * (if a_bit set 2 then a_gone w 2 else a_tot w 2))
theorem a_fs_plc {w : Nat → Nat} (hw : a_WF w) {set : Nat} : a_fs w set < 4096 ∧ ∀ d, d < 3 → plc (a_fs w set) d = if a_bit set d then a_gone w d else a_tot w d := by
  have t : ∀ d, d < 3 → (if a_bit set d then a_gone w d else a_tot w d) < 16 := fun d hd => by
    have := a_tot_le (hw.2.2.2.1 d hd).1
    have := (hw.2.2.2.1 d hd).2.2
    split <;> omega
  obtain ⟨p0, p1, p2, p3⟩ := plc_of (t 0 (by decide)) (t 1 (by decide)) (t 2 (by decide))
  refine ⟨p3, fun d hd => ?_⟩
  have : d = 0 ∨ d = 1 ∨ d = 2 := by omega
  rcases this with rfl | rfl | rfl
  · exact p0
  · exact p1
  · exact p2
theorem a_box_fs {w : Nat → Nat} (hw : a_WF w) {set : Nat} : a_box w (a_fs w set) := by
  obtain ⟨h1, h2⟩ := a_fs_plc hw (set := set)
  refine ⟨h1, fun d hd => ?_⟩
  have g := (hw.2.2.2.1 d hd).2.2
  rw [h2 d hd]
  split <;> omega
theorem a_fs7 {w : Nat → Nat} : a_fs w 7 = a_S w := rfl
