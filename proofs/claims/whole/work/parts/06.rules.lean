/-! runs, and rules to walk them: TT y pc L S M Q: from there method y comes to its end, with an answer and a memory of which Q holds -/
def TT (y pc : Nat) (L : Lo) (S : List Value) (M : Mm) (Q : Option Value → Mm → Prop) : Prop := ∃ n r M', z_run n y pc L S M = some (r, M') ∧ Q r M'
def TR (z : Option Zr) (y pn : Nat) (M : Mm) (Q : Option Value → Mm → Prop) : Prop := match z with
  | none => False
  | some (.inl (pc', L', S', M')) => TT y pc' L' S' M' Q
  | some (.inr (.inl v)) => Q v M
  | some (.inr (.inr (j, as, L', S'))) => TT j 0 (z_ent (z_ml j) as) [] M (fun v M' => TT y pn L' (v.toList ++ S') M' Q)
theorem z_mono1 : ∀ (n y pc : Nat) (L : Lo) (S : List Value) (M : Mm) (x : Option Value × Mm), z_run n y pc L S M = some x → z_run (n + 1) y pc L S M = some x := by
  intro n
  induction n with
  | zero => intro y pc L S M x h; cases h
  | succ n ih =>
    intro y pc L S M x h
    rw [z_run] at h
    rw [z_run]
    cases hc : z_cd y pc with
    | none => rw [hc] at h; cases h
    | some q =>
      obtain ⟨ins, len⟩ := q
      rw [hc] at h
      dsimp only at h ⊢
      cases hs : z_st ins len pc L S M with
      | none => rw [hs] at h; cases h
      | some z =>
        rw [hs] at h
        rcases z with ⟨pc', L', S', M'⟩ | v | ⟨j, as, L', S'⟩
        · exact ih _ _ _ _ _ _ h
        · exact h
        · dsimp only at h ⊢
          cases hr : z_run n j 0 (z_ent (z_ml j) as) [] M with
          | none => rw [hr] at h; cases h
          | some w =>
            obtain ⟨v, M'⟩ := w
            rw [hr] at h
            rw [ih _ _ _ _ _ _ hr]
            exact ih _ _ _ _ _ _ h
theorem z_mono {n m y pc : Nat} {L : Lo} {S : List Value} {M : Mm} {x : Option Value × Mm} (hm : n ≤ m) (h : z_run n y pc L S M = some x) : z_run m y pc L S M = some x := by
  obtain ⟨k, rfl⟩ := Nat.exists_eq_add_of_le hm
  induction k with
  | zero => exact h
  | succ k ih => exact z_mono1 _ _ _ _ _ _ _ (ih (Nat.le_add_right _ _))
theorem z_det {n m y pc : Nat} {L : Lo} {S : List Value} {M : Mm} {x x' : Option Value × Mm} (h : z_run n y pc L S M = some x) (h' : z_run m y pc L S M = some x') : x = x' := by
  have a := z_mono (Nat.le_max_left n m) h
  have b := z_mono (Nat.le_max_right n m) h'
  exact Option.some.inj (a.symm.trans b)
theorem TT.mono {y pc : Nat} {L : Lo} {S : List Value} {M : Mm} {Q Q' : Option Value → Mm → Prop} (h : TT y pc L S M Q) (hq : ∀ r M', Q r M' → Q' r M') : TT y pc L S M Q' := by
  obtain ⟨n, r, M', h1, h2⟩ := h
  exact ⟨n, r, M', h1, hq _ _ h2⟩
theorem T_eq {y pc n : Nat} {ins : Instr} {L : Lo} {S : List Value} {M : Mm} {Q : Option Value → Mm → Prop} (h : z_cd y pc = some (ins, n)) : TT y pc L S M Q = TR (z_st ins n pc L S M) y (pc + n) M Q := by
  apply propext
  constructor
  · rintro ⟨k, r, M', h1, h2⟩
    cases k with
    | zero => cases h1
    | succ k =>
      rw [z_run, h] at h1
      dsimp only at h1
      cases hs : z_st ins n pc L S M with
      | none => rw [hs] at h1; cases h1
      | some z =>
        rw [hs] at h1
        rcases z with ⟨pc', L', S', M2⟩ | v | ⟨j, as, L', S'⟩
        · exact ⟨k, r, M', h1, h2⟩
        · cases h1
          exact h2
        · dsimp only at h1
          cases hr : z_run k j 0 (z_ent (z_ml j) as) [] M with
          | none => rw [hr] at h1; cases h1
          | some w =>
            obtain ⟨v, M3⟩ := w
            rw [hr] at h1
            exact ⟨k, v, M3, hr, k, r, M', h1, h2⟩
  · intro hT
    cases hs : z_st ins n pc L S M with
    | none => rw [hs] at hT; exact hT.elim
    | some z =>
      rw [hs] at hT
      rcases z with ⟨pc', L', S', M2⟩ | v | ⟨j, as, L', S'⟩
      · obtain ⟨k, r, M', h1, h2⟩ := hT
        exact ⟨k + 1, r, M', by rw [z_run, h]; dsimp only; rw [hs]; exact h1, h2⟩
      · exact ⟨1, v, M, by rw [z_run, h]; dsimp only; rw [hs], hT⟩
      · obtain ⟨k, v, M3, hr, k2, r, M', h1, h2⟩ := hT
        refine ⟨max k k2 + 1, r, M', ?_, h2⟩
        rw [z_run, h]
        dsimp only
        rw [hs]
        dsimp only
        rw [z_mono (Nat.le_max_left k k2) hr]
        exact z_mono (Nat.le_max_right k k2) h1
/-- a method whose answer and memory are known -/
theorem T_exact {y pc : Nat} {L : Lo} {S : List Value} {M M' : Mm} {r : Option Value} (h : ∀ Q : Option Value → Mm → Prop, Q r M' → TT y pc L S M Q) (Q : Option Value → Mm → Prop) : TT y pc L S M Q = Q r M' := by
  apply propext
  refine ⟨fun hT => ?_, h Q⟩
  obtain ⟨n, r1, M1, h1, h2⟩ := hT
  obtain ⟨m, r2, M2, h3, e1, e2⟩ := h (fun a b => a = r ∧ b = M') ⟨rfl, rfl⟩
  have := z_det h1 h3
  cases this
  rw [← e1, ← e2]
  exact h2
