/-! EACH STEP OF THE SMALL MACHINE IS ONE OF THE REAL ONE -/
/-- what a frame of method y knows -/
def z_Fr (D : va_G) (AC : Nat → ClassId) (xa : Nat → Nat) (sv : Option Nat) (bs : Nat) (g : Nat → Int32) (y : Nat) (p : Program) (l : Launch) (e : Env) (R : Room) (s : State) (m : MethodId) (args : Array Value) (below : List Frame) (meth : Method) (c : Code) : Prop :=
  p.tables.exec = Jvm.exec ∧ c.code = z_by y ∧ c.maxLocals = z_ml y ∧ s.vm.findClass (z_own (z_owL.getD y 0)) = some m.cls ∧ z_X D AC xa sv bs g s s.heap ∧ (z_inL.getD y false = true → meth.name = "<init>") ∧ z_rFL.getD y 0 ≤ R.frames ∧ z_rLL.getD y 0 ≤ R.locals ∧ bs ≤ s.heap.size ∧ y < 246
/-- a place from which the end is reached, whatever real heap and locals stand for M and L -/
def z_Kk (D : va_G) (AC : Nat → ClassId) (xa : Nat → Nat) (sv : Option Nat) (bs : Nat) (g : Nat → Int32) (p : Program) (l : Launch) (e : Env) (R : Room) (s : State) (m : MethodId) (args : Array Value) (below : List Frame) (meth : Method) (c : Code) (Q : State → Prop) (cn sn pc : Nat) (L : Lo) (S : List Value) (M : Mm) : Prop :=
  ∀ (H : Heap) (locs : List Loc) (ls : Array Slot), z_P D AC xa sv bs g M H → va_S (z_A bs) s.heap H locs → z_LR xa sv bs ls L → ls.size = c.maxLocals → W p l e R s m args below meth c H locs cn sn Q (F0 m pc ls (S.map (z_tv xa sv bs)))
theorem zi_plain {raw mi : Instr} {len n : Nat} (h : (decide (raw = mi) && Nat.beq len n) = true) : raw = mi ∧ len = n := by
  rw [Bool.and_eq_true, decide_eq_true_eq] at h
  exact ⟨h.1, Nat.eq_of_beq_eq_true h.2⟩
theorem zi_and {a b : Bool} (h : (a && b) = true) : a = true ∧ b = true := (Bool.and_eq_true a b).mp h
theorem zi_or {a b : Bool} (h : (a || b) = true) : a = true ∨ b = true := (Bool.or_eq_true a b).mp h
theorem zi_dec {P : Prop} [Decidable P] (h : decide P = true) : P := of_decide_eq_true h
theorem zi_beq {a b : Nat} (h : Nat.beq a b = true) : a = b := Nat.eq_of_beq_eq_true h
theorem zi_blt {a b : Nat} (h : Nat.blt a b = true) : a < b := by simpa using h
theorem zi_ble {a b : Nat} (h : Nat.ble a b = true) : a ≤ b := by simpa using h
theorem zi_not {a : Bool} (h : (!a) = true) : a = false := by simpa using h
theorem zi_two {raw mi mi' : Instr} {len i : Nat} (h : ((decide (raw = mi) && Nat.beq len 2) || (Nat.blt i 4 && decide (raw = mi') && Nat.beq len 1)) = true) : (raw = mi ∧ len = 2) ∨ (i < 4 ∧ raw = mi' ∧ len = 1) := by
  rcases zi_or h with h | h
  · exact Or.inl (zi_plain h)
  · obtain ⟨h1, h2⟩ := zi_and h
    obtain ⟨h3, h4⟩ := zi_and h1
    exact Or.inr ⟨zi_blt h3, zi_dec h4, zi_beq h2⟩
theorem z_lget_some {L : Lo} {i : Nat} {v : Value} (h : z_lget L i = some v) : L[i]? = some (some v) := by
  unfold z_lget at h
  cases e : L[i]? with
  | none => rw [e] at h; cases h
  | some o => rw [e] at h; rw [show o = some v from h]
theorem z_fin4 {i : Nat} (h : i < 4) : ((Fin.ofNat 4 i : Fin 4) : Nat) = i := Nat.mod_eq_of_lt h
section
variable {D : va_G} {AC : Nat → ClassId} {xa : Nat → Nat} {sv : Option Nat} {bs : Nat} {g : Nat → Int32} {y : Nat} {p : Program} {l : Launch} {e : Env} {R : Room} {s : State} {m : MethodId} {args : Array Value} {below : List Frame} {meth : Method} {c : Code} {Q : State → Prop}
variable {o rt pc len cn sn : Nat} {ini : Bool} {raw : Instr} {L : Lo} {S r : List Value} {M : Mm}
def z_enum (xa : Nat → Nat) (sv : Option Nat) (bs : Nat) (L : Lo) : List (Nat × Value) := (List.range L.length).filterMap fun i => (z_lget L i).map fun v => (i, z_tv xa sv bs v)
theorem z_enum_in {L : Lo} {i : Nat} {v : Value} (h : L[i]? = some (some v)) : (i, z_tv xa sv bs v) ∈ z_enum xa sv bs L := by
  have hi : i < L.length := (List.getElem?_eq_some_iff.mp h).1
  refine List.mem_filterMap.mpr ⟨i, List.mem_range.mpr hi, ?_⟩
  unfold z_lget
  rw [h]; rfl
theorem z_enum_has {ls : Array Slot} {L : Lo} (h : z_LR xa sv bs ls L) : lv_has ls L.length (z_enum xa sv bs L) := by
  refine ⟨h.1, h.2.1, fun q hq => ?_⟩
  obtain ⟨i, -, hi⟩ := List.mem_filterMap.mp hq
  cases e : z_lget L i with
  | none => rw [e] at hi; cases hi
  | some v =>
    rw [e] at hi
    cases hi
    exact h.2.2 i v (z_lget_some e)
theorem z_clr_get {L : Lo} {i j : Nat} {w : Value} (h : (z_clr L i)[j]? = some (some w)) : L[j]? = some (some w) ∧ ¬ (j = i ∧ w.category = 2) := by
  unfold z_clr at h
  cases e : z_lget L i with
  | none =>
    rw [e] at h
    refine ⟨h, fun q => ?_⟩
    obtain ⟨rfl, -⟩ := q
    unfold z_lget at e
    rw [show L[j]? = some (some w) from h] at e
    cases e
  | some v =>
    rw [e] at h
    cases hc : z_cat2 v with
    | true =>
      dsimp only at h
      rw [hc] at h
      have h : (L.set i none)[j]? = some (some w) := h
      rw [List.getElem?_set] at h
      split at h
      · split at h <;> cases h
      · rename_i hne
        exact ⟨h, fun q => hne q.1.symm⟩
    | false =>
      dsimp only at h
      rw [hc] at h
      have hh : L[j]? = some (some w) := h
      clear h
      refine ⟨hh, fun q => ?_⟩
      obtain ⟨rfl, q2⟩ := q
      unfold z_lget at e
      rw [hh] at e
      cases e
      unfold z_cat2 at hc
      rw [q2] at hc
      cases hc
theorem z_put1_get {L : Lo} {i j : Nat} {v w : Value} (h : (z_put1 L i v)[j]? = some (some w)) : (j = i ∧ w = v) ∨ (j ≠ i ∧ L[j]? = some (some w) ∧ ¬ (j + 1 = i ∧ w.category = 2)) := by
  cases i with
  | zero =>
    rw [show z_put1 L 0 v = L.set 0 (some v) from rfl, List.getElem?_set] at h
    split at h
    · rename_i h0
      split at h
      · cases h; exact Or.inl ⟨h0.symm, rfl⟩
      · cases h
    · rename_i h0
      exact Or.inr ⟨fun q => h0 q.symm, h, fun q => by omega⟩
  | succ i =>
    rw [show z_put1 L (i + 1) v = (z_clr L i).set (i + 1) (some v) from rfl, List.getElem?_set] at h
    split at h
    · rename_i h0
      split at h
      · cases h; exact Or.inl ⟨h0.symm, rfl⟩
      · cases h
    · rename_i h0
      obtain ⟨a, b⟩ := z_clr_get h
      exact Or.inr ⟨fun q => h0 q.symm, a, fun q => b ⟨by omega, q.2⟩⟩
theorem z_clr_len {L : Lo} {i : Nat} : (z_clr L i).length = L.length := by
  unfold z_clr
  cases z_lget L i with
  | none => rfl
  | some v => show (cond (z_cat2 v) (L.set i none) L).length = L.length; cases z_cat2 v <;> simp
theorem z_put1_len {L : Lo} {i : Nat} {v : Value} : (z_put1 L i v).length = L.length := by
  cases i with
  | zero => simp [z_put1]
  | succ i => simp [z_put1, z_clr_len]
theorem z_put2_get {L : Lo} {i j : Nat} {v w : Value} (h : (z_put2 L i v)[j]? = some (some w)) : (j = i ∧ w = v) ∨ (j ≠ i ∧ j ≠ i + 1 ∧ L[j]? = some (some w) ∧ ¬ (j + 1 = i ∧ w.category = 2)) := by
  unfold z_put2 at h
  rw [List.getElem?_set] at h
  split at h
  · split at h <;> cases h
  · rename_i h0
    rcases z_put1_get h with a | ⟨a, b, d⟩
    · exact Or.inl a
    · exact Or.inr ⟨a, fun q => h0 q.symm, b, d⟩
/-- a stored value of one word -/
theorem z_LR_put1 {ls ls' : Array Slot} {L : Lo} {i : Nat} {v : Value} (h : z_LR xa sv bs ls L) (h' : lv_has ls' L.length ((i, z_tv xa sv bs v) :: (z_enum xa sv bs L).filter (fun q => !(q.1 == i) && !(q.1 + 1 == i && q.2.category == 2)))) : z_LR xa sv bs ls' (z_put1 L i v) := by
  refine ⟨by rw [z_put1_len]; exact h'.1, h'.2.1, fun j w hj => ?_⟩
  rcases z_put1_get hj with ⟨rfl, rfl⟩ | ⟨a, b, d⟩
  · exact h'.2.2 (j, _) List.mem_cons_self
  · refine h'.2.2 (j, _) (List.mem_cons_of_mem _ (List.mem_filter.mpr ⟨z_enum_in b, ?_⟩))
    simp only [Bool.and_eq_true, Bool.not_eq_true', beq_eq_false_iff_ne, Bool.and_eq_false_iff, ne_eq]
    refine ⟨a, ?_⟩
    by_cases q : j + 1 = i
    · exact Or.inr (fun z => d ⟨q, (z_tv_cat (xa := xa) (sv := sv) (bs := bs) w).symm.trans z⟩)
    · exact Or.inl q
theorem z_LR_put2 {ls ls' : Array Slot} {L : Lo} {i : Nat} {v : Value} (h : z_LR xa sv bs ls L) (h' : lv_has ls' L.length ((i, z_tv xa sv bs v) :: (z_enum xa sv bs L).filter (fun q => !(q.1 == i) && (!(q.1 == i + 1) && !(q.1 + 1 == i && q.2.category == 2))))) : z_LR xa sv bs ls' (z_put2 L i v) := by
  refine ⟨by unfold z_put2; rw [List.length_set, z_put1_len]; exact h'.1, h'.2.1, fun j w hj => ?_⟩
  rcases z_put2_get hj with ⟨rfl, rfl⟩ | ⟨a, a2, b, d⟩
  · exact h'.2.2 (j, _) List.mem_cons_self
  · refine h'.2.2 (j, _) (List.mem_cons_of_mem _ (List.mem_filter.mpr ⟨z_enum_in b, ?_⟩))
    simp only [Bool.and_eq_true, Bool.not_eq_true', beq_eq_false_iff_ne, Bool.and_eq_false_iff, ne_eq]
    refine ⟨a, a2, ?_⟩
    by_cases q : j + 1 = i
    · exact Or.inr (fun z => d ⟨q, (z_tv_cat (xa := xa) (sv := sv) (bs := bs) w).symm.trans z⟩)
    · exact Or.inl q
theorem z_Fr.tw (hF : z_Fr D AC xa sv bs g y p l e R s m args below meth c) {w : Cond} (h : w ∈ lw_tbl) (hg : z_gw w = true) (a : Array Value) : w.before a s = true := hF.2.2.2.2.1.1 w h hg a
theorem z_Fr.K (hF : z_Fr D AC xa sv bs g y p l e R s m args below meth c) : va_K D z_cl (z_ty AC) s := hF.2.2.2.2.1.2.1
theorem z_Fr.lv {ls : Array Slot} {L : Lo} (hL : z_LR xa sv bs ls L) {i : Nat} {v : Value} (h : z_lget L i = some v) : ls[i]? = some (.val (z_tv xa sv bs v)) := hL.2.2 i v (z_lget_some h)

theorem zs_iadd (hF : z_Fr D AC xa sv bs g y p l e R s m args below meth c) (hdg : decode (z_by y) pc = .ok (raw, len)) {x z : Int32} (hi : okI o rt ini pc raw len (.iadd) = true)  (k : z_Kk D AC xa sv bs g p l e R s m args below meth c Q cn sn (pc + len) L (.int (x + z) :: r) M) : z_Kk D AC xa sv bs g p l e R s m args below meth c Q cn sn pc L (.int z :: .int x :: r) M := by
  obtain ⟨rfl, rfl⟩ := zi_plain hi
  intro H locs ls hP hS hL hn
  exact lv_iadd hF.1 hF.2.1 hdg (k H locs ls hP hS hL hn)
theorem zs_isub (hF : z_Fr D AC xa sv bs g y p l e R s m args below meth c) (hdg : decode (z_by y) pc = .ok (raw, len)) {x z : Int32} (hi : okI o rt ini pc raw len (.isub) = true)  (k : z_Kk D AC xa sv bs g p l e R s m args below meth c Q cn sn (pc + len) L (.int (x - z) :: r) M) : z_Kk D AC xa sv bs g p l e R s m args below meth c Q cn sn pc L (.int z :: .int x :: r) M := by
  obtain ⟨rfl, rfl⟩ := zi_plain hi
  intro H locs ls hP hS hL hn
  exact lv_isub hF.1 hF.2.1 hdg (k H locs ls hP hS hL hn)
theorem zs_imul (hF : z_Fr D AC xa sv bs g y p l e R s m args below meth c) (hdg : decode (z_by y) pc = .ok (raw, len)) {x z : Int32} (hi : okI o rt ini pc raw len (.imul) = true)  (k : z_Kk D AC xa sv bs g p l e R s m args below meth c Q cn sn (pc + len) L (.int (x * z) :: r) M) : z_Kk D AC xa sv bs g p l e R s m args below meth c Q cn sn pc L (.int z :: .int x :: r) M := by
  obtain ⟨rfl, rfl⟩ := zi_plain hi
  intro H locs ls hP hS hL hn
  exact lv_imul hF.1 hF.2.1 hdg (k H locs ls hP hS hL hn)
theorem zs_iand (hF : z_Fr D AC xa sv bs g y p l e R s m args below meth c) (hdg : decode (z_by y) pc = .ok (raw, len)) {x z : Int32} (hi : okI o rt ini pc raw len (.iand) = true)  (k : z_Kk D AC xa sv bs g p l e R s m args below meth c Q cn sn (pc + len) L (.int (x &&& z) :: r) M) : z_Kk D AC xa sv bs g p l e R s m args below meth c Q cn sn pc L (.int z :: .int x :: r) M := by
  obtain ⟨rfl, rfl⟩ := zi_plain hi
  intro H locs ls hP hS hL hn
  exact lv_iand hF.1 hF.2.1 hdg (k H locs ls hP hS hL hn)
theorem zs_ior (hF : z_Fr D AC xa sv bs g y p l e R s m args below meth c) (hdg : decode (z_by y) pc = .ok (raw, len)) {x z : Int32} (hi : okI o rt ini pc raw len (.ior) = true)  (k : z_Kk D AC xa sv bs g p l e R s m args below meth c Q cn sn (pc + len) L (.int (x ||| z) :: r) M) : z_Kk D AC xa sv bs g p l e R s m args below meth c Q cn sn pc L (.int z :: .int x :: r) M := by
  obtain ⟨rfl, rfl⟩ := zi_plain hi
  intro H locs ls hP hS hL hn
  exact lv_ior hF.1 hF.2.1 hdg (k H locs ls hP hS hL hn)
theorem zs_ixor (hF : z_Fr D AC xa sv bs g y p l e R s m args below meth c) (hdg : decode (z_by y) pc = .ok (raw, len)) {x z : Int32} (hi : okI o rt ini pc raw len (.ixor) = true)  (k : z_Kk D AC xa sv bs g p l e R s m args below meth c Q cn sn (pc + len) L (.int (x ^^^ z) :: r) M) : z_Kk D AC xa sv bs g p l e R s m args below meth c Q cn sn pc L (.int z :: .int x :: r) M := by
  obtain ⟨rfl, rfl⟩ := zi_plain hi
  intro H locs ls hP hS hL hn
  exact lv_ixor hF.1 hF.2.1 hdg (k H locs ls hP hS hL hn)
theorem zs_ishl (hF : z_Fr D AC xa sv bs g y p l e R s m args below meth c) (hdg : decode (z_by y) pc = .ok (raw, len)) {x z : Int32} (hi : okI o rt ini pc raw len (.ishl) = true)  (k : z_Kk D AC xa sv bs g p l e R s m args below meth c Q cn sn (pc + len) L (.int (x <<< (z &&& 31)) :: r) M) : z_Kk D AC xa sv bs g p l e R s m args below meth c Q cn sn pc L (.int z :: .int x :: r) M := by
  obtain ⟨rfl, rfl⟩ := zi_plain hi
  intro H locs ls hP hS hL hn
  exact lv_ishl hF.1 hF.2.1 hdg (k H locs ls hP hS hL hn)
theorem zs_ishr (hF : z_Fr D AC xa sv bs g y p l e R s m args below meth c) (hdg : decode (z_by y) pc = .ok (raw, len)) {x z : Int32} (hi : okI o rt ini pc raw len (.ishr) = true)  (k : z_Kk D AC xa sv bs g p l e R s m args below meth c Q cn sn (pc + len) L (.int (x >>> (z &&& 31)) :: r) M) : z_Kk D AC xa sv bs g p l e R s m args below meth c Q cn sn pc L (.int z :: .int x :: r) M := by
  obtain ⟨rfl, rfl⟩ := zi_plain hi
  intro H locs ls hP hS hL hn
  exact lv_ishr hF.1 hF.2.1 hdg (k H locs ls hP hS hL hn)
theorem zs_iushr (hF : z_Fr D AC xa sv bs g y p l e R s m args below meth c) (hdg : decode (z_by y) pc = .ok (raw, len)) {x z : Int32} (hi : okI o rt ini pc raw len (.iushr) = true)  (k : z_Kk D AC xa sv bs g p l e R s m args below meth c Q cn sn (pc + len) L (.int (x.toUInt32 >>> (z.toUInt32 &&& Int32.toUInt32 31)).toInt32 :: r) M) : z_Kk D AC xa sv bs g p l e R s m args below meth c Q cn sn pc L (.int z :: .int x :: r) M := by
  obtain ⟨rfl, rfl⟩ := zi_plain hi
  intro H locs ls hP hS hL hn
  exact lv_iushr hF.1 hF.2.1 hdg rfl (k H locs ls hP hS hL hn)
theorem zs_idiv (hF : z_Fr D AC xa sv bs g y p l e R s m args below meth c) (hdg : decode (z_by y) pc = .ok (raw, len)) {x z : Int32} (hi : okI o rt ini pc raw len (.idiv) = true)  (hz : ¬ z = 0) (k : z_Kk D AC xa sv bs g p l e R s m args below meth c Q cn sn (pc + len) L (.int (x / z) :: r) M) : z_Kk D AC xa sv bs g p l e R s m args below meth c Q cn sn pc L (.int z :: .int x :: r) M := by
  obtain ⟨rfl, rfl⟩ := zi_plain hi
  intro H locs ls hP hS hL hn
  exact lv_idiv hF.1 hF.2.1 hdg hz (k H locs ls hP hS hL hn)
theorem zs_irem (hF : z_Fr D AC xa sv bs g y p l e R s m args below meth c) (hdg : decode (z_by y) pc = .ok (raw, len)) {x z : Int32} (hi : okI o rt ini pc raw len (.irem) = true)  (hz : ¬ z = 0) (k : z_Kk D AC xa sv bs g p l e R s m args below meth c Q cn sn (pc + len) L (.int (x - x / z * z) :: r) M) : z_Kk D AC xa sv bs g p l e R s m args below meth c Q cn sn pc L (.int z :: .int x :: r) M := by
  obtain ⟨rfl, rfl⟩ := zi_plain hi
  intro H locs ls hP hS hL hn
  exact lv_irem hF.1 hF.2.1 hdg hz (k H locs ls hP hS hL hn)
theorem zs_ladd (hF : z_Fr D AC xa sv bs g y p l e R s m args below meth c) (hdg : decode (z_by y) pc = .ok (raw, len)) {x z : Int64} (hi : okI o rt ini pc raw len (.ladd) = true)  (k : z_Kk D AC xa sv bs g p l e R s m args below meth c Q cn sn (pc + len) L (.long (x + z) :: r) M) : z_Kk D AC xa sv bs g p l e R s m args below meth c Q cn sn pc L (.long z :: .long x :: r) M := by
  obtain ⟨rfl, rfl⟩ := zi_plain hi
  intro H locs ls hP hS hL hn
  exact lv_ladd hF.1 hF.2.1 hdg (k H locs ls hP hS hL hn)
theorem zs_lsub (hF : z_Fr D AC xa sv bs g y p l e R s m args below meth c) (hdg : decode (z_by y) pc = .ok (raw, len)) {x z : Int64} (hi : okI o rt ini pc raw len (.lsub) = true)  (k : z_Kk D AC xa sv bs g p l e R s m args below meth c Q cn sn (pc + len) L (.long (x - z) :: r) M) : z_Kk D AC xa sv bs g p l e R s m args below meth c Q cn sn pc L (.long z :: .long x :: r) M := by
  obtain ⟨rfl, rfl⟩ := zi_plain hi
  intro H locs ls hP hS hL hn
  exact lv_lsub hF.1 hF.2.1 hdg (k H locs ls hP hS hL hn)
theorem zs_lmul (hF : z_Fr D AC xa sv bs g y p l e R s m args below meth c) (hdg : decode (z_by y) pc = .ok (raw, len)) {x z : Int64} (hi : okI o rt ini pc raw len (.lmul) = true)  (k : z_Kk D AC xa sv bs g p l e R s m args below meth c Q cn sn (pc + len) L (.long (x * z) :: r) M) : z_Kk D AC xa sv bs g p l e R s m args below meth c Q cn sn pc L (.long z :: .long x :: r) M := by
  obtain ⟨rfl, rfl⟩ := zi_plain hi
  intro H locs ls hP hS hL hn
  exact lv_lmul hF.1 hF.2.1 hdg (k H locs ls hP hS hL hn)
theorem zs_land (hF : z_Fr D AC xa sv bs g y p l e R s m args below meth c) (hdg : decode (z_by y) pc = .ok (raw, len)) {x z : Int64} (hi : okI o rt ini pc raw len (.land) = true)  (k : z_Kk D AC xa sv bs g p l e R s m args below meth c Q cn sn (pc + len) L (.long (x &&& z) :: r) M) : z_Kk D AC xa sv bs g p l e R s m args below meth c Q cn sn pc L (.long z :: .long x :: r) M := by
  obtain ⟨rfl, rfl⟩ := zi_plain hi
  intro H locs ls hP hS hL hn
  exact lv_land hF.1 hF.2.1 hdg (k H locs ls hP hS hL hn)
theorem zs_lor (hF : z_Fr D AC xa sv bs g y p l e R s m args below meth c) (hdg : decode (z_by y) pc = .ok (raw, len)) {x z : Int64} (hi : okI o rt ini pc raw len (.lor) = true)  (k : z_Kk D AC xa sv bs g p l e R s m args below meth c Q cn sn (pc + len) L (.long (x ||| z) :: r) M) : z_Kk D AC xa sv bs g p l e R s m args below meth c Q cn sn pc L (.long z :: .long x :: r) M := by
  obtain ⟨rfl, rfl⟩ := zi_plain hi
  intro H locs ls hP hS hL hn
  exact lv_lor hF.1 hF.2.1 hdg (k H locs ls hP hS hL hn)
theorem zs_ldiv (hF : z_Fr D AC xa sv bs g y p l e R s m args below meth c) (hdg : decode (z_by y) pc = .ok (raw, len)) {x z : Int64} (hi : okI o rt ini pc raw len (.ldiv) = true)  (hz : ¬ z = 0) (k : z_Kk D AC xa sv bs g p l e R s m args below meth c Q cn sn (pc + len) L (.long (x / z) :: r) M) : z_Kk D AC xa sv bs g p l e R s m args below meth c Q cn sn pc L (.long z :: .long x :: r) M := by
  obtain ⟨rfl, rfl⟩ := zi_plain hi
  intro H locs ls hP hS hL hn
  exact lv_ldiv hF.1 hF.2.1 hdg hz (k H locs ls hP hS hL hn)
theorem zs_lrem (hF : z_Fr D AC xa sv bs g y p l e R s m args below meth c) (hdg : decode (z_by y) pc = .ok (raw, len)) {x z : Int64} (hi : okI o rt ini pc raw len (.lrem) = true)  (hz : ¬ z = 0) (k : z_Kk D AC xa sv bs g p l e R s m args below meth c Q cn sn (pc + len) L (.long (x - x / z * z) :: r) M) : z_Kk D AC xa sv bs g p l e R s m args below meth c Q cn sn pc L (.long z :: .long x :: r) M := by
  obtain ⟨rfl, rfl⟩ := zi_plain hi
  intro H locs ls hP hS hL hn
  exact lv_lrem hF.1 hF.2.1 hdg hz (k H locs ls hP hS hL hn)
theorem zs_lshl (hF : z_Fr D AC xa sv bs g y p l e R s m args below meth c) (hdg : decode (z_by y) pc = .ok (raw, len)) {x : Int64} {z : Int32} (hi : okI o rt ini pc raw len (.lshl) = true)   (k : z_Kk D AC xa sv bs g p l e R s m args below meth c Q cn sn (pc + len) L (.long (x <<< (z.toInt64 &&& 63)) :: r) M) : z_Kk D AC xa sv bs g p l e R s m args below meth c Q cn sn pc L (.int z :: .long x :: r) M := by
  obtain ⟨rfl, rfl⟩ := zi_plain hi
  intro H locs ls hP hS hL hn
  exact lv_lshl hF.1 hF.2.1 hdg rfl (k H locs ls hP hS hL hn)
theorem zs_lshr (hF : z_Fr D AC xa sv bs g y p l e R s m args below meth c) (hdg : decode (z_by y) pc = .ok (raw, len)) {x : Int64} {z : Int32} (hi : okI o rt ini pc raw len (.lshr) = true)   (k : z_Kk D AC xa sv bs g p l e R s m args below meth c Q cn sn (pc + len) L (.long (x >>> (z.toInt64 &&& 63)) :: r) M) : z_Kk D AC xa sv bs g p l e R s m args below meth c Q cn sn pc L (.int z :: .long x :: r) M := by
  obtain ⟨rfl, rfl⟩ := zi_plain hi
  intro H locs ls hP hS hL hn
  exact lv_lshr hF.1 hF.2.1 hdg rfl (k H locs ls hP hS hL hn)
theorem zs_lcmp (hF : z_Fr D AC xa sv bs g y p l e R s m args below meth c) (hdg : decode (z_by y) pc = .ok (raw, len)) {x z : Int64} (hi : okI o rt ini pc raw len (.lcmp) = true)  (k : z_Kk D AC xa sv bs g p l e R s m args below meth c Q cn sn (pc + len) L (.int (lg_cmp x z) :: r) M) : z_Kk D AC xa sv bs g p l e R s m args below meth c Q cn sn pc L (.long z :: .long x :: r) M := by
  obtain ⟨rfl, rfl⟩ := zi_plain hi
  intro H locs ls hP hS hL hn
  exact W.lcmp hF.1 hF.2.1 hdg (k H locs ls hP hS hL hn)
theorem zs_i2l (hF : z_Fr D AC xa sv bs g y p l e R s m args below meth c) (hdg : decode (z_by y) pc = .ok (raw, len)) {x : Int32} (hi : okI o rt ini pc raw len (.i2l) = true)  (k : z_Kk D AC xa sv bs g p l e R s m args below meth c Q cn sn (pc + len) L (.long x.toInt64 :: r) M) : z_Kk D AC xa sv bs g p l e R s m args below meth c Q cn sn pc L (.int x :: r) M := by
  obtain ⟨rfl, rfl⟩ := zi_plain hi
  intro H locs ls hP hS hL hn
  exact lv_i2l hF.1 hF.2.1 hdg rfl (k H locs ls hP hS hL hn)
theorem zs_l2i (hF : z_Fr D AC xa sv bs g y p l e R s m args below meth c) (hdg : decode (z_by y) pc = .ok (raw, len)) {x : Int64} (hi : okI o rt ini pc raw len (.l2i) = true)  (k : z_Kk D AC xa sv bs g p l e R s m args below meth c Q cn sn (pc + len) L (.int x.toInt32 :: r) M) : z_Kk D AC xa sv bs g p l e R s m args below meth c Q cn sn pc L (.long x :: r) M := by
  obtain ⟨rfl, rfl⟩ := zi_plain hi
  intro H locs ls hP hS hL hn
  exact lv_l2i hF.1 hF.2.1 hdg rfl (k H locs ls hP hS hL hn)
theorem zs_i2c (hF : z_Fr D AC xa sv bs g y p l e R s m args below meth c) (hdg : decode (z_by y) pc = .ok (raw, len)) {x : Int32} (hi : okI o rt ini pc raw len (.i2c) = true)  (k : z_Kk D AC xa sv bs g p l e R s m args below meth c Q cn sn (pc + len) L (.int (x.toUInt32 % 65536).toInt32 :: r) M) : z_Kk D AC xa sv bs g p l e R s m args below meth c Q cn sn pc L (.int x :: r) M := by
  obtain ⟨rfl, rfl⟩ := zi_plain hi
  intro H locs ls hP hS hL hn
  exact lv_i2c hF.1 hF.2.1 hdg rfl (k H locs ls hP hS hL hn)
theorem zs_dup (hF : z_Fr D AC xa sv bs g y p l e R s m args below meth c) (hdg : decode (z_by y) pc = .ok (raw, len)) {v : Value} (hi : okI o rt ini pc raw len (.dup) = true)  (hv : v.category = 1) (k : z_Kk D AC xa sv bs g p l e R s m args below meth c Q cn sn (pc + len) L (v :: v :: r) M) : z_Kk D AC xa sv bs g p l e R s m args below meth c Q cn sn pc L (v :: r) M := by
  obtain ⟨rfl, rfl⟩ := zi_plain hi
  intro H locs ls hP hS hL hn
  exact lv_dup hF.1 hF.2.1 hdg ((z_tv_cat v).trans hv) (k H locs ls hP hS hL hn)
theorem zs_dup2 (hF : z_Fr D AC xa sv bs g y p l e R s m args below meth c) (hdg : decode (z_by y) pc = .ok (raw, len)) {v u : Value} (hi : okI o rt ini pc raw len (.dup2) = true)  (hv : v.category = 1) (hu : u.category = 1) (k : z_Kk D AC xa sv bs g p l e R s m args below meth c Q cn sn (pc + len) L (v :: u :: v :: u :: r) M) : z_Kk D AC xa sv bs g p l e R s m args below meth c Q cn sn pc L (v :: u :: r) M := by
  obtain ⟨rfl, rfl⟩ := zi_plain hi
  intro H locs ls hP hS hL hn
  exact lv_dup2_11 hF.1 hF.2.1 hdg ((z_tv_cat v).trans hv) ((z_tv_cat u).trans hu) (k H locs ls hP hS hL hn)
theorem zs_pop (hF : z_Fr D AC xa sv bs g y p l e R s m args below meth c) (hdg : decode (z_by y) pc = .ok (raw, len)) {v : Value} (hi : okI o rt ini pc raw len (.pop) = true)  (hv : v.category = 1) (k : z_Kk D AC xa sv bs g p l e R s m args below meth c Q cn sn (pc + len) L (r) M) : z_Kk D AC xa sv bs g p l e R s m args below meth c Q cn sn pc L (v :: r) M := by
  obtain ⟨rfl, rfl⟩ := zi_plain hi
  intro H locs ls hP hS hL hn
  exact lv_pop hF.1 hF.2.1 hdg ((z_tv_cat v).trans hv) (k H locs ls hP hS hL hn)
theorem zs_iload (hF : z_Fr D AC xa sv bs g y p l e R s m args below meth c) (hdg : decode (z_by y) pc = .ok (raw, len)) {i : Nat} {x : Int32} (hi : okI o rt ini pc raw len (.iload i) = true)   (hx : z_lget L i = some (.int x)) (k : z_Kk D AC xa sv bs g p l e R s m args below meth c Q cn sn (pc + len) L (.int x :: S) M) : z_Kk D AC xa sv bs g p l e R s m args below meth c Q cn sn pc L (S) M := by
  rcases zi_two hi with ⟨rfl, rfl⟩ | ⟨h4, rfl, rfl⟩
  · intro H locs ls hP hS hL hn
    exact lv_iload hF.1 hF.2.1 hdg (z_Fr.lv hL hx) (k H locs ls hP hS hL hn)
  · intro H locs ls hP hS hL hn
    exact lv_iload_n hF.1 hF.2.1 hdg (z_fin4 h4) (z_Fr.lv hL hx) (k H locs ls hP hS hL hn)
theorem zs_lload (hF : z_Fr D AC xa sv bs g y p l e R s m args below meth c) (hdg : decode (z_by y) pc = .ok (raw, len)) {i : Nat} {x : Int64} (hi : okI o rt ini pc raw len (.lload i) = true)   (hx : z_lget L i = some (.long x)) (k : z_Kk D AC xa sv bs g p l e R s m args below meth c Q cn sn (pc + len) L (.long x :: S) M) : z_Kk D AC xa sv bs g p l e R s m args below meth c Q cn sn pc L (S) M := by
  rcases zi_two hi with ⟨rfl, rfl⟩ | ⟨h4, rfl, rfl⟩
  · intro H locs ls hP hS hL hn
    exact lv_lload hF.1 hF.2.1 hdg (z_Fr.lv hL hx) (k H locs ls hP hS hL hn)
  · intro H locs ls hP hS hL hn
    exact lv_lload_n hF.1 hF.2.1 hdg (z_fin4 h4) (z_Fr.lv hL hx) (k H locs ls hP hS hL hn)
theorem zs_aload (hF : z_Fr D AC xa sv bs g y p l e R s m args below meth c) (hdg : decode (z_by y) pc = .ok (raw, len)) {i x : Nat} (hi : okI o rt ini pc raw len (.aload i) = true)  (hx : z_lget L i = some (.ref x)) (k : z_Kk D AC xa sv bs g p l e R s m args below meth c Q cn sn (pc + len) L (.ref x :: S) M) : z_Kk D AC xa sv bs g p l e R s m args below meth c Q cn sn pc L (S) M := by
  rcases zi_two hi with ⟨rfl, rfl⟩ | ⟨h4, rfl, rfl⟩
  · intro H locs ls hP hS hL hn
    have h1 := z_Fr.lv hL hx
    have h2 := (k H locs ls hP hS hL hn)
    rw [List.map_cons] at h2
    rcases z_tv_ref (xa := xa) (sv := sv) (bs := bs) x with q | ⟨t, q⟩ <;> rw [q] at h1 h2
    · exact lv_aloadN hF.1 hF.2.1 hdg h1 h2
    · exact lv_aload hF.1 hF.2.1 hdg h1 h2
  · intro H locs ls hP hS hL hn
    have h1 := z_Fr.lv hL hx
    have h2 := (k H locs ls hP hS hL hn)
    rw [List.map_cons] at h2
    rcases z_tv_ref (xa := xa) (sv := sv) (bs := bs) x with q | ⟨t, q⟩ <;> rw [q] at h1 h2
    · exact lv_aload_nN hF.1 hF.2.1 hdg (z_fin4 h4) h1 h2
    · exact lv_aload_n hF.1 hF.2.1 hdg (z_fin4 h4) h1 h2
theorem zs_istore (hF : z_Fr D AC xa sv bs g y p l e R s m args below meth c) (hdg : decode (z_by y) pc = .ok (raw, len)) {i : Nat} {x : Int32} (hi : okI o rt ini pc raw len (.istore i) = true)   (hx : i < L.length) (k : z_Kk D AC xa sv bs g p l e R s m args below meth c Q cn sn (pc + len) (z_put1 L i (.int x)) (S) M) : z_Kk D AC xa sv bs g p l e R s m args below meth c Q cn sn pc L (.int x :: S) M := by
  rcases zi_two hi with ⟨rfl, rfl⟩ | ⟨h4, rfl, rfl⟩
  · intro H locs ls hP hS hL hn
    exact lv_istore hF.1 hF.2.1 hdg (z_enum_has hL) hx rfl (fun ls1 h1 => k H locs ls1 hP hS (z_LR_put1 hL h1) (h1.1.trans (hL.1.symm.trans hn)))
  · intro H locs ls hP hS hL hn
    exact lv_istore_n hF.1 hF.2.1 hdg (z_fin4 h4) (z_enum_has hL) hx rfl (fun ls1 h1 => k H locs ls1 hP hS (z_LR_put1 hL h1) (h1.1.trans (hL.1.symm.trans hn)))
theorem zs_lstore (hF : z_Fr D AC xa sv bs g y p l e R s m args below meth c) (hdg : decode (z_by y) pc = .ok (raw, len)) {i : Nat} {x : Int64} (hi : okI o rt ini pc raw len (.lstore i) = true)   (hx : i + 1 < L.length) (k : z_Kk D AC xa sv bs g p l e R s m args below meth c Q cn sn (pc + len) (z_put2 L i (.long x)) (S) M) : z_Kk D AC xa sv bs g p l e R s m args below meth c Q cn sn pc L (.long x :: S) M := by
  rcases zi_two hi with ⟨rfl, rfl⟩ | ⟨h4, rfl, rfl⟩
  · intro H locs ls hP hS hL hn
    exact lv_lstore hF.1 hF.2.1 hdg (z_enum_has hL) hx rfl (fun ls1 h1 => k H locs ls1 hP hS (z_LR_put2 hL h1) (h1.1.trans (hL.1.symm.trans hn)))
  · intro H locs ls hP hS hL hn
    exact lv_lstore_n hF.1 hF.2.1 hdg (z_fin4 h4) (z_enum_has hL) hx rfl (fun ls1 h1 => k H locs ls1 hP hS (z_LR_put2 hL h1) (h1.1.trans (hL.1.symm.trans hn)))
theorem zs_astore (hF : z_Fr D AC xa sv bs g y p l e R s m args below meth c) (hdg : decode (z_by y) pc = .ok (raw, len)) {i x : Nat} (hi : okI o rt ini pc raw len (.astore i) = true)  (hx : i < L.length) (k : z_Kk D AC xa sv bs g p l e R s m args below meth c Q cn sn (pc + len) (z_put1 L i (.ref x)) (S) M) : z_Kk D AC xa sv bs g p l e R s m args below meth c Q cn sn pc L (.ref x :: S) M := by
  rcases zi_two hi with ⟨rfl, rfl⟩ | ⟨h4, rfl, rfl⟩
  · intro H locs ls hP hS hL hn
    rw [List.map_cons]
    have kk := fun ls1 h1 => k H locs ls1 hP hS (z_LR_put1 hL h1) (h1.1.trans (hL.1.symm.trans hn))
    rcases z_tv_ref (xa := xa) (sv := sv) (bs := bs) x with q | ⟨t, q⟩ <;> rw [q] at kk ⊢
    · exact lv_astoreN hF.1 hF.2.1 hdg (z_enum_has hL) hx rfl kk
    · exact lv_astore hF.1 hF.2.1 hdg (z_enum_has hL) hx rfl kk
  · intro H locs ls hP hS hL hn
    rw [List.map_cons]
    have kk := fun ls1 h1 => k H locs ls1 hP hS (z_LR_put1 hL h1) (h1.1.trans (hL.1.symm.trans hn))
    rcases z_tv_ref (xa := xa) (sv := sv) (bs := bs) x with q | ⟨t, q⟩ <;> rw [q] at kk ⊢
    · exact lv_astore_nN hF.1 hF.2.1 hdg (z_fin4 h4) (z_enum_has hL) hx rfl kk
    · exact lv_astore_n hF.1 hF.2.1 hdg (z_fin4 h4) (z_enum_has hL) hx rfl kk
theorem zs_iinc (hF : z_Fr D AC xa sv bs g y p l e R s m args below meth c) (hdg : decode (z_by y) pc = .ok (raw, len)) {i : Nat} {z : Int} {x : Int32} (hi : okI o rt ini pc raw len (.iinc i z) = true)    (hx : z_lget L i = some (.int x)) (hl : i < L.length) (k : z_Kk D AC xa sv bs g p l e R s m args below meth c Q cn sn (pc + len) (z_put1 L i (.int (x + Int32.ofInt z))) (S) M) : z_Kk D AC xa sv bs g p l e R s m args below meth c Q cn sn pc L (S) M := by
  obtain ⟨rfl, rfl⟩ := zi_plain hi
  intro H locs ls hP hS hL hn
  obtain ⟨q, hq⟩ := List.getElem?_of_mem (z_enum_in (xa := xa) (sv := sv) (bs := bs) (z_lget_some hx))
  exact lv_iinc hF.1 hF.2.1 hdg (z_enum_has hL) hq rfl hl rfl (fun ls1 h1 => k H locs ls1 hP hS (z_LR_put1 hL h1) (h1.1.trans (hL.1.symm.trans hn)))
theorem zs_iconst (hF : z_Fr D AC xa sv bs g y p l e R s m args below meth c) (hdg : decode (z_by y) pc = .ok (raw, len)) {z : Int} (hi : okI o rt ini pc raw len (.iconst z) = true)  (ho : o = z_owL.getD y 0) (k : z_Kk D AC xa sv bs g p l e R s m args below meth c Q cn sn (pc + len) L (.int (Int32.ofInt z) :: S) M) : z_Kk D AC xa sv bs g p l e R s m args below meth c Q cn sn pc L (S) M := by
  subst ho
  have ow := hF.2.2.2.1
  rcases zi_or hi with hi | hi
  · rcases zi_or hi with hi | hi
    · rcases zi_or hi with hi | hi
      · rcases zi_or hi with hi | hi
        · rcases zi_or hi with hi | hi
          · obtain ⟨rfl, rfl⟩ := zi_plain hi
            intro H locs ls hP hS hL hn
            exact lv_iconst hF.1 hF.2.1 hdg rfl (k H locs ls hP hS hL hn)
          · obtain ⟨h1, h2⟩ := zi_and hi
            obtain ⟨h3, h4⟩ := zi_and h1
            have h3 := zi_dec h3
            have h2 := zi_beq h2
            subst h2
            rw [h3] at hdg
            intro H locs ls hP hS hL hn
            exact lv_bipush hF.1 hF.2.1 hdg (zi_dec h4) (k H locs ls hP hS hL hn)
        · obtain ⟨h1, h2⟩ := zi_and hi
          obtain ⟨h3, h4⟩ := zi_and h1
          have h3 := zi_dec h3
          have h2 := zi_beq h2
          subst h2
          rw [h3] at hdg
          intro H locs ls hP hS hL hn
          exact lv_sipush hF.1 hF.2.1 hdg (zi_dec h4) (k H locs ls hP hS hL hn)
      · obtain ⟨h1, h2⟩ := zi_and hi
        obtain ⟨h3, h4⟩ := zi_and h1
        have h3 := zi_dec h3
        have h2 := zi_beq h2
        subst h2
        rw [h3] at hdg
        intro H locs ls hP hS hL hn
        exact lv_ldc hF.1 hF.2.1 ow (hF.tw (z_iT_ok _ (zi_dec h4)) rfl _) hdg (k H locs ls hP hS hL hn)
    · obtain ⟨h1, h2⟩ := zi_and hi
      obtain ⟨h3, h4⟩ := zi_and h1
      have h3 := zi_dec h3
      have h2 := zi_beq h2
      subst h2
      rw [h3] at hdg
      intro H locs ls hP hS hL hn
      exact lv_ldcw hF.1 hF.2.1 ow (hF.tw (z_iT_ok _ (zi_dec h4)) rfl _) hdg (k H locs ls hP hS hL hn)
  · obtain ⟨h1, h2⟩ := zi_and hi
    obtain ⟨h3, h5⟩ := zi_and h1
    obtain ⟨h3, h4⟩ := zi_and h3
    have h3 := zi_dec h3
    have h2 := zi_beq h2
    have h5 := zi_dec h5
    subst h2
    subst h5
    rw [h3] at hdg
    rw [zi_dec h4] at ow
    intro H locs ls hP hS hL hn
    exact va_gets hF.1 hF.2.1 (hF.2.2.2.2.1.2.2.2.2.2.1) hS ow (hF.tw zw_cs rfl _) (fun _ h => h) hdg (k H locs ls hP hS hL hn)
theorem zs_ldc2 (hF : z_Fr D AC xa sv bs g y p l e R s m args below meth c) (hdg : decode (z_by y) pc = .ok (raw, len)) {q : Nat} (hi : okI o rt ini pc raw len (.ldc2_w q) = true)  (ho : o = z_owL.getD y 0) (k : z_Kk D AC xa sv bs g p l e R s m args below meth c Q cn sn (pc + len) L (.long (Int64.ofNat q) :: S) M) : z_Kk D AC xa sv bs g p l e R s m args below meth c Q cn sn pc L (S) M := by
  subst ho
  rcases zi_or hi with hi | hi
  · obtain ⟨h1, h2⟩ := zi_and hi
    obtain ⟨h3, h4⟩ := zi_and h1
    have h3 := zi_blt h3
    have h4 := zi_dec h4
    have h2 := zi_beq h2
    subst h2
    rw [h4] at hdg
    intro H locs ls hP hS hL hn
    exact lv_lconst hF.1 hF.2.1 hdg (by rw [show ((Fin.ofNat 2 q : Fin 2) : Nat) = q from Nat.mod_eq_of_lt h3]) (k H locs ls hP hS hL hn)
  · obtain ⟨h1, h2⟩ := zi_and hi
    obtain ⟨h3, h4⟩ := zi_and h1
    have h3 := zi_dec h3
    have h2 := zi_beq h2
    subst h2
    rw [h3] at hdg
    intro H locs ls hP hS hL hn
    exact lv_ldc2 hF.1 hF.2.1 hF.2.2.2.1 (hF.tw (z_lT_ok _ (zi_dec h4)) rfl _) hdg (k H locs ls hP hS hL hn)
theorem z_sT_rg : ∀ t ∈ z_sT, 7 ≤ t.2.2 ∧ t.2.2 < 12 := by decide +kernel
theorem z_gT_rg : ∀ t ∈ z_gT, (1 ≤ t.2.2 ∧ t.2.2 < 7) ∨ t.2.2 = 17 := by decide +kernel
theorem zs_ldc (hF : z_Fr D AC xa sv bs g y p l e R s m args below meth c) (hdg : decode (z_by y) pc = .ok (raw, len)) {q : Nat} (hi : okI o rt ini pc raw len (.ldc q) = true)  (ho : o = z_owL.getD y 0) (k : z_Kk D AC xa sv bs g p l e R s m args below meth c Q cn sn (pc + len) L (.ref q :: S) M) : z_Kk D AC xa sv bs g p l e R s m args below meth c Q cn sn pc L (S) M := by
  subst ho
  rcases zi_or hi with hi | hi
  · obtain ⟨h1, h2⟩ := zi_and hi
    obtain ⟨h3, h4⟩ := zi_and h1
    have h3 := zi_dec h3
    have h4 := zi_dec h4
    have h2 := zi_beq h2
    subst h2
    rw [h3] at hdg
    have hr : 7 ≤ q ∧ q < 12 := z_sT_rg _ h4
    have hvr : vk_R (z_own (z_owL.getD y 0)) (z_ix raw) (z_txt q) (xa q) s := hF.2.2.2.2.1.2.2.2.2.2.2.2.1 (z_owL.getD y 0, z_ix raw, q) h4
    intro H locs ls hP hS hL hn
    have kk := (k H locs ls hP hS hL hn)
    rw [List.map_cons, z_tv_lo (by omega)] at kk
    exact va_ldcS hF.1 hF.2.1 hF.2.2.2.1 hvr hdg kk
  · obtain ⟨h1, h2⟩ := zi_and hi
    obtain ⟨h3, h4⟩ := zi_and h1
    have h3 := zi_dec h3
    have h4 := zi_dec h4
    have h2 := zi_beq h2
    subst h2
    rw [h3] at hdg
    have hr : (1 ≤ q ∧ q < 7) ∨ q = 17 := z_gT_rg _ h4
    have hlk : (Cond.fieldLink (z_own (z_owL.getD y 0)) (z_ix raw) (z_stc q).1 (z_stc q).2.1 (z_stc q).2.2).before args s = true := hF.tw (z_gT_ok (z_owL.getD y 0, z_ix raw, q) h4) rfl _
    intro H locs ls hP hS hL hn
    have kk := (k H locs ls hP hS hL hn)
    rcases hr with hr | hr
    · rw [List.map_cons, z_tv_lo (by omega)] at kk
      exact va_gets hF.1 hF.2.1 (hF.2.2.2.2.1.2.2.2.1 q hr.1 hr.2).1 hS hF.2.2.2.1 hlk (fun _ h => h) hdg kk
    · subst hr
      exact va_gets hF.1 hF.2.1 hF.2.2.2.2.1.2.2.2.2.1 hS hF.2.2.2.1 hlk (fun _ h => h) hdg kk
theorem zs_goto (hF : z_Fr D AC xa sv bs g y p l e R s m args below meth c) (hdg : decode (z_by y) pc = .ok (raw, len)) {t : Int} (hi : okI o rt ini pc raw len (.goto t) = true)  (k : z_Kk D AC xa sv bs g p l e R s m args below meth c Q cn sn t.toNat L (S) M) : z_Kk D AC xa sv bs g p l e R s m args below meth c Q cn sn pc L (S) M := by
  obtain ⟨h1, h2⟩ := zi_and hi
  obtain ⟨h3, h4⟩ := zi_and h1
  have h3 := zi_dec h3
  have h4 := zi_dec h4
  have h2 := zi_beq h2
  subst h2
  rw [h3] at hdg
  intro H locs ls hP hS hL hn
  exact lv_goto hF.1 hF.2.1 hdg (by omega) (k H locs ls hP hS hL hn)
theorem zs_icmp (hF : z_Fr D AC xa sv bs g y p l e R s m args below meth c) (hdg : decode (z_by y) pc = .ok (raw, len)) {cc : ClassFile.Cond} {t : Int} {x z : Int32} (hi : okI o rt ini pc raw len (.if_icmp cc t) = true) (k : z_Kk D AC xa sv bs g p l e R s m args below meth c Q cn sn (cond (z_cmp cc x z) t.toNat (pc + len)) L r M) : z_Kk D AC xa sv bs g p l e R s m args below meth c Q cn sn pc L (.int z :: .int x :: r) M := by
  obtain ⟨h1, h2⟩ := zi_and hi
  obtain ⟨h3, h4⟩ := zi_and h1
  have h3 := zi_dec h3
  have h4 := zi_dec h4
  have h2 := zi_beq h2
  subst h2
  rw [h3] at hdg
  intro H locs ls hP hS hL hn
  have kk := (k H locs ls hP hS hL hn)
  cases cc with
  | eq => exact lv_icmp_eq hF.1 hF.2.1 hdg (show (pc : Int) + (t - pc) = (t.toNat : Int) by omega) (fun q => by simpa [z_cmp, q] using kk) (fun q => by simpa [z_cmp, q] using kk)
  | ne => exact lv_icmp_ne hF.1 hF.2.1 hdg (show (pc : Int) + (t - pc) = (t.toNat : Int) by omega) (fun q => by simpa [z_cmp, q] using kk) (fun q => by simpa [z_cmp, q] using kk)
  | lt => exact lv_icmp_lt hF.1 hF.2.1 hdg (show (pc : Int) + (t - pc) = (t.toNat : Int) by omega) (fun q => by simpa [z_cmp, q] using kk) (fun q => by simpa [z_cmp, q] using kk)
  | ge => exact lv_icmp_ge hF.1 hF.2.1 hdg (show (pc : Int) + (t - pc) = (t.toNat : Int) by omega) (fun q => by simpa [z_cmp, q] using kk) (fun q => by simpa [z_cmp, q] using kk)
  | gt => exact lv_icmp_gt hF.1 hF.2.1 hdg (show (pc : Int) + (t - pc) = (t.toNat : Int) by omega) (fun q => by simpa [z_cmp, q] using kk) (fun q => by simpa [z_cmp, q] using kk)
  | le => exact lv_icmp_le hF.1 hF.2.1 hdg (show (pc : Int) + (t - pc) = (t.toNat : Int) by omega) (fun q => by simpa [z_cmp, q] using kk) (fun q => by simpa [z_cmp, q] using kk)
theorem zs_ifc (hF : z_Fr D AC xa sv bs g y p l e R s m args below meth c) (hdg : decode (z_by y) pc = .ok (raw, len)) {cc : ClassFile.Cond} {t : Int} {x : Int32} (hi : okI o rt ini pc raw len (.ifCond cc t) = true) (k : z_Kk D AC xa sv bs g p l e R s m args below meth c Q cn sn (cond (z_cmp cc x 0) t.toNat (pc + len)) L r M) : z_Kk D AC xa sv bs g p l e R s m args below meth c Q cn sn pc L (.int x :: r) M := by
  obtain ⟨h1, h2⟩ := zi_and hi
  obtain ⟨h3, h4⟩ := zi_and h1
  have h3 := zi_dec h3
  have h4 := zi_dec h4
  have h2 := zi_beq h2
  subst h2
  rw [h3] at hdg
  intro H locs ls hP hS hL hn
  have kk := (k H locs ls hP hS hL hn)
  cases cc with
  | eq => exact lv_if_eq hF.1 hF.2.1 hdg (show (pc : Int) + (t - pc) = (t.toNat : Int) by omega) (fun q => by simpa [z_cmp, q] using kk) (fun q => by simpa [z_cmp, q] using kk)
  | ne => exact lv_if_ne hF.1 hF.2.1 hdg (show (pc : Int) + (t - pc) = (t.toNat : Int) by omega) (fun q => by simpa [z_cmp, q] using kk) (fun q => by simpa [z_cmp, q] using kk)
  | lt => exact lv_if_lt hF.1 hF.2.1 hdg (show (pc : Int) + (t - pc) = (t.toNat : Int) by omega) (fun q => by simpa [z_cmp, q] using kk) (fun q => by simpa [z_cmp, q] using kk)
  | ge => exact lv_if_ge hF.1 hF.2.1 hdg (show (pc : Int) + (t - pc) = (t.toNat : Int) by omega) (fun q => by simpa [z_cmp, q] using kk) (fun q => by simpa [z_cmp, q] using kk)
  | gt => exact lv_if_gt hF.1 hF.2.1 hdg (show (pc : Int) + (t - pc) = (t.toNat : Int) by omega) (fun q => by simpa [z_cmp, q] using kk) (fun q => by simpa [z_cmp, q] using kk)
  | le => exact lv_if_le hF.1 hF.2.1 hdg (show (pc : Int) + (t - pc) = (t.toNat : Int) by omega) (fun q => by simpa [z_cmp, q] using kk) (fun q => by simpa [z_cmp, q] using kk)
end
