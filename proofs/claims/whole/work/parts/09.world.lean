/-! THE REAL WORLD OF A MEMORY: at bs and behind it the made objects, elsewhere what nobody writes -/
def z_gw (w : Cond) : Bool := goodWord w || (match w with
  | .fieldLinkNest _ _ _ _ _ _ => true
  | .methodLinkNest _ _ _ _ => true
  | _ => false)
theorem z_gw_warm {w : Cond} (hg : z_gw w = true) {a a' : Array Value} {s U : State} (hW : s.WarmedH U.vm) (h : w.before a s = true) : w.before a' U = true := by
  unfold z_gw at hg
  rw [Bool.or_eq_true] at hg
  rcases hg with hg | hg
  · exact word_at hW (good_of_word hg) h
  · cases w with
    | fieldLinkNest c i r n d ho => exact va_Nw.use rfl (va_Nw.warmF hW (va_Nw.of rfl h))
    | methodLinkNest c i x ho => exact va_Nw.use rfl (va_Nw.warmM hW (va_Nw.of rfl h))
    | _ => cases hg
def z_TW (U : State) : Prop := ∀ w ∈ lw_tbl, z_gw w = true → ∀ a : Array Value, w.before a U = true
theorem z_TW.warm {s U : State} (hW : s.WarmedH U.vm) (h : z_TW s) : z_TW U := fun w hw hg a => z_gw_warm (a := a) hg hW (h w hw hg a)
def z_tw : List Cond := lw_tbl.filter z_gw
theorem z_TW.on {U : State} {args : Array Value} (h : z_TW U) : ∀ w ∈ z_tw, w.before args U = true := fun w hw => by
  obtain ⟨h1, h2⟩ := List.mem_filter.mp hw
  exact h w h1 h2 args
theorem z_tw_of {w : Cond} (h : w ∈ lw_tbl) (hg : z_gw w = true) : w ∈ z_tw := List.mem_filter.mpr ⟨h, hg⟩
def z_slen : List Nat := [4, 4, 4, 6, 6]
def z_sbyt : List (List Int32) := [z_xfL.getD 12 [], z_xfL.getD 13 [], z_xfL.getD 14 [], z_xfL.getD 15 [], z_xfL.getD 16 []]
def z_zY : List (Nat → FieldType) := [zY0, zY1, zY2, zY3, zY4, zY5, zY6, zY7, zY8, zY9, zY10]
def z_yt (ci : Nat) : Nat → FieldType := z_zY.getD ci zY0
/-- what holds of each class whose objects are made -/
def z_clok (ci : Nat) : Prop := z_cl[ci]? = some (z_cls ci) ∧ (∀ w ∈ u_ws (z_cls ci).1 (z_cls ci).2.1 (z_cls ci).2.2, w ∈ lw_tbl) ∧ (∀ k, k < (z_cls ci).2.2 → parseFieldDescriptor ((z_cls ci).2.1 k).2.2.1 = some (z_yt ci k)) ∧ (∀ a, a < (z_cls ci).2.2 → ∀ b, b < (z_cls ci).2.2 → a ≠ b → ((z_cls ci).2.1 a).2.1 ≠ ((z_cls ci).2.1 b).2.1) ∧ (Cond.instantiable (z_cls ci).1 (z_cls ci).2.2) ∈ lw_tbl ∧ (Cond.initialized (z_cls ci).1) ∈ lw_tbl
theorem z_cls_ok : ∀ ci, ci < 11 → z_clok ci := by
  intro ci h
  match ci, h with
  | 0, _ => exact ⟨rfl, zW0, zP0, zN0, zw_in0, zw_ii0⟩
  | 1, _ => exact ⟨rfl, zW1, zP1, zN1, zw_in1, zw_ii1⟩
  | 2, _ => exact ⟨rfl, zW2, zP2, zN2, zw_in2, zw_ii2⟩
  | 3, _ => exact ⟨rfl, zW3, zP3, zN3, zw_in3, zw_ii3⟩
  | 4, _ => exact ⟨rfl, zW4, zP4, zN4, zw_in4, zw_ii4⟩
  | 5, _ => exact ⟨rfl, zW5, zP5, zN5, zw_in5, zw_ii5⟩
  | 6, _ => exact ⟨rfl, zW6, zP6, zN6, zw_in6, zw_ii6⟩
  | 7, _ => exact ⟨rfl, zW7, zP7, zN7, zw_in7, zw_ii7⟩
  | 8, _ => exact ⟨rfl, zW8, zP8, zN8, zw_in8, zw_ii8⟩
  | 9, _ => exact ⟨rfl, zW9, zP9, zN9, zw_in9, zw_ii9⟩
  | 10, _ => exact ⟨rfl, zW10, zP10, zN10, zw_in10, zw_ii10⟩
  | k + 11, h => exact absurd h (by omega)
theorem z_uws_tw {ci : Nat} (h : ci < 11) : ∀ w ∈ u_ws (z_cls ci).1 (z_cls ci).2.1 (z_cls ci).2.2, w ∈ z_tw := fun w hw => by
  refine z_tw_of ((z_cls_ok ci h).2.1 w hw) ?_
  obtain ⟨k, -, rfl⟩ := List.mem_map.mp hw
  unfold u_lay
  split <;> rfl
/-- of each field: its class, its place there, its type -/
def z_fok (F : Nat) : Bool := Nat.ble 10 (z_fk F) && Nat.blt (z_fk F) 21 && Nat.ble (z_fbL.getD (z_fk F - 10) 0) F && Nat.blt (F - z_fbL.getD (z_fk F - 10) 0) (z_cls (z_fk F - 10)).2.2 &&
  (match z_ft F with
    | 0 => cond (Nat.beq (z_fzL.getD F 0) 1) (decide (z_yt (z_fk F - 10) (F - z_fbL.getD (z_fk F - 10) 0) = .boolean)) (decide (z_yt (z_fk F - 10) (F - z_fbL.getD (z_fk F - 10) 0) = .int))
    | 1 => decide (z_yt (z_fk F - 10) (F - z_fbL.getD (z_fk F - 10) 0) = .long)
    | _ => match z_yt (z_fk F - 10) (F - z_fbL.getD (z_fk F - 10) 0) with
      | .object _ => true
      | .array _ => true
      | _ => false)
theorem z_fok_all : ∀ F, F < 105 → z_fok F = true := by decide +kernel
theorem z_fT_lt : ∀ t ∈ z_fT, t.2.2 < 105 := by decide +kernel
theorem z_base : ∀ ci, ci < 11 → ∀ k, k < (z_cls ci).2.2 → z_fk (z_fbL.getD ci 0 + k) = 10 + ci := by decide +kernel
theorem z_cls_far : ∀ ci, ci < 11 → ∀ k, k < (z_cls ci).2.2 → z_ft (z_fbL.getD ci 0 + k) < 3 := by decide +kernel
theorem z_kd_lo : ∀ a, a < 18 → ∀ k, z_kd a = k → k = 9 ∨ k = 6 ∨ k = 7 ∨ k = 8 ∨ k = 99 := by
  intro a ha k hk
  subst hk
  exact (by decide +kernel : ∀ a, a < 18 → (z_kd a = 9 ∨ z_kd a = 6 ∨ z_kd a = 7 ∨ z_kd a = 8 ∨ z_kd a = 99)) a ha
theorem z_kd_hi : ∀ a, a < 151 → 18 ≤ a → (1 ≤ z_kd a ∧ z_kd a < 6) ∨ (10 ≤ z_kd a ∧ z_kd a < 21) := by decide +kernel
theorem z_kd_far {a : Nat} (h : 151 ≤ a) : z_kd a = 0 := by
  unfold z_kd
  rw [List.getD_eq_getElem?_getD, List.getElem?_eq_none (by rw [show z_kdL.length = 151 from rfl]; exact h)]
  rfl
def z_sz (a : Nat) : Nat := z_szL.getD a 0
def z_sl (n : Nat) : Nat := (z_szL.take n).sum
theorem z_sl_succ (n : Nat) : z_sl (n + 1) = z_sl n + z_sz n := by
  unfold z_sl z_sz
  rw [List.take_succ, List.sum_append, List.getD_eq_getElem?_getD]
  cases z_szL[n]? <;> simp
theorem z_sl_mono {n m : Nat} (h : n ≤ m) : z_sl n ≤ z_sl m := by
  obtain ⟨k, rfl⟩ := Nat.exists_eq_add_of_le h
  induction k with
  | zero => exact Nat.le_refl _
  | succ k ih => exact Nat.le_trans (ih (Nat.le_add_right _ _)) (by rw [← Nat.add_assoc, z_sl_succ]; exact Nat.le_add_right _ _)
theorem z_sz_obj : ∀ a, a < 151 → 10 ≤ z_kd a → z_kd a < 21 → z_sz a = (z_cls (z_kd a - 10)).2.2 := by decide +kernel
theorem z_sz_arr : ∀ a, a < 151 → 1 ≤ z_kd a → z_kd a < 6 → z_sz a = z_al a := by decide +kernel
theorem u2_ne {α : Type} {f : Nat → Nat → α} {a k b : Nat} {x : α} (h : b ≠ a) : u2 f a k x b = f b := by
  funext j
  simp [u2, h]
theorem u2_at {α : Type} {f : Nat → Nat → α} {a k j : Nat} {x : α} : u2 f a k x a j = if j = k then x else f a j := by simp [u2]
theorem u0_ne {α : Type} {f : Nat → Nat → α} {a b : Nat} {x : α} (h : b ≠ a) : u0 f a x b = f b := by
  funext j
  simp [u0, h]
theorem u0_at {α : Type} {f : Nat → Nat → α} {a : Nat} {x : α} : u0 f a x a = fun _ => x := by
  funext j
  simp [u0]
section
variable (D : va_G) (AC : Nat → ClassId) (xa : Nat → Nat) (sv : Option Nat) (bs : Nat) (g : Nat → Int32)
def z_ad (k : Nat) : Nat := if k < 18 then xa k else bs + (k - 18)
def z_tv (v : Value) : Value := match v with
  | .ref k => va_rf (if k = 17 then sv else some (z_ad xa bs k))
  | w => w
def z_ro (o : Option Nat) : Option Nat := o.bind fun k => if k = 17 then sv else some (z_ad xa bs k)
def z_fv (M : Mm) (a F : Nat) : Value := match z_ft F with
  | 0 => .int (M.2.1 a F)
  | 1 => .long (M.2.2.1 a F)
  | _ => va_rf (z_ro xa sv bs (M.2.2.2 a F))
def z_en (M : Mm) (a : Nat) : va_E :=
  if z_kd a = 1 then .inl (AC 0, z_al a, .inl (M.2.1 a))
  else if z_kd a = 2 then .inl (AC 1, z_al a, .inl (M.2.1 a))
  else if z_kd a = 3 then .inl (AC 2, z_al a, .inr (.inl (M.2.2.1 a)))
  else if z_kd a = 4 then .inl (AC 3, z_al a, .inr (.inr (.inr (.inr (fun j => z_ro xa sv bs (M.2.2.2 a j))))))
  else if z_kd a = 5 then .inl (AC 4, z_al a, .inr (.inr (.inr (.inr (fun j => z_ro xa sv bs (M.2.2.2 a j))))))
  else .inr (z_kd a - 10, (List.range (z_cls (z_kd a - 10)).2.2).map fun j => z_fv xa sv bs M a (z_fbL.getD (z_kd a - 10) 0 + j))
def z_w (M : Mm) : va_W := (List.range (M.1 - 18)).map fun k => (bs + k, z_en AC xa sv bs M (18 + k))
def z_ty : List (ClassId × FieldType) := [(AC 0, .int), (AC 1, .boolean), (AC 2, .long), (AC 3, .object "CookHands$Dish"), (AC 4, .object "CookHands$Kitchen")]
def z_A : Nat → Prop := fun q => bs ≤ q
/-- what stands outside, and the tables -/
def z_X (U : State) (H : Heap) : Prop :=
  z_TW U ∧ va_K D z_cl (z_ty AC) U ∧ (va_AO "CookHands$Dish" U ∧ va_AO "CookHands$Kitchen" U) ∧
  (∀ k, 1 ≤ k → k < 7 → va_Z (z_stc k).1 (z_stc k).2.1 (z_stc k).2.2 (.ref (xa k)) (z_A bs) U H ∧ va_T .int (xa k) (z_al k) (fun j => .int ((z_xfL.getD k []).getD j 0)) (z_A bs) U H) ∧
  va_Z (z_stc 17).1 (z_stc 17).2.1 (z_stc 17).2.2 (va_rf sv) (z_A bs) U H ∧
  va_Z "java/lang/String" "COMPACT_STRINGS" "Z" (.int 1) (z_A bs) U H ∧
  vk_S 5 z_slen z_sbyt (fun i => xa (7 + i)) (fun i => xa (12 + i)) (z_A bs) U H ∧
  (∀ t ∈ z_sT, vk_R (z_own t.1) t.2.1 (z_txt t.2.2) (xa t.2.2) U) ∧
  va_T .int (xa 0) (g 100000).toNatClampNeg (fun j => .int (g j)) (z_A bs) U H
def z_P (M : Mm) (H : Heap) : Prop := va_P D z_cl (z_w AC xa sv bs M) H ∧ (M.1 < 151 → H.size = bs + (M.1 - 18)) ∧ 18 ≤ M.1 ∧ M.1 ≤ 151 ∧ M.2.1 0 = g
def z_LR (ls : Array Slot) (L : Lo) : Prop := ls.size = L.length ∧ lv_wf ls ∧ ∀ (i : Nat) (v : Value), L[i]? = some (some v) → ls[i]? = some (.val (z_tv xa sv bs v))
variable {D AC xa sv bs g}
theorem z_tv_i {x : Int32} : z_tv xa sv bs (.int x) = .int x := rfl
theorem z_tv_l {x : Int64} : z_tv xa sv bs (.long x) = .long x := rfl
theorem z_tv_hi {k : Nat} (h : 18 ≤ k) : z_tv xa sv bs (.ref k) = .ref (bs + (k - 18)) := by
  unfold z_tv z_ad
  simp only
  rw [if_neg (show ¬ k = 17 by omega), if_neg (show ¬ k < 18 by omega)]
  rfl
theorem z_tv_lo {k : Nat} (h : k < 17) : z_tv xa sv bs (.ref k) = .ref (xa k) := by
  unfold z_tv z_ad
  simp only
  rw [if_neg (show ¬ k = 17 by omega), if_pos (show k < 18 by omega)]
  rfl
theorem z_ad_hi {k : Nat} (h : 18 ≤ k) : z_ad xa bs k = bs + (k - 18) := by
  unfold z_ad
  rw [if_neg (by omega)]
theorem z_tv_cat (v : Value) : (z_tv xa sv bs v).category = v.category := by
  cases v with
  | ref k => unfold z_tv; simp only; cases (if k = 17 then sv else some (z_ad xa bs k)) <;> rfl
  | _ => rfl
theorem z_tv_ref (k : Nat) : z_tv xa sv bs (.ref k) = .null ∨ ∃ t, z_tv xa sv bs (.ref k) = .ref t := by
  unfold z_tv; simp only
  cases (if k = 17 then sv else some (z_ad xa bs k)) with
  | none => exact Or.inl rfl
  | some t => exact Or.inr ⟨t, rfl⟩
theorem z_ro_some {b : Nat} : va_rf (z_ro xa sv bs (some b)) = z_tv xa sv bs (.ref b) := rfl
theorem z_ro_hi {k : Nat} (h : 18 ≤ k) : z_ro xa sv bs (some k) = some (bs + (k - 18)) := by
  unfold z_ro z_ad
  simp only [Option.bind_some]
  rw [if_neg (show ¬ k = 17 by omega), if_neg (show ¬ k < 18 by omega)]
theorem z_w_get {M : Mm} {a : Nat} (h : 18 ≤ a) (h2 : a < M.1) : (z_w AC xa sv bs M)[a - 18]? = some (bs + (a - 18), z_en AC xa sv bs M a) := by
  unfold z_w
  rw [List.getElem?_map, List.getElem?_range (by omega)]
  simp only [Option.map_some]
  rw [show 18 + (a - 18) = a by omega]
theorem z_w_D {M : Mm} : va_D (z_A bs) (z_w AC xa sv bs M) := by
  have key : ∀ (i : Nat) (p : Nat × va_E), (z_w AC xa sv bs M)[i]? = some p → p.1 = bs + i := by
    intro i p h
    unfold z_w at h
    rw [List.getElem?_map] at h
    cases hr : (List.range (M.1 - 18))[i]? with
    | none => rw [hr] at h; cases h
    | some k =>
      rw [hr] at h
      have hk := List.getElem?_eq_some_iff.mp hr
      obtain ⟨h1, h2⟩ := hk
      rw [List.getElem_range] at h2
      subst h2
      cases h
      rfl
  refine ⟨fun i j p q hi hj hpq => ?_, fun k q hk => ?_⟩
  · have a := key i p hi
    have b := key j q hj
    omega
  · have a := key k q hk
    show bs ≤ q.1
    omega
theorem z_w_set {M M' : Mm} {a : Nat} {e : va_E} (h : 18 ≤ a) (h2 : a < M.1) (hn : M'.1 = M.1) (he : z_en AC xa sv bs M' a = e) (ho : ∀ b, b ≠ a → z_en AC xa sv bs M' b = z_en AC xa sv bs M b) : (z_w AC xa sv bs M).set (a - 18) (bs + (a - 18), e) = z_w AC xa sv bs M' := by
  apply List.ext_getElem?
  intro i
  rw [List.getElem?_set]
  have hl : (z_w AC xa sv bs M).length = M.1 - 18 := by unfold z_w; simp
  have hl' : (z_w AC xa sv bs M').length = M.1 - 18 := by unfold z_w; simp [hn]
  by_cases hi : i < M.1 - 18
  · have g1 := z_w_get (AC := AC) (xa := xa) (sv := sv) (bs := bs) (M := M) (a := 18 + i) (by omega) (by omega)
    have g2 := z_w_get (AC := AC) (xa := xa) (sv := sv) (bs := bs) (M := M') (a := 18 + i) (by omega) (by omega)
    rw [show 18 + i - 18 = i by omega] at g1 g2
    by_cases hia : a - 18 = i
    · rw [if_pos hia, if_pos (by rw [hl]; omega), g2]
      have e1 : 18 + i = a := by omega
      rw [e1, he, hia]
    · rw [if_neg hia, g1, g2, ho (18 + i) (by omega)]
  · rw [List.getElem?_eq_none (by omega)]
    by_cases hia : a - 18 = i
    · omega
    · rw [if_neg hia, List.getElem?_eq_none (by omega)]
theorem z_w_push {M M' : Mm} (h : 18 ≤ M.1) (hn : M'.1 = M.1 + 1) (ho : ∀ b, b ≠ M.1 → z_en AC xa sv bs M' b = z_en AC xa sv bs M b) : z_w AC xa sv bs M' = z_w AC xa sv bs M ++ [(bs + (M.1 - 18), z_en AC xa sv bs M' M.1)] := by
  unfold z_w
  rw [hn, show M.1 + 1 - 18 = (M.1 - 18) + 1 by omega, List.range_succ, List.map_append]
  congr 1
  · apply List.map_congr_left
    intro k hk
    have := List.mem_range.mp hk
    rw [ho (18 + k) (by omega)]
  · simp only [List.map_cons, List.map_nil]
    rw [show 18 + (M.1 - 18) = M.1 by omega]
theorem z_en_same {M M' : Mm} {b : Nat} (h1 : M'.2.1 b = M.2.1 b) (h2 : M'.2.2.1 b = M.2.2.1 b) (h3 : M'.2.2.2 b = M.2.2.2 b) : z_en AC xa sv bs M' b = z_en AC xa sv bs M b := by
  unfold z_en z_fv
  rw [h1, h2, h3]
theorem z_ok_hi {nx a k : Nat} (h : z_ok nx a k = true) (hk : k < 6 ∨ (10 ≤ k ∧ k < 99)) (hk0 : k ≠ 0 ∨ a < 151) : 18 ≤ a ∧ a < nx ∧ z_kd a = k := by
  obtain ⟨h1, h2⟩ := z_ok_kd h
  refine ⟨?_, h1, h2⟩
  rcases Nat.lt_or_ge a 18 with q | q
  · have := z_kd_lo a q k h2
    omega
  · exact q
theorem z_P_get {M : Mm} {H : Heap} {a : Nat} (hP : z_P D AC xa sv bs g M H) (h : 18 ≤ a) (h2 : a < M.1) : (z_w AC xa sv bs M)[a - 18]? = some (bs + (a - 18), z_en AC xa sv bs M a) := z_w_get h h2
theorem z_en_obj {M : Mm} {a ci : Nat} (h : z_kd a = 10 + ci) : z_en AC xa sv bs M a = .inr (ci, (List.range (z_cls ci).2.2).map fun j => z_fv xa sv bs M a (z_fbL.getD ci 0 + j)) := by
  unfold z_en
  rw [h, if_neg (by omega), if_neg (by omega), if_neg (by omega), if_neg (by omega), if_neg (by omega), show 10 + ci - 10 = ci by omega]
theorem z_X.move {s U : State} {H H' : Heap} (h : z_X D AC xa sv bs g s H) (hW : s.WarmedH U.vm) (hq : ∀ a : Nat, a < H.size → ¬ z_A bs a → H'[a]? = H[a]?) : z_X D AC xa sv bs g U H' := by
  obtain ⟨h1, h2, ⟨h3, h3'⟩, h4, h5, h6, h7, h8, h9⟩ := h
  have al := hW.alike
  exact ⟨h1.warm hW, va_K.moved al h2, ⟨h3.moved al, h3'.moved al⟩, fun k a b => ⟨(va_Z.moved al (h4 k a b).1).kept hq, (va_T.moved al (h4 k a b).2).kept hq⟩, (va_Z.moved al h5).kept hq, (va_Z.moved al h6).kept hq, (vk_S.moved al h7).kept hq, fun t ht => (h8 t ht).warm hW, (va_T.moved al h9).kept hq⟩
end
