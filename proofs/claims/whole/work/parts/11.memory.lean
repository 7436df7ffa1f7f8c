theorem z_fok_at : ∀ F, F < 105 → 10 ≤ z_fk F ∧ z_fk F < 21 ∧ z_fbL.getD (z_fk F - 10) 0 ≤ F ∧ F - z_fbL.getD (z_fk F - 10) 0 < (z_cls (z_fk F - 10)).2.2 := by decide +kernel
theorem z_ft_int : ∀ F, F < 105 → z_ft F = 0 → z_fzL.getD F 0 ≠ 1 → z_yt (z_fk F - 10) (F - z_fbL.getD (z_fk F - 10) 0) = .int := by decide +kernel
theorem z_ft_boo : ∀ F, F < 105 → z_ft F = 0 → z_fzL.getD F 0 = 1 → z_yt (z_fk F - 10) (F - z_fbL.getD (z_fk F - 10) 0) = .boolean := by decide +kernel
theorem z_ft_lon : ∀ F, F < 105 → z_ft F = 1 → z_yt (z_fk F - 10) (F - z_fbL.getD (z_fk F - 10) 0) = .long := by decide +kernel
def z_isR : FieldType → Bool
  | .object _ => true
  | .array _ => true
  | _ => false
theorem z_ft_ref : ∀ F, F < 105 → z_ft F ≠ 0 → z_ft F ≠ 1 → z_isR (z_yt (z_fk F - 10) (F - z_fbL.getD (z_fk F - 10) 0)) = true := by decide +kernel
theorem z_isR_nar {t : FieldType} (h : z_isR t = true) (o : Option Nat) : narrow t (va_rf o) = va_rf o ∧ fits t (va_rf o) = true ∧ defaultValue t = .null := by
  cases t <;> first | (cases h; done) | (cases o <;> exact ⟨rfl, rfl, rfl⟩)
theorem z_inb_vp {i : Int32} {n : Nat} (h : z_inb i n = true) : vp_in i n := by
  unfold z_inb at h
  rw [Bool.and_eq_true] at h
  obtain ⟨h1, h2⟩ := h
  have h1 := zi_not h1
  have h2 := zi_blt h2
  intro q
  rcases q with q | q
  · exact of_decide_eq_false h1 q
  · omega
theorem z_b01_nar {x : Int32} (h : z_b01 x = true) : vp_nar .boolean x = x ∧ narrow .boolean (.int x) = .int x ∧ fits .boolean (.int x) = true := by
  unfold z_b01 at h
  rcases zi_or h with h | h <;> (have h := zi_dec h; subst h; exact ⟨rfl, rfl, rfl⟩)
theorem z_kd_9 {a : Nat} (h : z_kd a = 9) : a = 0 := by
  rcases Nat.lt_or_ge a 151 with q | q
  · exact (by decide +kernel : ∀ a, a < 151 → z_kd a = 9 → a = 0) a q h
  · rw [z_kd_far q] at h; cases h
theorem z_kd_6 {a : Nat} (h : z_kd a = 6) : 1 ≤ a ∧ a < 7 := by
  rcases Nat.lt_or_ge a 151 with q | q
  · exact (by decide +kernel : ∀ a, a < 151 → z_kd a = 6 → 1 ≤ a ∧ a < 7) a q h
  · rw [z_kd_far q] at h; cases h
theorem z_kd_7 {a : Nat} (h : z_kd a = 7) : 12 ≤ a ∧ a < 17 ∧ z_al a = z_slen.getD (a - 12) 0 ∧ z_xfL.getD a [] = z_sbyt.getD (a - 12) [] := by
  rcases Nat.lt_or_ge a 151 with q | q
  · exact (by decide +kernel : ∀ a, a < 151 → z_kd a = 7 → 12 ≤ a ∧ a < 17 ∧ z_al a = z_slen.getD (a - 12) 0 ∧ z_xfL.getD a [] = z_sbyt.getD (a - 12) []) a q h
  · rw [z_kd_far q] at h; cases h
theorem z_kd_8 {a : Nat} (h : z_kd a = 8) : 7 ≤ a ∧ a < 12 := by
  rcases Nat.lt_or_ge a 151 with q | q
  · exact (by decide +kernel : ∀ a, a < 151 → z_kd a = 8 → 7 ≤ a ∧ a < 12) a q h
  · rw [z_kd_far q] at h; cases h
theorem z_kd_up {a k : Nat} (h : z_kd a = k) (hk : (1 ≤ k ∧ k < 6) ∨ (10 ≤ k ∧ k < 21)) : 18 ≤ a ∧ a < 151 := by
  refine ⟨?_, ?_⟩
  · rcases Nat.lt_or_ge a 18 with q | q
    · have := z_kd_lo a q k h; omega
    · exact q
  · rcases Nat.lt_or_ge a 151 with q | q
    · exact q
    · rw [z_kd_far q] at h; omega
section
variable {D : va_G} {AC : Nat → ClassId} {xa : Nat → Nat} {sv : Option Nat} {bs : Nat} {g : Nat → Int32} {y : Nat} {p : Program} {l : Launch} {e : Env} {R : Room} {s : State} {m : MethodId} {args : Array Value} {below : List Frame} {meth : Method} {c : Code} {Q : State → Prop}
variable {rt pc len cn sn : Nat} {ini : Bool} {raw : Instr} {L : Lo} {S r : List Value} {M : Mm}
theorem z_en_1 {a : Nat} (h : z_kd a = 1) : z_en AC xa sv bs M a = .inl (AC 0, z_al a, .inl (M.2.1 a)) := by unfold z_en; rw [if_pos h]
theorem z_en_2 {a : Nat} (h : z_kd a = 2) : z_en AC xa sv bs M a = .inl (AC 1, z_al a, .inl (M.2.1 a)) := by unfold z_en; rw [if_neg (by omega), if_pos h]
theorem z_en_3 {a : Nat} (h : z_kd a = 3) : z_en AC xa sv bs M a = .inl (AC 2, z_al a, .inr (.inl (M.2.2.1 a))) := by unfold z_en; rw [if_neg (by omega), if_neg (by omega), if_pos h]
theorem z_en_4 {a : Nat} (h : z_kd a = 4) : z_en AC xa sv bs M a = .inl (AC 3, z_al a, .inr (.inr (.inr (.inr (fun j => z_ro xa sv bs (M.2.2.2 a j)))))) := by unfold z_en; rw [if_neg (by omega), if_neg (by omega), if_neg (by omega), if_pos h]
theorem z_en_5 {a : Nat} (h : z_kd a = 5) : z_en AC xa sv bs M a = .inl (AC 4, z_al a, .inr (.inr (.inr (.inr (fun j => z_ro xa sv bs (M.2.2.2 a j)))))) := by unfold z_en; rw [if_neg (by omega), if_neg (by omega), if_neg (by omega), if_neg (by omega), if_pos h]
/-- where an object's field stands -/
theorem z_obj {H : Heap} {a F : Nat} (hP : z_P D AC xa sv bs g M H) (hF : F < 105) (h : z_ok M.1 a (z_fk F) = true) : 18 ≤ a ∧ a < M.1 ∧ (z_w AC xa sv bs M)[a - 18]? = some (bs + (a - 18), .inr (z_fk F - 10, (List.range (z_cls (z_fk F - 10)).2.2).map fun j => z_fv xa sv bs M a (z_fbL.getD (z_fk F - 10) 0 + j))) := by
  obtain ⟨h1, h2, h3, h4⟩ := z_fok_at F hF
  obtain ⟨e1, e2⟩ := z_ok_kd h
  obtain ⟨u1, u2⟩ := z_kd_up e2 (Or.inr ⟨h1, h2⟩)
  refine ⟨u1, e1, ?_⟩
  rw [z_w_get u1 e1, z_en_obj (ci := z_fk F - 10) (by rw [e2]; omega)]
theorem z_fs_get {a F : Nat} (hF : F < 105) : ((List.range (z_cls (z_fk F - 10)).2.2).map fun j => z_fv xa sv bs M a (z_fbL.getD (z_fk F - 10) 0 + j))[F - z_fbL.getD (z_fk F - 10) 0]? = some (z_fv xa sv bs M a F) := by
  obtain ⟨h1, h2, h3, h4⟩ := z_fok_at F hF
  rw [List.getElem?_map, List.getElem?_range h4, Option.map_some, show z_fbL.getD (z_fk F - 10) 0 + (F - z_fbL.getD (z_fk F - 10) 0) = F by omega]
theorem z_link {F : Nat} {y : Nat} {ix : Nat} (hF : z_Fr D AC xa sv bs g y p l e R s m args below meth c) (h : (z_owL.getD y 0, ix, F) ∈ z_fT) : (Cond.fieldLink (z_own (z_owL.getD y 0)) ix (z_fld F).1 (z_fld F).2.1 (z_fld F).2.2.1).before args s = true ∨ (Cond.fieldLinkNest (z_own (z_owL.getD y 0)) ix (z_fld F).1 (z_fld F).2.1 (z_fld F).2.2.1 "CookHands").before args s = true := by
  rcases z_fT_ok (z_owL.getD y 0, ix, F) h with q | q
  · exact Or.inl (hF.tw q rfl _)
  · exact Or.inr (hF.tw q rfl _)
theorem zs_get (hF : z_Fr D AC xa sv bs g y p l e R s m args below meth c) {a F ix : Nat} (hdg : decode (z_by y) pc = .ok (.getfield ix, 3)) (ht : (z_owL.getD y 0, ix, F) ∈ z_fT) (h : z_ok M.1 a (z_fk F) = true) (k : ∀ (H : Heap) (locs : List Loc) (ls : Array Slot), z_P D AC xa sv bs g M H → va_S (z_A bs) s.heap H locs → z_LR xa sv bs ls L → ls.size = c.maxLocals → W p l e R s m args below meth c H locs cn sn Q (F0 m (pc + 3) ls (z_fv xa sv bs M a F :: r.map (z_tv xa sv bs)))) : z_Kk D AC xa sv bs g p l e R s m args below meth c Q cn sn pc L (.ref a :: r) M := by
  have h105 := z_fT_lt (z_owL.getD y 0, ix, F) ht
  intro H locs ls hP hS hL hn
  obtain ⟨u1, u2, hw⟩ := z_obj hP h105 h
  obtain ⟨h1, h2, h3, h4⟩ := z_fok_at F h105
  rw [List.map_cons, z_tv_hi u1]
  have hc := z_cls_ok (z_fk F - 10) (by omega)
  rcases z_link hF ht with hl | hl
  · exact va_get (D := D) (ci := z_fk F - 10) (C := (z_cls (z_fk F - 10)).1) (T := (z_cls (z_fk F - 10)).2.1) (N := (z_cls (z_fk F - 10)).2.2) hF.1 hF.2.1 (hF.2.2.2.2.1.1.on) (z_uws_tw (by omega)) hF.2.2.2.1 hF.K hP.1 (a - 18) hw hc.1 (F - z_fbL.getD (z_fk F - 10) 0) h4 hl (fun _ h => h) (z_fs_get h105) hdg (k H locs ls hP hS hL hn)
  · exact va_getN (D := D) (ci := z_fk F - 10) (C := (z_cls (z_fk F - 10)).1) (T := (z_cls (z_fk F - 10)).2.1) (N := (z_cls (z_fk F - 10)).2.2) hF.1 hF.2.1 (hF.2.2.2.2.1.1.on) (z_uws_tw (by omega)) hF.2.2.2.1 hF.K hP.1 (a - 18) hw hc.1 (F - z_fbL.getD (z_fk F - 10) 0) h4 hl (fun _ h => h) (z_fs_get h105) hdg (k H locs ls hP hS hL hn)
theorem z_fs_set {M' : Mm} {a F : Nat} {v : Value} (hF : F < 105) (hv : z_fv xa sv bs M' a F = v) (ho : ∀ G, G ≠ F → z_fv xa sv bs M' a G = z_fv xa sv bs M a G) : ((List.range (z_cls (z_fk F - 10)).2.2).map fun j => z_fv xa sv bs M a (z_fbL.getD (z_fk F - 10) 0 + j)).set (F - z_fbL.getD (z_fk F - 10) 0) v = (List.range (z_cls (z_fk F - 10)).2.2).map fun j => z_fv xa sv bs M' a (z_fbL.getD (z_fk F - 10) 0 + j) := by
  obtain ⟨h1, h2, h3, h4⟩ := z_fok_at F hF
  apply List.ext_getElem?
  intro i
  rw [List.getElem?_set]
  simp only [List.length_map, List.length_range]
  by_cases hi : i < (z_cls (z_fk F - 10)).2.2
  · rw [List.getElem?_map, List.getElem?_range hi, List.getElem?_map, List.getElem?_range hi, Option.map_some, Option.map_some]
    by_cases hk : F - z_fbL.getD (z_fk F - 10) 0 = i
    · rw [if_pos hk, if_pos h4, show z_fbL.getD (z_fk F - 10) 0 + i = F by omega, hv]
    · rw [if_neg hk, ho _ (by omega)]
  · rw [List.getElem?_map, List.getElem?_eq_none (by simpa using hi), List.getElem?_map, List.getElem?_eq_none (by simpa using hi)]
    by_cases hk : F - z_fbL.getD (z_fk F - 10) 0 = i
    · omega
    · rw [if_neg hk]; rfl
theorem zs_put (hF : z_Fr D AC xa sv bs g y p l e R s m args below meth c) {a F ix : Nat} {v : Value} {M' : Mm} (hdg : decode (z_by y) pc = .ok (.putfield ix, 3)) (ht : (z_owL.getD y 0, ix, F) ∈ z_fT) (hfin : (!(z_fld F).2.2.2 || (z_inL.getD y false && decide ((z_fld F).1 = z_own (z_owL.getD y 0)))) = true) (h : z_ok M.1 a (z_fk F) = true)
    (hty : narrow (z_yt (z_fk F - 10) (F - z_fbL.getD (z_fk F - 10) 0)) (z_tv xa sv bs v) = z_tv xa sv bs v ∧ fits (z_yt (z_fk F - 10) (F - z_fbL.getD (z_fk F - 10) 0)) (z_tv xa sv bs v) = true)
    (h1' : M'.1 = M.1) (hv : z_fv xa sv bs M' a F = z_tv xa sv bs v) (ho : ∀ G, G ≠ F → z_fv xa sv bs M' a G = z_fv xa sv bs M a G) (hb : ∀ b, b ≠ a → M'.2.1 b = M.2.1 b ∧ M'.2.2.1 b = M.2.2.1 b ∧ M'.2.2.2 b = M.2.2.2 b) (k : z_Kk D AC xa sv bs g p l e R s m args below meth c Q cn sn (pc + 3) L r M') : z_Kk D AC xa sv bs g p l e R s m args below meth c Q cn sn pc L (v :: .ref a :: r) M := by
  have h105 := z_fT_lt (z_owL.getD y 0, ix, F) ht
  intro H locs ls hP hS hL hn
  obtain ⟨u1, u2, hw⟩ := z_obj hP h105 h
  obtain ⟨h1, h2, h3, h4⟩ := z_fok_at F h105
  have hkd := (z_ok_kd h).2
  rw [List.map_cons, List.map_cons, z_tv_hi u1]
  have hc := z_cls_ok (z_fk F - 10) (by omega)
  have hset : (z_w AC xa sv bs M).set (a - 18) (bs + (a - 18), .inr (z_fk F - 10, ((List.range (z_cls (z_fk F - 10)).2.2).map fun j => z_fv xa sv bs M a (z_fbL.getD (z_fk F - 10) 0 + j)).set (F - z_fbL.getD (z_fk F - 10) 0) (z_tv xa sv bs v))) = z_w AC xa sv bs M' := by
    refine z_w_set u1 u2 h1' ?_ (fun b hb' => z_en_same (hb b hb').1 (hb b hb').2.1 (hb b hb').2.2)
    rw [z_en_obj (ci := z_fk F - 10) (by rw [hkd]; omega), z_fs_set h105 hv ho]
  have kk : ∀ (H1 : Heap) (locs1 : List Loc), va_P D z_cl ((z_w AC xa sv bs M).set (a - 18) (bs + (a - 18), .inr (z_fk F - 10, ((List.range (z_cls (z_fk F - 10)).2.2).map fun j => z_fv xa sv bs M a (z_fbL.getD (z_fk F - 10) 0 + j)).set (F - z_fbL.getD (z_fk F - 10) 0) (z_tv xa sv bs v)))) H1 → H1.size = H.size → va_S (z_A bs) s.heap H1 locs1 → W p l e R s m args below meth c H1 locs1 cn sn Q (F0 m (pc + 3) ls (r.map (z_tv xa sv bs))) := by
    intro H1 locs1 hP1 hz hS1
    rw [hset] at hP1
    exact k H1 locs1 ls ⟨hP1, fun q => by rw [hz, h1']; exact hP.2.1 (by rw [← h1']; exact q), by rw [h1']; exact hP.2.2.1, by rw [h1']; exact hP.2.2.2.1, by rw [(hb 0 (by omega)).1]; exact hP.2.2.2.2⟩ hS1 hL hn
  have hap := va_apart (own := z_own (z_owL.getD y 0)) (args := args) (hF.2.2.2.2.1.1.on) (z_uws_tw (by omega)) (z_yt (z_fk F - 10)) hc.2.2.1 hc.2.2.2.1 hF.K hc.1
  obtain ⟨r1, e1, cell, q1, q2, q3, q4⟩ := hP.1 (a - 18) _ hw
  have hr : r1 = z_cls (z_fk F - 10) := Option.some.inj (e1.symm.trans hc.1)
  subst hr
  obtain ⟨hSl, hfc, kC, hkC, hkind⟩ := hF.K.1 (z_fk F - 10) _ hc.1
  obtain ⟨cf, kf, fi, f, hi, hsl⟩ := hSl (F - z_fbL.getD (z_fk F - 10) 0) h4
  have hlt : F - z_fbL.getD (z_fk F - 10) 0 < ((List.range (z_cls (z_fk F - 10)).2.2).map fun j => z_fv xa sv bs M a (z_fbL.getD (z_fk F - 10) 0 + j)).length := by simpa using h4
  have fin : ∀ H' : Heap, H'[bs + (a - 18)]? = some (cell.setSlot f.slot (z_tv xa sv bs v)) → H'.size = H.size → (∀ q, q ≠ bs + (a - 18) → H'[q]? = H[q]?) → W p l e R s m args below meth c H' (locs ++ [⟨bs + (a - 18), f.slot⟩]) cn sn Q (F0 m (pc + 3) ls (r.map (z_tv xa sv bs))) := by
    intro H' a1 a2 a3
    rw [hsl] at a1 ⊢
    refine kk H' _ (hP.1.set z_w_D hw ⟨_, hc.1, t_OB.to (V := updV (vp_V _) (F - z_fbL.getD (z_fk F - 10) 0) (z_tv xa sv bs v)) ⟨_, a1, q2, q3, t_set q4 hap h4 _⟩ (fun j _ => vp_updV_set hlt _ j)⟩ a3) a2 (hS.put a2 a3 (show bs ≤ bs + (a - 18) by omega))
  have hlay := hF.2.2.2.2.1.1.on (args := args) _ (z_uws_tw (ci := z_fk F - 10) (by omega) _ (u_in_lay h4))
  have hst := (u_facts hfc hkC (u_lays (args := args) (hF.2.2.2.2.1.1.on) (z_uws_tw (by omega)) h4) hi).1
  unfold u_lay at hlay
  cases hfi : (z_fld F).2.2.2 with
  | false =>
    rw [if_neg (by rw [show ((z_cls (z_fk F - 10)).2.1 (F - z_fbL.getD (z_fk F - 10) 0)).2.2.2 = false from hfi]; decide)] at hlay
    have h6 := u_store hfc hkC hkind hlay hi (hc.2.2.1 _ h4) hty.1 hty.2
    rcases z_link hF ht with hl | hl
    · exact W.putK hF.1 hF.2.1 (f := f) ⟨hF.2.2.2.1, hl, ⟨_, _, _, hi⟩, hst⟩ (by rw [q2]; exact h6) q1 q3 (by rw [hsl]; exact k2_hasslot (q4 _ h4)) rfl rfl hdg fin
    · exact va_WputK hF.1 hF.2.1 (f := f) hF.2.2.2.1 hl hi hst (by rw [q2]; exact h6) q1 q3 (by rw [hsl]; exact k2_hasslot (q4 _ h4)) rfl rfl hdg fin
  | true =>
    rw [hfi] at hfin
    obtain ⟨hin, hdecl⟩ := zi_and (show (z_inL.getD y false && decide ((z_fld F).1 = z_own (z_owL.getD y 0))) = true from hfin)
    have hdecl := zi_dec hdecl
    have hname := hF.2.2.2.2.2.1 hin
    rw [if_pos (show ((z_cls (z_fk F - 10)).2.1 (F - z_fbL.getD (z_fk F - 10) 0)).2.2.2 = true from hfi)] at hlay
    have hl := hF.tw (z_fT_fin (z_owL.getD y 0, ix, F) ht hfi hdecl) rfl args
    have hcf : m.cls = cf := by
      obtain ⟨_, _, c', _, _, _, -, -, hf', -, -, -, hown2, -⟩ := Cond.laysFinal_spec hlay
      have e1 : c' = cf := by have := hi.symm.trans hf'; simp at this; exact this.1.symm
      have e2 : s.vm.findClass (z_fld F).1 = some c' := hown2
      rw [hdecl] at e2
      rw [← e1]; exact Option.some.inj (hF.2.2.2.1.symm.trans e2)
    have h6 := u_fits hfc hkC hkind (Or.inr hlay) hi (hc.2.2.1 _ h4) hty.1 hty.2
    exact W.putFinK hF.1 hF.2.1 hF.2.2.2.1 hl hi hst hcf hname (by rw [q2]; exact h6) q1 q3 (by rw [hsl]; exact k2_hasslot (q4 _ h4)) rfl rfl hdg fin
end
