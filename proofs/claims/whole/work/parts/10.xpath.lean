theorem mw_192 : (.fieldLink RX8 19 RX8 "length" "I" : Cond) ∈ AW := List.mem_filter.mpr ⟨List.mem_of_getElem? (i := 192) (by decide +kernel), rfl⟩
theorem dX8_length_0 : decode cX8_length 0 = .ok (.aload_n 0, 1) := by decide +kernel
theorem dX8_length_1 : decode cX8_length 1 = .ok (.getfield 19, 3) := by decide +kernel
theorem dX8_length_4 : decode cX8_length 4 = .ok (.ireturn, 1) := by decide +kernel
def fx_Path_length (st : XS) : Int32 := gI st 9
set_option maxHeartbeats 4000000 in
set_option maxRecDepth 100000 in
theorem kx_Path_length (l : Launch) (dC : Nat → ClassId) (dI : Nat → Nat → Nat) (a : Nat → Nat) (k : Nat → ClassId) (st : XS) : Met l yX8_length wsX8_length ({ frames := 0, cells := 0, slots := 0, locals := 0 }) (va_Pc [.ref (a 21)] (wl_prR (dC, dI) vwCl (xt k) (xw a k st))) (vp_Si (fun r9 => r9 = fx_Path_length st)) 0 0 (fun _ => False) := by
  refine Met.ofW (cc := cX8_length) (maxL := 1) (ret := (some .int)) (by decide) rfl ?_
  intro p e s m args below meth c s₁ B hml hv
  obtain ⟨rfl, hP, hK⟩ := hv
  have hx := B.exec
  have hb := B.bytes
  have hr := B.returns
  have hta := aw_hts (atoms_spec (ws := wsX8_length) B.pre)
  have hown : s.vm.findClass RX8 = some m.cls := findClass_of_methodNamed B.named
  have hlocks := B.notSynchronized
  have hf19 := hta _ mw_192
  have hl := lv_entry ([.ref (a 21)]) (n := 1) (Nat.le_of_ble_eq_true rfl)
  rw [lg_entry_eq]
  generalize (lg_sl ([.ref (a 21)]) ++ List.replicate (1 - (lg_sl ([.ref (a 21)])).length) Slot.unset).toArray = ls at hl ⊢
  have hl : lv_has ls 1 [(0, .ref (a 21))] := hl
  generalize hR : fx_Path_length st = R
  rw [fx_Path_length] at hR
  refine lv_aload_n hx hb dX8_length_0 rfl (lv_at hl 0 rfl) ?_
  refine va_get (D := (dC, dI)) (ci := 6) (v := .int (gI st 9)) (C := RX8) (T := TX8) (N := 3) hx hb hta inX8 hown hK hP 21 (xr_21 a k st) rfl 2 (by decide) hf19 (fun _ h9 => h9) rfl dX8_length_1 ?_
  exact W.iret (v := gI st 9) hx hb hr (fun t ht hW => ⟨_, rfl, hR, ht⟩) (fun q h => by cases h) dX8_length_4

theorem dX8_isFull_0 : decode cX8_isFull 0 = .ok (.aload_n 0, 1) := by decide +kernel
theorem dX8_isFull_1 : decode cX8_isFull 1 = .ok (.getfield 19, 3) := by decide +kernel
theorem dX8_isFull_4 : decode cX8_isFull 4 = .ok (.bipush 16, 2) := by decide +kernel
theorem dX8_isFull_6 : decode cX8_isFull 6 = .ok (.if_icmp .lt 7, 3) := by decide +kernel
theorem dX8_isFull_9 : decode cX8_isFull 9 = .ok (.iconst 1, 1) := by decide +kernel
theorem dX8_isFull_10 : decode cX8_isFull 10 = .ok (.goto 4, 3) := by decide +kernel
theorem dX8_isFull_13 : decode cX8_isFull 13 = .ok (.iconst 0, 1) := by decide +kernel
theorem dX8_isFull_14 : decode cX8_isFull 14 = .ok (.ireturn, 1) := by decide +kernel
def fx_Path_isFull (st : XS) : Int32 := 
  if gI st 9 < (16 : Int32) then (0 : Int32)
  else (1 : Int32)
set_option maxHeartbeats 4000000 in
set_option maxRecDepth 100000 in
theorem kx_Path_isFull (l : Launch) (dC : Nat → ClassId) (dI : Nat → Nat → Nat) (a : Nat → Nat) (k : Nat → ClassId) (st : XS) : Met l yX8_isFull wsX8_isFull ({ frames := 0, cells := 0, slots := 0, locals := 0 }) (va_Pc [.ref (a 21)] (wl_prR (dC, dI) vwCl (xt k) (xw a k st))) (vp_Si (fun r9 => r9 = fx_Path_isFull st)) 0 0 (fun _ => False) := by
  refine Met.ofW (cc := cX8_isFull) (maxL := 1) (ret := (some .boolean)) (by decide) rfl ?_
  intro p e s m args below meth c s₁ B hml hv
  obtain ⟨rfl, hP, hK⟩ := hv
  have hx := B.exec
  have hb := B.bytes
  have hr := B.returns
  have hta := aw_hts (atoms_spec (ws := wsX8_isFull) B.pre)
  have hown : s.vm.findClass RX8 = some m.cls := findClass_of_methodNamed B.named
  have hlocks := B.notSynchronized
  have hf19 := hta _ mw_192
  have hl := lv_entry ([.ref (a 21)]) (n := 1) (Nat.le_of_ble_eq_true rfl)
  rw [lg_entry_eq]
  generalize (lg_sl ([.ref (a 21)]) ++ List.replicate (1 - (lg_sl ([.ref (a 21)])).length) Slot.unset).toArray = ls at hl ⊢
  have hl : lv_has ls 1 [(0, .ref (a 21))] := hl
  generalize hR : fx_Path_isFull st = R
  rw [fx_Path_isFull] at hR
  refine lv_aload_n hx hb dX8_isFull_0 rfl (lv_at hl 0 rfl) ?_
  refine va_get (D := (dC, dI)) (ci := 6) (v := .int (gI st 9)) (C := RX8) (T := TX8) (N := 3) hx hb hta inX8 hown hK hP 21 (xr_21 a k st) rfl 2 (by decide) hf19 (fun _ h9 => h9) rfl dX8_isFull_1 ?_
  refine lv_bipush (v := (16 : Int32)) hx hb dX8_isFull_4 (by decide) ?_
  refine lv_icmp_lt (tgt := 13) hx hb dX8_isFull_6 (by decide) (fun c6 => ?_) (fun c6 => ?_)
  · skip
    rw [if_pos c6] at hR
    refine lv_iconst (v := (0 : Int32)) hx hb dX8_isFull_13 (by decide) ?_
    exact W.zret (v := (0 : Int32)) (ty := .boolean) hx hb hr rfl (fun t ht hW => ⟨_, rfl, hR, ht⟩) (fun q h => by cases h) dX8_isFull_14
  · skip
    rw [if_neg c6] at hR
    refine lv_iconst (v := (1 : Int32)) hx hb dX8_isFull_9 (by decide) ?_
    refine lv_goto (tgt := 14) hx hb dX8_isFull_10 (by decide) ?_
    exact W.zret (v := (1 : Int32)) (ty := .boolean) hx hb hr rfl (fun t ht hW => ⟨_, rfl, hR, ht⟩) (fun q h => by cases h) dX8_isFull_14

theorem mw_191 : (.fieldLink RX8 15 RX8 "conditions" "[I" : Cond) ∈ AW := List.mem_filter.mpr ⟨List.mem_of_getElem? (i := 191) (by decide +kernel), rfl⟩
theorem dX8_conditionAt_0 : decode cX8_conditionAt 0 = .ok (.aload_n 0, 1) := by decide +kernel
theorem dX8_conditionAt_1 : decode cX8_conditionAt 1 = .ok (.getfield 15, 3) := by decide +kernel
theorem dX8_conditionAt_4 : decode cX8_conditionAt 4 = .ok (.iload_n 1, 1) := by decide +kernel
theorem dX8_conditionAt_5 : decode cX8_conditionAt 5 = .ok (.iaload, 1) := by decide +kernel
theorem dX8_conditionAt_6 : decode cX8_conditionAt 6 = .ok (.ireturn, 1) := by decide +kernel
def fx_Path_conditionAt (st : XS) (i1 : Int32) : Int32 := fA st 10 i1.toNatClampNeg
set_option maxHeartbeats 4000000 in
set_option maxRecDepth 100000 in
theorem kx_Path_conditionAt (l : Launch) (dC : Nat → ClassId) (dI : Nat → Nat → Nat) (a : Nat → Nat) (k : Nat → ClassId) (st : XS) (i1 : Int32) (hi : vp_in i1 16) : Met l yX8_conditionAt wsX8_conditionAt ({ frames := 0, cells := 0, slots := 0, locals := 0 }) (va_Pc [.ref (a 21), .int i1] (wl_prR (dC, dI) vwCl (xt k) (xw a k st))) (vp_Si (fun r9 => r9 = fx_Path_conditionAt st i1)) 0 0 (fun _ => False) := by
  refine Met.ofW (cc := cX8_conditionAt) (maxL := 2) (ret := (some .int)) (by decide) rfl ?_
  intro p e s m args below meth c s₁ B hml hv
  obtain ⟨rfl, hP, hK⟩ := hv
  have hx := B.exec
  have hb := B.bytes
  have hr := B.returns
  have hta := aw_hts (atoms_spec (ws := wsX8_conditionAt) B.pre)
  have hown : s.vm.findClass RX8 = some m.cls := findClass_of_methodNamed B.named
  have hlocks := B.notSynchronized
  have hf15 := hta _ mw_191
  have hl := lv_entry ([.ref (a 21), .int i1]) (n := 2) (Nat.le_of_ble_eq_true rfl)
  rw [lg_entry_eq]
  generalize (lg_sl ([.ref (a 21), .int i1]) ++ List.replicate (2 - (lg_sl ([.ref (a 21), .int i1])).length) Slot.unset).toArray = ls at hl ⊢
  have hl : lv_has ls 2 [(0, .ref (a 21)), (1, .int i1)] := hl
  generalize hR : fx_Path_conditionAt st i1 = R
  rw [fx_Path_conditionAt] at hR
  refine lv_aload_n hx hb dX8_conditionAt_0 rfl (lv_at hl 0 rfl) ?_
  refine va_get (D := (dC, dI)) (ci := 6) (v := .ref (a 22)) (C := RX8) (T := TX8) (N := 3) hx hb hta inX8 hown hK hP 21 (xr_21 a k st) rfl 1 (by decide) hf15 (fun _ h9 => h9) rfl dX8_conditionAt_1 ?_
  refine lv_iload_n hx hb dX8_conditionAt_4 rfl (lv_at hl 1 rfl) ?_
  refine va_iald hx hb hK hP 22 14 (xr_22 a k st) rfl hi dX8_conditionAt_5 ?_
  exact W.iret (v := fA st 10 i1.toNatClampNeg) hx hb hr (fun t ht hW => ⟨_, rfl, hR, ht⟩) (fun q h => by cases h) dX8_conditionAt_6

theorem dX8_push_0 : decode cX8_push 0 = .ok (.aload_n 0, 1) := by decide +kernel
theorem dX8_push_1 : decode cX8_push 1 = .ok (.getfield 15, 3) := by decide +kernel
theorem dX8_push_4 : decode cX8_push 4 = .ok (.aload_n 0, 1) := by decide +kernel
theorem dX8_push_5 : decode cX8_push 5 = .ok (.getfield 19, 3) := by decide +kernel
theorem dX8_push_8 : decode cX8_push 8 = .ok (.iload_n 1, 1) := by decide +kernel
theorem dX8_push_9 : decode cX8_push 9 = .ok (.iastore, 1) := by decide +kernel
theorem dX8_push_10 : decode cX8_push 10 = .ok (.aload_n 0, 1) := by decide +kernel
theorem dX8_push_11 : decode cX8_push 11 = .ok (.dup, 1) := by decide +kernel
theorem dX8_push_12 : decode cX8_push 12 = .ok (.getfield 19, 3) := by decide +kernel
theorem dX8_push_15 : decode cX8_push 15 = .ok (.iconst 1, 1) := by decide +kernel
theorem dX8_push_16 : decode cX8_push 16 = .ok (.iadd, 1) := by decide +kernel
theorem dX8_push_17 : decode cX8_push 17 = .ok (.putfield 19, 3) := by decide +kernel
theorem dX8_push_20 : decode cX8_push 20 = .ok (.aload_n 0, 1) := by decide +kernel
theorem dX8_push_21 : decode cX8_push 21 = .ok (.getfield 19, 3) := by decide +kernel
theorem dX8_push_24 : decode cX8_push 24 = .ok (.ireturn, 1) := by decide +kernel
def fx_Path_push (st : XS) (cnd : Int32) : Int32 × XS := (gI (wI (wA st 10 ((gI st 9).toNatClampNeg) cnd) 9 ((gI st 9) + (1 : Int32))) 9, wI (wA st 10 ((gI st 9).toNatClampNeg) cnd) 9 ((gI st 9) + (1 : Int32)))
theorem ff_Path_push (st : XS) (cnd : Int32) : XF [9] [10] [] st (fx_Path_push st cnd).2 := by
  rw [fx_Path_push]
  exact (XF.wI (by decide) (XF.wA (by decide) XF.rf))
set_option maxHeartbeats 4000000 in
set_option maxRecDepth 100000 in
theorem kx_Path_push (l : Launch) (dC : Nat → ClassId) (dI : Nat → Nat → Nat) (a : Nat → Nat) (k : Nat → ClassId) (st : XS) (cnd : Int32) (sz : Nat) (hi : vp_in (gI st 9) 16) : Met l yX8_push wsX8_push ({ frames := 0, cells := 0, slots := 0, locals := 0 }) (va_Pc [.ref (a 21), .int cnd] (wl_pre (dC, dI) vwCl (xt k) (xw a k) st sz)) (va_Qi (fun r9 u9 => (r9, u9) = fx_Path_push st cnd) (wl_at (dC, dI) vwCl (xt k) (xw a k) (va_A (xw a k st) sz)) (va_A (xw a k st) sz)) 0 0 (va_A (xw a k st) sz) := by
  refine Met.ofW (cc := cX8_push) (maxL := 2) (ret := (some .int)) (by decide) rfl ?_
  intro p e s m args below meth c s₁ B hml hv
  obtain ⟨rfl, hsz, hP, hK, hD0⟩ := hv
  have hx := B.exec
  have hb := B.bytes
  have hr := B.returns
  have hta := aw_hts (atoms_spec (ws := wsX8_push) B.pre)
  have hown : s.vm.findClass RX8 = some m.cls := findClass_of_methodNamed B.named
  have hlocks := B.notSynchronized
  have hf15 := hta _ mw_191
  have hf19 := hta _ mw_192
  subst hsz
  have hD := hD0.self (sz := s.heap.size)
  generalize hAe : va_A (xw a k st) s.heap.size = A at hD ⊢
  have hAz : ∀ q : Nat, s.heap.size ≤ q → A q := fun q h => by rw [← hAe]; exact Or.inr h
  have hS : va_S A s.heap s.heap [] := va_S.rf
  have hl := lv_entry ([.ref (a 21), .int cnd]) (n := 2) (Nat.le_of_ble_eq_true rfl)
  rw [lg_entry_eq]
  generalize (lg_sl ([.ref (a 21), .int cnd]) ++ List.replicate (2 - (lg_sl ([.ref (a 21), .int cnd])).length) Slot.unset).toArray = ls at hl ⊢
  have hl : lv_has ls 2 [(0, .ref (a 21)), (1, .int cnd)] := hl
  generalize hR : fx_Path_push st cnd = R
  rw [fx_Path_push] at hR
  refine lv_aload_n hx hb dX8_push_0 rfl (lv_at hl 0 rfl) ?_
  refine va_get (D := (dC, dI)) (ci := 6) (v := .ref (a 22)) (C := RX8) (T := TX8) (N := 3) hx hb hta inX8 hown hK hP 21 (xr_21 a k st) rfl 1 (by decide) hf15 (fun _ h9 => h9) rfl dX8_push_1 ?_
  refine lv_aload_n hx hb dX8_push_4 rfl (lv_at hl 0 rfl) ?_
  refine va_get (D := (dC, dI)) (ci := 6) (v := .int (gI st 9)) (C := RX8) (T := TX8) (N := 3) hx hb hta inX8 hown hK hP 21 (xr_21 a k st) rfl 2 (by decide) hf19 (fun _ h9 => h9) rfl dX8_push_5 ?_
  refine lv_iload_n hx hb dX8_push_8 rfl (lv_at hl 1 rfl) ?_
  refine va_iast hx hb hK hP hD hS 22 14 (xr_22 a k st) rfl hi dX8_push_9 (fun H locs hP hD hS => ?_)
  have hP := xp_A10 hP
  have hD := xd_A10 hD
  refine lv_aload_n hx hb dX8_push_10 rfl (lv_at hl 0 rfl) ?_
  refine lv_dup hx hb dX8_push_11 rfl ?_
  refine va_get (D := (dC, dI)) (ci := 6) (v := .int (gI st 9)) (C := RX8) (T := TX8) (N := 3) hx hb hta inX8 hown hK hP 21 (xr_21 a k (wA st 10 ((gI st 9).toNatClampNeg) cnd)) rfl 2 (by decide) hf19 (fun _ h9 => h9) rfl dX8_push_12 ?_
  refine lv_iconst (v := (1 : Int32)) hx hb dX8_push_15 (by decide) ?_
  refine lv_iadd hx hb dX8_push_16 ?_
  refine va_put (D := (dC, dI)) (ci := 6) (v := .int ((gI st 9) + (1 : Int32))) (ty := .int) (C := RX8) (T := TX8) (N := 3) hx hb hta inX8 tyX8 tyX8_ok nmX8 hown hK hP hD hS 21 (xr_21 a k (wA st 10 ((gI st 9).toNatClampNeg) cnd)) rfl 2 (by decide) hf19 (fun _ h9 => h9) rfl (by decide +kernel) rfl rfl (Nat.le_of_ble_eq_true rfl) dX8_push_17 (fun H locs hP hD hS => ?_)
  have hP := xp_I9 hP
  have hD := xd_I9 hD
  refine lv_aload_n hx hb dX8_push_20 rfl (lv_at hl 0 rfl) ?_
  refine va_get (D := (dC, dI)) (ci := 6) (v := .int (gI (wI (wA st 10 ((gI st 9).toNatClampNeg) cnd) 9 ((gI st 9) + (1 : Int32))) 9)) (C := RX8) (T := TX8) (N := 3) hx hb hta inX8 hown hK hP 21 (xr_21 a k (wI (wA st 10 ((gI st 9).toNatClampNeg) cnd) 9 ((gI st 9) + (1 : Int32)))) rfl 2 (by decide) hf19 (fun _ h9 => h9) rfl dX8_push_21 ?_
  exact W.iret (v := gI (wI (wA st 10 ((gI st 9).toNatClampNeg) cnd) 9 ((gI st 9) + (1 : Int32))) 9) hx hb hr (fun t ht hW => ⟨⟨_, _, rfl, hR, by rw [ht]; exact hP, va_K.moved hW.alike hK, hD⟩, hS.F ht⟩) hS.2.2 dX8_push_24

theorem dX8_pop_0 : decode cX8_pop 0 = .ok (.aload_n 0, 1) := by decide +kernel
theorem dX8_pop_1 : decode cX8_pop 1 = .ok (.dup, 1) := by decide +kernel
theorem dX8_pop_2 : decode cX8_pop 2 = .ok (.getfield 19, 3) := by decide +kernel
theorem dX8_pop_5 : decode cX8_pop 5 = .ok (.iconst 1, 1) := by decide +kernel
theorem dX8_pop_6 : decode cX8_pop 6 = .ok (.isub, 1) := by decide +kernel
theorem dX8_pop_7 : decode cX8_pop 7 = .ok (.putfield 19, 3) := by decide +kernel
theorem dX8_pop_10 : decode cX8_pop 10 = .ok (.aload_n 0, 1) := by decide +kernel
theorem dX8_pop_11 : decode cX8_pop 11 = .ok (.getfield 19, 3) := by decide +kernel
theorem dX8_pop_14 : decode cX8_pop 14 = .ok (.ireturn, 1) := by decide +kernel
def fx_Path_pop (st : XS) : Int32 × XS := (gI (wI st 9 ((gI st 9) - (1 : Int32))) 9, wI st 9 ((gI st 9) - (1 : Int32)))
theorem ff_Path_pop (st : XS) : XF [9] [] [] st (fx_Path_pop st).2 := by
  rw [fx_Path_pop]
  exact (XF.wI (by decide) XF.rf)
set_option maxHeartbeats 4000000 in
set_option maxRecDepth 100000 in
theorem kx_Path_pop (l : Launch) (dC : Nat → ClassId) (dI : Nat → Nat → Nat) (a : Nat → Nat) (k : Nat → ClassId) (st : XS) (sz : Nat) : Met l yX8_pop wsX8_pop ({ frames := 0, cells := 0, slots := 0, locals := 0 }) (va_Pc [.ref (a 21)] (wl_pre (dC, dI) vwCl (xt k) (xw a k) st sz)) (va_Qi (fun r9 u9 => (r9, u9) = fx_Path_pop st) (wl_at (dC, dI) vwCl (xt k) (xw a k) (va_A (xw a k st) sz)) (va_A (xw a k st) sz)) 0 0 (va_A (xw a k st) sz) := by
  refine Met.ofW (cc := cX8_pop) (maxL := 1) (ret := (some .int)) (by decide) rfl ?_
  intro p e s m args below meth c s₁ B hml hv
  obtain ⟨rfl, hsz, hP, hK, hD0⟩ := hv
  have hx := B.exec
  have hb := B.bytes
  have hr := B.returns
  have hta := aw_hts (atoms_spec (ws := wsX8_pop) B.pre)
  have hown : s.vm.findClass RX8 = some m.cls := findClass_of_methodNamed B.named
  have hlocks := B.notSynchronized
  have hf19 := hta _ mw_192
  subst hsz
  have hD := hD0.self (sz := s.heap.size)
  generalize hAe : va_A (xw a k st) s.heap.size = A at hD ⊢
  have hAz : ∀ q : Nat, s.heap.size ≤ q → A q := fun q h => by rw [← hAe]; exact Or.inr h
  have hS : va_S A s.heap s.heap [] := va_S.rf
  have hl := lv_entry ([.ref (a 21)]) (n := 1) (Nat.le_of_ble_eq_true rfl)
  rw [lg_entry_eq]
  generalize (lg_sl ([.ref (a 21)]) ++ List.replicate (1 - (lg_sl ([.ref (a 21)])).length) Slot.unset).toArray = ls at hl ⊢
  have hl : lv_has ls 1 [(0, .ref (a 21))] := hl
  generalize hR : fx_Path_pop st = R
  rw [fx_Path_pop] at hR
  refine lv_aload_n hx hb dX8_pop_0 rfl (lv_at hl 0 rfl) ?_
  refine lv_dup hx hb dX8_pop_1 rfl ?_
  refine va_get (D := (dC, dI)) (ci := 6) (v := .int (gI st 9)) (C := RX8) (T := TX8) (N := 3) hx hb hta inX8 hown hK hP 21 (xr_21 a k st) rfl 2 (by decide) hf19 (fun _ h9 => h9) rfl dX8_pop_2 ?_
  refine lv_iconst (v := (1 : Int32)) hx hb dX8_pop_5 (by decide) ?_
  refine lv_isub hx hb dX8_pop_6 ?_
  refine va_put (D := (dC, dI)) (ci := 6) (v := .int ((gI st 9) - (1 : Int32))) (ty := .int) (C := RX8) (T := TX8) (N := 3) hx hb hta inX8 tyX8 tyX8_ok nmX8 hown hK hP hD hS 21 (xr_21 a k st) rfl 2 (by decide) hf19 (fun _ h9 => h9) rfl (by decide +kernel) rfl rfl (Nat.le_of_ble_eq_true rfl) dX8_pop_7 (fun H locs hP hD hS => ?_)
  have hP := xp_I9 hP
  have hD := xd_I9 hD
  refine lv_aload_n hx hb dX8_pop_10 rfl (lv_at hl 0 rfl) ?_
  refine va_get (D := (dC, dI)) (ci := 6) (v := .int (gI (wI st 9 ((gI st 9) - (1 : Int32))) 9)) (C := RX8) (T := TX8) (N := 3) hx hb hta inX8 hown hK hP 21 (xr_21 a k (wI st 9 ((gI st 9) - (1 : Int32)))) rfl 2 (by decide) hf19 (fun _ h9 => h9) rfl dX8_pop_11 ?_
  exact W.iret (v := gI (wI st 9 ((gI st 9) - (1 : Int32))) 9) hx hb hr (fun t ht hW => ⟨⟨_, _, rfl, hR, by rw [ht]; exact hP, va_K.moved hW.alike hK, hD⟩, hS.F ht⟩) hS.2.2 dX8_pop_14

theorem mw_541 : (.constantLong RX8 40 (-1) : Cond) ∈ AW := List.mem_filter.mpr ⟨List.mem_of_getElem? (i := 541) (by decide +kernel), rfl⟩
theorem mw_190 : (.fieldLink RX8 9 RX8 "rows" "LPathSolver$TruthRows;" : Cond) ∈ AW := List.mem_filter.mpr ⟨List.mem_of_getElem? (i := 190) (by decide +kernel), rfl⟩
theorem mw_545 : (.code yX7_wordOf cX7_wordOf 3 (some .long) : Cond) ∈ AW := List.mem_filter.mpr ⟨List.mem_of_getElem? (i := 545) (by decide +kernel), rfl⟩
theorem mw_542 : (.methodLink RX8 37 yX7_wordOf : Cond) ∈ AW := List.mem_filter.mpr ⟨List.mem_of_getElem? (i := 542) (by decide +kernel), rfl⟩
theorem mw_543 : (.instanceMethod yX7_wordOf : Cond) ∈ AW := List.mem_filter.mpr ⟨List.mem_of_getElem? (i := 543) (by decide +kernel), rfl⟩
theorem mw_544 : (.selects RX7 yX7_wordOf yX7_wordOf : Cond) ∈ AW := List.mem_filter.mpr ⟨List.mem_of_getElem? (i := 544) (by decide +kernel), rfl⟩
theorem gX8_37 : GoodIn AW (wsV RX8 37 RX7 yX7_wordOf wsX7_wordOf) := aw_V mw_542 mw_543 mw_544 mw_44 mw_545
theorem dX8_holdingBefore_0 : decode cX8_holdingBefore 0 = .ok (.ldc2_w 40, 3) := by decide +kernel
theorem dX8_holdingBefore_3 : decode cX8_holdingBefore 3 = .ok (.lstore_n 3, 1) := by decide +kernel
theorem dX8_holdingBefore_4 : decode cX8_holdingBefore 4 = .ok (.iconst 0, 1) := by decide +kernel
theorem dX8_holdingBefore_5 : decode cX8_holdingBefore 5 = .ok (.istore 5, 2) := by decide +kernel
theorem dX8_holdingBefore_7 : decode cX8_holdingBefore 7 = .ok (.iload 5, 2) := by decide +kernel
theorem dX8_holdingBefore_9 : decode cX8_holdingBefore 9 = .ok (.iload_n 1, 1) := by decide +kernel
theorem dX8_holdingBefore_10 : decode cX8_holdingBefore 10 = .ok (.if_icmp .ge 27, 3) := by decide +kernel
theorem dX8_holdingBefore_13 : decode cX8_holdingBefore 13 = .ok (.lload_n 3, 1) := by decide +kernel
theorem dX8_holdingBefore_14 : decode cX8_holdingBefore 14 = .ok (.aload_n 0, 1) := by decide +kernel
theorem dX8_holdingBefore_15 : decode cX8_holdingBefore 15 = .ok (.getfield 9, 3) := by decide +kernel
theorem dX8_holdingBefore_18 : decode cX8_holdingBefore 18 = .ok (.aload_n 0, 1) := by decide +kernel
theorem dX8_holdingBefore_19 : decode cX8_holdingBefore 19 = .ok (.getfield 15, 3) := by decide +kernel
theorem dX8_holdingBefore_22 : decode cX8_holdingBefore 22 = .ok (.iload 5, 2) := by decide +kernel
theorem dX8_holdingBefore_24 : decode cX8_holdingBefore 24 = .ok (.iaload, 1) := by decide +kernel
theorem dX8_holdingBefore_25 : decode cX8_holdingBefore 25 = .ok (.iload_n 2, 1) := by decide +kernel
theorem dX8_holdingBefore_26 : decode cX8_holdingBefore 26 = .ok (.invokevirtual 37, 3) := by decide +kernel
theorem dX8_holdingBefore_29 : decode cX8_holdingBefore 29 = .ok (.land, 1) := by decide +kernel
theorem dX8_holdingBefore_30 : decode cX8_holdingBefore 30 = .ok (.lstore_n 3, 1) := by decide +kernel
theorem dX8_holdingBefore_31 : decode cX8_holdingBefore 31 = .ok (.iinc 5 1, 3) := by decide +kernel
theorem dX8_holdingBefore_34 : decode cX8_holdingBefore 34 = .ok (.goto (-27), 3) := by decide +kernel
theorem dX8_holdingBefore_37 : decode cX8_holdingBefore 37 = .ok (.lload_n 3, 1) := by decide +kernel
theorem dX8_holdingBefore_38 : decode cX8_holdingBefore 38 = .ok (.lreturn, 1) := by decide +kernel
def fx_Path_holdingBefore_L7 (st : XS) (kk : Int32) (wd : Int32) : Nat → Int64 → Nat → Int64
  | 0, acc, i => 0
  | n + 1, acc, i => 
    if kk ≤ nI i then acc
    else fx_Path_holdingBefore_L7 st kk wd n (acc &&& (fx_Rows_wordOf st ((fA st 10 (nI i).toNatClampNeg)) (wd))) (i + 1)
def fx_Path_holdingBefore (st : XS) (kk : Int32) (wd : Int32) : Int64 := fx_Path_holdingBefore_L7 st kk wd 17 (-1 : Int64) 0
set_option maxHeartbeats 4000000 in
set_option maxRecDepth 100000 in
theorem kx_Path_holdingBefore (l : Launch) (dC : Nat → ClassId) (dI : Nat → Nat → Nat) (a : Nat → Nat) (k : Nat → ClassId) (st : XS) (KK : Nat) (WD : Nat) (hK16 : KK ≤ 16) (hcd : ∀ j : Nat, j < KK → vp_in (fA st 10 j) 64) (hW : WD < 16) : Met l yX8_holdingBefore wsX8_holdingBefore ({ frames := 1, cells := 0, slots := 0, locals := 22 }) (va_Pc [.ref (a 21), .int (nI KK), .int (nI WD)] (wl_prR (dC, dI) vwCl (xt k) (xw a k st))) (vp_Sl (fun r9 => r9 = fx_Path_holdingBefore st (nI KK) (nI WD))) 0 0 (fun _ => False) := by
  refine Met.ofW (cc := cX8_holdingBefore) (maxL := 6) (ret := (some .long)) (by decide) rfl ?_
  intro p e s m args below meth c s₁ B hml hv
  obtain ⟨rfl, hP, hK⟩ := hv
  have hx := B.exec
  have hb := B.bytes
  have hr := B.returns
  have hta := aw_hts (atoms_spec (ws := wsX8_holdingBefore) B.pre)
  have hown : s.vm.findClass RX8 = some m.cls := findClass_of_methodNamed B.named
  have hlocks := B.notSynchronized
  have hc40 := hta _ mw_541
  have hf9 := hta _ mw_190
  have hf15 := hta _ mw_191
  have hl := lv_entry ([.ref (a 21), .int (nI KK), .int (nI WD)]) (n := 6) (Nat.le_of_ble_eq_true rfl)
  rw [lg_entry_eq]
  generalize (lg_sl ([.ref (a 21), .int (nI KK), .int (nI WD)]) ++ List.replicate (6 - (lg_sl ([.ref (a 21), .int (nI KK), .int (nI WD)])).length) Slot.unset).toArray = ls at hl ⊢
  have hl : lv_has ls 6 [(0, .ref (a 21)), (1, .int ((nI KK))), (2, .int ((nI WD)))] := hl
  generalize hR : fx_Path_holdingBefore st (nI KK) (nI WD) = R
  rw [fx_Path_holdingBefore] at hR
  refine lv_ldc2 (v := (-1 : Int64)) hx hb hown hc40 dX8_holdingBefore_0 ?_
  refine lv_lstore_n (lv' := [(3, .long (-1 : Int64)), (0, .ref (a 21)), (1, .int ((nI KK))), (2, .int ((nI WD)))]) hx hb dX8_holdingBefore_3 rfl hl (by decide) rfl (fun ls hl => ?_)
  refine lv_iconst (v := (0 : Int32)) hx hb dX8_holdingBefore_4 (by decide) ?_
  refine lv_istore (lv' := [(5, .int (0 : Int32)), (3, .long (-1 : Int64)), (0, .ref (a 21)), (1, .int ((nI KK))), (2, .int ((nI WD)))]) hx hb dX8_holdingBefore_5 hl (by decide) rfl (fun ls hl => ?_)
  have L7 : ∀ (n : Nat) (acc : Int64) (i : Nat) (ls : Array Slot), fx_Path_holdingBefore_L7 st (nI KK) (nI WD) n acc i = R → (i ≤ KK) → KK - i < n → lv_has ls 6 [(5, .int (nI i)), (3, .long acc), (0, .ref (a 21)), (1, .int ((nI KK))), (2, .int ((nI WD)))] → W p l e (headSpec wsX8_holdingBefore ({ frames := 1, cells := 0, slots := 0, locals := 22 })).room s m ([.ref (a 21), .int (nI KK), .int (nI WD)] : List Value).toArray below meth c s.heap [] 0 0 (MQ below (vp_Sl (fun r9 => r9 = R)) ([.ref (a 21), .int (nI KK), .int (nI WD)] : List Value).toArray s 0 0 (fun _ => False)) (F0 m 7 ls []) := by
    intro n
    induction n with
    | zero =>
      intro acc i ls hR hi hm hl
      exact absurd hm (Nat.not_lt_zero _)
    | succ n ih =>
      intro acc i ls hR hi hm hl
      rw [fx_Path_holdingBefore_L7] at hR
      refine lv_iload hx hb dX8_holdingBefore_7 (lv_at hl 0 rfl) ?_
      refine lv_iload_n hx hb dX8_holdingBefore_9 rfl (lv_at hl 3 rfl) ?_
      refine lv_icmp_ge (tgt := 37) hx hb dX8_holdingBefore_10 (by decide) (fun c10 => ?_) (fun c10 => ?_)
      · skip
        rw [if_pos c10] at hR
        refine lv_lload_n hx hb dX8_holdingBefore_37 rfl (lv_at hl 1 rfl) ?_
        exact W.lret (v := acc) hx hb hr (fun t ht hW => ⟨_, rfl, hR, ht⟩) (fun q h => by cases h) dX8_holdingBefore_38
      · skip
        rw [if_neg c10] at hR
        have hlt : i < KK := wl_lt c10 (by omega)
        refine lv_lload_n hx hb dX8_holdingBefore_13 rfl (lv_at hl 1 rfl) ?_
        refine lv_aload_n hx hb dX8_holdingBefore_14 rfl (lv_at hl 2 rfl) ?_
        refine va_get (D := (dC, dI)) (ci := 6) (v := .ref (a 17)) (C := RX8) (T := TX8) (N := 3) hx hb hta inX8 hown hK hP 21 (xr_21 a k st) rfl 0 (by decide) hf9 (fun _ h9 => h9) rfl dX8_holdingBefore_15 ?_
        refine lv_aload_n hx hb dX8_holdingBefore_18 rfl (lv_at hl 2 rfl) ?_
        refine va_get (D := (dC, dI)) (ci := 6) (v := .ref (a 22)) (C := RX8) (T := TX8) (N := 3) hx hb hta inX8 hown hK hP 21 (xr_21 a k st) rfl 1 (by decide) hf15 (fun _ h9 => h9) rfl dX8_holdingBefore_19 ?_
        refine lv_iload hx hb dX8_holdingBefore_22 (lv_at hl 0 rfl) ?_
        refine va_iald hx hb hK hP 22 14 (xr_22 a k st) rfl (wl_in (by omega) (by decide)) dX8_holdingBefore_24 ?_
        have e24 : (fA st 10 (nI i).toNatClampNeg) = fA st 10 i := (congrArg (fA st 10) (nI_clamp (by omega)))
        rw [e24]
        try rw [e24] at hR
        refine lv_iload_n hx hb dX8_holdingBefore_25 rfl (lv_at hl 4 rfl) ?_
        refine wl_cl (va_runV (As := [.int ((fA st 10 i)), .int ((nI WD))]) (rest := [.long acc]) ⟨hx, hb, hml, hown, hta⟩ (kx_Rows_wordOf l dC dI a k st ((fA st 10 i)) ((nI WD)) (wl_i16 (hcd i hlt) hW)) (cwV 2 hta gX8_37 rfl rfl rfl (by decide +kernel) ⟨Nat.le_of_ble_eq_true rfl, Nat.le_of_ble_eq_true rfl⟩) (wl_pR (C := RX7) (ci := 5) (q0 := 17) hK hP rfl (xr_17 a k st)) rfl rfl hl.1 rfl (lv_room (Nat.le_of_ble_eq_true rfl)) dX8_holdingBefore_26 ⟨Nat.zero_le _, Nat.zero_le _⟩) ?_
        refine lv_land hx hb dX8_holdingBefore_29 ?_
        refine lv_lstore_n (lv' := [(3, .long (acc &&& (fx_Rows_wordOf st ((fA st 10 i)) ((nI WD))))), (5, .int (nI i)), (0, .ref (a 21)), (1, .int ((nI KK))), (2, .int ((nI WD)))]) hx hb dX8_holdingBefore_30 rfl hl (by decide) rfl (fun ls hl => ?_)
        refine lv_iinc (v := nI (i + 1)) (lv' := [(5, .int (nI (i + 1))), (3, .long (acc &&& (fx_Rows_wordOf st ((fA st 10 i)) ((nI WD))))), (0, .ref (a 21)), (1, .int ((nI KK))), (2, .int ((nI WD)))]) hx hb dX8_holdingBefore_31 hl (k := 1) rfl (nI_1 _) (by decide) rfl (fun ls hl => ?_)
        refine lv_goto (tgt := 7) hx hb dX8_holdingBefore_34 (by decide) ?_
        exact ih (acc &&& (fx_Rows_wordOf st ((fA st 10 i)) ((nI WD)))) (i + 1) ls hR (by omega) (by omega) (lv_sub hl [0, 1, 2, 3, 4] rfl)
  exact L7 17 (-1 : Int64) 0 ls hR (Nat.zero_le _) (by omega) (lv_sub hl [0, 1, 2, 3, 4] rfl)

theorem dX8_lowestBit_0 : decode cX8_lowestBit 0 = .ok (.iconst 0, 1) := by decide +kernel
theorem dX8_lowestBit_1 : decode cX8_lowestBit 1 = .ok (.istore_n 2, 1) := by decide +kernel
theorem dX8_lowestBit_2 : decode cX8_lowestBit 2 = .ok (.iload_n 2, 1) := by decide +kernel
theorem dX8_lowestBit_3 : decode cX8_lowestBit 3 = .ok (.bipush 63, 2) := by decide +kernel
theorem dX8_lowestBit_5 : decode cX8_lowestBit 5 = .ok (.if_icmp .ge 19, 3) := by decide +kernel
theorem dX8_lowestBit_8 : decode cX8_lowestBit 8 = .ok (.lload_n 0, 1) := by decide +kernel
theorem dX8_lowestBit_9 : decode cX8_lowestBit 9 = .ok (.iload_n 2, 1) := by decide +kernel
theorem dX8_lowestBit_10 : decode cX8_lowestBit 10 = .ok (.lshr, 1) := by decide +kernel
theorem dX8_lowestBit_11 : decode cX8_lowestBit 11 = .ok (.lconst 1, 1) := by decide +kernel
theorem dX8_lowestBit_12 : decode cX8_lowestBit 12 = .ok (.land, 1) := by decide +kernel
theorem dX8_lowestBit_13 : decode cX8_lowestBit 13 = .ok (.lconst 0, 1) := by decide +kernel
theorem dX8_lowestBit_14 : decode cX8_lowestBit 14 = .ok (.lcmp, 1) := by decide +kernel
theorem dX8_lowestBit_15 : decode cX8_lowestBit 15 = .ok (.ifCond .ne 9, 3) := by decide +kernel
theorem dX8_lowestBit_18 : decode cX8_lowestBit 18 = .ok (.iinc 2 1, 3) := by decide +kernel
theorem dX8_lowestBit_21 : decode cX8_lowestBit 21 = .ok (.goto (-19), 3) := by decide +kernel
theorem dX8_lowestBit_24 : decode cX8_lowestBit 24 = .ok (.iload_n 2, 1) := by decide +kernel
theorem dX8_lowestBit_25 : decode cX8_lowestBit 25 = .ok (.ireturn, 1) := by decide +kernel
def fx_Path_lowestBit_L2 (wd : Int64) : Nat → Nat → Int32
  | 0, i => 0
  | n + 1, i => 
    if (63 : Int32) ≤ nI i then nI i
    else 
      if lg_cmp ((wd >>> ((nI i).toInt64 &&& 63)) &&& (1 : Int64)) (0 : Int64) = (0 : Int32) then fx_Path_lowestBit_L2 wd n (i + 1)
      else nI i
def fx_Path_lowestBit (wd : Int64) : Int32 := fx_Path_lowestBit_L2 wd 64 0
set_option maxHeartbeats 4000000 in
set_option maxRecDepth 100000 in
theorem kx_Path_lowestBit (l : Launch) (wd : Int64) : Met l yX8_lowestBit wsX8_lowestBit ({ frames := 0, cells := 0, slots := 0, locals := 0 }) (fun v _ => v = ([.long wd] : List Value).toArray) (vp_Si (fun r9 => r9 = fx_Path_lowestBit wd)) 0 0 (fun _ => False) := by
  refine Met.ofW (cc := cX8_lowestBit) (maxL := 3) (ret := (some .int)) (by decide) rfl ?_
  intro p e s m args below meth c s₁ B hml hv
  subst hv
  have hx := B.exec
  have hb := B.bytes
  have hr := B.returns
  have hta := aw_hts (atoms_spec (ws := wsX8_lowestBit) B.pre)
  have hown : s.vm.findClass RX8 = some m.cls := findClass_of_methodNamed B.named
  have hlocks := B.notSynchronized
  have hl := lv_entry ([.long wd]) (n := 3) (Nat.le_of_ble_eq_true rfl)
  rw [lg_entry_eq]
  generalize (lg_sl ([.long wd]) ++ List.replicate (3 - (lg_sl ([.long wd])).length) Slot.unset).toArray = ls at hl ⊢
  have hl : lv_has ls 3 [(0, .long wd)] := hl
  generalize hR : fx_Path_lowestBit wd = R
  rw [fx_Path_lowestBit] at hR
  refine lv_iconst (v := (0 : Int32)) hx hb dX8_lowestBit_0 (by decide) ?_
  refine lv_istore_n (lv' := [(2, .int (0 : Int32)), (0, .long wd)]) hx hb dX8_lowestBit_1 rfl hl (by decide) rfl (fun ls hl => ?_)
  have L2 : ∀ (n : Nat) (i : Nat) (ls : Array Slot), fx_Path_lowestBit_L2 wd n i = R → (i ≤ 63) → 63 - i < n → lv_has ls 3 [(2, .int (nI i)), (0, .long wd)] → W p l e (headSpec wsX8_lowestBit ({ frames := 0, cells := 0, slots := 0, locals := 0 })).room s m ([.long wd] : List Value).toArray below meth c s.heap [] 0 0 (MQ below (vp_Si (fun r9 => r9 = R)) ([.long wd] : List Value).toArray s 0 0 (fun _ => False)) (F0 m 2 ls []) := by
    intro n
    induction n with
    | zero =>
      intro i ls hR hi hm hl
      exact absurd hm (Nat.not_lt_zero _)
    | succ n ih =>
      intro i ls hR hi hm hl
      rw [fx_Path_lowestBit_L2] at hR
      refine lv_iload_n hx hb dX8_lowestBit_2 rfl (lv_at hl 0 rfl) ?_
      refine lv_bipush (v := (63 : Int32)) hx hb dX8_lowestBit_3 (by decide) ?_
      refine lv_icmp_ge (tgt := 24) hx hb dX8_lowestBit_5 (by decide) (fun c5 => ?_) (fun c5 => ?_)
      · skip
        rw [if_pos c5] at hR
        refine lv_iload_n hx hb dX8_lowestBit_24 rfl (lv_at hl 0 rfl) ?_
        exact W.iret (v := nI i) hx hb hr (fun t ht hW => ⟨_, rfl, hR, ht⟩) (fun q h => by cases h) dX8_lowestBit_25
      · skip
        rw [if_neg c5] at hR
        have hlt : i < 63 := wl_lt (N := 63) c5 (by omega)
        refine lv_lload_n hx hb dX8_lowestBit_8 rfl (lv_at hl 1 rfl) ?_
        refine lv_iload_n hx hb dX8_lowestBit_9 rfl (lv_at hl 0 rfl) ?_
        refine lv_lshr (v := wd >>> ((nI i).toInt64 &&& 63)) hx hb dX8_lowestBit_10 rfl ?_
        refine lv_lconst (v := (1 : Int64)) hx hb dX8_lowestBit_11 (by decide) ?_
        refine lv_land hx hb dX8_lowestBit_12 ?_
        refine lv_lconst (v := (0 : Int64)) hx hb dX8_lowestBit_13 (by decide) ?_
        refine W.lcmp hx hb dX8_lowestBit_14 ?_
        refine lv_if_ne (tgt := 24) hx hb dX8_lowestBit_15 (by decide) (fun c15 => ?_) (fun c15 => ?_)
        · skip
          rw [if_neg c15] at hR
          refine lv_iload_n hx hb dX8_lowestBit_24 rfl (lv_at hl 0 rfl) ?_
          exact W.iret (v := nI i) hx hb hr (fun t ht hW => ⟨_, rfl, hR, ht⟩) (fun q h => by cases h) dX8_lowestBit_25
        · skip
          rw [if_pos c15] at hR
          refine lv_iinc (v := nI (i + 1)) (lv' := [(2, .int (nI (i + 1))), (0, .long wd)]) hx hb dX8_lowestBit_18 hl (k := 0) rfl (nI_1 _) (by decide) rfl (fun ls hl => ?_)
          refine lv_goto (tgt := 2) hx hb dX8_lowestBit_21 (by decide) ?_
          exact ih (i + 1) ls hR (by omega) (by omega) (lv_sub hl [0, 1] rfl)
  exact L2 64 0 ls hR (Nat.zero_le _) (by omega) (lv_sub hl [0, 1] rfl)

theorem mw_486 : (.code yX7_learn cX7_learn 6 none : Cond) ∈ AW := List.mem_filter.mpr ⟨List.mem_of_getElem? (i := 486) (by decide +kernel), rfl⟩
theorem mw_483 : (.methodLink RX8 23 yX7_learn : Cond) ∈ AW := List.mem_filter.mpr ⟨List.mem_of_getElem? (i := 483) (by decide +kernel), rfl⟩
theorem mw_484 : (.instanceMethod yX7_learn : Cond) ∈ AW := List.mem_filter.mpr ⟨List.mem_of_getElem? (i := 484) (by decide +kernel), rfl⟩
theorem mw_485 : (.selects RX7 yX7_learn yX7_learn : Cond) ∈ AW := List.mem_filter.mpr ⟨List.mem_of_getElem? (i := 485) (by decide +kernel), rfl⟩
theorem mw_540 : (.code yX8_holdingBefore cX8_holdingBefore 6 (some .long) : Cond) ∈ AW := List.mem_filter.mpr ⟨List.mem_of_getElem? (i := 540) (by decide +kernel), rfl⟩
theorem mw_537 : (.methodLink RX8 29 yX8_holdingBefore : Cond) ∈ AW := List.mem_filter.mpr ⟨List.mem_of_getElem? (i := 537) (by decide +kernel), rfl⟩
theorem mw_45 : (.initialized RX8 : Cond) ∈ AW := List.mem_filter.mpr ⟨List.mem_of_getElem? (i := 45) (by decide +kernel), rfl⟩
theorem mw_539 : (.instanceMethod yX8_holdingBefore : Cond) ∈ AW := List.mem_filter.mpr ⟨List.mem_of_getElem? (i := 539) (by decide +kernel), rfl⟩
theorem mw_14 : (.selects RX8 yX8_holdingBefore yX8_holdingBefore : Cond) ∈ AW := List.mem_filter.mpr ⟨List.mem_of_getElem? (i := 14) (by decide +kernel), rfl⟩
theorem mw_548 : (.code yX8_lowestBit cX8_lowestBit 3 (some .int) : Cond) ∈ AW := List.mem_filter.mpr ⟨List.mem_of_getElem? (i := 548) (by decide +kernel), rfl⟩
theorem mw_546 : (.methodLink RX8 33 yX8_lowestBit : Cond) ∈ AW := List.mem_filter.mpr ⟨List.mem_of_getElem? (i := 546) (by decide +kernel), rfl⟩
theorem mw_547 : (.static yX8_lowestBit : Cond) ∈ AW := List.mem_filter.mpr ⟨List.mem_of_getElem? (i := 547) (by decide +kernel), rfl⟩
theorem gX8_23 : GoodIn AW (wsV RX8 23 RX7 yX7_learn wsX7_learn) := aw_V mw_483 mw_484 mw_485 mw_44 mw_486
theorem gX8_29 : GoodIn AW (wsV RX8 29 RX8 yX8_holdingBefore wsX8_holdingBefore) := aw_V mw_537 mw_539 mw_14 mw_45 mw_540
theorem gX8_33 : GoodIn AW (va_wsS RX8 33 yX8_lowestBit wsX8_lowestBit) := aw_S mw_546 mw_547 mw_45 mw_548
theorem dX8_firstTaking_0 : decode cX8_firstTaking 0 = .ok (.aload_n 0, 1) := by decide +kernel
theorem dX8_firstTaking_1 : decode cX8_firstTaking 1 = .ok (.getfield 9, 3) := by decide +kernel
theorem dX8_firstTaking_4 : decode cX8_firstTaking 4 = .ok (.aload_n 0, 1) := by decide +kernel
theorem dX8_firstTaking_5 : decode cX8_firstTaking 5 = .ok (.getfield 15, 3) := by decide +kernel
theorem dX8_firstTaking_8 : decode cX8_firstTaking 8 = .ok (.aload_n 0, 1) := by decide +kernel
theorem dX8_firstTaking_9 : decode cX8_firstTaking 9 = .ok (.getfield 19, 3) := by decide +kernel
theorem dX8_firstTaking_12 : decode cX8_firstTaking 12 = .ok (.invokevirtual 23, 3) := by decide +kernel
theorem dX8_firstTaking_15 : decode cX8_firstTaking 15 = .ok (.iconst 0, 1) := by decide +kernel
theorem dX8_firstTaking_16 : decode cX8_firstTaking 16 = .ok (.istore_n 1, 1) := by decide +kernel
theorem dX8_firstTaking_17 : decode cX8_firstTaking 17 = .ok (.iload_n 1, 1) := by decide +kernel
theorem dX8_firstTaking_18 : decode cX8_firstTaking 18 = .ok (.bipush 16, 2) := by decide +kernel
theorem dX8_firstTaking_20 : decode cX8_firstTaking 20 = .ok (.if_icmp .ge 35, 3) := by decide +kernel
theorem dX8_firstTaking_23 : decode cX8_firstTaking 23 = .ok (.aload_n 0, 1) := by decide +kernel
theorem dX8_firstTaking_24 : decode cX8_firstTaking 24 = .ok (.aload_n 0, 1) := by decide +kernel
theorem dX8_firstTaking_25 : decode cX8_firstTaking 25 = .ok (.getfield 19, 3) := by decide +kernel
theorem dX8_firstTaking_28 : decode cX8_firstTaking 28 = .ok (.iload_n 1, 1) := by decide +kernel
theorem dX8_firstTaking_29 : decode cX8_firstTaking 29 = .ok (.invokevirtual 29, 3) := by decide +kernel
theorem dX8_firstTaking_32 : decode cX8_firstTaking 32 = .ok (.lstore_n 2, 1) := by decide +kernel
theorem dX8_firstTaking_33 : decode cX8_firstTaking 33 = .ok (.lload_n 2, 1) := by decide +kernel
theorem dX8_firstTaking_34 : decode cX8_firstTaking 34 = .ok (.lconst 0, 1) := by decide +kernel
theorem dX8_firstTaking_35 : decode cX8_firstTaking 35 = .ok (.lcmp, 1) := by decide +kernel
theorem dX8_firstTaking_36 : decode cX8_firstTaking 36 = .ok (.ifCond .eq 13, 3) := by decide +kernel
theorem dX8_firstTaking_39 : decode cX8_firstTaking 39 = .ok (.iload_n 1, 1) := by decide +kernel
theorem dX8_firstTaking_40 : decode cX8_firstTaking 40 = .ok (.bipush 64, 2) := by decide +kernel
theorem dX8_firstTaking_42 : decode cX8_firstTaking 42 = .ok (.imul, 1) := by decide +kernel
theorem dX8_firstTaking_43 : decode cX8_firstTaking 43 = .ok (.lload_n 2, 1) := by decide +kernel
theorem dX8_firstTaking_44 : decode cX8_firstTaking 44 = .ok (.invokestatic 33, 3) := by decide +kernel
theorem dX8_firstTaking_47 : decode cX8_firstTaking 47 = .ok (.iadd, 1) := by decide +kernel
theorem dX8_firstTaking_48 : decode cX8_firstTaking 48 = .ok (.ireturn, 1) := by decide +kernel
theorem dX8_firstTaking_49 : decode cX8_firstTaking 49 = .ok (.iinc 1 1, 3) := by decide +kernel
theorem dX8_firstTaking_52 : decode cX8_firstTaking 52 = .ok (.goto (-35), 3) := by decide +kernel
theorem dX8_firstTaking_55 : decode cX8_firstTaking 55 = .ok (.iconst (-1), 1) := by decide +kernel
theorem dX8_firstTaking_56 : decode cX8_firstTaking 56 = .ok (.ireturn, 1) := by decide +kernel
def fx_Path_firstTaking_L17 (st : XS) : Nat → Nat → Int32 × XS
  | 0, i => (0, st)
  | n + 1, i => 
    if (16 : Int32) ≤ nI i then ((-1 : Int32), (fx_Rows_learn st ((gI st 9))))
    else 
      if lg_cmp (fx_Path_holdingBefore ((fx_Rows_learn st ((gI st 9)))) ((gI ((fx_Rows_learn st ((gI st 9)))) 9)) (nI i)) (0 : Int64) = (0 : Int32) then fx_Path_firstTaking_L17 st n (i + 1)
      else (((nI i) * (64 : Int32)) + (fx_Path_lowestBit (fx_Path_holdingBefore ((fx_Rows_learn st ((gI st 9)))) ((gI ((fx_Rows_learn st ((gI st 9)))) 9)) (nI i))), (fx_Rows_learn st ((gI st 9))))
def fx_Path_firstTaking (st : XS) : Int32 × XS := fx_Path_firstTaking_L17 st 17 0
theorem fr_Path_firstTaking_L17 (st : XS) : ∀ (n : Nat) (i : Nat), XF [8] [7, 8, 9] [2, 3] st (fx_Path_firstTaking_L17 st n i).2 := by
  intro n
  induction n with
  | zero => intro i; exact XF.rf
  | succ n ih =>
    intro i
    rw [fx_Path_firstTaking_L17]
    exact (wl_ite (P := fun (q : Int32 × XS) => XF [8] [7, 8, 9] [2, 3] _ (q.2)) (XF.tr XF.rf (XF.mono (ff_Rows_learn _ _) (by decide) (by decide) (by decide))) (wl_ite (P := fun (q : Int32 × XS) => XF [8] [7, 8, 9] [2, 3] _ (q.2)) (ih _) (XF.tr XF.rf (XF.mono (ff_Rows_learn _ _) (by decide) (by decide) (by decide)))))
theorem ff_Path_firstTaking (st : XS) : XF [8] [7, 8, 9] [2, 3] st (fx_Path_firstTaking st).2 := by
  rw [fx_Path_firstTaking]
  exact (fr_Path_firstTaking_L17 _ _ _)
set_option maxHeartbeats 4000000 in
set_option maxRecDepth 100000 in
theorem kx_Path_firstTaking (l : Launch) (dC : Nat → ClassId) (dI : Nat → Nat → Nat) (a : Nat → Nat) (k : Nat → ClassId) (st : XS) (sz : Nat) (E : Nat) (hEl : gI st 9 = nI E) (hE16 : E ≤ 16) (hcd : ∀ j : Nat, j < E → vp_in (fA st 10 j) 64) (N : Nat) (hN : gI st 6 = nI N) (h64 : N ≤ 64) (V : Nat) (hV4 : V ≤ 4) (hX : XT st V N) (hM0 : XM st N) (Bt : Nat) (hBt : gI st 5 = nI Bt) (hBt10 : Bt ≤ 10) : Met l yX8_firstTaking wsX8_firstTaking ({ frames := 5, cells := 0, slots := 0, locals := 131 }) (va_Pc [.ref (a 21)] (wl_pre (dC, dI) vwCl (xt k) (xw a k) st sz)) (va_Qi (fun r9 u9 => (r9, u9) = fx_Path_firstTaking st) (wl_at (dC, dI) vwCl (xt k) (xw a k) (va_A (xw a k st) sz)) (va_A (xw a k st) sz)) 0 0 (va_A (xw a k st) sz) := by
  refine Met.ofW (cc := cX8_firstTaking) (maxL := 4) (ret := (some .int)) (by decide) rfl ?_
  intro p e s m args below meth c s₁ B hml hv
  obtain ⟨rfl, hsz, hP, hK, hD0⟩ := hv
  have hx := B.exec
  have hb := B.bytes
  have hr := B.returns
  have hta := aw_hts (atoms_spec (ws := wsX8_firstTaking) B.pre)
  have hown : s.vm.findClass RX8 = some m.cls := findClass_of_methodNamed B.named
  have hlocks := B.notSynchronized
  have hf9 := hta _ mw_190
  have hf15 := hta _ mw_191
  have hf19 := hta _ mw_192
  subst hsz
  have hD := hD0.self (sz := s.heap.size)
  generalize hAe : va_A (xw a k st) s.heap.size = A at hD ⊢
  have hAz : ∀ q : Nat, s.heap.size ≤ q → A q := fun q h => by rw [← hAe]; exact Or.inr h
  have hS : va_S A s.heap s.heap [] := va_S.rf
  have hl := lv_entry ([.ref (a 21)]) (n := 4) (Nat.le_of_ble_eq_true rfl)
  rw [lg_entry_eq]
  generalize (lg_sl ([.ref (a 21)]) ++ List.replicate (4 - (lg_sl ([.ref (a 21)])).length) Slot.unset).toArray = ls at hl ⊢
  have hl : lv_has ls 4 [(0, .ref (a 21))] := hl
  generalize hR : fx_Path_firstTaking st = R
  rw [fx_Path_firstTaking] at hR
  refine lv_aload_n hx hb dX8_firstTaking_0 rfl (lv_at hl 0 rfl) ?_
  refine va_get (D := (dC, dI)) (ci := 6) (v := .ref (a 17)) (C := RX8) (T := TX8) (N := 3) hx hb hta inX8 hown hK hP 21 (xr_21 a k st) rfl 0 (by decide) hf9 (fun _ h9 => h9) rfl dX8_firstTaking_1 ?_
  refine lv_aload_n hx hb dX8_firstTaking_4 rfl (lv_at hl 0 rfl) ?_
  refine va_get (D := (dC, dI)) (ci := 6) (v := .ref (a 22)) (C := RX8) (T := TX8) (N := 3) hx hb hta inX8 hown hK hP 21 (xr_21 a k st) rfl 1 (by decide) hf15 (fun _ h9 => h9) rfl dX8_firstTaking_5 ?_
  refine lv_aload_n hx hb dX8_firstTaking_8 rfl (lv_at hl 0 rfl) ?_
  refine va_get (D := (dC, dI)) (ci := 6) (v := .int (gI st 9)) (C := RX8) (T := TX8) (N := 3) hx hb hta inX8 hown hK hP 21 (xr_21 a k st) rfl 2 (by decide) hf19 (fun _ h9 => h9) rfl dX8_firstTaking_9 ?_
  have e9 : (gI st 9) = nI E := hEl
  rw [e9]
  try rw [e9] at hR
  refine wl_mv (va_runV (As := [.ref (a 22), .int ((nI E))]) (rest := []) ⟨hx, hb, hml, hown, hta⟩ (kx_Rows_learn l dC dI a k st E _ hE16 hcd N hN h64 V hV4 hX hM0 Bt hBt hBt10) (cwV 2 hta gX8_23 rfl rfl rfl (by decide +kernel) ⟨Nat.le_of_ble_eq_true rfl, Nat.le_of_ble_eq_true rfl⟩) (wl_pM (C := RX7) (ci := 5) (q0 := 17) hK hP hD rfl (xr_17 a k st)) rfl rfl hl.1 rfl (lv_room (Nat.le_of_ble_eq_true rfl)) dX8_firstTaking_12 ⟨Nat.zero_le _, Nat.zero_le _⟩) hP hD hS hAz (fun u12 H locs hw12 hP hD hS => ?_)
  have w12 : fx_Rows_learn st ((nI E)) = u12 := hw12.symm
  have hf12 : XF [8] [7, 8, 9] [2, 3] st u12 := by rw [← w12]; exact ff_Rows_learn st ((nI E))
  try rw [w12] at hR
  refine lv_iconst (v := (0 : Int32)) hx hb dX8_firstTaking_15 (by decide) ?_
  refine lv_istore_n (lv' := [(1, .int (0 : Int32)), (0, .ref (a 21))]) hx hb dX8_firstTaking_16 rfl hl (by decide) rfl (fun ls hl => ?_)
  have L17 : ∀ (n : Nat) (i : Nat) (H : Heap) (locs : List Loc) (ls : Array Slot), fx_Path_firstTaking_L17 st n i = R → (i ≤ 16) → 16 - i < n → va_P (dC, dI) vwCl (xw a k (u12)) H → va_D A (xw a k (u12)) → va_S A s.heap H locs → lv_has ls 4 [(1, .int (nI i)), (0, .ref (a 21))] → W p l e (headSpec wsX8_firstTaking ({ frames := 5, cells := 0, slots := 0, locals := 131 })).room s m ([.ref (a 21)] : List Value).toArray below meth c H locs 0 0 (MQ below (va_Qi (fun r9 u9 => (r9, u9) = R) (wl_at (dC, dI) vwCl (xt k) (xw a k) A) A) ([.ref (a 21)] : List Value).toArray s 0 0 A) (F0 m 17 ls []) := by
    intro n
    induction n with
    | zero =>
      intro i H locs ls hR hi hm hP hD hS hl
      exact absurd hm (Nat.not_lt_zero _)
    | succ n ih =>
      intro i H locs ls hR hi hm hP hD hS hl
      rw [fx_Path_firstTaking_L17] at hR
      try rw [e9] at hR
      try rw [w12] at hR
      refine lv_iload_n hx hb dX8_firstTaking_17 rfl (lv_at hl 0 rfl) ?_
      refine lv_bipush (v := (16 : Int32)) hx hb dX8_firstTaking_18 (by decide) ?_
      refine lv_icmp_ge (tgt := 55) hx hb dX8_firstTaking_20 (by decide) (fun c20 => ?_) (fun c20 => ?_)
      · skip
        rw [if_pos c20] at hR
        refine lv_iconst (v := (-1 : Int32)) hx hb dX8_firstTaking_55 (by decide) ?_
        exact W.iret (v := (-1 : Int32)) hx hb hr (fun t ht hW => ⟨⟨_, _, rfl, hR, by rw [ht]; exact hP, va_K.moved hW.alike hK, hD⟩, hS.F ht⟩) hS.2.2 dX8_firstTaking_56
      · skip
        rw [if_neg c20] at hR
        have hlt : i < 16 := wl_lt (N := 16) c20 (by omega)
        refine lv_aload_n hx hb dX8_firstTaking_23 rfl (lv_at hl 1 rfl) ?_
        refine lv_aload_n hx hb dX8_firstTaking_24 rfl (lv_at hl 1 rfl) ?_
        refine va_get (D := (dC, dI)) (ci := 6) (v := .int (gI (u12) 9)) (C := RX8) (T := TX8) (N := 3) hx hb hta inX8 hown hK hP 21 (xr_21 a k (u12)) rfl 2 (by decide) hf19 (fun _ h9 => h9) rfl dX8_firstTaking_25 ?_
        have e25 : (gI (u12) 9) = nI E := ((hf12.I 9 (by decide)).trans hEl)
        rw [e25]
        try rw [e25] at hR
        refine lv_iload_n hx hb dX8_firstTaking_28 rfl (lv_at hl 0 rfl) ?_
        refine wl_cl (va_runV (As := [.int ((nI E)), .int (nI i)]) (rest := []) ⟨hx, hb, hml, hown, hta⟩ (kx_Path_holdingBefore l dC dI a k (u12) E i hE16 (fun j hj => by rw [hf12.A 10 (by decide)]; exact hcd j hj) hlt) (cwV 2 hta gX8_29 rfl rfl rfl (by decide +kernel) ⟨Nat.le_of_ble_eq_true rfl, Nat.le_of_ble_eq_true rfl⟩) (wl_pR (C := RX8) (ci := 6) (q0 := 21) hK hP rfl (xr_21 a k (u12))) rfl rfl hl.1 rfl (lv_room (Nat.le_of_ble_eq_true rfl)) dX8_firstTaking_29 ⟨Nat.zero_le _, Nat.zero_le _⟩) ?_
        refine lv_lstore_n (lv' := [(2, .long (fx_Path_holdingBefore (u12) ((nI E)) (nI i))), (1, .int (nI i)), (0, .ref (a 21))]) hx hb dX8_firstTaking_32 rfl hl (by decide) rfl (fun ls hl => ?_)
        refine lv_lload_n hx hb dX8_firstTaking_33 rfl (lv_at hl 0 rfl) ?_
        refine lv_lconst (v := (0 : Int64)) hx hb dX8_firstTaking_34 (by decide) ?_
        refine W.lcmp hx hb dX8_firstTaking_35 ?_
        refine lv_if_eq (tgt := 49) hx hb dX8_firstTaking_36 (by decide) (fun c36 => ?_) (fun c36 => ?_)
        · skip
          rw [if_pos c36] at hR
          refine lv_iinc (v := nI (i + 1)) (lv' := [(1, .int (nI (i + 1))), (2, .long (fx_Path_holdingBefore (u12) ((nI E)) (nI i))), (0, .ref (a 21))]) hx hb dX8_firstTaking_49 hl (k := 1) rfl (nI_1 _) (by decide) rfl (fun ls hl => ?_)
          refine lv_goto (tgt := 17) hx hb dX8_firstTaking_52 (by decide) ?_
          exact ih (i + 1) _ _ ls hR (by omega) (by omega) hP hD hS (lv_sub hl [0, 2] rfl)
        · skip
          rw [if_neg c36] at hR
          refine lv_iload_n hx hb dX8_firstTaking_39 rfl (lv_at hl 1 rfl) ?_
          refine lv_bipush (v := (64 : Int32)) hx hb dX8_firstTaking_40 (by decide) ?_
          refine lv_imul hx hb dX8_firstTaking_42 ?_
          refine lv_lload_n hx hb dX8_firstTaking_43 rfl (lv_at hl 0 rfl) ?_
          refine wl_ci (va_runS (As := [.long (fx_Path_holdingBefore (u12) ((nI E)) (nI i))]) (rest := [.int ((nI i) * (64 : Int32))]) ⟨hx, hb, hml, hown, hta⟩ (kx_Path_lowestBit l (fx_Path_holdingBefore (u12) ((nI E)) (nI i))) (va_cwS 1 hta gX8_33 rfl rfl rfl (by decide +kernel) ⟨Nat.le_of_ble_eq_true rfl, Nat.le_of_ble_eq_true rfl⟩) preEq rfl rfl hl.1 rfl (lv_room (Nat.le_of_ble_eq_true rfl)) dX8_firstTaking_44 ⟨Nat.zero_le _, Nat.zero_le _⟩) ?_
          refine lv_iadd hx hb dX8_firstTaking_47 ?_
          exact W.iret (v := ((nI i) * (64 : Int32)) + (fx_Path_lowestBit (fx_Path_holdingBefore (u12) ((nI E)) (nI i)))) hx hb hr (fun t ht hW => ⟨⟨_, _, rfl, hR, by rw [ht]; exact hP, va_K.moved hW.alike hK, hD⟩, hS.F ht⟩) hS.2.2 dX8_firstTaking_48
  exact L17 17 0 _ _ ls hR (Nat.zero_le _) (by omega) hP hD hS (lv_sub hl [0, 1] rfl)

theorem dX8_firstLeavingAt_0 : decode cX8_firstLeavingAt 0 = .ok (.aload_n 0, 1) := by decide +kernel
theorem dX8_firstLeavingAt_1 : decode cX8_firstLeavingAt 1 = .ok (.getfield 9, 3) := by decide +kernel
theorem dX8_firstLeavingAt_4 : decode cX8_firstLeavingAt 4 = .ok (.aload_n 0, 1) := by decide +kernel
theorem dX8_firstLeavingAt_5 : decode cX8_firstLeavingAt 5 = .ok (.getfield 15, 3) := by decide +kernel
theorem dX8_firstLeavingAt_8 : decode cX8_firstLeavingAt 8 = .ok (.iload_n 1, 1) := by decide +kernel
theorem dX8_firstLeavingAt_9 : decode cX8_firstLeavingAt 9 = .ok (.iconst 1, 1) := by decide +kernel
theorem dX8_firstLeavingAt_10 : decode cX8_firstLeavingAt 10 = .ok (.iadd, 1) := by decide +kernel
theorem dX8_firstLeavingAt_11 : decode cX8_firstLeavingAt 11 = .ok (.invokevirtual 23, 3) := by decide +kernel
theorem dX8_firstLeavingAt_14 : decode cX8_firstLeavingAt 14 = .ok (.iconst 0, 1) := by decide +kernel
theorem dX8_firstLeavingAt_15 : decode cX8_firstLeavingAt 15 = .ok (.istore_n 2, 1) := by decide +kernel
theorem dX8_firstLeavingAt_16 : decode cX8_firstLeavingAt 16 = .ok (.iload_n 2, 1) := by decide +kernel
theorem dX8_firstLeavingAt_17 : decode cX8_firstLeavingAt 17 = .ok (.bipush 16, 2) := by decide +kernel
theorem dX8_firstLeavingAt_19 : decode cX8_firstLeavingAt 19 = .ok (.if_icmp .ge 51, 3) := by decide +kernel
theorem dX8_firstLeavingAt_22 : decode cX8_firstLeavingAt 22 = .ok (.aload_n 0, 1) := by decide +kernel
theorem dX8_firstLeavingAt_23 : decode cX8_firstLeavingAt 23 = .ok (.iload_n 1, 1) := by decide +kernel
theorem dX8_firstLeavingAt_24 : decode cX8_firstLeavingAt 24 = .ok (.iload_n 2, 1) := by decide +kernel
theorem dX8_firstLeavingAt_25 : decode cX8_firstLeavingAt 25 = .ok (.invokevirtual 29, 3) := by decide +kernel
theorem dX8_firstLeavingAt_28 : decode cX8_firstLeavingAt 28 = .ok (.aload_n 0, 1) := by decide +kernel
theorem dX8_firstLeavingAt_29 : decode cX8_firstLeavingAt 29 = .ok (.getfield 9, 3) := by decide +kernel
theorem dX8_firstLeavingAt_32 : decode cX8_firstLeavingAt 32 = .ok (.aload_n 0, 1) := by decide +kernel
theorem dX8_firstLeavingAt_33 : decode cX8_firstLeavingAt 33 = .ok (.getfield 15, 3) := by decide +kernel
theorem dX8_firstLeavingAt_36 : decode cX8_firstLeavingAt 36 = .ok (.iload_n 1, 1) := by decide +kernel
theorem dX8_firstLeavingAt_37 : decode cX8_firstLeavingAt 37 = .ok (.iaload, 1) := by decide +kernel
theorem dX8_firstLeavingAt_38 : decode cX8_firstLeavingAt 38 = .ok (.iload_n 2, 1) := by decide +kernel
theorem dX8_firstLeavingAt_39 : decode cX8_firstLeavingAt 39 = .ok (.invokevirtual 37, 3) := by decide +kernel
theorem dX8_firstLeavingAt_42 : decode cX8_firstLeavingAt 42 = .ok (.ldc2_w 40, 3) := by decide +kernel
theorem dX8_firstLeavingAt_45 : decode cX8_firstLeavingAt 45 = .ok (.lxor, 1) := by decide +kernel
theorem dX8_firstLeavingAt_46 : decode cX8_firstLeavingAt 46 = .ok (.land, 1) := by decide +kernel
theorem dX8_firstLeavingAt_47 : decode cX8_firstLeavingAt 47 = .ok (.lstore_n 3, 1) := by decide +kernel
theorem dX8_firstLeavingAt_48 : decode cX8_firstLeavingAt 48 = .ok (.lload_n 3, 1) := by decide +kernel
theorem dX8_firstLeavingAt_49 : decode cX8_firstLeavingAt 49 = .ok (.lconst 0, 1) := by decide +kernel
theorem dX8_firstLeavingAt_50 : decode cX8_firstLeavingAt 50 = .ok (.lcmp, 1) := by decide +kernel
theorem dX8_firstLeavingAt_51 : decode cX8_firstLeavingAt 51 = .ok (.ifCond .eq 13, 3) := by decide +kernel
theorem dX8_firstLeavingAt_54 : decode cX8_firstLeavingAt 54 = .ok (.iload_n 2, 1) := by decide +kernel
theorem dX8_firstLeavingAt_55 : decode cX8_firstLeavingAt 55 = .ok (.bipush 64, 2) := by decide +kernel
theorem dX8_firstLeavingAt_57 : decode cX8_firstLeavingAt 57 = .ok (.imul, 1) := by decide +kernel
theorem dX8_firstLeavingAt_58 : decode cX8_firstLeavingAt 58 = .ok (.lload_n 3, 1) := by decide +kernel
theorem dX8_firstLeavingAt_59 : decode cX8_firstLeavingAt 59 = .ok (.invokestatic 33, 3) := by decide +kernel
theorem dX8_firstLeavingAt_62 : decode cX8_firstLeavingAt 62 = .ok (.iadd, 1) := by decide +kernel
theorem dX8_firstLeavingAt_63 : decode cX8_firstLeavingAt 63 = .ok (.ireturn, 1) := by decide +kernel
theorem dX8_firstLeavingAt_64 : decode cX8_firstLeavingAt 64 = .ok (.iinc 2 1, 3) := by decide +kernel
theorem dX8_firstLeavingAt_67 : decode cX8_firstLeavingAt 67 = .ok (.goto (-51), 3) := by decide +kernel
theorem dX8_firstLeavingAt_70 : decode cX8_firstLeavingAt 70 = .ok (.iconst (-1), 1) := by decide +kernel
theorem dX8_firstLeavingAt_71 : decode cX8_firstLeavingAt 71 = .ok (.ireturn, 1) := by decide +kernel
def fx_Path_firstLeavingAt_L16 (st : XS) (kk : Int32) : Nat → Nat → Int32 × XS
  | 0, i => (0, st)
  | n + 1, i => 
    if (16 : Int32) ≤ nI i then ((-1 : Int32), (fx_Rows_learn st (((kk) + (1 : Int32)))))
    else 
      if lg_cmp ((fx_Path_holdingBefore ((fx_Rows_learn st (((kk) + (1 : Int32))))) (kk) (nI i)) &&& ((fx_Rows_wordOf ((fx_Rows_learn st (((kk) + (1 : Int32))))) ((fA ((fx_Rows_learn st (((kk) + (1 : Int32))))) 10 (kk).toNatClampNeg)) (nI i)) ^^^ (-1 : Int64))) (0 : Int64) = (0 : Int32) then fx_Path_firstLeavingAt_L16 st kk n (i + 1)
      else (((nI i) * (64 : Int32)) + (fx_Path_lowestBit ((fx_Path_holdingBefore ((fx_Rows_learn st (((kk) + (1 : Int32))))) (kk) (nI i)) &&& ((fx_Rows_wordOf ((fx_Rows_learn st (((kk) + (1 : Int32))))) ((fA ((fx_Rows_learn st (((kk) + (1 : Int32))))) 10 (kk).toNatClampNeg)) (nI i)) ^^^ (-1 : Int64)))), (fx_Rows_learn st (((kk) + (1 : Int32)))))
def fx_Path_firstLeavingAt (st : XS) (kk : Int32) : Int32 × XS := fx_Path_firstLeavingAt_L16 st kk 17 0
theorem fr_Path_firstLeavingAt_L16 (st : XS) (kk : Int32) : ∀ (n : Nat) (i : Nat), XF [8] [7, 8, 9] [2, 3] st (fx_Path_firstLeavingAt_L16 st kk n i).2 := by
  intro n
  induction n with
  | zero => intro i; exact XF.rf
  | succ n ih =>
    intro i
    rw [fx_Path_firstLeavingAt_L16]
    exact (wl_ite (P := fun (q : Int32 × XS) => XF [8] [7, 8, 9] [2, 3] _ (q.2)) (XF.tr XF.rf (XF.mono (ff_Rows_learn _ _) (by decide) (by decide) (by decide))) (wl_ite (P := fun (q : Int32 × XS) => XF [8] [7, 8, 9] [2, 3] _ (q.2)) (ih _) (XF.tr XF.rf (XF.mono (ff_Rows_learn _ _) (by decide) (by decide) (by decide)))))
theorem ff_Path_firstLeavingAt (st : XS) (kk : Int32) : XF [8] [7, 8, 9] [2, 3] st (fx_Path_firstLeavingAt st kk).2 := by
  rw [fx_Path_firstLeavingAt]
  exact (fr_Path_firstLeavingAt_L16 _ _ _ _)
set_option maxHeartbeats 4000000 in
set_option maxRecDepth 100000 in
theorem kx_Path_firstLeavingAt (l : Launch) (dC : Nat → ClassId) (dI : Nat → Nat → Nat) (a : Nat → Nat) (k : Nat → ClassId) (st : XS) (KK : Nat) (sz : Nat) (hK16 : KK < 16) (hcd : ∀ j : Nat, j < KK + 1 → vp_in (fA st 10 j) 64) (N : Nat) (hN : gI st 6 = nI N) (h64 : N ≤ 64) (V : Nat) (hV4 : V ≤ 4) (hX : XT st V N) (hM0 : XM st N) (Bt : Nat) (hBt : gI st 5 = nI Bt) (hBt10 : Bt ≤ 10) : Met l yX8_firstLeavingAt wsX8_firstLeavingAt ({ frames := 5, cells := 0, slots := 0, locals := 131 }) (va_Pc [.ref (a 21), .int (nI KK)] (wl_pre (dC, dI) vwCl (xt k) (xw a k) st sz)) (va_Qi (fun r9 u9 => (r9, u9) = fx_Path_firstLeavingAt st (nI KK)) (wl_at (dC, dI) vwCl (xt k) (xw a k) (va_A (xw a k st) sz)) (va_A (xw a k st) sz)) 0 0 (va_A (xw a k st) sz) := by
  refine Met.ofW (cc := cX8_firstLeavingAt) (maxL := 5) (ret := (some .int)) (by decide) rfl ?_
  intro p e s m args below meth c s₁ B hml hv
  obtain ⟨rfl, hsz, hP, hK, hD0⟩ := hv
  have hx := B.exec
  have hb := B.bytes
  have hr := B.returns
  have hta := aw_hts (atoms_spec (ws := wsX8_firstLeavingAt) B.pre)
  have hown : s.vm.findClass RX8 = some m.cls := findClass_of_methodNamed B.named
  have hlocks := B.notSynchronized
  have hf9 := hta _ mw_190
  have hf15 := hta _ mw_191
  have hc40 := hta _ mw_541
  subst hsz
  have hD := hD0.self (sz := s.heap.size)
  generalize hAe : va_A (xw a k st) s.heap.size = A at hD ⊢
  have hAz : ∀ q : Nat, s.heap.size ≤ q → A q := fun q h => by rw [← hAe]; exact Or.inr h
  have hS : va_S A s.heap s.heap [] := va_S.rf
  have hl := lv_entry ([.ref (a 21), .int (nI KK)]) (n := 5) (Nat.le_of_ble_eq_true rfl)
  rw [lg_entry_eq]
  generalize (lg_sl ([.ref (a 21), .int (nI KK)]) ++ List.replicate (5 - (lg_sl ([.ref (a 21), .int (nI KK)])).length) Slot.unset).toArray = ls at hl ⊢
  have hl : lv_has ls 5 [(0, .ref (a 21)), (1, .int ((nI KK)))] := hl
  generalize hR : fx_Path_firstLeavingAt st (nI KK) = R
  rw [fx_Path_firstLeavingAt] at hR
  refine lv_aload_n hx hb dX8_firstLeavingAt_0 rfl (lv_at hl 0 rfl) ?_
  refine va_get (D := (dC, dI)) (ci := 6) (v := .ref (a 17)) (C := RX8) (T := TX8) (N := 3) hx hb hta inX8 hown hK hP 21 (xr_21 a k st) rfl 0 (by decide) hf9 (fun _ h9 => h9) rfl dX8_firstLeavingAt_1 ?_
  refine lv_aload_n hx hb dX8_firstLeavingAt_4 rfl (lv_at hl 0 rfl) ?_
  refine va_get (D := (dC, dI)) (ci := 6) (v := .ref (a 22)) (C := RX8) (T := TX8) (N := 3) hx hb hta inX8 hown hK hP 21 (xr_21 a k st) rfl 1 (by decide) hf15 (fun _ h9 => h9) rfl dX8_firstLeavingAt_5 ?_
  refine lv_iload_n hx hb dX8_firstLeavingAt_8 rfl (lv_at hl 1 rfl) ?_
  refine lv_iconst (v := (1 : Int32)) hx hb dX8_firstLeavingAt_9 (by decide) ?_
  refine lv_iadd hx hb dX8_firstLeavingAt_10 ?_
  have e10 : (((nI KK)) + (1 : Int32)) = nI (KK + 1) := (nI_1 KK)
  rw [e10]
  try rw [e10] at hR
  refine wl_mv (va_runV (As := [.ref (a 22), .int ((nI (KK + 1)))]) (rest := []) ⟨hx, hb, hml, hown, hta⟩ (kx_Rows_learn l dC dI a k st (KK + 1) _ (by omega) hcd N hN h64 V hV4 hX hM0 Bt hBt hBt10) (cwV 2 hta gX8_23 rfl rfl rfl (by decide +kernel) ⟨Nat.le_of_ble_eq_true rfl, Nat.le_of_ble_eq_true rfl⟩) (wl_pM (C := RX7) (ci := 5) (q0 := 17) hK hP hD rfl (xr_17 a k st)) rfl rfl hl.1 rfl (lv_room (Nat.le_of_ble_eq_true rfl)) dX8_firstLeavingAt_11 ⟨Nat.zero_le _, Nat.zero_le _⟩) hP hD hS hAz (fun u11 H locs hw11 hP hD hS => ?_)
  have w11 : fx_Rows_learn st ((nI (KK + 1))) = u11 := hw11.symm
  have hf11 : XF [8] [7, 8, 9] [2, 3] st u11 := by rw [← w11]; exact ff_Rows_learn st ((nI (KK + 1)))
  try rw [w11] at hR
  refine lv_iconst (v := (0 : Int32)) hx hb dX8_firstLeavingAt_14 (by decide) ?_
  refine lv_istore_n (lv' := [(2, .int (0 : Int32)), (0, .ref (a 21)), (1, .int ((nI KK)))]) hx hb dX8_firstLeavingAt_15 rfl hl (by decide) rfl (fun ls hl => ?_)
  have L16 : ∀ (n : Nat) (i : Nat) (H : Heap) (locs : List Loc) (ls : Array Slot), fx_Path_firstLeavingAt_L16 st (nI KK) n i = R → (i ≤ 16) → 16 - i < n → va_P (dC, dI) vwCl (xw a k (u11)) H → va_D A (xw a k (u11)) → va_S A s.heap H locs → lv_has ls 5 [(2, .int (nI i)), (0, .ref (a 21)), (1, .int ((nI KK)))] → W p l e (headSpec wsX8_firstLeavingAt ({ frames := 5, cells := 0, slots := 0, locals := 131 })).room s m ([.ref (a 21), .int (nI KK)] : List Value).toArray below meth c H locs 0 0 (MQ below (va_Qi (fun r9 u9 => (r9, u9) = R) (wl_at (dC, dI) vwCl (xt k) (xw a k) A) A) ([.ref (a 21), .int (nI KK)] : List Value).toArray s 0 0 A) (F0 m 16 ls []) := by
    intro n
    induction n with
    | zero =>
      intro i H locs ls hR hi hm hP hD hS hl
      exact absurd hm (Nat.not_lt_zero _)
    | succ n ih =>
      intro i H locs ls hR hi hm hP hD hS hl
      rw [fx_Path_firstLeavingAt_L16] at hR
      try rw [e10] at hR
      try rw [w11] at hR
      refine lv_iload_n hx hb dX8_firstLeavingAt_16 rfl (lv_at hl 0 rfl) ?_
      refine lv_bipush (v := (16 : Int32)) hx hb dX8_firstLeavingAt_17 (by decide) ?_
      refine lv_icmp_ge (tgt := 70) hx hb dX8_firstLeavingAt_19 (by decide) (fun c19 => ?_) (fun c19 => ?_)
      · skip
        rw [if_pos c19] at hR
        refine lv_iconst (v := (-1 : Int32)) hx hb dX8_firstLeavingAt_70 (by decide) ?_
        exact W.iret (v := (-1 : Int32)) hx hb hr (fun t ht hW => ⟨⟨_, _, rfl, hR, by rw [ht]; exact hP, va_K.moved hW.alike hK, hD⟩, hS.F ht⟩) hS.2.2 dX8_firstLeavingAt_71
      · skip
        rw [if_neg c19] at hR
        have hlt : i < 16 := wl_lt (N := 16) c19 (by omega)
        refine lv_aload_n hx hb dX8_firstLeavingAt_22 rfl (lv_at hl 1 rfl) ?_
        refine lv_iload_n hx hb dX8_firstLeavingAt_23 rfl (lv_at hl 2 rfl) ?_
        refine lv_iload_n hx hb dX8_firstLeavingAt_24 rfl (lv_at hl 0 rfl) ?_
        refine wl_cl (va_runV (As := [.int ((nI KK)), .int (nI i)]) (rest := []) ⟨hx, hb, hml, hown, hta⟩ (kx_Path_holdingBefore l dC dI a k (u11) KK i (by omega) (fun j hj => by rw [hf11.A 10 (by decide)]; exact hcd j (by omega)) hlt) (cwV 2 hta gX8_29 rfl rfl rfl (by decide +kernel) ⟨Nat.le_of_ble_eq_true rfl, Nat.le_of_ble_eq_true rfl⟩) (wl_pR (C := RX8) (ci := 6) (q0 := 21) hK hP rfl (xr_21 a k (u11))) rfl rfl hl.1 rfl (lv_room (Nat.le_of_ble_eq_true rfl)) dX8_firstLeavingAt_25 ⟨Nat.zero_le _, Nat.zero_le _⟩) ?_
        refine lv_aload_n hx hb dX8_firstLeavingAt_28 rfl (lv_at hl 1 rfl) ?_
        refine va_get (D := (dC, dI)) (ci := 6) (v := .ref (a 17)) (C := RX8) (T := TX8) (N := 3) hx hb hta inX8 hown hK hP 21 (xr_21 a k (u11)) rfl 0 (by decide) hf9 (fun _ h9 => h9) rfl dX8_firstLeavingAt_29 ?_
        refine lv_aload_n hx hb dX8_firstLeavingAt_32 rfl (lv_at hl 1 rfl) ?_
        refine va_get (D := (dC, dI)) (ci := 6) (v := .ref (a 22)) (C := RX8) (T := TX8) (N := 3) hx hb hta inX8 hown hK hP 21 (xr_21 a k (u11)) rfl 1 (by decide) hf15 (fun _ h9 => h9) rfl dX8_firstLeavingAt_33 ?_
        refine lv_iload_n hx hb dX8_firstLeavingAt_36 rfl (lv_at hl 2 rfl) ?_
        refine va_iald hx hb hK hP 22 14 (xr_22 a k (u11)) rfl (wl_in hK16 (by decide)) dX8_firstLeavingAt_37 ?_
        have e37 : (fA (u11) 10 ((nI KK)).toNatClampNeg) = fA st 10 KK := (by rw [hf11.A 10 (by decide), nI_clamp (by omega)])
        rw [e37]
        try rw [e37] at hR
        refine lv_iload_n hx hb dX8_firstLeavingAt_38 rfl (lv_at hl 0 rfl) ?_
        refine wl_cl (va_runV (As := [.int ((fA st 10 KK)), .int (nI i)]) (rest := [.long (fx_Path_holdingBefore (u11) ((nI KK)) (nI i))]) ⟨hx, hb, hml, hown, hta⟩ (kx_Rows_wordOf l dC dI a k (u11) ((fA st 10 KK)) (nI i) (wl_i16 (hcd KK (by omega)) hlt)) (cwV 2 hta gX8_37 rfl rfl rfl (by decide +kernel) ⟨Nat.le_of_ble_eq_true rfl, Nat.le_of_ble_eq_true rfl⟩) (wl_pR (C := RX7) (ci := 5) (q0 := 17) hK hP rfl (xr_17 a k (u11))) rfl rfl hl.1 rfl (lv_room (Nat.le_of_ble_eq_true rfl)) dX8_firstLeavingAt_39 ⟨Nat.zero_le _, Nat.zero_le _⟩) ?_
        refine lv_ldc2 (v := (-1 : Int64)) hx hb hown hc40 dX8_firstLeavingAt_42 ?_
        refine lv_lxor hx hb dX8_firstLeavingAt_45 ?_
        refine lv_land hx hb dX8_firstLeavingAt_46 ?_
        refine lv_lstore_n (lv' := [(3, .long ((fx_Path_holdingBefore (u11) ((nI KK)) (nI i)) &&& ((fx_Rows_wordOf (u11) ((fA st 10 KK)) (nI i)) ^^^ (-1 : Int64)))), (2, .int (nI i)), (0, .ref (a 21)), (1, .int ((nI KK)))]) hx hb dX8_firstLeavingAt_47 rfl hl (by decide) rfl (fun ls hl => ?_)
        refine lv_lload_n hx hb dX8_firstLeavingAt_48 rfl (lv_at hl 0 rfl) ?_
        refine lv_lconst (v := (0 : Int64)) hx hb dX8_firstLeavingAt_49 (by decide) ?_
        refine W.lcmp hx hb dX8_firstLeavingAt_50 ?_
        refine lv_if_eq (tgt := 64) hx hb dX8_firstLeavingAt_51 (by decide) (fun c51 => ?_) (fun c51 => ?_)
        · skip
          rw [if_pos c51] at hR
          refine lv_iinc (v := nI (i + 1)) (lv' := [(2, .int (nI (i + 1))), (3, .long ((fx_Path_holdingBefore (u11) ((nI KK)) (nI i)) &&& ((fx_Rows_wordOf (u11) ((fA st 10 KK)) (nI i)) ^^^ (-1 : Int64)))), (0, .ref (a 21)), (1, .int ((nI KK)))]) hx hb dX8_firstLeavingAt_64 hl (k := 1) rfl (nI_1 _) (by decide) rfl (fun ls hl => ?_)
          refine lv_goto (tgt := 16) hx hb dX8_firstLeavingAt_67 (by decide) ?_
          exact ih (i + 1) _ _ ls hR (by omega) (by omega) hP hD hS (lv_sub hl [0, 2, 3] rfl)
        · skip
          rw [if_neg c51] at hR
          refine lv_iload_n hx hb dX8_firstLeavingAt_54 rfl (lv_at hl 1 rfl) ?_
          refine lv_bipush (v := (64 : Int32)) hx hb dX8_firstLeavingAt_55 (by decide) ?_
          refine lv_imul hx hb dX8_firstLeavingAt_57 ?_
          refine lv_lload_n hx hb dX8_firstLeavingAt_58 rfl (lv_at hl 0 rfl) ?_
          refine wl_ci (va_runS (As := [.long ((fx_Path_holdingBefore (u11) ((nI KK)) (nI i)) &&& ((fx_Rows_wordOf (u11) ((fA st 10 KK)) (nI i)) ^^^ (-1 : Int64)))]) (rest := [.int ((nI i) * (64 : Int32))]) ⟨hx, hb, hml, hown, hta⟩ (kx_Path_lowestBit l ((fx_Path_holdingBefore (u11) ((nI KK)) (nI i)) &&& ((fx_Rows_wordOf (u11) ((fA st 10 KK)) (nI i)) ^^^ (-1 : Int64)))) (va_cwS 1 hta gX8_33 rfl rfl rfl (by decide +kernel) ⟨Nat.le_of_ble_eq_true rfl, Nat.le_of_ble_eq_true rfl⟩) preEq rfl rfl hl.1 rfl (lv_room (Nat.le_of_ble_eq_true rfl)) dX8_firstLeavingAt_59 ⟨Nat.zero_le _, Nat.zero_le _⟩) ?_
          refine lv_iadd hx hb dX8_firstLeavingAt_62 ?_
          exact W.iret (v := ((nI i) * (64 : Int32)) + (fx_Path_lowestBit ((fx_Path_holdingBefore (u11) ((nI KK)) (nI i)) &&& ((fx_Rows_wordOf (u11) ((fA st 10 KK)) (nI i)) ^^^ (-1 : Int64))))) hx hb hr (fun t ht hW => ⟨⟨_, _, rfl, hR, by rw [ht]; exact hP, va_K.moved hW.alike hK, hD⟩, hS.F ht⟩) hS.2.2 dX8_firstLeavingAt_63
  exact L16 17 0 _ _ ls hR (Nat.zero_le _) (by omega) hP hD hS (lv_sub hl [0, 1, 2] rfl)
