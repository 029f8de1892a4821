theorem mw_67 : (.fieldLink RX2 20 RX2 "size" "I" : Cond) ∈ AW := List.mem_filter.mpr ⟨List.mem_of_getElem? (i := 67) (by decide +kernel), rfl⟩
theorem dX2_size_0 : decode cX2_size 0 = .ok (.aload_n 0, 1) := by decide +kernel
theorem dX2_size_1 : decode cX2_size 1 = .ok (.getfield 20, 3) := by decide +kernel
theorem dX2_size_4 : decode cX2_size 4 = .ok (.ireturn, 1) := by decide +kernel
def fx_Vars_size (st : XS) : Int32 := gI st 4
set_option maxHeartbeats 4000000 in
set_option maxRecDepth 100000 in
theorem kx_Vars_size (l : Launch) (dC : Nat → ClassId) (dI : Nat → Nat → Nat) (a : Nat → Nat) (k : Nat → ClassId) (st : XS) : Met l yX2_size wsX2_size ({ frames := 0, cells := 0, slots := 0, locals := 0 }) (va_Pc [.ref (a 1)] (wl_prR (dC, dI) vwCl (xt k) (xw a k st))) (vp_Si (fun r9 => r9 = fx_Vars_size st)) 0 0 (fun _ => False) := by
  refine Met.ofW (cc := cX2_size) (maxL := 1) (ret := (some .int)) (by decide) rfl ?_
  intro p e s m args below meth c s₁ B hml hv
  obtain ⟨rfl, hP, hK⟩ := hv
  have hx := B.exec
  have hb := B.bytes
  have hr := B.returns
  have hta := aw_hts (atoms_spec (ws := wsX2_size) B.pre)
  have hown : s.vm.findClass RX2 = some m.cls := findClass_of_methodNamed B.named
  have hlocks := B.notSynchronized
  have hf20 := hta _ mw_67
  have hl := lv_entry ([.ref (a 1)]) (n := 1) (Nat.le_of_ble_eq_true rfl)
  rw [lg_entry_eq]
  generalize (lg_sl ([.ref (a 1)]) ++ List.replicate (1 - (lg_sl ([.ref (a 1)])).length) Slot.unset).toArray = ls at hl ⊢
  have hl : lv_has ls 1 [(0, .ref (a 1))] := hl
  generalize hR : fx_Vars_size st = R
  rw [fx_Vars_size] at hR
  refine lv_aload_n hx hb dX2_size_0 rfl (lv_at hl 0 rfl) ?_
  refine va_get (D := (dC, dI)) (ci := 0) (v := .int (gI st 4)) (C := RX2) (T := TX2) (N := 5) hx hb hta inX2 hown hK hP 1 (xr_1 a k st) rfl 3 (by decide) hf20 (fun _ h9 => h9) rfl dX2_size_1 ?_
  exact W.iret (v := gI st 4) hx hb hr (fun t ht hW => ⟨_, rfl, hR, ht⟩) (fun q h => by cases h) dX2_size_4

theorem mw_68 : (.fieldLink RX2 24 RX2 "bitsTogether" "I" : Cond) ∈ AW := List.mem_filter.mpr ⟨List.mem_of_getElem? (i := 68) (by decide +kernel), rfl⟩
theorem dX2_admits_0 : decode cX2_admits 0 = .ok (.iload_n 1, 1) := by decide +kernel
theorem dX2_admits_1 : decode cX2_admits 1 = .ok (.iconst 1, 1) := by decide +kernel
theorem dX2_admits_2 : decode cX2_admits 2 = .ok (.if_icmp .lt 32, 3) := by decide +kernel
theorem dX2_admits_5 : decode cX2_admits 5 = .ok (.iload_n 1, 1) := by decide +kernel
theorem dX2_admits_6 : decode cX2_admits 6 = .ok (.bipush 8, 2) := by decide +kernel
theorem dX2_admits_8 : decode cX2_admits 8 = .ok (.if_icmp .gt 26, 3) := by decide +kernel
theorem dX2_admits_11 : decode cX2_admits 11 = .ok (.aload_n 0, 1) := by decide +kernel
theorem dX2_admits_12 : decode cX2_admits 12 = .ok (.getfield 20, 3) := by decide +kernel
theorem dX2_admits_15 : decode cX2_admits 15 = .ok (.iconst 4, 1) := by decide +kernel
theorem dX2_admits_16 : decode cX2_admits 16 = .ok (.if_icmp .ge 18, 3) := by decide +kernel
theorem dX2_admits_19 : decode cX2_admits 19 = .ok (.aload_n 0, 1) := by decide +kernel
theorem dX2_admits_20 : decode cX2_admits 20 = .ok (.getfield 24, 3) := by decide +kernel
theorem dX2_admits_23 : decode cX2_admits 23 = .ok (.iload_n 1, 1) := by decide +kernel
theorem dX2_admits_24 : decode cX2_admits 24 = .ok (.iadd, 1) := by decide +kernel
theorem dX2_admits_25 : decode cX2_admits 25 = .ok (.bipush 10, 2) := by decide +kernel
theorem dX2_admits_27 : decode cX2_admits 27 = .ok (.if_icmp .gt 7, 3) := by decide +kernel
theorem dX2_admits_30 : decode cX2_admits 30 = .ok (.iconst 1, 1) := by decide +kernel
theorem dX2_admits_31 : decode cX2_admits 31 = .ok (.goto 4, 3) := by decide +kernel
theorem dX2_admits_34 : decode cX2_admits 34 = .ok (.iconst 0, 1) := by decide +kernel
theorem dX2_admits_35 : decode cX2_admits 35 = .ok (.ireturn, 1) := by decide +kernel
def fx_Vars_admits (st : XS) (b : Int32) : Int32 := 
  if b < (1 : Int32) then (0 : Int32)
  else 
    if (8 : Int32) < b then (0 : Int32)
    else 
      if (4 : Int32) ≤ gI st 4 then (0 : Int32)
      else 
        if (10 : Int32) < (gI st 5) + b then (0 : Int32)
        else (1 : Int32)
set_option maxHeartbeats 4000000 in
set_option maxRecDepth 100000 in
theorem kx_Vars_admits (l : Launch) (dC : Nat → ClassId) (dI : Nat → Nat → Nat) (a : Nat → Nat) (k : Nat → ClassId) (st : XS) (b : Int32) : Met l yX2_admits wsX2_admits ({ frames := 0, cells := 0, slots := 0, locals := 0 }) (va_Pc [.ref (a 1), .int b] (wl_prR (dC, dI) vwCl (xt k) (xw a k st))) (vp_Si (fun r9 => r9 = fx_Vars_admits st b)) 0 0 (fun _ => False) := by
  refine Met.ofW (cc := cX2_admits) (maxL := 2) (ret := (some .boolean)) (by decide) rfl ?_
  intro p e s m args below meth c s₁ B hml hv
  obtain ⟨rfl, hP, hK⟩ := hv
  have hx := B.exec
  have hb := B.bytes
  have hr := B.returns
  have hta := aw_hts (atoms_spec (ws := wsX2_admits) B.pre)
  have hown : s.vm.findClass RX2 = some m.cls := findClass_of_methodNamed B.named
  have hlocks := B.notSynchronized
  have hf20 := hta _ mw_67
  have hf24 := hta _ mw_68
  have hl := lv_entry ([.ref (a 1), .int b]) (n := 2) (Nat.le_of_ble_eq_true rfl)
  rw [lg_entry_eq]
  generalize (lg_sl ([.ref (a 1), .int b]) ++ List.replicate (2 - (lg_sl ([.ref (a 1), .int b])).length) Slot.unset).toArray = ls at hl ⊢
  have hl : lv_has ls 2 [(0, .ref (a 1)), (1, .int b)] := hl
  generalize hR : fx_Vars_admits st b = R
  rw [fx_Vars_admits] at hR
  refine lv_iload_n hx hb dX2_admits_0 rfl (lv_at hl 1 rfl) ?_
  refine lv_iconst (v := (1 : Int32)) hx hb dX2_admits_1 (by decide) ?_
  refine lv_icmp_lt (tgt := 34) hx hb dX2_admits_2 (by decide) (fun c2 => ?_) (fun c2 => ?_)
  · skip
    rw [if_pos c2] at hR
    refine lv_iconst (v := (0 : Int32)) hx hb dX2_admits_34 (by decide) ?_
    exact W.zret (v := (0 : Int32)) (ty := .boolean) hx hb hr rfl (fun t ht hW => ⟨_, rfl, hR, ht⟩) (fun q h => by cases h) dX2_admits_35
  · skip
    rw [if_neg c2] at hR
    refine lv_iload_n hx hb dX2_admits_5 rfl (lv_at hl 1 rfl) ?_
    refine lv_bipush (v := (8 : Int32)) hx hb dX2_admits_6 (by decide) ?_
    refine lv_icmp_gt (tgt := 34) hx hb dX2_admits_8 (by decide) (fun c8 => ?_) (fun c8 => ?_)
    · skip
      rw [if_pos c8] at hR
      refine lv_iconst (v := (0 : Int32)) hx hb dX2_admits_34 (by decide) ?_
      exact W.zret (v := (0 : Int32)) (ty := .boolean) hx hb hr rfl (fun t ht hW => ⟨_, rfl, hR, ht⟩) (fun q h => by cases h) dX2_admits_35
    · skip
      rw [if_neg c8] at hR
      refine lv_aload_n hx hb dX2_admits_11 rfl (lv_at hl 0 rfl) ?_
      refine va_get (D := (dC, dI)) (ci := 0) (v := .int (gI st 4)) (C := RX2) (T := TX2) (N := 5) hx hb hta inX2 hown hK hP 1 (xr_1 a k st) rfl 3 (by decide) hf20 (fun _ h9 => h9) rfl dX2_admits_12 ?_
      refine lv_iconst (v := (4 : Int32)) hx hb dX2_admits_15 (by decide) ?_
      refine lv_icmp_ge (tgt := 34) hx hb dX2_admits_16 (by decide) (fun c16 => ?_) (fun c16 => ?_)
      · skip
        rw [if_pos c16] at hR
        refine lv_iconst (v := (0 : Int32)) hx hb dX2_admits_34 (by decide) ?_
        exact W.zret (v := (0 : Int32)) (ty := .boolean) hx hb hr rfl (fun t ht hW => ⟨_, rfl, hR, ht⟩) (fun q h => by cases h) dX2_admits_35
      · skip
        rw [if_neg c16] at hR
        refine lv_aload_n hx hb dX2_admits_19 rfl (lv_at hl 0 rfl) ?_
        refine va_get (D := (dC, dI)) (ci := 0) (v := .int (gI st 5)) (C := RX2) (T := TX2) (N := 5) hx hb hta inX2 hown hK hP 1 (xr_1 a k st) rfl 4 (by decide) hf24 (fun _ h9 => h9) rfl dX2_admits_20 ?_
        refine lv_iload_n hx hb dX2_admits_23 rfl (lv_at hl 1 rfl) ?_
        refine lv_iadd hx hb dX2_admits_24 ?_
        refine lv_bipush (v := (10 : Int32)) hx hb dX2_admits_25 (by decide) ?_
        refine lv_icmp_gt (tgt := 34) hx hb dX2_admits_27 (by decide) (fun c27 => ?_) (fun c27 => ?_)
        · skip
          rw [if_pos c27] at hR
          refine lv_iconst (v := (0 : Int32)) hx hb dX2_admits_34 (by decide) ?_
          exact W.zret (v := (0 : Int32)) (ty := .boolean) hx hb hr rfl (fun t ht hW => ⟨_, rfl, hR, ht⟩) (fun q h => by cases h) dX2_admits_35
        · skip
          rw [if_neg c27] at hR
          refine lv_iconst (v := (1 : Int32)) hx hb dX2_admits_30 (by decide) ?_
          refine lv_goto (tgt := 35) hx hb dX2_admits_31 (by decide) ?_
          exact W.zret (v := (1 : Int32)) (ty := .boolean) hx hb hr rfl (fun t ht hW => ⟨_, rfl, hR, ht⟩) (fun q h => by cases h) dX2_admits_35

theorem dX2_freeBits_0 : decode cX2_freeBits 0 = .ok (.bipush 10, 2) := by decide +kernel
theorem dX2_freeBits_2 : decode cX2_freeBits 2 = .ok (.aload_n 0, 1) := by decide +kernel
theorem dX2_freeBits_3 : decode cX2_freeBits 3 = .ok (.getfield 24, 3) := by decide +kernel
theorem dX2_freeBits_6 : decode cX2_freeBits 6 = .ok (.isub, 1) := by decide +kernel
theorem dX2_freeBits_7 : decode cX2_freeBits 7 = .ok (.ireturn, 1) := by decide +kernel
def fx_Vars_freeBits (st : XS) : Int32 := (10 : Int32) - (gI st 5)
set_option maxHeartbeats 4000000 in
set_option maxRecDepth 100000 in
theorem kx_Vars_freeBits (l : Launch) (dC : Nat → ClassId) (dI : Nat → Nat → Nat) (a : Nat → Nat) (k : Nat → ClassId) (st : XS) : Met l yX2_freeBits wsX2_freeBits ({ frames := 0, cells := 0, slots := 0, locals := 0 }) (va_Pc [.ref (a 1)] (wl_prR (dC, dI) vwCl (xt k) (xw a k st))) (vp_Si (fun r9 => r9 = fx_Vars_freeBits st)) 0 0 (fun _ => False) := by
  refine Met.ofW (cc := cX2_freeBits) (maxL := 1) (ret := (some .int)) (by decide) rfl ?_
  intro p e s m args below meth c s₁ B hml hv
  obtain ⟨rfl, hP, hK⟩ := hv
  have hx := B.exec
  have hb := B.bytes
  have hr := B.returns
  have hta := aw_hts (atoms_spec (ws := wsX2_freeBits) B.pre)
  have hown : s.vm.findClass RX2 = some m.cls := findClass_of_methodNamed B.named
  have hlocks := B.notSynchronized
  have hf24 := hta _ mw_68
  have hl := lv_entry ([.ref (a 1)]) (n := 1) (Nat.le_of_ble_eq_true rfl)
  rw [lg_entry_eq]
  generalize (lg_sl ([.ref (a 1)]) ++ List.replicate (1 - (lg_sl ([.ref (a 1)])).length) Slot.unset).toArray = ls at hl ⊢
  have hl : lv_has ls 1 [(0, .ref (a 1))] := hl
  generalize hR : fx_Vars_freeBits st = R
  rw [fx_Vars_freeBits] at hR
  refine lv_bipush (v := (10 : Int32)) hx hb dX2_freeBits_0 (by decide) ?_
  refine lv_aload_n hx hb dX2_freeBits_2 rfl (lv_at hl 0 rfl) ?_
  refine va_get (D := (dC, dI)) (ci := 0) (v := .int (gI st 5)) (C := RX2) (T := TX2) (N := 5) hx hb hta inX2 hown hK hP 1 (xr_1 a k st) rfl 4 (by decide) hf24 (fun _ h9 => h9) rfl dX2_freeBits_3 ?_
  refine lv_isub hx hb dX2_freeBits_6 ?_
  exact W.iret (v := (10 : Int32) - (gI st 5)) hx hb hr (fun t ht hW => ⟨_, rfl, hR, ht⟩) (fun q h => by cases h) dX2_freeBits_7

theorem mw_64 : (.fieldLink RX2 9 RX2 "bits" "[I" : Cond) ∈ AW := List.mem_filter.mpr ⟨List.mem_of_getElem? (i := 64) (by decide +kernel), rfl⟩
theorem mw_65 : (.fieldLink RX2 13 RX2 "lowest" "[I" : Cond) ∈ AW := List.mem_filter.mpr ⟨List.mem_of_getElem? (i := 65) (by decide +kernel), rfl⟩
theorem mw_253 : (.code yX2_freeBits cX2_freeBits 1 (some .int) : Cond) ∈ AW := List.mem_filter.mpr ⟨List.mem_of_getElem? (i := 253) (by decide +kernel), rfl⟩
theorem mw_250 : (.methodLink RX2 27 yX2_freeBits : Cond) ∈ AW := List.mem_filter.mpr ⟨List.mem_of_getElem? (i := 250) (by decide +kernel), rfl⟩
theorem mw_39 : (.initialized RX2 : Cond) ∈ AW := List.mem_filter.mpr ⟨List.mem_of_getElem? (i := 39) (by decide +kernel), rfl⟩
theorem mw_251 : (.instanceMethod yX2_freeBits : Cond) ∈ AW := List.mem_filter.mpr ⟨List.mem_of_getElem? (i := 251) (by decide +kernel), rfl⟩
theorem mw_252 : (.selects RX2 yX2_freeBits yX2_freeBits : Cond) ∈ AW := List.mem_filter.mpr ⟨List.mem_of_getElem? (i := 252) (by decide +kernel), rfl⟩
theorem mw_66 : (.fieldLink RX2 16 RX2 "signed" "[Z" : Cond) ∈ AW := List.mem_filter.mpr ⟨List.mem_of_getElem? (i := 66) (by decide +kernel), rfl⟩
theorem gX2_27 : GoodIn AW (wsV RX2 27 RX2 yX2_freeBits wsX2_freeBits) := aw_V mw_250 mw_251 mw_252 mw_39 mw_253
theorem dX2_add_0 : decode cX2_add 0 = .ok (.aload_n 0, 1) := by decide +kernel
theorem dX2_add_1 : decode cX2_add 1 = .ok (.dup, 1) := by decide +kernel
theorem dX2_add_2 : decode cX2_add 2 = .ok (.getfield 24, 3) := by decide +kernel
theorem dX2_add_5 : decode cX2_add 5 = .ok (.iload_n 1, 1) := by decide +kernel
theorem dX2_add_6 : decode cX2_add 6 = .ok (.iadd, 1) := by decide +kernel
theorem dX2_add_7 : decode cX2_add 7 = .ok (.putfield 24, 3) := by decide +kernel
theorem dX2_add_10 : decode cX2_add 10 = .ok (.aload_n 0, 1) := by decide +kernel
theorem dX2_add_11 : decode cX2_add 11 = .ok (.getfield 9, 3) := by decide +kernel
theorem dX2_add_14 : decode cX2_add 14 = .ok (.aload_n 0, 1) := by decide +kernel
theorem dX2_add_15 : decode cX2_add 15 = .ok (.getfield 20, 3) := by decide +kernel
theorem dX2_add_18 : decode cX2_add 18 = .ok (.iload_n 1, 1) := by decide +kernel
theorem dX2_add_19 : decode cX2_add 19 = .ok (.iastore, 1) := by decide +kernel
theorem dX2_add_20 : decode cX2_add 20 = .ok (.aload_n 0, 1) := by decide +kernel
theorem dX2_add_21 : decode cX2_add 21 = .ok (.getfield 13, 3) := by decide +kernel
theorem dX2_add_24 : decode cX2_add 24 = .ok (.aload_n 0, 1) := by decide +kernel
theorem dX2_add_25 : decode cX2_add 25 = .ok (.getfield 20, 3) := by decide +kernel
theorem dX2_add_28 : decode cX2_add 28 = .ok (.aload_n 0, 1) := by decide +kernel
theorem dX2_add_29 : decode cX2_add 29 = .ok (.invokevirtual 27, 3) := by decide +kernel
theorem dX2_add_32 : decode cX2_add 32 = .ok (.iastore, 1) := by decide +kernel
theorem dX2_add_33 : decode cX2_add 33 = .ok (.aload_n 0, 1) := by decide +kernel
theorem dX2_add_34 : decode cX2_add 34 = .ok (.getfield 16, 3) := by decide +kernel
theorem dX2_add_37 : decode cX2_add 37 = .ok (.aload_n 0, 1) := by decide +kernel
theorem dX2_add_38 : decode cX2_add 38 = .ok (.getfield 20, 3) := by decide +kernel
theorem dX2_add_41 : decode cX2_add 41 = .ok (.iload_n 2, 1) := by decide +kernel
theorem dX2_add_42 : decode cX2_add 42 = .ok (.bastore, 1) := by decide +kernel
theorem dX2_add_43 : decode cX2_add 43 = .ok (.aload_n 0, 1) := by decide +kernel
theorem dX2_add_44 : decode cX2_add 44 = .ok (.dup, 1) := by decide +kernel
theorem dX2_add_45 : decode cX2_add 45 = .ok (.getfield 20, 3) := by decide +kernel
theorem dX2_add_48 : decode cX2_add 48 = .ok (.dup_x1, 1) := by decide +kernel
theorem dX2_add_49 : decode cX2_add 49 = .ok (.iconst 1, 1) := by decide +kernel
theorem dX2_add_50 : decode cX2_add 50 = .ok (.iadd, 1) := by decide +kernel
theorem dX2_add_51 : decode cX2_add 51 = .ok (.putfield 20, 3) := by decide +kernel
theorem dX2_add_54 : decode cX2_add 54 = .ok (.ireturn, 1) := by decide +kernel
def fx_Vars_add (st : XS) (b : Int32) (sg : Int32) : Int32 × XS := (gI st 4, wI (wA (wA (wA (wI st 5 ((gI st 5) + b)) 0 ((gI st 4).toNatClampNeg) b) 1 ((gI st 4).toNatClampNeg) (fx_Vars_freeBits (wA (wI st 5 ((gI st 5) + b)) 0 ((gI st 4).toNatClampNeg) b))) 2 ((gI st 4).toNatClampNeg) (vp_nar .boolean sg)) 4 ((gI st 4) + (1 : Int32)))
theorem ff_Vars_add (st : XS) (b : Int32) (sg : Int32) : XF [4, 5] [0, 1, 2] [] st (fx_Vars_add st b sg).2 := by
  rw [fx_Vars_add]
  exact (XF.wI (by decide) (XF.wA (by decide) (XF.wA (by decide) (XF.wA (by decide) (XF.wI (by decide) XF.rf)))))
set_option maxHeartbeats 4000000 in
set_option maxRecDepth 100000 in
theorem kx_Vars_add (l : Launch) (dC : Nat → ClassId) (dI : Nat → Nat → Nat) (a : Nat → Nat) (k : Nat → ClassId) (st : XS) (b : Int32) (sg : Int32) (sz : Nat) (hi : vp_in (gI st 4) 4) : Met l yX2_add wsX2_add ({ frames := 1, cells := 0, slots := 0, locals := 20 }) (va_Pc [.ref (a 1), .int b, .int sg] (wl_pre (dC, dI) vwCl (xt k) (xw a k) st sz)) (va_Qi (fun r9 u9 => (r9, u9) = fx_Vars_add st b sg) (wl_at (dC, dI) vwCl (xt k) (xw a k) (va_A (xw a k st) sz)) (va_A (xw a k st) sz)) 0 0 (va_A (xw a k st) sz) := by
  refine Met.ofW (cc := cX2_add) (maxL := 3) (ret := (some .int)) (by decide) rfl ?_
  intro p e s m args below meth c s₁ B hml hv
  obtain ⟨rfl, hsz, hP, hK, hD0⟩ := hv
  have hx := B.exec
  have hb := B.bytes
  have hr := B.returns
  have hta := aw_hts (atoms_spec (ws := wsX2_add) B.pre)
  have hown : s.vm.findClass RX2 = some m.cls := findClass_of_methodNamed B.named
  have hlocks := B.notSynchronized
  have hf24 := hta _ mw_68
  have hf9 := hta _ mw_64
  have hf20 := hta _ mw_67
  have hf13 := hta _ mw_65
  have hf16 := hta _ mw_66
  subst hsz
  have hD := hD0.self (sz := s.heap.size)
  generalize hAe : va_A (xw a k st) s.heap.size = A at hD ⊢
  have hAz : ∀ q : Nat, s.heap.size ≤ q → A q := fun q h => by rw [← hAe]; exact Or.inr h
  have hS : va_S A s.heap s.heap [] := va_S.rf
  have hl := lv_entry ([.ref (a 1), .int b, .int sg]) (n := 3) (Nat.le_of_ble_eq_true rfl)
  rw [lg_entry_eq]
  generalize (lg_sl ([.ref (a 1), .int b, .int sg]) ++ List.replicate (3 - (lg_sl ([.ref (a 1), .int b, .int sg])).length) Slot.unset).toArray = ls at hl ⊢
  have hl : lv_has ls 3 [(0, .ref (a 1)), (1, .int b), (2, .int sg)] := hl
  generalize hR : fx_Vars_add st b sg = R
  rw [fx_Vars_add] at hR
  refine lv_aload_n hx hb dX2_add_0 rfl (lv_at hl 0 rfl) ?_
  refine lv_dup hx hb dX2_add_1 rfl ?_
  refine va_get (D := (dC, dI)) (ci := 0) (v := .int (gI st 5)) (C := RX2) (T := TX2) (N := 5) hx hb hta inX2 hown hK hP 1 (xr_1 a k st) rfl 4 (by decide) hf24 (fun _ h9 => h9) rfl dX2_add_2 ?_
  refine lv_iload_n hx hb dX2_add_5 rfl (lv_at hl 1 rfl) ?_
  refine lv_iadd hx hb dX2_add_6 ?_
  refine va_put (D := (dC, dI)) (ci := 0) (v := .int ((gI st 5) + b)) (ty := .int) (C := RX2) (T := TX2) (N := 5) hx hb hta inX2 tyX2 tyX2_ok nmX2 hown hK hP hD hS 1 (xr_1 a k st) rfl 4 (by decide) hf24 (fun _ h9 => h9) rfl (by decide +kernel) rfl rfl (Nat.le_of_ble_eq_true rfl) dX2_add_7 (fun H locs hP hD hS => ?_)
  have hP := xp_I5 hP
  have hD := xd_I5 hD
  refine lv_aload_n hx hb dX2_add_10 rfl (lv_at hl 0 rfl) ?_
  refine va_get (D := (dC, dI)) (ci := 0) (v := .ref (a 2)) (C := RX2) (T := TX2) (N := 5) hx hb hta inX2 hown hK hP 1 (xr_1 a k (wI st 5 ((gI st 5) + b))) rfl 0 (by decide) hf9 (fun _ h9 => h9) rfl dX2_add_11 ?_
  refine lv_aload_n hx hb dX2_add_14 rfl (lv_at hl 0 rfl) ?_
  refine va_get (D := (dC, dI)) (ci := 0) (v := .int (gI st 4)) (C := RX2) (T := TX2) (N := 5) hx hb hta inX2 hown hK hP 1 (xr_1 a k (wI st 5 ((gI st 5) + b))) rfl 3 (by decide) hf20 (fun _ h9 => h9) rfl dX2_add_15 ?_
  refine lv_iload_n hx hb dX2_add_18 rfl (lv_at hl 1 rfl) ?_
  refine va_iast hx hb hK hP hD hS 2 0 (xr_2 a k (wI st 5 ((gI st 5) + b))) rfl hi dX2_add_19 (fun H locs hP hD hS => ?_)
  have hP := xp_A0 hP
  have hD := xd_A0 hD
  refine lv_aload_n hx hb dX2_add_20 rfl (lv_at hl 0 rfl) ?_
  refine va_get (D := (dC, dI)) (ci := 0) (v := .ref (a 3)) (C := RX2) (T := TX2) (N := 5) hx hb hta inX2 hown hK hP 1 (xr_1 a k (wA (wI st 5 ((gI st 5) + b)) 0 ((gI st 4).toNatClampNeg) b)) rfl 1 (by decide) hf13 (fun _ h9 => h9) rfl dX2_add_21 ?_
  refine lv_aload_n hx hb dX2_add_24 rfl (lv_at hl 0 rfl) ?_
  refine va_get (D := (dC, dI)) (ci := 0) (v := .int (gI st 4)) (C := RX2) (T := TX2) (N := 5) hx hb hta inX2 hown hK hP 1 (xr_1 a k (wA (wI st 5 ((gI st 5) + b)) 0 ((gI st 4).toNatClampNeg) b)) rfl 3 (by decide) hf20 (fun _ h9 => h9) rfl dX2_add_25 ?_
  refine lv_aload_n hx hb dX2_add_28 rfl (lv_at hl 0 rfl) ?_
  refine wl_ci (va_runV (As := []) (rest := [.int (gI st 4), .ref (a 3)]) ⟨hx, hb, hml, hown, hta⟩ (kx_Vars_freeBits l dC dI a k (wA (wI st 5 ((gI st 5) + b)) 0 ((gI st 4).toNatClampNeg) b)) (cwV 0 hta gX2_27 rfl rfl rfl (by decide +kernel) ⟨Nat.le_of_ble_eq_true rfl, Nat.le_of_ble_eq_true rfl⟩) (wl_pR (C := RX2) (ci := 0) (q0 := 1) hK hP rfl (xr_1 a k (wA (wI st 5 ((gI st 5) + b)) 0 ((gI st 4).toNatClampNeg) b))) rfl rfl hl.1 rfl (lv_room (Nat.le_of_ble_eq_true rfl)) dX2_add_29 ⟨Nat.zero_le _, Nat.zero_le _⟩) ?_
  refine va_iast hx hb hK hP hD hS 3 1 (xr_3 a k (wA (wI st 5 ((gI st 5) + b)) 0 ((gI st 4).toNatClampNeg) b)) rfl hi dX2_add_32 (fun H locs hP hD hS => ?_)
  have hP := xp_A1 hP
  have hD := xd_A1 hD
  refine lv_aload_n hx hb dX2_add_33 rfl (lv_at hl 0 rfl) ?_
  refine va_get (D := (dC, dI)) (ci := 0) (v := .ref (a 4)) (C := RX2) (T := TX2) (N := 5) hx hb hta inX2 hown hK hP 1 (xr_1 a k (wA (wA (wI st 5 ((gI st 5) + b)) 0 ((gI st 4).toNatClampNeg) b) 1 ((gI st 4).toNatClampNeg) (fx_Vars_freeBits (wA (wI st 5 ((gI st 5) + b)) 0 ((gI st 4).toNatClampNeg) b)))) rfl 2 (by decide) hf16 (fun _ h9 => h9) rfl dX2_add_34 ?_
  refine lv_aload_n hx hb dX2_add_37 rfl (lv_at hl 0 rfl) ?_
  refine va_get (D := (dC, dI)) (ci := 0) (v := .int (gI st 4)) (C := RX2) (T := TX2) (N := 5) hx hb hta inX2 hown hK hP 1 (xr_1 a k (wA (wA (wI st 5 ((gI st 5) + b)) 0 ((gI st 4).toNatClampNeg) b) 1 ((gI st 4).toNatClampNeg) (fx_Vars_freeBits (wA (wI st 5 ((gI st 5) + b)) 0 ((gI st 4).toNatClampNeg) b)))) rfl 3 (by decide) hf20 (fun _ h9 => h9) rfl dX2_add_38 ?_
  refine lv_iload_n hx hb dX2_add_41 rfl (lv_at hl 2 rfl) ?_
  refine va_zast hx hb hK hP hD hS 4 2 (xr_4 a k (wA (wA (wI st 5 ((gI st 5) + b)) 0 ((gI st 4).toNatClampNeg) b) 1 ((gI st 4).toNatClampNeg) (fx_Vars_freeBits (wA (wI st 5 ((gI st 5) + b)) 0 ((gI st 4).toNatClampNeg) b)))) rfl hi dX2_add_42 (fun H locs hP hD hS => ?_)
  have hP := xp_A2 hP
  have hD := xd_A2 hD
  refine lv_aload_n hx hb dX2_add_43 rfl (lv_at hl 0 rfl) ?_
  refine lv_dup hx hb dX2_add_44 rfl ?_
  refine va_get (D := (dC, dI)) (ci := 0) (v := .int (gI st 4)) (C := RX2) (T := TX2) (N := 5) hx hb hta inX2 hown hK hP 1 (xr_1 a k (wA (wA (wA (wI st 5 ((gI st 5) + b)) 0 ((gI st 4).toNatClampNeg) b) 1 ((gI st 4).toNatClampNeg) (fx_Vars_freeBits (wA (wI st 5 ((gI st 5) + b)) 0 ((gI st 4).toNatClampNeg) b))) 2 ((gI st 4).toNatClampNeg) (vp_nar .boolean sg))) rfl 3 (by decide) hf20 (fun _ h9 => h9) rfl dX2_add_45 ?_
  refine lv_dup_x1 hx hb dX2_add_48 rfl rfl ?_
  refine lv_iconst (v := (1 : Int32)) hx hb dX2_add_49 (by decide) ?_
  refine lv_iadd hx hb dX2_add_50 ?_
  refine va_put (D := (dC, dI)) (ci := 0) (v := .int ((gI st 4) + (1 : Int32))) (ty := .int) (C := RX2) (T := TX2) (N := 5) hx hb hta inX2 tyX2 tyX2_ok nmX2 hown hK hP hD hS 1 (xr_1 a k (wA (wA (wA (wI st 5 ((gI st 5) + b)) 0 ((gI st 4).toNatClampNeg) b) 1 ((gI st 4).toNatClampNeg) (fx_Vars_freeBits (wA (wI st 5 ((gI st 5) + b)) 0 ((gI st 4).toNatClampNeg) b))) 2 ((gI st 4).toNatClampNeg) (vp_nar .boolean sg))) rfl 3 (by decide) hf20 (fun _ h9 => h9) rfl (by decide +kernel) rfl rfl (Nat.le_of_ble_eq_true rfl) dX2_add_51 (fun H locs hP hD hS => ?_)
  have hP := xp_I4 hP
  have hD := xd_I4 hD
  exact W.iret (v := gI st 4) hx hb hr (fun t ht hW => ⟨⟨_, _, rfl, hR, by rw [ht]; exact hP, va_K.moved hW.alike hK, hD⟩, hS.F ht⟩) hS.2.2 dX2_add_54

theorem dX2_bitsAt_0 : decode cX2_bitsAt 0 = .ok (.iload_n 2, 1) := by decide +kernel
theorem dX2_bitsAt_1 : decode cX2_bitsAt 1 = .ok (.aload_n 0, 1) := by decide +kernel
theorem dX2_bitsAt_2 : decode cX2_bitsAt 2 = .ok (.getfield 13, 3) := by decide +kernel
theorem dX2_bitsAt_5 : decode cX2_bitsAt 5 = .ok (.iload_n 1, 1) := by decide +kernel
theorem dX2_bitsAt_6 : decode cX2_bitsAt 6 = .ok (.iaload, 1) := by decide +kernel
theorem dX2_bitsAt_7 : decode cX2_bitsAt 7 = .ok (.ishr, 1) := by decide +kernel
theorem dX2_bitsAt_8 : decode cX2_bitsAt 8 = .ok (.iconst 1, 1) := by decide +kernel
theorem dX2_bitsAt_9 : decode cX2_bitsAt 9 = .ok (.aload_n 0, 1) := by decide +kernel
theorem dX2_bitsAt_10 : decode cX2_bitsAt 10 = .ok (.getfield 9, 3) := by decide +kernel
theorem dX2_bitsAt_13 : decode cX2_bitsAt 13 = .ok (.iload_n 1, 1) := by decide +kernel
theorem dX2_bitsAt_14 : decode cX2_bitsAt 14 = .ok (.iaload, 1) := by decide +kernel
theorem dX2_bitsAt_15 : decode cX2_bitsAt 15 = .ok (.ishl, 1) := by decide +kernel
theorem dX2_bitsAt_16 : decode cX2_bitsAt 16 = .ok (.iconst 1, 1) := by decide +kernel
theorem dX2_bitsAt_17 : decode cX2_bitsAt 17 = .ok (.isub, 1) := by decide +kernel
theorem dX2_bitsAt_18 : decode cX2_bitsAt 18 = .ok (.iand, 1) := by decide +kernel
theorem dX2_bitsAt_19 : decode cX2_bitsAt 19 = .ok (.ireturn, 1) := by decide +kernel
def fx_Vars_bitsAt (st : XS) (v : Int32) (n : Int32) : Int32 := (n >>> ((fA st 1 v.toNatClampNeg) &&& 31)) &&& (((1 : Int32) <<< ((fA st 0 v.toNatClampNeg) &&& 31)) - (1 : Int32))
set_option maxHeartbeats 4000000 in
set_option maxRecDepth 100000 in
theorem kx_Vars_bitsAt (l : Launch) (dC : Nat → ClassId) (dI : Nat → Nat → Nat) (a : Nat → Nat) (k : Nat → ClassId) (st : XS) (v : Int32) (n : Int32) (hi : vp_in v 4) : Met l yX2_bitsAt wsX2_bitsAt ({ frames := 0, cells := 0, slots := 0, locals := 0 }) (va_Pc [.ref (a 1), .int v, .int n] (wl_prR (dC, dI) vwCl (xt k) (xw a k st))) (vp_Si (fun r9 => r9 = fx_Vars_bitsAt st v n)) 0 0 (fun _ => False) := by
  refine Met.ofW (cc := cX2_bitsAt) (maxL := 3) (ret := (some .int)) (by decide) rfl ?_
  intro p e s m args below meth c s₁ B hml hv
  obtain ⟨rfl, hP, hK⟩ := hv
  have hx := B.exec
  have hb := B.bytes
  have hr := B.returns
  have hta := aw_hts (atoms_spec (ws := wsX2_bitsAt) B.pre)
  have hown : s.vm.findClass RX2 = some m.cls := findClass_of_methodNamed B.named
  have hlocks := B.notSynchronized
  have hf13 := hta _ mw_65
  have hf9 := hta _ mw_64
  have hl := lv_entry ([.ref (a 1), .int v, .int n]) (n := 3) (Nat.le_of_ble_eq_true rfl)
  rw [lg_entry_eq]
  generalize (lg_sl ([.ref (a 1), .int v, .int n]) ++ List.replicate (3 - (lg_sl ([.ref (a 1), .int v, .int n])).length) Slot.unset).toArray = ls at hl ⊢
  have hl : lv_has ls 3 [(0, .ref (a 1)), (1, .int v), (2, .int n)] := hl
  generalize hR : fx_Vars_bitsAt st v n = R
  rw [fx_Vars_bitsAt] at hR
  refine lv_iload_n hx hb dX2_bitsAt_0 rfl (lv_at hl 2 rfl) ?_
  refine lv_aload_n hx hb dX2_bitsAt_1 rfl (lv_at hl 0 rfl) ?_
  refine va_get (D := (dC, dI)) (ci := 0) (v := .ref (a 3)) (C := RX2) (T := TX2) (N := 5) hx hb hta inX2 hown hK hP 1 (xr_1 a k st) rfl 1 (by decide) hf13 (fun _ h9 => h9) rfl dX2_bitsAt_2 ?_
  refine lv_iload_n hx hb dX2_bitsAt_5 rfl (lv_at hl 1 rfl) ?_
  refine va_iald hx hb hK hP 3 1 (xr_3 a k st) rfl hi dX2_bitsAt_6 ?_
  refine lv_ishr hx hb dX2_bitsAt_7 ?_
  refine lv_iconst (v := (1 : Int32)) hx hb dX2_bitsAt_8 (by decide) ?_
  refine lv_aload_n hx hb dX2_bitsAt_9 rfl (lv_at hl 0 rfl) ?_
  refine va_get (D := (dC, dI)) (ci := 0) (v := .ref (a 2)) (C := RX2) (T := TX2) (N := 5) hx hb hta inX2 hown hK hP 1 (xr_1 a k st) rfl 0 (by decide) hf9 (fun _ h9 => h9) rfl dX2_bitsAt_10 ?_
  refine lv_iload_n hx hb dX2_bitsAt_13 rfl (lv_at hl 1 rfl) ?_
  refine va_iald hx hb hK hP 2 0 (xr_2 a k st) rfl hi dX2_bitsAt_14 ?_
  refine lv_ishl hx hb dX2_bitsAt_15 ?_
  refine lv_iconst (v := (1 : Int32)) hx hb dX2_bitsAt_16 (by decide) ?_
  refine lv_isub hx hb dX2_bitsAt_17 ?_
  refine lv_iand hx hb dX2_bitsAt_18 ?_
  exact W.iret (v := (n >>> ((fA st 1 v.toNatClampNeg) &&& 31)) &&& (((1 : Int32) <<< ((fA st 0 v.toNatClampNeg) &&& 31)) - (1 : Int32))) hx hb hr (fun t ht hW => ⟨_, rfl, hR, ht⟩) (fun q h => by cases h) dX2_bitsAt_19

theorem mw_523 : (.code yX2_bitsAt cX2_bitsAt 3 (some .int) : Cond) ∈ AW := List.mem_filter.mpr ⟨List.mem_of_getElem? (i := 523) (by decide +kernel), rfl⟩
theorem mw_520 : (.methodLink RX2 31 yX2_bitsAt : Cond) ∈ AW := List.mem_filter.mpr ⟨List.mem_of_getElem? (i := 520) (by decide +kernel), rfl⟩
theorem mw_521 : (.instanceMethod yX2_bitsAt : Cond) ∈ AW := List.mem_filter.mpr ⟨List.mem_of_getElem? (i := 521) (by decide +kernel), rfl⟩
theorem mw_522 : (.selects RX2 yX2_bitsAt yX2_bitsAt : Cond) ∈ AW := List.mem_filter.mpr ⟨List.mem_of_getElem? (i := 522) (by decide +kernel), rfl⟩
theorem mw_524 : (.methodLink RX2 35 yX0_readSigned : Cond) ∈ AW := List.mem_filter.mpr ⟨List.mem_of_getElem? (i := 524) (by decide +kernel), rfl⟩
theorem gX2_31 : GoodIn AW (wsV RX2 31 RX2 yX2_bitsAt wsX2_bitsAt) := aw_V mw_520 mw_521 mw_522 mw_39 mw_523
theorem gX2_35 : GoodIn AW (va_wsS RX2 35 yX0_readSigned wsX0_readSigned) := aw_S mw_524 mw_274 mw_47 mw_275
theorem dX2_readAt_0 : decode cX2_readAt 0 = .ok (.aload_n 0, 1) := by decide +kernel
theorem dX2_readAt_1 : decode cX2_readAt 1 = .ok (.getfield 16, 3) := by decide +kernel
theorem dX2_readAt_4 : decode cX2_readAt 4 = .ok (.iload_n 1, 1) := by decide +kernel
theorem dX2_readAt_5 : decode cX2_readAt 5 = .ok (.baload, 1) := by decide +kernel
theorem dX2_readAt_6 : decode cX2_readAt 6 = .ok (.ifCond .eq 12, 3) := by decide +kernel
theorem dX2_readAt_9 : decode cX2_readAt 9 = .ok (.aload_n 0, 1) := by decide +kernel
theorem dX2_readAt_10 : decode cX2_readAt 10 = .ok (.getfield 9, 3) := by decide +kernel
theorem dX2_readAt_13 : decode cX2_readAt 13 = .ok (.iload_n 1, 1) := by decide +kernel
theorem dX2_readAt_14 : decode cX2_readAt 14 = .ok (.iaload, 1) := by decide +kernel
theorem dX2_readAt_15 : decode cX2_readAt 15 = .ok (.goto 5, 3) := by decide +kernel
theorem dX2_readAt_18 : decode cX2_readAt 18 = .ok (.bipush 8, 2) := by decide +kernel
theorem dX2_readAt_20 : decode cX2_readAt 20 = .ok (.aload_n 0, 1) := by decide +kernel
theorem dX2_readAt_21 : decode cX2_readAt 21 = .ok (.iload_n 1, 1) := by decide +kernel
theorem dX2_readAt_22 : decode cX2_readAt 22 = .ok (.iload_n 2, 1) := by decide +kernel
theorem dX2_readAt_23 : decode cX2_readAt 23 = .ok (.invokevirtual 31, 3) := by decide +kernel
theorem dX2_readAt_26 : decode cX2_readAt 26 = .ok (.i2l, 1) := by decide +kernel
theorem dX2_readAt_27 : decode cX2_readAt 27 = .ok (.invokestatic 35, 3) := by decide +kernel
theorem dX2_readAt_30 : decode cX2_readAt 30 = .ok (.lreturn, 1) := by decide +kernel
def fx_Vars_readAt (st : XS) (v : Int32) (n : Int32) : Int64 := 
  if fA st 2 v.toNatClampNeg = (0 : Int32) then fx_Width_readSigned (8 : Int32) ((fx_Vars_bitsAt st v n).toInt64)
  else fx_Width_readSigned (fA st 0 v.toNatClampNeg) ((fx_Vars_bitsAt st v n).toInt64)
set_option maxHeartbeats 4000000 in
set_option maxRecDepth 100000 in
theorem kx_Vars_readAt (l : Launch) (dC : Nat → ClassId) (dI : Nat → Nat → Nat) (a : Nat → Nat) (k : Nat → ClassId) (st : XS) (v : Int32) (n : Int32) (hi : vp_in v 4) : Met l yX2_readAt wsX2_readAt ({ frames := 1, cells := 0, slots := 0, locals := 23 }) (va_Pc [.ref (a 1), .int v, .int n] (wl_prR (dC, dI) vwCl (xt k) (xw a k st))) (vp_Sl (fun r9 => r9 = fx_Vars_readAt st v n)) 0 0 (fun _ => False) := by
  refine Met.ofW (cc := cX2_readAt) (maxL := 3) (ret := (some .long)) (by decide) rfl ?_
  intro p e s m args below meth c s₁ B hml hv
  obtain ⟨rfl, hP, hK⟩ := hv
  have hx := B.exec
  have hb := B.bytes
  have hr := B.returns
  have hta := aw_hts (atoms_spec (ws := wsX2_readAt) B.pre)
  have hown : s.vm.findClass RX2 = some m.cls := findClass_of_methodNamed B.named
  have hlocks := B.notSynchronized
  have hf16 := hta _ mw_66
  have hf9 := hta _ mw_64
  have hl := lv_entry ([.ref (a 1), .int v, .int n]) (n := 3) (Nat.le_of_ble_eq_true rfl)
  rw [lg_entry_eq]
  generalize (lg_sl ([.ref (a 1), .int v, .int n]) ++ List.replicate (3 - (lg_sl ([.ref (a 1), .int v, .int n])).length) Slot.unset).toArray = ls at hl ⊢
  have hl : lv_has ls 3 [(0, .ref (a 1)), (1, .int v), (2, .int n)] := hl
  generalize hR : fx_Vars_readAt st v n = R
  rw [fx_Vars_readAt] at hR
  refine lv_aload_n hx hb dX2_readAt_0 rfl (lv_at hl 0 rfl) ?_
  refine va_get (D := (dC, dI)) (ci := 0) (v := .ref (a 4)) (C := RX2) (T := TX2) (N := 5) hx hb hta inX2 hown hK hP 1 (xr_1 a k st) rfl 2 (by decide) hf16 (fun _ h9 => h9) rfl dX2_readAt_1 ?_
  refine lv_iload_n hx hb dX2_readAt_4 rfl (lv_at hl 1 rfl) ?_
  refine va_zald hx hb hK hP 4 2 (xr_4 a k st) rfl hi dX2_readAt_5 ?_
  refine lv_if_eq (tgt := 18) hx hb dX2_readAt_6 (by decide) (fun c6 => ?_) (fun c6 => ?_)
  · skip
    rw [if_pos c6] at hR
    refine lv_bipush (v := (8 : Int32)) hx hb dX2_readAt_18 (by decide) ?_
    refine lv_aload_n hx hb dX2_readAt_20 rfl (lv_at hl 0 rfl) ?_
    refine lv_iload_n hx hb dX2_readAt_21 rfl (lv_at hl 1 rfl) ?_
    refine lv_iload_n hx hb dX2_readAt_22 rfl (lv_at hl 2 rfl) ?_
    refine wl_ci (va_runV (As := [.int v, .int n]) (rest := [.int (8 : Int32)]) ⟨hx, hb, hml, hown, hta⟩ (kx_Vars_bitsAt l dC dI a k st v n hi) (cwV 2 hta gX2_31 rfl rfl rfl (by decide +kernel) ⟨Nat.le_of_ble_eq_true rfl, Nat.le_of_ble_eq_true rfl⟩) (wl_pR (C := RX2) (ci := 0) (q0 := 1) hK hP rfl (xr_1 a k st)) rfl rfl hl.1 rfl (lv_room (Nat.le_of_ble_eq_true rfl)) dX2_readAt_23 ⟨Nat.zero_le _, Nat.zero_le _⟩) ?_
    refine lv_i2l (v := (fx_Vars_bitsAt st v n).toInt64) hx hb dX2_readAt_26 rfl ?_
    refine wl_cl (va_runS (As := [.int (8 : Int32), .long ((fx_Vars_bitsAt st v n).toInt64)]) (rest := []) ⟨hx, hb, hml, hown, hta⟩ (kx_Width_readSigned l (8 : Int32) ((fx_Vars_bitsAt st v n).toInt64)) (va_cwS 2 hta gX2_35 rfl rfl rfl (by decide +kernel) ⟨Nat.le_of_ble_eq_true rfl, Nat.le_of_ble_eq_true rfl⟩) preEq rfl rfl hl.1 rfl (lv_room (Nat.le_of_ble_eq_true rfl)) dX2_readAt_27 ⟨Nat.zero_le _, Nat.zero_le _⟩) ?_
    exact W.lret (v := fx_Width_readSigned (8 : Int32) ((fx_Vars_bitsAt st v n).toInt64)) hx hb hr (fun t ht hW => ⟨_, rfl, hR, ht⟩) (fun q h => by cases h) dX2_readAt_30
  · skip
    rw [if_neg c6] at hR
    refine lv_aload_n hx hb dX2_readAt_9 rfl (lv_at hl 0 rfl) ?_
    refine va_get (D := (dC, dI)) (ci := 0) (v := .ref (a 2)) (C := RX2) (T := TX2) (N := 5) hx hb hta inX2 hown hK hP 1 (xr_1 a k st) rfl 0 (by decide) hf9 (fun _ h9 => h9) rfl dX2_readAt_10 ?_
    refine lv_iload_n hx hb dX2_readAt_13 rfl (lv_at hl 1 rfl) ?_
    refine va_iald hx hb hK hP 2 0 (xr_2 a k st) rfl hi dX2_readAt_14 ?_
    refine lv_goto (tgt := 20) hx hb dX2_readAt_15 (by decide) ?_
    refine lv_aload_n hx hb dX2_readAt_20 rfl (lv_at hl 0 rfl) ?_
    refine lv_iload_n hx hb dX2_readAt_21 rfl (lv_at hl 1 rfl) ?_
    refine lv_iload_n hx hb dX2_readAt_22 rfl (lv_at hl 2 rfl) ?_
    refine wl_ci (va_runV (As := [.int v, .int n]) (rest := [.int (fA st 0 v.toNatClampNeg)]) ⟨hx, hb, hml, hown, hta⟩ (kx_Vars_bitsAt l dC dI a k st v n hi) (cwV 2 hta gX2_31 rfl rfl rfl (by decide +kernel) ⟨Nat.le_of_ble_eq_true rfl, Nat.le_of_ble_eq_true rfl⟩) (wl_pR (C := RX2) (ci := 0) (q0 := 1) hK hP rfl (xr_1 a k st)) rfl rfl hl.1 rfl (lv_room (Nat.le_of_ble_eq_true rfl)) dX2_readAt_23 ⟨Nat.zero_le _, Nat.zero_le _⟩) ?_
    refine lv_i2l (v := (fx_Vars_bitsAt st v n).toInt64) hx hb dX2_readAt_26 rfl ?_
    refine wl_cl (va_runS (As := [.int (fA st 0 v.toNatClampNeg), .long ((fx_Vars_bitsAt st v n).toInt64)]) (rest := []) ⟨hx, hb, hml, hown, hta⟩ (kx_Width_readSigned l (fA st 0 v.toNatClampNeg) ((fx_Vars_bitsAt st v n).toInt64)) (va_cwS 2 hta gX2_35 rfl rfl rfl (by decide +kernel) ⟨Nat.le_of_ble_eq_true rfl, Nat.le_of_ble_eq_true rfl⟩) preEq rfl rfl hl.1 rfl (lv_room (Nat.le_of_ble_eq_true rfl)) dX2_readAt_27 ⟨Nat.zero_le _, Nat.zero_le _⟩) ?_
    exact W.lret (v := fx_Width_readSigned (fA st 0 v.toNatClampNeg) ((fx_Vars_bitsAt st v n).toInt64)) hx hb hr (fun t ht hW => ⟨_, rfl, hR, ht⟩) (fun q h => by cases h) dX2_readAt_30

theorem dX3_isTable_0 : decode cX3_isTable 0 = .ok (.iload_n 0, 1) := by decide +kernel
theorem dX3_isTable_1 : decode cX3_isTable 1 = .ok (.ifCond .lt 12, 3) := by decide +kernel
theorem dX3_isTable_4 : decode cX3_isTable 4 = .ok (.iload_n 0, 1) := by decide +kernel
theorem dX3_isTable_5 : decode cX3_isTable 5 = .ok (.iconst 2, 1) := by decide +kernel
theorem dX3_isTable_6 : decode cX3_isTable 6 = .ok (.if_icmp .ge 7, 3) := by decide +kernel
theorem dX3_isTable_9 : decode cX3_isTable 9 = .ok (.iconst 1, 1) := by decide +kernel
theorem dX3_isTable_10 : decode cX3_isTable 10 = .ok (.goto 4, 3) := by decide +kernel
theorem dX3_isTable_13 : decode cX3_isTable 13 = .ok (.iconst 0, 1) := by decide +kernel
theorem dX3_isTable_14 : decode cX3_isTable 14 = .ok (.ireturn, 1) := by decide +kernel
def fx_Tabs_isTable (t : Int32) : Int32 := 
  if t < (0 : Int32) then (0 : Int32)
  else 
    if (2 : Int32) ≤ t then (0 : Int32)
    else (1 : Int32)
set_option maxHeartbeats 4000000 in
set_option maxRecDepth 100000 in
theorem kx_Tabs_isTable (l : Launch) (t : Int32) : Met l yX3_isTable wsX3_isTable ({ frames := 0, cells := 0, slots := 0, locals := 0 }) (fun v _ => v = ([.int t] : List Value).toArray) (vp_Si (fun r9 => r9 = fx_Tabs_isTable t)) 0 0 (fun _ => False) := by
  refine Met.ofW (cc := cX3_isTable) (maxL := 1) (ret := (some .boolean)) (by decide) rfl ?_
  intro p e s m args below meth c s₁ B hml hv
  subst hv
  have hx := B.exec
  have hb := B.bytes
  have hr := B.returns
  have hta := aw_hts (atoms_spec (ws := wsX3_isTable) B.pre)
  have hown : s.vm.findClass RX3 = some m.cls := findClass_of_methodNamed B.named
  have hlocks := B.notSynchronized
  have hl := lv_entry ([.int t]) (n := 1) (Nat.le_of_ble_eq_true rfl)
  rw [lg_entry_eq]
  generalize (lg_sl ([.int t]) ++ List.replicate (1 - (lg_sl ([.int t])).length) Slot.unset).toArray = ls at hl ⊢
  have hl : lv_has ls 1 [(0, .int t)] := hl
  generalize hR : fx_Tabs_isTable t = R
  rw [fx_Tabs_isTable] at hR
  refine lv_iload_n hx hb dX3_isTable_0 rfl (lv_at hl 0 rfl) ?_
  refine lv_if_lt (tgt := 13) hx hb dX3_isTable_1 (by decide) (fun c1 => ?_) (fun c1 => ?_)
  · skip
    rw [if_pos c1] at hR
    refine lv_iconst (v := (0 : Int32)) hx hb dX3_isTable_13 (by decide) ?_
    exact W.zret (v := (0 : Int32)) (ty := .boolean) hx hb hr rfl (fun t ht hW => ⟨_, rfl, hR, ht⟩) (fun q h => by cases h) dX3_isTable_14
  · skip
    rw [if_neg c1] at hR
    refine lv_iload_n hx hb dX3_isTable_4 rfl (lv_at hl 0 rfl) ?_
    refine lv_iconst (v := (2 : Int32)) hx hb dX3_isTable_5 (by decide) ?_
    refine lv_icmp_ge (tgt := 13) hx hb dX3_isTable_6 (by decide) (fun c6 => ?_) (fun c6 => ?_)
    · skip
      rw [if_pos c6] at hR
      refine lv_iconst (v := (0 : Int32)) hx hb dX3_isTable_13 (by decide) ?_
      exact W.zret (v := (0 : Int32)) (ty := .boolean) hx hb hr rfl (fun t ht hW => ⟨_, rfl, hR, ht⟩) (fun q h => by cases h) dX3_isTable_14
    · skip
      rw [if_neg c6] at hR
      refine lv_iconst (v := (1 : Int32)) hx hb dX3_isTable_9 (by decide) ?_
      refine lv_goto (tgt := 14) hx hb dX3_isTable_10 (by decide) ?_
      exact W.zret (v := (1 : Int32)) (ty := .boolean) hx hb hr rfl (fun t ht hW => ⟨_, rfl, hR, ht⟩) (fun q h => by cases h) dX3_isTable_14

theorem dX3_isPlace_0 : decode cX3_isPlace 0 = .ok (.iload_n 0, 1) := by decide +kernel
theorem dX3_isPlace_1 : decode cX3_isPlace 1 = .ok (.ifCond .lt 13, 3) := by decide +kernel
theorem dX3_isPlace_4 : decode cX3_isPlace 4 = .ok (.iload_n 0, 1) := by decide +kernel
theorem dX3_isPlace_5 : decode cX3_isPlace 5 = .ok (.bipush 8, 2) := by decide +kernel
theorem dX3_isPlace_7 : decode cX3_isPlace 7 = .ok (.if_icmp .ge 7, 3) := by decide +kernel
theorem dX3_isPlace_10 : decode cX3_isPlace 10 = .ok (.iconst 1, 1) := by decide +kernel
theorem dX3_isPlace_11 : decode cX3_isPlace 11 = .ok (.goto 4, 3) := by decide +kernel
theorem dX3_isPlace_14 : decode cX3_isPlace 14 = .ok (.iconst 0, 1) := by decide +kernel
theorem dX3_isPlace_15 : decode cX3_isPlace 15 = .ok (.ireturn, 1) := by decide +kernel
def fx_Tabs_isPlace (i : Int32) : Int32 := 
  if i < (0 : Int32) then (0 : Int32)
  else 
    if (8 : Int32) ≤ i then (0 : Int32)
    else (1 : Int32)
set_option maxHeartbeats 4000000 in
set_option maxRecDepth 100000 in
theorem kx_Tabs_isPlace (l : Launch) (i : Int32) : Met l yX3_isPlace wsX3_isPlace ({ frames := 0, cells := 0, slots := 0, locals := 0 }) (fun v _ => v = ([.int i] : List Value).toArray) (vp_Si (fun r9 => r9 = fx_Tabs_isPlace i)) 0 0 (fun _ => False) := by
  refine Met.ofW (cc := cX3_isPlace) (maxL := 1) (ret := (some .boolean)) (by decide) rfl ?_
  intro p e s m args below meth c s₁ B hml hv
  subst hv
  have hx := B.exec
  have hb := B.bytes
  have hr := B.returns
  have hta := aw_hts (atoms_spec (ws := wsX3_isPlace) B.pre)
  have hown : s.vm.findClass RX3 = some m.cls := findClass_of_methodNamed B.named
  have hlocks := B.notSynchronized
  have hl := lv_entry ([.int i]) (n := 1) (Nat.le_of_ble_eq_true rfl)
  rw [lg_entry_eq]
  generalize (lg_sl ([.int i]) ++ List.replicate (1 - (lg_sl ([.int i])).length) Slot.unset).toArray = ls at hl ⊢
  have hl : lv_has ls 1 [(0, .int i)] := hl
  generalize hR : fx_Tabs_isPlace i = R
  rw [fx_Tabs_isPlace] at hR
  refine lv_iload_n hx hb dX3_isPlace_0 rfl (lv_at hl 0 rfl) ?_
  refine lv_if_lt (tgt := 14) hx hb dX3_isPlace_1 (by decide) (fun c1 => ?_) (fun c1 => ?_)
  · skip
    rw [if_pos c1] at hR
    refine lv_iconst (v := (0 : Int32)) hx hb dX3_isPlace_14 (by decide) ?_
    exact W.zret (v := (0 : Int32)) (ty := .boolean) hx hb hr rfl (fun t ht hW => ⟨_, rfl, hR, ht⟩) (fun q h => by cases h) dX3_isPlace_15
  · skip
    rw [if_neg c1] at hR
    refine lv_iload_n hx hb dX3_isPlace_4 rfl (lv_at hl 0 rfl) ?_
    refine lv_bipush (v := (8 : Int32)) hx hb dX3_isPlace_5 (by decide) ?_
    refine lv_icmp_ge (tgt := 14) hx hb dX3_isPlace_7 (by decide) (fun c7 => ?_) (fun c7 => ?_)
    · skip
      rw [if_pos c7] at hR
      refine lv_iconst (v := (0 : Int32)) hx hb dX3_isPlace_14 (by decide) ?_
      exact W.zret (v := (0 : Int32)) (ty := .boolean) hx hb hr rfl (fun t ht hW => ⟨_, rfl, hR, ht⟩) (fun q h => by cases h) dX3_isPlace_15
    · skip
      rw [if_neg c7] at hR
      refine lv_iconst (v := (1 : Int32)) hx hb dX3_isPlace_10 (by decide) ?_
      refine lv_goto (tgt := 15) hx hb dX3_isPlace_11 (by decide) ?_
      exact W.zret (v := (1 : Int32)) (ty := .boolean) hx hb hr rfl (fun t ht hW => ⟨_, rfl, hR, ht⟩) (fun q h => by cases h) dX3_isPlace_15

theorem mw_88 : (.fieldLink RX3 9 RX3 "entries" "[J" : Cond) ∈ AW := List.mem_filter.mpr ⟨List.mem_of_getElem? (i := 88) (by decide +kernel), rfl⟩
theorem mw_295 : (.methodLink RX3 13 yX0_readSigned : Cond) ∈ AW := List.mem_filter.mpr ⟨List.mem_of_getElem? (i := 295) (by decide +kernel), rfl⟩
theorem gX3_13 : GoodIn AW (va_wsS RX3 13 yX0_readSigned wsX0_readSigned) := aw_S mw_295 mw_274 mw_47 mw_275
theorem dX3_set_0 : decode cX3_set 0 = .ok (.aload_n 0, 1) := by decide +kernel
theorem dX3_set_1 : decode cX3_set 1 = .ok (.getfield 9, 3) := by decide +kernel
theorem dX3_set_4 : decode cX3_set 4 = .ok (.iload_n 1, 1) := by decide +kernel
theorem dX3_set_5 : decode cX3_set 5 = .ok (.bipush 8, 2) := by decide +kernel
theorem dX3_set_7 : decode cX3_set 7 = .ok (.imul, 1) := by decide +kernel
theorem dX3_set_8 : decode cX3_set 8 = .ok (.iload_n 2, 1) := by decide +kernel
theorem dX3_set_9 : decode cX3_set 9 = .ok (.iadd, 1) := by decide +kernel
theorem dX3_set_10 : decode cX3_set 10 = .ok (.bipush 8, 2) := by decide +kernel
theorem dX3_set_12 : decode cX3_set 12 = .ok (.iload_n 3, 1) := by decide +kernel
theorem dX3_set_13 : decode cX3_set 13 = .ok (.i2l, 1) := by decide +kernel
theorem dX3_set_14 : decode cX3_set 14 = .ok (.invokestatic 13, 3) := by decide +kernel
theorem dX3_set_17 : decode cX3_set 17 = .ok (.lastore, 1) := by decide +kernel
theorem dX3_set_18 : decode cX3_set 18 = .ok (.return_, 1) := by decide +kernel
def fx_Tabs_set (st : XS) (t : Int32) (i : Int32) (v : Int32) : XS := wL st 0 (((t * (8 : Int32)) + i).toNatClampNeg) (fx_Width_readSigned (8 : Int32) v.toInt64)
theorem ff_Tabs_set (st : XS) (t : Int32) (i : Int32) (v : Int32) : XF [] [] [0] st (fx_Tabs_set st t i v) := by
  rw [fx_Tabs_set]
  exact (XF.wL (by decide) XF.rf)
set_option maxHeartbeats 4000000 in
set_option maxRecDepth 100000 in
theorem kx_Tabs_set (l : Launch) (dC : Nat → ClassId) (dI : Nat → Nat → Nat) (a : Nat → Nat) (k : Nat → ClassId) (st : XS) (t : Int32) (i : Int32) (v : Int32) (sz : Nat) (hi : vp_in (t * (8 : Int32) + i) 16) : Met l yX3_set wsX3_set ({ frames := 1, cells := 0, slots := 0, locals := 23 }) (va_Pc [.ref (a 5), .int t, .int i, .int v] (wl_pre (dC, dI) vwCl (xt k) (xw a k) st sz)) (va_Qv (fun u9 => u9 = fx_Tabs_set st t i v) (wl_at (dC, dI) vwCl (xt k) (xw a k) (va_A (xw a k st) sz)) (va_A (xw a k st) sz)) 0 0 (va_A (xw a k st) sz) := by
  refine Met.ofW (cc := cX3_set) (maxL := 4) (ret := none) (by decide) rfl ?_
  intro p e s m args below meth c s₁ B hml hv
  obtain ⟨rfl, hsz, hP, hK, hD0⟩ := hv
  have hx := B.exec
  have hb := B.bytes
  have hr := B.returns
  have hta := aw_hts (atoms_spec (ws := wsX3_set) B.pre)
  have hown : s.vm.findClass RX3 = some m.cls := findClass_of_methodNamed B.named
  have hlocks := B.notSynchronized
  have hf9 := hta _ mw_88
  subst hsz
  have hD := hD0.self (sz := s.heap.size)
  generalize hAe : va_A (xw a k st) s.heap.size = A at hD ⊢
  have hAz : ∀ q : Nat, s.heap.size ≤ q → A q := fun q h => by rw [← hAe]; exact Or.inr h
  have hS : va_S A s.heap s.heap [] := va_S.rf
  have hl := lv_entry ([.ref (a 5), .int t, .int i, .int v]) (n := 4) (Nat.le_of_ble_eq_true rfl)
  rw [lg_entry_eq]
  generalize (lg_sl ([.ref (a 5), .int t, .int i, .int v]) ++ List.replicate (4 - (lg_sl ([.ref (a 5), .int t, .int i, .int v])).length) Slot.unset).toArray = ls at hl ⊢
  have hl : lv_has ls 4 [(0, .ref (a 5)), (1, .int t), (2, .int i), (3, .int v)] := hl
  generalize hR : fx_Tabs_set st t i v = R
  rw [fx_Tabs_set] at hR
  refine lv_aload_n hx hb dX3_set_0 rfl (lv_at hl 0 rfl) ?_
  refine va_get (D := (dC, dI)) (ci := 1) (v := .ref (a 6)) (C := RX3) (T := TX3) (N := 1) hx hb hta inX3 hown hK hP 5 (xr_5 a k st) rfl 0 (by decide) hf9 (fun _ h9 => h9) rfl dX3_set_1 ?_
  refine lv_iload_n hx hb dX3_set_4 rfl (lv_at hl 1 rfl) ?_
  refine lv_bipush (v := (8 : Int32)) hx hb dX3_set_5 (by decide) ?_
  refine lv_imul hx hb dX3_set_7 ?_
  refine lv_iload_n hx hb dX3_set_8 rfl (lv_at hl 2 rfl) ?_
  refine lv_iadd hx hb dX3_set_9 ?_
  refine lv_bipush (v := (8 : Int32)) hx hb dX3_set_10 (by decide) ?_
  refine lv_iload_n hx hb dX3_set_12 rfl (lv_at hl 3 rfl) ?_
  refine lv_i2l (v := v.toInt64) hx hb dX3_set_13 rfl ?_
  refine wl_cl (va_runS (As := [.int (8 : Int32), .long v.toInt64]) (rest := [.int ((t * (8 : Int32)) + i), .ref (a 6)]) ⟨hx, hb, hml, hown, hta⟩ (kx_Width_readSigned l (8 : Int32) v.toInt64) (va_cwS 2 hta gX3_13 rfl rfl rfl (by decide +kernel) ⟨Nat.le_of_ble_eq_true rfl, Nat.le_of_ble_eq_true rfl⟩) preEq rfl rfl hl.1 rfl (lv_room (Nat.le_of_ble_eq_true rfl)) dX3_set_14 ⟨Nat.zero_le _, Nat.zero_le _⟩) ?_
  refine va_last hx hb hK hP hD hS 6 3 (xr_6 a k st) rfl hi dX3_set_17 (fun H locs hP hD hS => ?_)
  have hP := xp_L0 hP
  have hD := xd_L0 hD
  exact W.vret hx hb hr (fun t ht hW => ⟨⟨_, rfl, hR, by rw [ht]; exact hP, va_K.moved hW.alike hK, hD⟩, hS.F ht⟩) hS.2.2 dX3_set_18

theorem mw_381 : (.constantLong RX3 19 (7) : Cond) ∈ AW := List.mem_filter.mpr ⟨List.mem_of_getElem? (i := 381) (by decide +kernel), rfl⟩
theorem dX3_lookUp_0 : decode cX3_lookUp 0 = .ok (.aload_n 0, 1) := by decide +kernel
theorem dX3_lookUp_1 : decode cX3_lookUp 1 = .ok (.getfield 9, 3) := by decide +kernel
theorem dX3_lookUp_4 : decode cX3_lookUp 4 = .ok (.iload_n 1, 1) := by decide +kernel
theorem dX3_lookUp_5 : decode cX3_lookUp 5 = .ok (.bipush 8, 2) := by decide +kernel
theorem dX3_lookUp_7 : decode cX3_lookUp 7 = .ok (.imul, 1) := by decide +kernel
theorem dX3_lookUp_8 : decode cX3_lookUp 8 = .ok (.lload_n 2, 1) := by decide +kernel
theorem dX3_lookUp_9 : decode cX3_lookUp 9 = .ok (.ldc2_w 19, 3) := by decide +kernel
theorem dX3_lookUp_12 : decode cX3_lookUp 12 = .ok (.land, 1) := by decide +kernel
theorem dX3_lookUp_13 : decode cX3_lookUp 13 = .ok (.l2i, 1) := by decide +kernel
theorem dX3_lookUp_14 : decode cX3_lookUp 14 = .ok (.iadd, 1) := by decide +kernel
theorem dX3_lookUp_15 : decode cX3_lookUp 15 = .ok (.laload, 1) := by decide +kernel
theorem dX3_lookUp_16 : decode cX3_lookUp 16 = .ok (.lreturn, 1) := by decide +kernel
def fx_Tabs_lookUp (st : XS) (t : Int32) (x : Int64) : Int64 := fL st 0 ((t * (8 : Int32)) + ((x &&& (7 : Int64)).toInt32)).toNatClampNeg
set_option maxHeartbeats 4000000 in
set_option maxRecDepth 100000 in
theorem kx_Tabs_lookUp (l : Launch) (dC : Nat → ClassId) (dI : Nat → Nat → Nat) (a : Nat → Nat) (k : Nat → ClassId) (st : XS) (t : Int32) (x : Int64) (hi : vp_in (t * (8 : Int32) + (x &&& (7 : Int64)).toInt32) 16) : Met l yX3_lookUp wsX3_lookUp ({ frames := 0, cells := 0, slots := 0, locals := 0 }) (va_Pc [.ref (a 5), .int t, .long x] (wl_prR (dC, dI) vwCl (xt k) (xw a k st))) (vp_Sl (fun r9 => r9 = fx_Tabs_lookUp st t x)) 0 0 (fun _ => False) := by
  refine Met.ofW (cc := cX3_lookUp) (maxL := 4) (ret := (some .long)) (by decide) rfl ?_
  intro p e s m args below meth c s₁ B hml hv
  obtain ⟨rfl, hP, hK⟩ := hv
  have hx := B.exec
  have hb := B.bytes
  have hr := B.returns
  have hta := aw_hts (atoms_spec (ws := wsX3_lookUp) B.pre)
  have hown : s.vm.findClass RX3 = some m.cls := findClass_of_methodNamed B.named
  have hlocks := B.notSynchronized
  have hf9 := hta _ mw_88
  have hc19 := hta _ mw_381
  have hl := lv_entry ([.ref (a 5), .int t, .long x]) (n := 4) (Nat.le_of_ble_eq_true rfl)
  rw [lg_entry_eq]
  generalize (lg_sl ([.ref (a 5), .int t, .long x]) ++ List.replicate (4 - (lg_sl ([.ref (a 5), .int t, .long x])).length) Slot.unset).toArray = ls at hl ⊢
  have hl : lv_has ls 4 [(0, .ref (a 5)), (1, .int t), (2, .long x)] := hl
  generalize hR : fx_Tabs_lookUp st t x = R
  rw [fx_Tabs_lookUp] at hR
  refine lv_aload_n hx hb dX3_lookUp_0 rfl (lv_at hl 0 rfl) ?_
  refine va_get (D := (dC, dI)) (ci := 1) (v := .ref (a 6)) (C := RX3) (T := TX3) (N := 1) hx hb hta inX3 hown hK hP 5 (xr_5 a k st) rfl 0 (by decide) hf9 (fun _ h9 => h9) rfl dX3_lookUp_1 ?_
  refine lv_iload_n hx hb dX3_lookUp_4 rfl (lv_at hl 1 rfl) ?_
  refine lv_bipush (v := (8 : Int32)) hx hb dX3_lookUp_5 (by decide) ?_
  refine lv_imul hx hb dX3_lookUp_7 ?_
  refine lv_lload_n hx hb dX3_lookUp_8 rfl (lv_at hl 2 rfl) ?_
  refine lv_ldc2 (v := (7 : Int64)) hx hb hown hc19 dX3_lookUp_9 ?_
  refine lv_land hx hb dX3_lookUp_12 ?_
  refine lv_l2i (v := (x &&& (7 : Int64)).toInt32) hx hb dX3_lookUp_13 rfl ?_
  refine lv_iadd hx hb dX3_lookUp_14 ?_
  refine va_lald hx hb hK hP 6 3 (xr_6 a k st) rfl hi dX3_lookUp_15 ?_
  exact W.lret (v := fL st 0 ((t * (8 : Int32)) + ((x &&& (7 : Int64)).toInt32)).toNatClampNeg) hx hb hr (fun t ht hW => ⟨_, rfl, hR, ht⟩) (fun q h => by cases h) dX3_lookUp_16

theorem mw_104 : (.fieldLink RX4 28 RX4 "size" "I" : Cond) ∈ AW := List.mem_filter.mpr ⟨List.mem_of_getElem? (i := 104) (by decide +kernel), rfl⟩
theorem dX4_size_0 : decode cX4_size 0 = .ok (.aload_n 0, 1) := by decide +kernel
theorem dX4_size_1 : decode cX4_size 1 = .ok (.getfield 28, 3) := by decide +kernel
theorem dX4_size_4 : decode cX4_size 4 = .ok (.ireturn, 1) := by decide +kernel
def fx_Terms_size (st : XS) : Int32 := gI st 6
set_option maxHeartbeats 4000000 in
set_option maxRecDepth 100000 in
theorem kx_Terms_size (l : Launch) (dC : Nat → ClassId) (dI : Nat → Nat → Nat) (a : Nat → Nat) (k : Nat → ClassId) (st : XS) : Met l yX4_size wsX4_size ({ frames := 0, cells := 0, slots := 0, locals := 0 }) (va_Pc [.ref (a 7)] (wl_prR (dC, dI) vwCl (xt k) (xw a k st))) (vp_Si (fun r9 => r9 = fx_Terms_size st)) 0 0 (fun _ => False) := by
  refine Met.ofW (cc := cX4_size) (maxL := 1) (ret := (some .int)) (by decide) rfl ?_
  intro p e s m args below meth c s₁ B hml hv
  obtain ⟨rfl, hP, hK⟩ := hv
  have hx := B.exec
  have hb := B.bytes
  have hr := B.returns
  have hta := aw_hts (atoms_spec (ws := wsX4_size) B.pre)
  have hown : s.vm.findClass RX4 = some m.cls := findClass_of_methodNamed B.named
  have hlocks := B.notSynchronized
  have hf28 := hta _ mw_104
  have hl := lv_entry ([.ref (a 7)]) (n := 1) (Nat.le_of_ble_eq_true rfl)
  rw [lg_entry_eq]
  generalize (lg_sl ([.ref (a 7)]) ++ List.replicate (1 - (lg_sl ([.ref (a 7)])).length) Slot.unset).toArray = ls at hl ⊢
  have hl : lv_has ls 1 [(0, .ref (a 7))] := hl
  generalize hR : fx_Terms_size st = R
  rw [fx_Terms_size] at hR
  refine lv_aload_n hx hb dX4_size_0 rfl (lv_at hl 0 rfl) ?_
  refine va_get (D := (dC, dI)) (ci := 2) (v := .int (gI st 6)) (C := RX4) (T := TX4) (N := 7) hx hb hta inX4 hown hK hP 7 (xr_7 a k st) rfl 5 (by decide) hf28 (fun _ h9 => h9) rfl dX4_size_1 ?_
  exact W.iret (v := gI st 6) hx hb hr (fun t ht hW => ⟨_, rfl, hR, ht⟩) (fun q h => by cases h) dX4_size_4

theorem mw_105 : (.fieldLink RX4 32 RX4 "totalCost" "I" : Cond) ∈ AW := List.mem_filter.mpr ⟨List.mem_of_getElem? (i := 105) (by decide +kernel), rfl⟩
theorem dX4_totalCost_0 : decode cX4_totalCost 0 = .ok (.aload_n 0, 1) := by decide +kernel
theorem dX4_totalCost_1 : decode cX4_totalCost 1 = .ok (.getfield 32, 3) := by decide +kernel
theorem dX4_totalCost_4 : decode cX4_totalCost 4 = .ok (.ireturn, 1) := by decide +kernel
def fx_Terms_totalCost (st : XS) : Int32 := gI st 7
set_option maxHeartbeats 4000000 in
set_option maxRecDepth 100000 in
theorem kx_Terms_totalCost (l : Launch) (dC : Nat → ClassId) (dI : Nat → Nat → Nat) (a : Nat → Nat) (k : Nat → ClassId) (st : XS) : Met l yX4_totalCost wsX4_totalCost ({ frames := 0, cells := 0, slots := 0, locals := 0 }) (va_Pc [.ref (a 7)] (wl_prR (dC, dI) vwCl (xt k) (xw a k st))) (vp_Si (fun r9 => r9 = fx_Terms_totalCost st)) 0 0 (fun _ => False) := by
  refine Met.ofW (cc := cX4_totalCost) (maxL := 1) (ret := (some .int)) (by decide) rfl ?_
  intro p e s m args below meth c s₁ B hml hv
  obtain ⟨rfl, hP, hK⟩ := hv
  have hx := B.exec
  have hb := B.bytes
  have hr := B.returns
  have hta := aw_hts (atoms_spec (ws := wsX4_totalCost) B.pre)
  have hown : s.vm.findClass RX4 = some m.cls := findClass_of_methodNamed B.named
  have hlocks := B.notSynchronized
  have hf32 := hta _ mw_105
  have hl := lv_entry ([.ref (a 7)]) (n := 1) (Nat.le_of_ble_eq_true rfl)
  rw [lg_entry_eq]
  generalize (lg_sl ([.ref (a 7)]) ++ List.replicate (1 - (lg_sl ([.ref (a 7)])).length) Slot.unset).toArray = ls at hl ⊢
  have hl : lv_has ls 1 [(0, .ref (a 7))] := hl
  generalize hR : fx_Terms_totalCost st = R
  rw [fx_Terms_totalCost] at hR
  refine lv_aload_n hx hb dX4_totalCost_0 rfl (lv_at hl 0 rfl) ?_
  refine va_get (D := (dC, dI)) (ci := 2) (v := .int (gI st 7)) (C := RX4) (T := TX4) (N := 7) hx hb hta inX4 hown hK hP 7 (xr_7 a k st) rfl 6 (by decide) hf32 (fun _ h9 => h9) rfl dX4_totalCost_1 ?_
  exact W.iret (v := gI st 7) hx hb hr (fun t ht hW => ⟨_, rfl, hR, ht⟩) (fun q h => by cases h) dX4_totalCost_4

theorem dX4_isFull_0 : decode cX4_isFull 0 = .ok (.aload_n 0, 1) := by decide +kernel
theorem dX4_isFull_1 : decode cX4_isFull 1 = .ok (.getfield 28, 3) := by decide +kernel
theorem dX4_isFull_4 : decode cX4_isFull 4 = .ok (.bipush 64, 2) := by decide +kernel
theorem dX4_isFull_6 : decode cX4_isFull 6 = .ok (.if_icmp .lt 7, 3) := by decide +kernel
theorem dX4_isFull_9 : decode cX4_isFull 9 = .ok (.iconst 1, 1) := by decide +kernel
theorem dX4_isFull_10 : decode cX4_isFull 10 = .ok (.goto 4, 3) := by decide +kernel
theorem dX4_isFull_13 : decode cX4_isFull 13 = .ok (.iconst 0, 1) := by decide +kernel
theorem dX4_isFull_14 : decode cX4_isFull 14 = .ok (.ireturn, 1) := by decide +kernel
def fx_Terms_isFull (st : XS) : Int32 := 
  if gI st 6 < (64 : Int32) then (0 : Int32)
  else (1 : Int32)
set_option maxHeartbeats 4000000 in
set_option maxRecDepth 100000 in
theorem kx_Terms_isFull (l : Launch) (dC : Nat → ClassId) (dI : Nat → Nat → Nat) (a : Nat → Nat) (k : Nat → ClassId) (st : XS) : Met l yX4_isFull wsX4_isFull ({ frames := 0, cells := 0, slots := 0, locals := 0 }) (va_Pc [.ref (a 7)] (wl_prR (dC, dI) vwCl (xt k) (xw a k st))) (vp_Si (fun r9 => r9 = fx_Terms_isFull st)) 0 0 (fun _ => False) := by
  refine Met.ofW (cc := cX4_isFull) (maxL := 1) (ret := (some .boolean)) (by decide) rfl ?_
  intro p e s m args below meth c s₁ B hml hv
  obtain ⟨rfl, hP, hK⟩ := hv
  have hx := B.exec
  have hb := B.bytes
  have hr := B.returns
  have hta := aw_hts (atoms_spec (ws := wsX4_isFull) B.pre)
  have hown : s.vm.findClass RX4 = some m.cls := findClass_of_methodNamed B.named
  have hlocks := B.notSynchronized
  have hf28 := hta _ mw_104
  have hl := lv_entry ([.ref (a 7)]) (n := 1) (Nat.le_of_ble_eq_true rfl)
  rw [lg_entry_eq]
  generalize (lg_sl ([.ref (a 7)]) ++ List.replicate (1 - (lg_sl ([.ref (a 7)])).length) Slot.unset).toArray = ls at hl ⊢
  have hl : lv_has ls 1 [(0, .ref (a 7))] := hl
  generalize hR : fx_Terms_isFull st = R
  rw [fx_Terms_isFull] at hR
  refine lv_aload_n hx hb dX4_isFull_0 rfl (lv_at hl 0 rfl) ?_
  refine va_get (D := (dC, dI)) (ci := 2) (v := .int (gI st 6)) (C := RX4) (T := TX4) (N := 7) hx hb hta inX4 hown hK hP 7 (xr_7 a k st) rfl 5 (by decide) hf28 (fun _ h9 => h9) rfl dX4_isFull_1 ?_
  refine lv_bipush (v := (64 : Int32)) hx hb dX4_isFull_4 (by decide) ?_
  refine lv_icmp_lt (tgt := 13) hx hb dX4_isFull_6 (by decide) (fun c6 => ?_) (fun c6 => ?_)
  · skip
    rw [if_pos c6] at hR
    refine lv_iconst (v := (0 : Int32)) hx hb dX4_isFull_13 (by decide) ?_
    exact W.zret (v := (0 : Int32)) (ty := .boolean) hx hb hr rfl (fun t ht hW => ⟨_, rfl, hR, ht⟩) (fun q h => by cases h) dX4_isFull_14
  · skip
    rw [if_neg c6] at hR
    refine lv_iconst (v := (1 : Int32)) hx hb dX4_isFull_9 (by decide) ?_
    refine lv_goto (tgt := 14) hx hb dX4_isFull_10 (by decide) ?_
    exact W.zret (v := (1 : Int32)) (ty := .boolean) hx hb hr rfl (fun t ht hW => ⟨_, rfl, hR, ht⟩) (fun q h => by cases h) dX4_isFull_14

theorem dX4_has_0 : decode cX4_has 0 = .ok (.iload_n 1, 1) := by decide +kernel
theorem dX4_has_1 : decode cX4_has 1 = .ok (.ifCond .lt 15, 3) := by decide +kernel
theorem dX4_has_4 : decode cX4_has 4 = .ok (.iload_n 1, 1) := by decide +kernel
theorem dX4_has_5 : decode cX4_has 5 = .ok (.aload_n 0, 1) := by decide +kernel
theorem dX4_has_6 : decode cX4_has 6 = .ok (.getfield 28, 3) := by decide +kernel
theorem dX4_has_9 : decode cX4_has 9 = .ok (.if_icmp .ge 7, 3) := by decide +kernel
theorem dX4_has_12 : decode cX4_has 12 = .ok (.iconst 1, 1) := by decide +kernel
theorem dX4_has_13 : decode cX4_has 13 = .ok (.goto 4, 3) := by decide +kernel
theorem dX4_has_16 : decode cX4_has 16 = .ok (.iconst 0, 1) := by decide +kernel
theorem dX4_has_17 : decode cX4_has 17 = .ok (.ireturn, 1) := by decide +kernel
def fx_Terms_has (st : XS) (t : Int32) : Int32 := 
  if t < (0 : Int32) then (0 : Int32)
  else 
    if gI st 6 ≤ t then (0 : Int32)
    else (1 : Int32)
set_option maxHeartbeats 4000000 in
set_option maxRecDepth 100000 in
theorem kx_Terms_has (l : Launch) (dC : Nat → ClassId) (dI : Nat → Nat → Nat) (a : Nat → Nat) (k : Nat → ClassId) (st : XS) (t : Int32) : Met l yX4_has wsX4_has ({ frames := 0, cells := 0, slots := 0, locals := 0 }) (va_Pc [.ref (a 7), .int t] (wl_prR (dC, dI) vwCl (xt k) (xw a k st))) (vp_Si (fun r9 => r9 = fx_Terms_has st t)) 0 0 (fun _ => False) := by
  refine Met.ofW (cc := cX4_has) (maxL := 2) (ret := (some .boolean)) (by decide) rfl ?_
  intro p e s m args below meth c s₁ B hml hv
  obtain ⟨rfl, hP, hK⟩ := hv
  have hx := B.exec
  have hb := B.bytes
  have hr := B.returns
  have hta := aw_hts (atoms_spec (ws := wsX4_has) B.pre)
  have hown : s.vm.findClass RX4 = some m.cls := findClass_of_methodNamed B.named
  have hlocks := B.notSynchronized
  have hf28 := hta _ mw_104
  have hl := lv_entry ([.ref (a 7), .int t]) (n := 2) (Nat.le_of_ble_eq_true rfl)
  rw [lg_entry_eq]
  generalize (lg_sl ([.ref (a 7), .int t]) ++ List.replicate (2 - (lg_sl ([.ref (a 7), .int t])).length) Slot.unset).toArray = ls at hl ⊢
  have hl : lv_has ls 2 [(0, .ref (a 7)), (1, .int t)] := hl
  generalize hR : fx_Terms_has st t = R
  rw [fx_Terms_has] at hR
  refine lv_iload_n hx hb dX4_has_0 rfl (lv_at hl 1 rfl) ?_
  refine lv_if_lt (tgt := 16) hx hb dX4_has_1 (by decide) (fun c1 => ?_) (fun c1 => ?_)
  · skip
    rw [if_pos c1] at hR
    refine lv_iconst (v := (0 : Int32)) hx hb dX4_has_16 (by decide) ?_
    exact W.zret (v := (0 : Int32)) (ty := .boolean) hx hb hr rfl (fun t ht hW => ⟨_, rfl, hR, ht⟩) (fun q h => by cases h) dX4_has_17
  · skip
    rw [if_neg c1] at hR
    refine lv_iload_n hx hb dX4_has_4 rfl (lv_at hl 1 rfl) ?_
    refine lv_aload_n hx hb dX4_has_5 rfl (lv_at hl 0 rfl) ?_
    refine va_get (D := (dC, dI)) (ci := 2) (v := .int (gI st 6)) (C := RX4) (T := TX4) (N := 7) hx hb hta inX4 hown hK hP 7 (xr_7 a k st) rfl 5 (by decide) hf28 (fun _ h9 => h9) rfl dX4_has_6 ?_
    refine lv_icmp_ge (tgt := 16) hx hb dX4_has_9 (by decide) (fun c9 => ?_) (fun c9 => ?_)
    · skip
      rw [if_pos c9] at hR
      refine lv_iconst (v := (0 : Int32)) hx hb dX4_has_16 (by decide) ?_
      exact W.zret (v := (0 : Int32)) (ty := .boolean) hx hb hr rfl (fun t ht hW => ⟨_, rfl, hR, ht⟩) (fun q h => by cases h) dX4_has_17
    · skip
      rw [if_neg c9] at hR
      refine lv_iconst (v := (1 : Int32)) hx hb dX4_has_12 (by decide) ?_
      refine lv_goto (tgt := 17) hx hb dX4_has_13 (by decide) ?_
      exact W.zret (v := (1 : Int32)) (ty := .boolean) hx hb hr rfl (fun t ht hW => ⟨_, rfl, hR, ht⟩) (fun q h => by cases h) dX4_has_17

theorem mw_100 : (.fieldLink RX4 15 RX4 "widths" "[I" : Cond) ∈ AW := List.mem_filter.mpr ⟨List.mem_of_getElem? (i := 100) (by decide +kernel), rfl⟩
theorem dX4_widthOf_0 : decode cX4_widthOf 0 = .ok (.aload_n 0, 1) := by decide +kernel
theorem dX4_widthOf_1 : decode cX4_widthOf 1 = .ok (.getfield 15, 3) := by decide +kernel
theorem dX4_widthOf_4 : decode cX4_widthOf 4 = .ok (.iload_n 1, 1) := by decide +kernel
theorem dX4_widthOf_5 : decode cX4_widthOf 5 = .ok (.iaload, 1) := by decide +kernel
theorem dX4_widthOf_6 : decode cX4_widthOf 6 = .ok (.ireturn, 1) := by decide +kernel
def fx_Terms_widthOf (st : XS) (t : Int32) : Int32 := fA st 4 t.toNatClampNeg
set_option maxHeartbeats 4000000 in
set_option maxRecDepth 100000 in
theorem kx_Terms_widthOf (l : Launch) (dC : Nat → ClassId) (dI : Nat → Nat → Nat) (a : Nat → Nat) (k : Nat → ClassId) (st : XS) (t : Int32) (hi : vp_in t 64) : Met l yX4_widthOf wsX4_widthOf ({ frames := 0, cells := 0, slots := 0, locals := 0 }) (va_Pc [.ref (a 7), .int t] (wl_prR (dC, dI) vwCl (xt k) (xw a k st))) (vp_Si (fun r9 => r9 = fx_Terms_widthOf st t)) 0 0 (fun _ => False) := by
  refine Met.ofW (cc := cX4_widthOf) (maxL := 2) (ret := (some .int)) (by decide) rfl ?_
  intro p e s m args below meth c s₁ B hml hv
  obtain ⟨rfl, hP, hK⟩ := hv
  have hx := B.exec
  have hb := B.bytes
  have hr := B.returns
  have hta := aw_hts (atoms_spec (ws := wsX4_widthOf) B.pre)
  have hown : s.vm.findClass RX4 = some m.cls := findClass_of_methodNamed B.named
  have hlocks := B.notSynchronized
  have hf15 := hta _ mw_100
  have hl := lv_entry ([.ref (a 7), .int t]) (n := 2) (Nat.le_of_ble_eq_true rfl)
  rw [lg_entry_eq]
  generalize (lg_sl ([.ref (a 7), .int t]) ++ List.replicate (2 - (lg_sl ([.ref (a 7), .int t])).length) Slot.unset).toArray = ls at hl ⊢
  have hl : lv_has ls 2 [(0, .ref (a 7)), (1, .int t)] := hl
  generalize hR : fx_Terms_widthOf st t = R
  rw [fx_Terms_widthOf] at hR
  refine lv_aload_n hx hb dX4_widthOf_0 rfl (lv_at hl 0 rfl) ?_
  refine va_get (D := (dC, dI)) (ci := 2) (v := .ref (a 9)) (C := RX4) (T := TX4) (N := 7) hx hb hta inX4 hown hK hP 7 (xr_7 a k st) rfl 1 (by decide) hf15 (fun _ h9 => h9) rfl dX4_widthOf_1 ?_
  refine lv_iload_n hx hb dX4_widthOf_4 rfl (lv_at hl 1 rfl) ?_
  refine va_iald hx hb hK hP 9 5 (xr_9 a k st) rfl hi dX4_widthOf_5 ?_
  exact W.iret (v := fA st 4 t.toNatClampNeg) hx hb hr (fun t ht hW => ⟨_, rfl, hR, ht⟩) (fun q h => by cases h) dX4_widthOf_6

theorem mw_99 : (.fieldLink RX4 11 RX4 "operations" "[I" : Cond) ∈ AW := List.mem_filter.mpr ⟨List.mem_of_getElem? (i := 99) (by decide +kernel), rfl⟩
theorem dX4_operationOf_0 : decode cX4_operationOf 0 = .ok (.aload_n 0, 1) := by decide +kernel
theorem dX4_operationOf_1 : decode cX4_operationOf 1 = .ok (.getfield 11, 3) := by decide +kernel
theorem dX4_operationOf_4 : decode cX4_operationOf 4 = .ok (.iload_n 1, 1) := by decide +kernel
theorem dX4_operationOf_5 : decode cX4_operationOf 5 = .ok (.iaload, 1) := by decide +kernel
theorem dX4_operationOf_6 : decode cX4_operationOf 6 = .ok (.ireturn, 1) := by decide +kernel
def fx_Terms_operationOf (st : XS) (t : Int32) : Int32 := fA st 3 t.toNatClampNeg
set_option maxHeartbeats 4000000 in
set_option maxRecDepth 100000 in
theorem kx_Terms_operationOf (l : Launch) (dC : Nat → ClassId) (dI : Nat → Nat → Nat) (a : Nat → Nat) (k : Nat → ClassId) (st : XS) (t : Int32) (hi : vp_in t 64) : Met l yX4_operationOf wsX4_operationOf ({ frames := 0, cells := 0, slots := 0, locals := 0 }) (va_Pc [.ref (a 7), .int t] (wl_prR (dC, dI) vwCl (xt k) (xw a k st))) (vp_Si (fun r9 => r9 = fx_Terms_operationOf st t)) 0 0 (fun _ => False) := by
  refine Met.ofW (cc := cX4_operationOf) (maxL := 2) (ret := (some .int)) (by decide) rfl ?_
  intro p e s m args below meth c s₁ B hml hv
  obtain ⟨rfl, hP, hK⟩ := hv
  have hx := B.exec
  have hb := B.bytes
  have hr := B.returns
  have hta := aw_hts (atoms_spec (ws := wsX4_operationOf) B.pre)
  have hown : s.vm.findClass RX4 = some m.cls := findClass_of_methodNamed B.named
  have hlocks := B.notSynchronized
  have hf11 := hta _ mw_99
  have hl := lv_entry ([.ref (a 7), .int t]) (n := 2) (Nat.le_of_ble_eq_true rfl)
  rw [lg_entry_eq]
  generalize (lg_sl ([.ref (a 7), .int t]) ++ List.replicate (2 - (lg_sl ([.ref (a 7), .int t])).length) Slot.unset).toArray = ls at hl ⊢
  have hl : lv_has ls 2 [(0, .ref (a 7)), (1, .int t)] := hl
  generalize hR : fx_Terms_operationOf st t = R
  rw [fx_Terms_operationOf] at hR
  refine lv_aload_n hx hb dX4_operationOf_0 rfl (lv_at hl 0 rfl) ?_
  refine va_get (D := (dC, dI)) (ci := 2) (v := .ref (a 8)) (C := RX4) (T := TX4) (N := 7) hx hb hta inX4 hown hK hP 7 (xr_7 a k st) rfl 0 (by decide) hf11 (fun _ h9 => h9) rfl dX4_operationOf_1 ?_
  refine lv_iload_n hx hb dX4_operationOf_4 rfl (lv_at hl 1 rfl) ?_
  refine va_iald hx hb hK hP 8 4 (xr_8 a k st) rfl hi dX4_operationOf_5 ?_
  exact W.iret (v := fA st 3 t.toNatClampNeg) hx hb hr (fun t ht hW => ⟨_, rfl, hR, ht⟩) (fun q h => by cases h) dX4_operationOf_6

theorem mw_101 : (.fieldLink RX4 18 RX4 "operands" "[I" : Cond) ∈ AW := List.mem_filter.mpr ⟨List.mem_of_getElem? (i := 101) (by decide +kernel), rfl⟩
theorem dX4_operandOf_0 : decode cX4_operandOf 0 = .ok (.aload_n 0, 1) := by decide +kernel
theorem dX4_operandOf_1 : decode cX4_operandOf 1 = .ok (.getfield 18, 3) := by decide +kernel
theorem dX4_operandOf_4 : decode cX4_operandOf 4 = .ok (.iload_n 1, 1) := by decide +kernel
theorem dX4_operandOf_5 : decode cX4_operandOf 5 = .ok (.iconst 3, 1) := by decide +kernel
theorem dX4_operandOf_6 : decode cX4_operandOf 6 = .ok (.imul, 1) := by decide +kernel
theorem dX4_operandOf_7 : decode cX4_operandOf 7 = .ok (.iload_n 2, 1) := by decide +kernel
theorem dX4_operandOf_8 : decode cX4_operandOf 8 = .ok (.iadd, 1) := by decide +kernel
theorem dX4_operandOf_9 : decode cX4_operandOf 9 = .ok (.iaload, 1) := by decide +kernel
theorem dX4_operandOf_10 : decode cX4_operandOf 10 = .ok (.ireturn, 1) := by decide +kernel
def fx_Terms_operandOf (st : XS) (t : Int32) (i : Int32) : Int32 := fA st 5 ((t * (3 : Int32)) + i).toNatClampNeg
set_option maxHeartbeats 4000000 in
set_option maxRecDepth 100000 in
theorem kx_Terms_operandOf (l : Launch) (dC : Nat → ClassId) (dI : Nat → Nat → Nat) (a : Nat → Nat) (k : Nat → ClassId) (st : XS) (t : Int32) (i : Int32) (hi : vp_in (t * (3 : Int32) + i) 192) : Met l yX4_operandOf wsX4_operandOf ({ frames := 0, cells := 0, slots := 0, locals := 0 }) (va_Pc [.ref (a 7), .int t, .int i] (wl_prR (dC, dI) vwCl (xt k) (xw a k st))) (vp_Si (fun r9 => r9 = fx_Terms_operandOf st t i)) 0 0 (fun _ => False) := by
  refine Met.ofW (cc := cX4_operandOf) (maxL := 3) (ret := (some .int)) (by decide) rfl ?_
  intro p e s m args below meth c s₁ B hml hv
  obtain ⟨rfl, hP, hK⟩ := hv
  have hx := B.exec
  have hb := B.bytes
  have hr := B.returns
  have hta := aw_hts (atoms_spec (ws := wsX4_operandOf) B.pre)
  have hown : s.vm.findClass RX4 = some m.cls := findClass_of_methodNamed B.named
  have hlocks := B.notSynchronized
  have hf18 := hta _ mw_101
  have hl := lv_entry ([.ref (a 7), .int t, .int i]) (n := 3) (Nat.le_of_ble_eq_true rfl)
  rw [lg_entry_eq]
  generalize (lg_sl ([.ref (a 7), .int t, .int i]) ++ List.replicate (3 - (lg_sl ([.ref (a 7), .int t, .int i])).length) Slot.unset).toArray = ls at hl ⊢
  have hl : lv_has ls 3 [(0, .ref (a 7)), (1, .int t), (2, .int i)] := hl
  generalize hR : fx_Terms_operandOf st t i = R
  rw [fx_Terms_operandOf] at hR
  refine lv_aload_n hx hb dX4_operandOf_0 rfl (lv_at hl 0 rfl) ?_
  refine va_get (D := (dC, dI)) (ci := 2) (v := .ref (a 10)) (C := RX4) (T := TX4) (N := 7) hx hb hta inX4 hown hK hP 7 (xr_7 a k st) rfl 2 (by decide) hf18 (fun _ h9 => h9) rfl dX4_operandOf_1 ?_
  refine lv_iload_n hx hb dX4_operandOf_4 rfl (lv_at hl 1 rfl) ?_
  refine lv_iconst (v := (3 : Int32)) hx hb dX4_operandOf_5 (by decide) ?_
  refine lv_imul hx hb dX4_operandOf_6 ?_
  refine lv_iload_n hx hb dX4_operandOf_7 rfl (lv_at hl 2 rfl) ?_
  refine lv_iadd hx hb dX4_operandOf_8 ?_
  refine va_iald hx hb hK hP 10 6 (xr_10 a k st) rfl hi dX4_operandOf_9 ?_
  exact W.iret (v := fA st 5 ((t * (3 : Int32)) + i).toNatClampNeg) hx hb hr (fun t ht hW => ⟨_, rfl, hR, ht⟩) (fun q h => by cases h) dX4_operandOf_10

theorem dX4_isConstant_0 : decode cX4_isConstant 0 = .ok (.aload_n 0, 1) := by decide +kernel
theorem dX4_isConstant_1 : decode cX4_isConstant 1 = .ok (.getfield 11, 3) := by decide +kernel
theorem dX4_isConstant_4 : decode cX4_isConstant 4 = .ok (.iload_n 1, 1) := by decide +kernel
theorem dX4_isConstant_5 : decode cX4_isConstant 5 = .ok (.iaload, 1) := by decide +kernel
theorem dX4_isConstant_6 : decode cX4_isConstant 6 = .ok (.bipush 21, 2) := by decide +kernel
theorem dX4_isConstant_8 : decode cX4_isConstant 8 = .ok (.if_icmp .ne 7, 3) := by decide +kernel
theorem dX4_isConstant_11 : decode cX4_isConstant 11 = .ok (.iconst 1, 1) := by decide +kernel
theorem dX4_isConstant_12 : decode cX4_isConstant 12 = .ok (.goto 4, 3) := by decide +kernel
theorem dX4_isConstant_15 : decode cX4_isConstant 15 = .ok (.iconst 0, 1) := by decide +kernel
theorem dX4_isConstant_16 : decode cX4_isConstant 16 = .ok (.ireturn, 1) := by decide +kernel
def fx_Terms_isConstant (st : XS) (t : Int32) : Int32 := 
  if fA st 3 t.toNatClampNeg = (21 : Int32) then (1 : Int32)
  else (0 : Int32)
set_option maxHeartbeats 4000000 in
set_option maxRecDepth 100000 in
theorem kx_Terms_isConstant (l : Launch) (dC : Nat → ClassId) (dI : Nat → Nat → Nat) (a : Nat → Nat) (k : Nat → ClassId) (st : XS) (t : Int32) (hi : vp_in t 64) : Met l yX4_isConstant wsX4_isConstant ({ frames := 0, cells := 0, slots := 0, locals := 0 }) (va_Pc [.ref (a 7), .int t] (wl_prR (dC, dI) vwCl (xt k) (xw a k st))) (vp_Si (fun r9 => r9 = fx_Terms_isConstant st t)) 0 0 (fun _ => False) := by
  refine Met.ofW (cc := cX4_isConstant) (maxL := 2) (ret := (some .boolean)) (by decide) rfl ?_
  intro p e s m args below meth c s₁ B hml hv
  obtain ⟨rfl, hP, hK⟩ := hv
  have hx := B.exec
  have hb := B.bytes
  have hr := B.returns
  have hta := aw_hts (atoms_spec (ws := wsX4_isConstant) B.pre)
  have hown : s.vm.findClass RX4 = some m.cls := findClass_of_methodNamed B.named
  have hlocks := B.notSynchronized
  have hf11 := hta _ mw_99
  have hl := lv_entry ([.ref (a 7), .int t]) (n := 2) (Nat.le_of_ble_eq_true rfl)
  rw [lg_entry_eq]
  generalize (lg_sl ([.ref (a 7), .int t]) ++ List.replicate (2 - (lg_sl ([.ref (a 7), .int t])).length) Slot.unset).toArray = ls at hl ⊢
  have hl : lv_has ls 2 [(0, .ref (a 7)), (1, .int t)] := hl
  generalize hR : fx_Terms_isConstant st t = R
  rw [fx_Terms_isConstant] at hR
  refine lv_aload_n hx hb dX4_isConstant_0 rfl (lv_at hl 0 rfl) ?_
  refine va_get (D := (dC, dI)) (ci := 2) (v := .ref (a 8)) (C := RX4) (T := TX4) (N := 7) hx hb hta inX4 hown hK hP 7 (xr_7 a k st) rfl 0 (by decide) hf11 (fun _ h9 => h9) rfl dX4_isConstant_1 ?_
  refine lv_iload_n hx hb dX4_isConstant_4 rfl (lv_at hl 1 rfl) ?_
  refine va_iald hx hb hK hP 8 4 (xr_8 a k st) rfl hi dX4_isConstant_5 ?_
  refine lv_bipush (v := (21 : Int32)) hx hb dX4_isConstant_6 (by decide) ?_
  refine lv_icmp_ne (tgt := 15) hx hb dX4_isConstant_8 (by decide) (fun c8 => ?_) (fun c8 => ?_)
  · skip
    rw [if_neg c8] at hR
    refine lv_iconst (v := (0 : Int32)) hx hb dX4_isConstant_15 (by decide) ?_
    exact W.zret (v := (0 : Int32)) (ty := .boolean) hx hb hr rfl (fun t ht hW => ⟨_, rfl, hR, ht⟩) (fun q h => by cases h) dX4_isConstant_16
  · skip
    rw [if_pos c8] at hR
    refine lv_iconst (v := (1 : Int32)) hx hb dX4_isConstant_11 (by decide) ?_
    refine lv_goto (tgt := 16) hx hb dX4_isConstant_12 (by decide) ?_
    exact W.zret (v := (1 : Int32)) (ty := .boolean) hx hb hr rfl (fun t ht hW => ⟨_, rfl, hR, ht⟩) (fun q h => by cases h) dX4_isConstant_16

theorem mw_279 : (.code yX4_isConstant cX4_isConstant 2 (some .boolean) : Cond) ∈ AW := List.mem_filter.mpr ⟨List.mem_of_getElem? (i := 279) (by decide +kernel), rfl⟩
theorem mw_276 : (.methodLink RX4 37 yX4_isConstant : Cond) ∈ AW := List.mem_filter.mpr ⟨List.mem_of_getElem? (i := 276) (by decide +kernel), rfl⟩
theorem mw_41 : (.initialized RX4 : Cond) ∈ AW := List.mem_filter.mpr ⟨List.mem_of_getElem? (i := 41) (by decide +kernel), rfl⟩
theorem mw_277 : (.instanceMethod yX4_isConstant : Cond) ∈ AW := List.mem_filter.mpr ⟨List.mem_of_getElem? (i := 277) (by decide +kernel), rfl⟩
theorem mw_278 : (.selects RX4 yX4_isConstant yX4_isConstant : Cond) ∈ AW := List.mem_filter.mpr ⟨List.mem_of_getElem? (i := 278) (by decide +kernel), rfl⟩
theorem mw_103 : (.fieldLink RX4 24 RX4 "constants" "[J" : Cond) ∈ AW := List.mem_filter.mpr ⟨List.mem_of_getElem? (i := 103) (by decide +kernel), rfl⟩
theorem gX4_37 : GoodIn AW (wsV RX4 37 RX4 yX4_isConstant wsX4_isConstant) := aw_V mw_276 mw_277 mw_278 mw_41 mw_279
theorem dX4_isZero_0 : decode cX4_isZero 0 = .ok (.aload_n 0, 1) := by decide +kernel
theorem dX4_isZero_1 : decode cX4_isZero 1 = .ok (.iload_n 1, 1) := by decide +kernel
theorem dX4_isZero_2 : decode cX4_isZero 2 = .ok (.invokevirtual 37, 3) := by decide +kernel
theorem dX4_isZero_5 : decode cX4_isZero 5 = .ok (.ifCond .eq 18, 3) := by decide +kernel
theorem dX4_isZero_8 : decode cX4_isZero 8 = .ok (.aload_n 0, 1) := by decide +kernel
theorem dX4_isZero_9 : decode cX4_isZero 9 = .ok (.getfield 24, 3) := by decide +kernel
theorem dX4_isZero_12 : decode cX4_isZero 12 = .ok (.iload_n 1, 1) := by decide +kernel
theorem dX4_isZero_13 : decode cX4_isZero 13 = .ok (.laload, 1) := by decide +kernel
theorem dX4_isZero_14 : decode cX4_isZero 14 = .ok (.lconst 0, 1) := by decide +kernel
theorem dX4_isZero_15 : decode cX4_isZero 15 = .ok (.lcmp, 1) := by decide +kernel
theorem dX4_isZero_16 : decode cX4_isZero 16 = .ok (.ifCond .ne 7, 3) := by decide +kernel
theorem dX4_isZero_19 : decode cX4_isZero 19 = .ok (.iconst 1, 1) := by decide +kernel
theorem dX4_isZero_20 : decode cX4_isZero 20 = .ok (.goto 4, 3) := by decide +kernel
theorem dX4_isZero_23 : decode cX4_isZero 23 = .ok (.iconst 0, 1) := by decide +kernel
theorem dX4_isZero_24 : decode cX4_isZero 24 = .ok (.ireturn, 1) := by decide +kernel
def fx_Terms_isZero (st : XS) (t : Int32) : Int32 := 
  if fx_Terms_isConstant st t = (0 : Int32) then (0 : Int32)
  else 
    if lg_cmp (fL st 1 t.toNatClampNeg) (0 : Int64) = (0 : Int32) then (1 : Int32)
    else (0 : Int32)
set_option maxHeartbeats 4000000 in
set_option maxRecDepth 100000 in
theorem kx_Terms_isZero (l : Launch) (dC : Nat → ClassId) (dI : Nat → Nat → Nat) (a : Nat → Nat) (k : Nat → ClassId) (st : XS) (t : Int32) (hi : vp_in t 64) : Met l yX4_isZero wsX4_isZero ({ frames := 1, cells := 0, slots := 0, locals := 21 }) (va_Pc [.ref (a 7), .int t] (wl_prR (dC, dI) vwCl (xt k) (xw a k st))) (vp_Si (fun r9 => r9 = fx_Terms_isZero st t)) 0 0 (fun _ => False) := by
  refine Met.ofW (cc := cX4_isZero) (maxL := 2) (ret := (some .boolean)) (by decide) rfl ?_
  intro p e s m args below meth c s₁ B hml hv
  obtain ⟨rfl, hP, hK⟩ := hv
  have hx := B.exec
  have hb := B.bytes
  have hr := B.returns
  have hta := aw_hts (atoms_spec (ws := wsX4_isZero) B.pre)
  have hown : s.vm.findClass RX4 = some m.cls := findClass_of_methodNamed B.named
  have hlocks := B.notSynchronized
  have hf24 := hta _ mw_103
  have hl := lv_entry ([.ref (a 7), .int t]) (n := 2) (Nat.le_of_ble_eq_true rfl)
  rw [lg_entry_eq]
  generalize (lg_sl ([.ref (a 7), .int t]) ++ List.replicate (2 - (lg_sl ([.ref (a 7), .int t])).length) Slot.unset).toArray = ls at hl ⊢
  have hl : lv_has ls 2 [(0, .ref (a 7)), (1, .int t)] := hl
  generalize hR : fx_Terms_isZero st t = R
  rw [fx_Terms_isZero] at hR
  refine lv_aload_n hx hb dX4_isZero_0 rfl (lv_at hl 0 rfl) ?_
  refine lv_iload_n hx hb dX4_isZero_1 rfl (lv_at hl 1 rfl) ?_
  refine wl_ci (va_runV (As := [.int t]) (rest := []) ⟨hx, hb, hml, hown, hta⟩ (kx_Terms_isConstant l dC dI a k st t hi) (cwV 1 hta gX4_37 rfl rfl rfl (by decide +kernel) ⟨Nat.le_of_ble_eq_true rfl, Nat.le_of_ble_eq_true rfl⟩) (wl_pR (C := RX4) (ci := 2) (q0 := 7) hK hP rfl (xr_7 a k st)) rfl rfl hl.1 rfl (lv_room (Nat.le_of_ble_eq_true rfl)) dX4_isZero_2 ⟨Nat.zero_le _, Nat.zero_le _⟩) ?_
  refine lv_if_eq (tgt := 23) hx hb dX4_isZero_5 (by decide) (fun c5 => ?_) (fun c5 => ?_)
  · skip
    rw [if_pos c5] at hR
    refine lv_iconst (v := (0 : Int32)) hx hb dX4_isZero_23 (by decide) ?_
    exact W.zret (v := (0 : Int32)) (ty := .boolean) hx hb hr rfl (fun t ht hW => ⟨_, rfl, hR, ht⟩) (fun q h => by cases h) dX4_isZero_24
  · skip
    rw [if_neg c5] at hR
    refine lv_aload_n hx hb dX4_isZero_8 rfl (lv_at hl 0 rfl) ?_
    refine va_get (D := (dC, dI)) (ci := 2) (v := .ref (a 12)) (C := RX4) (T := TX4) (N := 7) hx hb hta inX4 hown hK hP 7 (xr_7 a k st) rfl 4 (by decide) hf24 (fun _ h9 => h9) rfl dX4_isZero_9 ?_
    refine lv_iload_n hx hb dX4_isZero_12 rfl (lv_at hl 1 rfl) ?_
    refine va_lald hx hb hK hP 12 8 (xr_12 a k st) rfl hi dX4_isZero_13 ?_
    refine lv_lconst (v := (0 : Int64)) hx hb dX4_isZero_14 (by decide) ?_
    refine W.lcmp hx hb dX4_isZero_15 ?_
    refine lv_if_ne (tgt := 23) hx hb dX4_isZero_16 (by decide) (fun c16 => ?_) (fun c16 => ?_)
    · skip
      rw [if_neg c16] at hR
      refine lv_iconst (v := (0 : Int32)) hx hb dX4_isZero_23 (by decide) ?_
      exact W.zret (v := (0 : Int32)) (ty := .boolean) hx hb hr rfl (fun t ht hW => ⟨_, rfl, hR, ht⟩) (fun q h => by cases h) dX4_isZero_24
    · skip
      rw [if_pos c16] at hR
      refine lv_iconst (v := (1 : Int32)) hx hb dX4_isZero_19 (by decide) ?_
      refine lv_goto (tgt := 24) hx hb dX4_isZero_20 (by decide) ?_
      exact W.zret (v := (1 : Int32)) (ty := .boolean) hx hb hr rfl (fun t ht hW => ⟨_, rfl, hR, ht⟩) (fun q h => by cases h) dX4_isZero_24

theorem dX4_constants_0 : decode cX4_constants 0 = .ok (.aload_n 0, 1) := by decide +kernel
theorem dX4_constants_1 : decode cX4_constants 1 = .ok (.getfield 24, 3) := by decide +kernel
theorem dX4_constants_4 : decode cX4_constants 4 = .ok (.areturn, 1) := by decide +kernel
set_option maxHeartbeats 4000000 in
set_option maxRecDepth 100000 in
theorem kx_Terms_constants (l : Launch) (dC : Nat → ClassId) (dI : Nat → Nat → Nat) (a : Nat → Nat) (k : Nat → ClassId) (st : XS) : Met l yX4_constants wsX4_constants ({ frames := 0, cells := 0, slots := 0, locals := 0 }) (va_Pc [.ref (a 7)] (wl_prR (dC, dI) vwCl (xt k) (xw a k st))) (va_Sr (fun _ => True) (fun _ => .ref (a 12))) 0 0 (fun _ => False) := by
  refine Met.ofW (cc := cX4_constants) (maxL := 1) (ret := (some (.array .long))) (by decide) rfl ?_
  intro p e s m args below meth c s₁ B hml hv
  obtain ⟨rfl, hP, hK⟩ := hv
  have hx := B.exec
  have hb := B.bytes
  have hr := B.returns
  have hta := aw_hts (atoms_spec (ws := wsX4_constants) B.pre)
  have hown : s.vm.findClass RX4 = some m.cls := findClass_of_methodNamed B.named
  have hlocks := B.notSynchronized
  have hf24 := hta _ mw_103
  have hl := lv_entry ([.ref (a 7)]) (n := 1) (Nat.le_of_ble_eq_true rfl)
  rw [lg_entry_eq]
  generalize (lg_sl ([.ref (a 7)]) ++ List.replicate (1 - (lg_sl ([.ref (a 7)])).length) Slot.unset).toArray = ls at hl ⊢
  have hl : lv_has ls 1 [(0, .ref (a 7))] := hl
  refine lv_aload_n hx hb dX4_constants_0 rfl (lv_at hl 0 rfl) ?_
  refine va_get (D := (dC, dI)) (ci := 2) (v := .ref (a 12)) (C := RX4) (T := TX4) (N := 7) hx hb hta inX4 hown hK hP 7 (xr_7 a k st) rfl 4 (by decide) hf24 (fun _ h9 => h9) rfl dX4_constants_1 ?_
  exact W.aret hx hb hr (Or.inr ⟨_, rfl⟩) (Or.inr ⟨_, rfl⟩) (fun t ht hW => ⟨0, rfl, trivial, ht⟩) (fun q h => by cases h) dX4_constants_4

theorem mw_102 : (.fieldLink RX4 21 RX4 "tablesRead" "[I" : Cond) ∈ AW := List.mem_filter.mpr ⟨List.mem_of_getElem? (i := 102) (by decide +kernel), rfl⟩
theorem dX4_readsTable_0 : decode cX4_readsTable 0 = .ok (.aload_n 0, 1) := by decide +kernel
theorem dX4_readsTable_1 : decode cX4_readsTable 1 = .ok (.getfield 21, 3) := by decide +kernel
theorem dX4_readsTable_4 : decode cX4_readsTable 4 = .ok (.iload_n 1, 1) := by decide +kernel
theorem dX4_readsTable_5 : decode cX4_readsTable 5 = .ok (.iaload, 1) := by decide +kernel
theorem dX4_readsTable_6 : decode cX4_readsTable 6 = .ok (.iload_n 2, 1) := by decide +kernel
theorem dX4_readsTable_7 : decode cX4_readsTable 7 = .ok (.ishr, 1) := by decide +kernel
theorem dX4_readsTable_8 : decode cX4_readsTable 8 = .ok (.iconst 1, 1) := by decide +kernel
theorem dX4_readsTable_9 : decode cX4_readsTable 9 = .ok (.iand, 1) := by decide +kernel
theorem dX4_readsTable_10 : decode cX4_readsTable 10 = .ok (.iconst 1, 1) := by decide +kernel
theorem dX4_readsTable_11 : decode cX4_readsTable 11 = .ok (.if_icmp .ne 7, 3) := by decide +kernel
theorem dX4_readsTable_14 : decode cX4_readsTable 14 = .ok (.iconst 1, 1) := by decide +kernel
theorem dX4_readsTable_15 : decode cX4_readsTable 15 = .ok (.goto 4, 3) := by decide +kernel
theorem dX4_readsTable_18 : decode cX4_readsTable 18 = .ok (.iconst 0, 1) := by decide +kernel
theorem dX4_readsTable_19 : decode cX4_readsTable 19 = .ok (.ireturn, 1) := by decide +kernel
def fx_Terms_readsTable (st : XS) (t : Int32) (tb : Int32) : Int32 := 
  if ((fA st 6 t.toNatClampNeg) >>> (tb &&& 31)) &&& (1 : Int32) = (1 : Int32) then (1 : Int32)
  else (0 : Int32)
set_option maxHeartbeats 4000000 in
set_option maxRecDepth 100000 in
theorem kx_Terms_readsTable (l : Launch) (dC : Nat → ClassId) (dI : Nat → Nat → Nat) (a : Nat → Nat) (k : Nat → ClassId) (st : XS) (t : Int32) (tb : Int32) (hi : vp_in t 64) : Met l yX4_readsTable wsX4_readsTable ({ frames := 0, cells := 0, slots := 0, locals := 0 }) (va_Pc [.ref (a 7), .int t, .int tb] (wl_prR (dC, dI) vwCl (xt k) (xw a k st))) (vp_Si (fun r9 => r9 = fx_Terms_readsTable st t tb)) 0 0 (fun _ => False) := by
  refine Met.ofW (cc := cX4_readsTable) (maxL := 3) (ret := (some .boolean)) (by decide) rfl ?_
  intro p e s m args below meth c s₁ B hml hv
  obtain ⟨rfl, hP, hK⟩ := hv
  have hx := B.exec
  have hb := B.bytes
  have hr := B.returns
  have hta := aw_hts (atoms_spec (ws := wsX4_readsTable) B.pre)
  have hown : s.vm.findClass RX4 = some m.cls := findClass_of_methodNamed B.named
  have hlocks := B.notSynchronized
  have hf21 := hta _ mw_102
  have hl := lv_entry ([.ref (a 7), .int t, .int tb]) (n := 3) (Nat.le_of_ble_eq_true rfl)
  rw [lg_entry_eq]
  generalize (lg_sl ([.ref (a 7), .int t, .int tb]) ++ List.replicate (3 - (lg_sl ([.ref (a 7), .int t, .int tb])).length) Slot.unset).toArray = ls at hl ⊢
  have hl : lv_has ls 3 [(0, .ref (a 7)), (1, .int t), (2, .int tb)] := hl
  generalize hR : fx_Terms_readsTable st t tb = R
  rw [fx_Terms_readsTable] at hR
  refine lv_aload_n hx hb dX4_readsTable_0 rfl (lv_at hl 0 rfl) ?_
  refine va_get (D := (dC, dI)) (ci := 2) (v := .ref (a 11)) (C := RX4) (T := TX4) (N := 7) hx hb hta inX4 hown hK hP 7 (xr_7 a k st) rfl 3 (by decide) hf21 (fun _ h9 => h9) rfl dX4_readsTable_1 ?_
  refine lv_iload_n hx hb dX4_readsTable_4 rfl (lv_at hl 1 rfl) ?_
  refine va_iald hx hb hK hP 11 7 (xr_11 a k st) rfl hi dX4_readsTable_5 ?_
  refine lv_iload_n hx hb dX4_readsTable_6 rfl (lv_at hl 2 rfl) ?_
  refine lv_ishr hx hb dX4_readsTable_7 ?_
  refine lv_iconst (v := (1 : Int32)) hx hb dX4_readsTable_8 (by decide) ?_
  refine lv_iand hx hb dX4_readsTable_9 ?_
  refine lv_iconst (v := (1 : Int32)) hx hb dX4_readsTable_10 (by decide) ?_
  refine lv_icmp_ne (tgt := 18) hx hb dX4_readsTable_11 (by decide) (fun c11 => ?_) (fun c11 => ?_)
  · skip
    rw [if_neg c11] at hR
    refine lv_iconst (v := (0 : Int32)) hx hb dX4_readsTable_18 (by decide) ?_
    exact W.zret (v := (0 : Int32)) (ty := .boolean) hx hb hr rfl (fun t ht hW => ⟨_, rfl, hR, ht⟩) (fun q h => by cases h) dX4_readsTable_19
  · skip
    rw [if_pos c11] at hR
    refine lv_iconst (v := (1 : Int32)) hx hb dX4_readsTable_14 (by decide) ?_
    refine lv_goto (tgt := 19) hx hb dX4_readsTable_15 (by decide) ?_
    exact W.zret (v := (1 : Int32)) (ty := .boolean) hx hb hr rfl (fun t ht hW => ⟨_, rfl, hR, ht⟩) (fun q h => by cases h) dX4_readsTable_19

theorem dX4_addPlain_0 : decode cX4_addPlain 0 = .ok (.aload_n 0, 1) := by decide +kernel
theorem dX4_addPlain_1 : decode cX4_addPlain 1 = .ok (.getfield 11, 3) := by decide +kernel
theorem dX4_addPlain_4 : decode cX4_addPlain 4 = .ok (.aload_n 0, 1) := by decide +kernel
theorem dX4_addPlain_5 : decode cX4_addPlain 5 = .ok (.getfield 28, 3) := by decide +kernel
theorem dX4_addPlain_8 : decode cX4_addPlain 8 = .ok (.iload_n 1, 1) := by decide +kernel
theorem dX4_addPlain_9 : decode cX4_addPlain 9 = .ok (.iastore, 1) := by decide +kernel
theorem dX4_addPlain_10 : decode cX4_addPlain 10 = .ok (.aload_n 0, 1) := by decide +kernel
theorem dX4_addPlain_11 : decode cX4_addPlain 11 = .ok (.getfield 15, 3) := by decide +kernel
theorem dX4_addPlain_14 : decode cX4_addPlain 14 = .ok (.aload_n 0, 1) := by decide +kernel
theorem dX4_addPlain_15 : decode cX4_addPlain 15 = .ok (.getfield 28, 3) := by decide +kernel
theorem dX4_addPlain_18 : decode cX4_addPlain 18 = .ok (.iload_n 2, 1) := by decide +kernel
theorem dX4_addPlain_19 : decode cX4_addPlain 19 = .ok (.iastore, 1) := by decide +kernel
theorem dX4_addPlain_20 : decode cX4_addPlain 20 = .ok (.aload_n 0, 1) := by decide +kernel
theorem dX4_addPlain_21 : decode cX4_addPlain 21 = .ok (.dup, 1) := by decide +kernel
theorem dX4_addPlain_22 : decode cX4_addPlain 22 = .ok (.getfield 28, 3) := by decide +kernel
theorem dX4_addPlain_25 : decode cX4_addPlain 25 = .ok (.dup_x1, 1) := by decide +kernel
theorem dX4_addPlain_26 : decode cX4_addPlain 26 = .ok (.iconst 1, 1) := by decide +kernel
theorem dX4_addPlain_27 : decode cX4_addPlain 27 = .ok (.iadd, 1) := by decide +kernel
theorem dX4_addPlain_28 : decode cX4_addPlain 28 = .ok (.putfield 28, 3) := by decide +kernel
theorem dX4_addPlain_31 : decode cX4_addPlain 31 = .ok (.ireturn, 1) := by decide +kernel
def fx_Terms_addPlain (st : XS) (o : Int32) (w : Int32) : Int32 × XS := (gI st 6, wI (wA (wA st 3 ((gI st 6).toNatClampNeg) o) 4 ((gI st 6).toNatClampNeg) w) 6 ((gI st 6) + (1 : Int32)))
theorem ff_Terms_addPlain (st : XS) (o : Int32) (w : Int32) : XF [6] [3, 4] [] st (fx_Terms_addPlain st o w).2 := by
  rw [fx_Terms_addPlain]
  exact (XF.wI (by decide) (XF.wA (by decide) (XF.wA (by decide) XF.rf)))
set_option maxHeartbeats 4000000 in
set_option maxRecDepth 100000 in
theorem kx_Terms_addPlain (l : Launch) (dC : Nat → ClassId) (dI : Nat → Nat → Nat) (a : Nat → Nat) (k : Nat → ClassId) (st : XS) (o : Int32) (w : Int32) (sz : Nat) (hi : vp_in (gI st 6) 64) : Met l yX4_addPlain wsX4_addPlain ({ frames := 0, cells := 0, slots := 0, locals := 0 }) (va_Pc [.ref (a 7), .int o, .int w] (wl_pre (dC, dI) vwCl (xt k) (xw a k) st sz)) (va_Qi (fun r9 u9 => (r9, u9) = fx_Terms_addPlain st o w) (wl_at (dC, dI) vwCl (xt k) (xw a k) (va_A (xw a k st) sz)) (va_A (xw a k st) sz)) 0 0 (va_A (xw a k st) sz) := by
  refine Met.ofW (cc := cX4_addPlain) (maxL := 3) (ret := (some .int)) (by decide) rfl ?_
  intro p e s m args below meth c s₁ B hml hv
  obtain ⟨rfl, hsz, hP, hK, hD0⟩ := hv
  have hx := B.exec
  have hb := B.bytes
  have hr := B.returns
  have hta := aw_hts (atoms_spec (ws := wsX4_addPlain) B.pre)
  have hown : s.vm.findClass RX4 = some m.cls := findClass_of_methodNamed B.named
  have hlocks := B.notSynchronized
  have hf11 := hta _ mw_99
  have hf28 := hta _ mw_104
  have hf15 := hta _ mw_100
  subst hsz
  have hD := hD0.self (sz := s.heap.size)
  generalize hAe : va_A (xw a k st) s.heap.size = A at hD ⊢
  have hAz : ∀ q : Nat, s.heap.size ≤ q → A q := fun q h => by rw [← hAe]; exact Or.inr h
  have hS : va_S A s.heap s.heap [] := va_S.rf
  have hl := lv_entry ([.ref (a 7), .int o, .int w]) (n := 3) (Nat.le_of_ble_eq_true rfl)
  rw [lg_entry_eq]
  generalize (lg_sl ([.ref (a 7), .int o, .int w]) ++ List.replicate (3 - (lg_sl ([.ref (a 7), .int o, .int w])).length) Slot.unset).toArray = ls at hl ⊢
  have hl : lv_has ls 3 [(0, .ref (a 7)), (1, .int o), (2, .int w)] := hl
  generalize hR : fx_Terms_addPlain st o w = R
  rw [fx_Terms_addPlain] at hR
  refine lv_aload_n hx hb dX4_addPlain_0 rfl (lv_at hl 0 rfl) ?_
  refine va_get (D := (dC, dI)) (ci := 2) (v := .ref (a 8)) (C := RX4) (T := TX4) (N := 7) hx hb hta inX4 hown hK hP 7 (xr_7 a k st) rfl 0 (by decide) hf11 (fun _ h9 => h9) rfl dX4_addPlain_1 ?_
  refine lv_aload_n hx hb dX4_addPlain_4 rfl (lv_at hl 0 rfl) ?_
  refine va_get (D := (dC, dI)) (ci := 2) (v := .int (gI st 6)) (C := RX4) (T := TX4) (N := 7) hx hb hta inX4 hown hK hP 7 (xr_7 a k st) rfl 5 (by decide) hf28 (fun _ h9 => h9) rfl dX4_addPlain_5 ?_
  refine lv_iload_n hx hb dX4_addPlain_8 rfl (lv_at hl 1 rfl) ?_
  refine va_iast hx hb hK hP hD hS 8 4 (xr_8 a k st) rfl hi dX4_addPlain_9 (fun H locs hP hD hS => ?_)
  have hP := xp_A3 hP
  have hD := xd_A3 hD
  refine lv_aload_n hx hb dX4_addPlain_10 rfl (lv_at hl 0 rfl) ?_
  refine va_get (D := (dC, dI)) (ci := 2) (v := .ref (a 9)) (C := RX4) (T := TX4) (N := 7) hx hb hta inX4 hown hK hP 7 (xr_7 a k (wA st 3 ((gI st 6).toNatClampNeg) o)) rfl 1 (by decide) hf15 (fun _ h9 => h9) rfl dX4_addPlain_11 ?_
  refine lv_aload_n hx hb dX4_addPlain_14 rfl (lv_at hl 0 rfl) ?_
  refine va_get (D := (dC, dI)) (ci := 2) (v := .int (gI st 6)) (C := RX4) (T := TX4) (N := 7) hx hb hta inX4 hown hK hP 7 (xr_7 a k (wA st 3 ((gI st 6).toNatClampNeg) o)) rfl 5 (by decide) hf28 (fun _ h9 => h9) rfl dX4_addPlain_15 ?_
  refine lv_iload_n hx hb dX4_addPlain_18 rfl (lv_at hl 2 rfl) ?_
  refine va_iast hx hb hK hP hD hS 9 5 (xr_9 a k (wA st 3 ((gI st 6).toNatClampNeg) o)) rfl hi dX4_addPlain_19 (fun H locs hP hD hS => ?_)
  have hP := xp_A4 hP
  have hD := xd_A4 hD
  refine lv_aload_n hx hb dX4_addPlain_20 rfl (lv_at hl 0 rfl) ?_
  refine lv_dup hx hb dX4_addPlain_21 rfl ?_
  refine va_get (D := (dC, dI)) (ci := 2) (v := .int (gI st 6)) (C := RX4) (T := TX4) (N := 7) hx hb hta inX4 hown hK hP 7 (xr_7 a k (wA (wA st 3 ((gI st 6).toNatClampNeg) o) 4 ((gI st 6).toNatClampNeg) w)) rfl 5 (by decide) hf28 (fun _ h9 => h9) rfl dX4_addPlain_22 ?_
  refine lv_dup_x1 hx hb dX4_addPlain_25 rfl rfl ?_
  refine lv_iconst (v := (1 : Int32)) hx hb dX4_addPlain_26 (by decide) ?_
  refine lv_iadd hx hb dX4_addPlain_27 ?_
  refine va_put (D := (dC, dI)) (ci := 2) (v := .int ((gI st 6) + (1 : Int32))) (ty := .int) (C := RX4) (T := TX4) (N := 7) hx hb hta inX4 tyX4 tyX4_ok nmX4 hown hK hP hD hS 7 (xr_7 a k (wA (wA st 3 ((gI st 6).toNatClampNeg) o) 4 ((gI st 6).toNatClampNeg) w)) rfl 5 (by decide) hf28 (fun _ h9 => h9) rfl (by decide +kernel) rfl rfl (Nat.le_of_ble_eq_true rfl) dX4_addPlain_28 (fun H locs hP hD hS => ?_)
  have hP := xp_I6 hP
  have hD := xd_I6 hD
  exact W.iret (v := gI st 6) hx hb hr (fun t ht hW => ⟨⟨_, _, rfl, hR, by rw [ht]; exact hP, va_K.moved hW.alike hK, hD⟩, hS.F ht⟩) hS.2.2 dX4_addPlain_31

theorem mw_261 : (.code yX4_addPlain cX4_addPlain 3 (some .int) : Cond) ∈ AW := List.mem_filter.mpr ⟨List.mem_of_getElem? (i := 261) (by decide +kernel), rfl⟩
theorem mw_258 : (.methodLink RX4 41 yX4_addPlain : Cond) ∈ AW := List.mem_filter.mpr ⟨List.mem_of_getElem? (i := 258) (by decide +kernel), rfl⟩
theorem mw_260 : (.instanceMethod yX4_addPlain : Cond) ∈ AW := List.mem_filter.mpr ⟨List.mem_of_getElem? (i := 260) (by decide +kernel), rfl⟩
theorem mw_0 : (.selects RX4 yX4_addPlain yX4_addPlain : Cond) ∈ AW := List.mem_filter.mpr ⟨List.mem_of_getElem? (i := 0) (by decide +kernel), rfl⟩
theorem gX4_41 : GoodIn AW (wsV RX4 41 RX4 yX4_addPlain wsX4_addPlain) := aw_V mw_258 mw_260 mw_0 mw_41 mw_261
theorem dX4_addVariable_0 : decode cX4_addVariable 0 = .ok (.aload_n 0, 1) := by decide +kernel
theorem dX4_addVariable_1 : decode cX4_addVariable 1 = .ok (.bipush 22, 2) := by decide +kernel
theorem dX4_addVariable_3 : decode cX4_addVariable 3 = .ok (.bipush 8, 2) := by decide +kernel
theorem dX4_addVariable_5 : decode cX4_addVariable 5 = .ok (.invokevirtual 41, 3) := by decide +kernel
theorem dX4_addVariable_8 : decode cX4_addVariable 8 = .ok (.istore_n 2, 1) := by decide +kernel
theorem dX4_addVariable_9 : decode cX4_addVariable 9 = .ok (.aload_n 0, 1) := by decide +kernel
theorem dX4_addVariable_10 : decode cX4_addVariable 10 = .ok (.getfield 18, 3) := by decide +kernel
theorem dX4_addVariable_13 : decode cX4_addVariable 13 = .ok (.iload_n 2, 1) := by decide +kernel
theorem dX4_addVariable_14 : decode cX4_addVariable 14 = .ok (.iconst 3, 1) := by decide +kernel
theorem dX4_addVariable_15 : decode cX4_addVariable 15 = .ok (.imul, 1) := by decide +kernel
theorem dX4_addVariable_16 : decode cX4_addVariable 16 = .ok (.iload_n 1, 1) := by decide +kernel
theorem dX4_addVariable_17 : decode cX4_addVariable 17 = .ok (.iastore, 1) := by decide +kernel
theorem dX4_addVariable_18 : decode cX4_addVariable 18 = .ok (.iload_n 2, 1) := by decide +kernel
theorem dX4_addVariable_19 : decode cX4_addVariable 19 = .ok (.ireturn, 1) := by decide +kernel
def fx_Terms_addVariable (st : XS) (v : Int32) : Int32 × XS := ((((fx_Terms_addPlain st (22 : Int32) (8 : Int32)).1)), wA (((fx_Terms_addPlain st (22 : Int32) (8 : Int32)).2)) 5 ((((((fx_Terms_addPlain st (22 : Int32) (8 : Int32)).1))) * (3 : Int32)).toNatClampNeg) v)
theorem ff_Terms_addVariable (st : XS) (v : Int32) : XF [6] [3, 4, 5] [] st (fx_Terms_addVariable st v).2 := by
  rw [fx_Terms_addVariable]
  exact (XF.wA (by decide) (XF.tr XF.rf (XF.mono (ff_Terms_addPlain _ _ _) (by decide) (by decide) (by decide))))
set_option maxHeartbeats 4000000 in
set_option maxRecDepth 100000 in
theorem kx_Terms_addVariable (l : Launch) (dC : Nat → ClassId) (dI : Nat → Nat → Nat) (a : Nat → Nat) (k : Nat → ClassId) (st : XS) (v : Int32) (sz : Nat) (N : Nat) (hN : gI st 6 = nI N) (h64 : N < 64) : Met l yX4_addVariable wsX4_addVariable ({ frames := 1, cells := 0, slots := 0, locals := 22 }) (va_Pc [.ref (a 7), .int v] (wl_pre (dC, dI) vwCl (xt k) (xw a k) st sz)) (va_Qi (fun r9 u9 => (r9, u9) = fx_Terms_addVariable st v) (wl_at (dC, dI) vwCl (xt k) (xw a k) (va_A (xw a k st) sz)) (va_A (xw a k st) sz)) 0 0 (va_A (xw a k st) sz) := by
  refine Met.ofW (cc := cX4_addVariable) (maxL := 3) (ret := (some .int)) (by decide) rfl ?_
  intro p e s m args below meth c s₁ B hml hv
  obtain ⟨rfl, hsz, hP, hK, hD0⟩ := hv
  have hx := B.exec
  have hb := B.bytes
  have hr := B.returns
  have hta := aw_hts (atoms_spec (ws := wsX4_addVariable) B.pre)
  have hown : s.vm.findClass RX4 = some m.cls := findClass_of_methodNamed B.named
  have hlocks := B.notSynchronized
  have hf18 := hta _ mw_101
  subst hsz
  have hD := hD0.self (sz := s.heap.size)
  generalize hAe : va_A (xw a k st) s.heap.size = A at hD ⊢
  have hAz : ∀ q : Nat, s.heap.size ≤ q → A q := fun q h => by rw [← hAe]; exact Or.inr h
  have hS : va_S A s.heap s.heap [] := va_S.rf
  have hl := lv_entry ([.ref (a 7), .int v]) (n := 3) (Nat.le_of_ble_eq_true rfl)
  rw [lg_entry_eq]
  generalize (lg_sl ([.ref (a 7), .int v]) ++ List.replicate (3 - (lg_sl ([.ref (a 7), .int v])).length) Slot.unset).toArray = ls at hl ⊢
  have hl : lv_has ls 3 [(0, .ref (a 7)), (1, .int v)] := hl
  generalize hR : fx_Terms_addVariable st v = R
  rw [fx_Terms_addVariable] at hR
  refine lv_aload_n hx hb dX4_addVariable_0 rfl (lv_at hl 0 rfl) ?_
  refine lv_bipush (v := (22 : Int32)) hx hb dX4_addVariable_1 (by decide) ?_
  refine lv_bipush (v := (8 : Int32)) hx hb dX4_addVariable_3 (by decide) ?_
  refine wl_mi (va_runV (As := [.int (22 : Int32), .int (8 : Int32)]) (rest := []) ⟨hx, hb, hml, hown, hta⟩ (kx_Terms_addPlain l dC dI a k st (22 : Int32) (8 : Int32) _ (by rw [hN]; exact wl_in h64 (by decide))) (cwV 2 hta gX4_41 rfl rfl rfl (by decide +kernel) ⟨Nat.le_of_ble_eq_true rfl, Nat.le_of_ble_eq_true rfl⟩) (wl_pM (C := RX4) (ci := 2) (q0 := 7) hK hP hD rfl (xr_7 a k st)) rfl rfl hl.1 rfl (lv_room (Nat.le_of_ble_eq_true rfl)) dX4_addVariable_5 ⟨Nat.zero_le _, Nat.zero_le _⟩) hP hD hS hAz (fun r5 u5 H locs hw5 hP hD hS => ?_)
  have v5 : (fx_Terms_addPlain st (22 : Int32) (8 : Int32)).1 = r5 := congrArg Prod.fst hw5.symm
  have w5 : (fx_Terms_addPlain st (22 : Int32) (8 : Int32)).2 = u5 := congrArg Prod.snd hw5.symm
  have hf5 : XF [6] [3, 4] [] st u5 := by rw [← w5]; exact ff_Terms_addPlain st (22 : Int32) (8 : Int32)
  try rw [v5] at hR
  try rw [w5] at hR
  have e5 : (r5) = nI N := ((congrArg Prod.fst hw5).trans hN)
  rw [e5]
  try rw [e5] at hR
  refine lv_istore_n (lv' := [(2, .int ((nI N))), (0, .ref (a 7)), (1, .int v)]) hx hb dX4_addVariable_8 rfl hl (by decide) rfl (fun ls hl => ?_)
  refine lv_aload_n hx hb dX4_addVariable_9 rfl (lv_at hl 1 rfl) ?_
  refine va_get (D := (dC, dI)) (ci := 2) (v := .ref (a 10)) (C := RX4) (T := TX4) (N := 7) hx hb hta inX4 hown hK hP 7 (xr_7 a k (u5)) rfl 2 (by decide) hf18 (fun _ h9 => h9) rfl dX4_addVariable_10 ?_
  refine lv_iload_n hx hb dX4_addVariable_13 rfl (lv_at hl 0 rfl) ?_
  refine lv_iconst (v := (3 : Int32)) hx hb dX4_addVariable_14 (by decide) ?_
  refine lv_imul hx hb dX4_addVariable_15 ?_
  refine lv_iload_n hx hb dX4_addVariable_16 rfl (lv_at hl 2 rfl) ?_
  refine va_iast hx hb hK hP hD hS 10 6 (xr_10 a k (u5)) rfl (wl_i30 h64) dX4_addVariable_17 (fun H locs hP hD hS => ?_)
  have hP := xp_A5 hP
  have hD := xd_A5 hD
  refine lv_iload_n hx hb dX4_addVariable_18 rfl (lv_at hl 0 rfl) ?_
  exact W.iret (v := (nI N)) hx hb hr (fun t ht hW => ⟨⟨_, _, rfl, hR, by rw [ht]; exact hP, va_K.moved hW.alike hK, hD⟩, hS.F ht⟩) hS.2.2 dX4_addVariable_19

theorem wl_nle {x y : Int32} (h : ¬ x ≤ y) : y < x := Int32.not_le.mp h
theorem wl_isFullN {st : XS} {N : Nat} (hN : gI st 6 = nI N) (h : N ≤ 64) (c : fx_Terms_isFull st = 0) : N < 64 := by
  rcases Nat.lt_or_ge N 64 with q | q
  · exact q
  · rw [fx_Terms_isFull, hN, if_neg (show ¬ nI N < (64 : Int32) from nI_nlt (b := 64) q (by omega))] at c
    exact absurd c (by decide)
theorem wl_isFull {st : XS} {N : Nat} (hN : gI st 6 = nI N) (h : N ≤ 64) (c : fx_Terms_isFull st = 0) : vp_in (gI st 6) 64 := by
  rw [hN]; exact wl_in (wl_isFullN hN h c) (by decide)

theorem mw_273 : (.methodLink RX4 45 yX0_readSigned : Cond) ∈ AW := List.mem_filter.mpr ⟨List.mem_of_getElem? (i := 273) (by decide +kernel), rfl⟩
theorem mw_245 : (.code yX4_isFull cX4_isFull 1 (some .boolean) : Cond) ∈ AW := List.mem_filter.mpr ⟨List.mem_of_getElem? (i := 245) (by decide +kernel), rfl⟩
theorem mw_280 : (.methodLink RX4 51 yX4_isFull : Cond) ∈ AW := List.mem_filter.mpr ⟨List.mem_of_getElem? (i := 280) (by decide +kernel), rfl⟩
theorem mw_243 : (.instanceMethod yX4_isFull : Cond) ∈ AW := List.mem_filter.mpr ⟨List.mem_of_getElem? (i := 243) (by decide +kernel), rfl⟩
theorem mw_244 : (.selects RX4 yX4_isFull yX4_isFull : Cond) ∈ AW := List.mem_filter.mpr ⟨List.mem_of_getElem? (i := 244) (by decide +kernel), rfl⟩
theorem gX4_45 : GoodIn AW (va_wsS RX4 45 yX0_readSigned wsX0_readSigned) := aw_S mw_273 mw_274 mw_47 mw_275
theorem gX4_51 : GoodIn AW (wsV RX4 51 RX4 yX4_isFull wsX4_isFull) := aw_V mw_280 mw_243 mw_244 mw_41 mw_245
theorem dX4_findOrAddConstant_0 : decode cX4_findOrAddConstant 0 = .ok (.iload_n 1, 1) := by decide +kernel
theorem dX4_findOrAddConstant_1 : decode cX4_findOrAddConstant 1 = .ok (.lload_n 2, 1) := by decide +kernel
theorem dX4_findOrAddConstant_2 : decode cX4_findOrAddConstant 2 = .ok (.invokestatic 45, 3) := by decide +kernel
theorem dX4_findOrAddConstant_5 : decode cX4_findOrAddConstant 5 = .ok (.lstore 4, 2) := by decide +kernel
theorem dX4_findOrAddConstant_7 : decode cX4_findOrAddConstant 7 = .ok (.iconst 0, 1) := by decide +kernel
theorem dX4_findOrAddConstant_8 : decode cX4_findOrAddConstant 8 = .ok (.istore 6, 2) := by decide +kernel
theorem dX4_findOrAddConstant_10 : decode cX4_findOrAddConstant 10 = .ok (.iload 6, 2) := by decide +kernel
theorem dX4_findOrAddConstant_12 : decode cX4_findOrAddConstant 12 = .ok (.aload_n 0, 1) := by decide +kernel
theorem dX4_findOrAddConstant_13 : decode cX4_findOrAddConstant 13 = .ok (.getfield 28, 3) := by decide +kernel
theorem dX4_findOrAddConstant_16 : decode cX4_findOrAddConstant 16 = .ok (.if_icmp .ge 45, 3) := by decide +kernel
theorem dX4_findOrAddConstant_19 : decode cX4_findOrAddConstant 19 = .ok (.aload_n 0, 1) := by decide +kernel
theorem dX4_findOrAddConstant_20 : decode cX4_findOrAddConstant 20 = .ok (.iload 6, 2) := by decide +kernel
theorem dX4_findOrAddConstant_22 : decode cX4_findOrAddConstant 22 = .ok (.invokevirtual 37, 3) := by decide +kernel
theorem dX4_findOrAddConstant_25 : decode cX4_findOrAddConstant 25 = .ok (.ifCond .eq 30, 3) := by decide +kernel
theorem dX4_findOrAddConstant_28 : decode cX4_findOrAddConstant 28 = .ok (.aload_n 0, 1) := by decide +kernel
theorem dX4_findOrAddConstant_29 : decode cX4_findOrAddConstant 29 = .ok (.getfield 15, 3) := by decide +kernel
theorem dX4_findOrAddConstant_32 : decode cX4_findOrAddConstant 32 = .ok (.iload 6, 2) := by decide +kernel
theorem dX4_findOrAddConstant_34 : decode cX4_findOrAddConstant 34 = .ok (.iaload, 1) := by decide +kernel
theorem dX4_findOrAddConstant_35 : decode cX4_findOrAddConstant 35 = .ok (.iload_n 1, 1) := by decide +kernel
theorem dX4_findOrAddConstant_36 : decode cX4_findOrAddConstant 36 = .ok (.if_icmp .ne 19, 3) := by decide +kernel
theorem dX4_findOrAddConstant_39 : decode cX4_findOrAddConstant 39 = .ok (.aload_n 0, 1) := by decide +kernel
theorem dX4_findOrAddConstant_40 : decode cX4_findOrAddConstant 40 = .ok (.getfield 24, 3) := by decide +kernel
theorem dX4_findOrAddConstant_43 : decode cX4_findOrAddConstant 43 = .ok (.iload 6, 2) := by decide +kernel
theorem dX4_findOrAddConstant_45 : decode cX4_findOrAddConstant 45 = .ok (.laload, 1) := by decide +kernel
theorem dX4_findOrAddConstant_46 : decode cX4_findOrAddConstant 46 = .ok (.lload 4, 2) := by decide +kernel
theorem dX4_findOrAddConstant_48 : decode cX4_findOrAddConstant 48 = .ok (.lcmp, 1) := by decide +kernel
theorem dX4_findOrAddConstant_49 : decode cX4_findOrAddConstant 49 = .ok (.ifCond .ne 6, 3) := by decide +kernel
theorem dX4_findOrAddConstant_52 : decode cX4_findOrAddConstant 52 = .ok (.iload 6, 2) := by decide +kernel
theorem dX4_findOrAddConstant_54 : decode cX4_findOrAddConstant 54 = .ok (.ireturn, 1) := by decide +kernel
theorem dX4_findOrAddConstant_55 : decode cX4_findOrAddConstant 55 = .ok (.iinc 6 1, 3) := by decide +kernel
theorem dX4_findOrAddConstant_58 : decode cX4_findOrAddConstant 58 = .ok (.goto (-48), 3) := by decide +kernel
theorem dX4_findOrAddConstant_61 : decode cX4_findOrAddConstant 61 = .ok (.aload_n 0, 1) := by decide +kernel
theorem dX4_findOrAddConstant_62 : decode cX4_findOrAddConstant 62 = .ok (.invokevirtual 51, 3) := by decide +kernel
theorem dX4_findOrAddConstant_65 : decode cX4_findOrAddConstant 65 = .ok (.ifCond .eq 6, 3) := by decide +kernel
theorem dX4_findOrAddConstant_68 : decode cX4_findOrAddConstant 68 = .ok (.bipush (-2), 2) := by decide +kernel
theorem dX4_findOrAddConstant_70 : decode cX4_findOrAddConstant 70 = .ok (.ireturn, 1) := by decide +kernel
theorem dX4_findOrAddConstant_71 : decode cX4_findOrAddConstant 71 = .ok (.aload_n 0, 1) := by decide +kernel
theorem dX4_findOrAddConstant_72 : decode cX4_findOrAddConstant 72 = .ok (.bipush 21, 2) := by decide +kernel
theorem dX4_findOrAddConstant_74 : decode cX4_findOrAddConstant 74 = .ok (.iload_n 1, 1) := by decide +kernel
theorem dX4_findOrAddConstant_75 : decode cX4_findOrAddConstant 75 = .ok (.invokevirtual 41, 3) := by decide +kernel
theorem dX4_findOrAddConstant_78 : decode cX4_findOrAddConstant 78 = .ok (.istore 6, 2) := by decide +kernel
theorem dX4_findOrAddConstant_80 : decode cX4_findOrAddConstant 80 = .ok (.aload_n 0, 1) := by decide +kernel
theorem dX4_findOrAddConstant_81 : decode cX4_findOrAddConstant 81 = .ok (.getfield 24, 3) := by decide +kernel
theorem dX4_findOrAddConstant_84 : decode cX4_findOrAddConstant 84 = .ok (.iload 6, 2) := by decide +kernel
theorem dX4_findOrAddConstant_86 : decode cX4_findOrAddConstant 86 = .ok (.lload 4, 2) := by decide +kernel
theorem dX4_findOrAddConstant_88 : decode cX4_findOrAddConstant 88 = .ok (.lastore, 1) := by decide +kernel
theorem dX4_findOrAddConstant_89 : decode cX4_findOrAddConstant 89 = .ok (.iload 6, 2) := by decide +kernel
theorem dX4_findOrAddConstant_91 : decode cX4_findOrAddConstant 91 = .ok (.ireturn, 1) := by decide +kernel
def fx_Terms_findOrAddConstant_L10 (st : XS) (w : Int32) (x : Int64) : Nat → Nat → Int32 × XS
  | 0, i => (0, st)
  | n + 1, i => 
    if gI st 6 ≤ nI i then 
      if fx_Terms_isFull st = (0 : Int32) then (((fx_Terms_addPlain st (21 : Int32) w).1), wL (((fx_Terms_addPlain st (21 : Int32) w).2)) 1 ((((fx_Terms_addPlain st (21 : Int32) w).1)).toNatClampNeg) (fx_Width_readSigned w x))
      else ((-2 : Int32), st)
    else 
      if fx_Terms_isConstant st (nI i) = (0 : Int32) then fx_Terms_findOrAddConstant_L10 st w x n (i + 1)
      else 
        if fA st 4 (nI i).toNatClampNeg = w then 
          if lg_cmp (fL st 1 (nI i).toNatClampNeg) (fx_Width_readSigned w x) = (0 : Int32) then (nI i, st)
          else fx_Terms_findOrAddConstant_L10 st w x n (i + 1)
        else fx_Terms_findOrAddConstant_L10 st w x n (i + 1)
def fx_Terms_findOrAddConstant (st : XS) (w : Int32) (x : Int64) : Int32 × XS := fx_Terms_findOrAddConstant_L10 st w x 65 0
theorem fr_Terms_findOrAddConstant_L10 (st : XS) (w : Int32) (x : Int64) : ∀ (n : Nat) (i : Nat), XF [6] [3, 4] [1] st (fx_Terms_findOrAddConstant_L10 st w x n i).2 := by
  intro n
  induction n with
  | zero => intro i; exact XF.rf
  | succ n ih =>
    intro i
    rw [fx_Terms_findOrAddConstant_L10]
    exact (wl_ite (P := fun (q : Int32 × XS) => XF [6] [3, 4] [1] _ (q.2)) (wl_ite (P := fun (q : Int32 × XS) => XF [6] [3, 4] [1] _ (q.2)) (XF.wL (by decide) (XF.tr XF.rf (XF.mono (ff_Terms_addPlain _ _ _) (by decide) (by decide) (by decide)))) XF.rf) (wl_ite (P := fun (q : Int32 × XS) => XF [6] [3, 4] [1] _ (q.2)) (ih _) (wl_ite (P := fun (q : Int32 × XS) => XF [6] [3, 4] [1] _ (q.2)) (wl_ite (P := fun (q : Int32 × XS) => XF [6] [3, 4] [1] _ (q.2)) XF.rf (ih _)) (ih _))))
theorem ff_Terms_findOrAddConstant (st : XS) (w : Int32) (x : Int64) : XF [6] [3, 4] [1] st (fx_Terms_findOrAddConstant st w x).2 := by
  rw [fx_Terms_findOrAddConstant]
  exact (fr_Terms_findOrAddConstant_L10 _ _ _ _ _)
set_option maxHeartbeats 4000000 in
set_option maxRecDepth 100000 in
theorem kx_Terms_findOrAddConstant (l : Launch) (dC : Nat → ClassId) (dI : Nat → Nat → Nat) (a : Nat → Nat) (k : Nat → ClassId) (st : XS) (w : Int32) (x : Int64) (sz : Nat) (N : Nat) (hN : gI st 6 = nI N) (h64 : N ≤ 64) : Met l yX4_findOrAddConstant wsX4_findOrAddConstant ({ frames := 1, cells := 0, slots := 0, locals := 23 }) (va_Pc [.ref (a 7), .int w, .long x] (wl_pre (dC, dI) vwCl (xt k) (xw a k) st sz)) (va_Qi (fun r9 u9 => (r9, u9) = fx_Terms_findOrAddConstant st w x) (wl_at (dC, dI) vwCl (xt k) (xw a k) (va_A (xw a k st) sz)) (va_A (xw a k st) sz)) 0 0 (va_A (xw a k st) sz) := by
  refine Met.ofW (cc := cX4_findOrAddConstant) (maxL := 7) (ret := (some .int)) (by decide) rfl ?_
  intro p e s m args below meth c s₁ B hml hv
  obtain ⟨rfl, hsz, hP, hK, hD0⟩ := hv
  have hx := B.exec
  have hb := B.bytes
  have hr := B.returns
  have hta := aw_hts (atoms_spec (ws := wsX4_findOrAddConstant) B.pre)
  have hown : s.vm.findClass RX4 = some m.cls := findClass_of_methodNamed B.named
  have hlocks := B.notSynchronized
  have hf28 := hta _ mw_104
  have hf24 := hta _ mw_103
  have hf15 := hta _ mw_100
  subst hsz
  have hD := hD0.self (sz := s.heap.size)
  generalize hAe : va_A (xw a k st) s.heap.size = A at hD ⊢
  have hAz : ∀ q : Nat, s.heap.size ≤ q → A q := fun q h => by rw [← hAe]; exact Or.inr h
  have hS : va_S A s.heap s.heap [] := va_S.rf
  have hl := lv_entry ([.ref (a 7), .int w, .long x]) (n := 7) (Nat.le_of_ble_eq_true rfl)
  rw [lg_entry_eq]
  generalize (lg_sl ([.ref (a 7), .int w, .long x]) ++ List.replicate (7 - (lg_sl ([.ref (a 7), .int w, .long x])).length) Slot.unset).toArray = ls at hl ⊢
  have hl : lv_has ls 7 [(0, .ref (a 7)), (1, .int w), (2, .long x)] := hl
  generalize hR : fx_Terms_findOrAddConstant st w x = R
  rw [fx_Terms_findOrAddConstant] at hR
  refine lv_iload_n hx hb dX4_findOrAddConstant_0 rfl (lv_at hl 1 rfl) ?_
  refine lv_lload_n hx hb dX4_findOrAddConstant_1 rfl (lv_at hl 2 rfl) ?_
  refine wl_cl (va_runS (As := [.int w, .long x]) (rest := []) ⟨hx, hb, hml, hown, hta⟩ (kx_Width_readSigned l w x) (va_cwS 2 hta gX4_45 rfl rfl rfl (by decide +kernel) ⟨Nat.le_of_ble_eq_true rfl, Nat.le_of_ble_eq_true rfl⟩) preEq rfl rfl hl.1 rfl (lv_room (Nat.le_of_ble_eq_true rfl)) dX4_findOrAddConstant_2 ⟨Nat.zero_le _, Nat.zero_le _⟩) ?_
  refine lv_lstore (lv' := [(4, .long (fx_Width_readSigned w x)), (0, .ref (a 7)), (1, .int w), (2, .long x)]) hx hb dX4_findOrAddConstant_5 hl (by decide) rfl (fun ls hl => ?_)
  refine lv_iconst (v := (0 : Int32)) hx hb dX4_findOrAddConstant_7 (by decide) ?_
  refine lv_istore (lv' := [(6, .int (0 : Int32)), (4, .long (fx_Width_readSigned w x)), (0, .ref (a 7)), (1, .int w), (2, .long x)]) hx hb dX4_findOrAddConstant_8 hl (by decide) rfl (fun ls hl => ?_)
  have L10 : ∀ (n : Nat) (i : Nat) (H : Heap) (locs : List Loc) (ls : Array Slot), fx_Terms_findOrAddConstant_L10 st w x n i = R → (i ≤ N) → N - i < n → va_P (dC, dI) vwCl (xw a k st) H → va_D A (xw a k st) → va_S A s.heap H locs → lv_has ls 7 [(6, .int (nI i)), (4, .long (fx_Width_readSigned w x)), (0, .ref (a 7)), (1, .int w), (2, .long x)] → W p l e (headSpec wsX4_findOrAddConstant ({ frames := 1, cells := 0, slots := 0, locals := 23 })).room s m ([.ref (a 7), .int w, .long x] : List Value).toArray below meth c H locs 0 0 (MQ below (va_Qi (fun r9 u9 => (r9, u9) = R) (wl_at (dC, dI) vwCl (xt k) (xw a k) A) A) ([.ref (a 7), .int w, .long x] : List Value).toArray s 0 0 A) (F0 m 10 ls []) := by
    intro n
    induction n with
    | zero =>
      intro i H locs ls hR hi hm hP hD hS hl
      exact absurd hm (Nat.not_lt_zero _)
    | succ n ih =>
      intro i H locs ls hR hi hm hP hD hS hl
      rw [fx_Terms_findOrAddConstant_L10] at hR
      refine lv_iload hx hb dX4_findOrAddConstant_10 (lv_at hl 0 rfl) ?_
      refine lv_aload_n hx hb dX4_findOrAddConstant_12 rfl (lv_at hl 2 rfl) ?_
      refine va_get (D := (dC, dI)) (ci := 2) (v := .int (gI st 6)) (C := RX4) (T := TX4) (N := 7) hx hb hta inX4 hown hK hP 7 (xr_7 a k st) rfl 5 (by decide) hf28 (fun _ h9 => h9) rfl dX4_findOrAddConstant_13 ?_
      refine lv_icmp_ge (tgt := 61) hx hb dX4_findOrAddConstant_16 (by decide) (fun c16 => ?_) (fun c16 => ?_)
      · skip
        rw [if_pos c16] at hR
        refine lv_aload_n hx hb dX4_findOrAddConstant_61 rfl (lv_at hl 2 rfl) ?_
        refine wl_ci (va_runV (As := []) (rest := []) ⟨hx, hb, hml, hown, hta⟩ (kx_Terms_isFull l dC dI a k st) (cwV 0 hta gX4_51 rfl rfl rfl (by decide +kernel) ⟨Nat.le_of_ble_eq_true rfl, Nat.le_of_ble_eq_true rfl⟩) (wl_pR (C := RX4) (ci := 2) (q0 := 7) hK hP rfl (xr_7 a k st)) rfl rfl hl.1 rfl (lv_room (Nat.le_of_ble_eq_true rfl)) dX4_findOrAddConstant_62 ⟨Nat.zero_le _, Nat.zero_le _⟩) ?_
        refine lv_if_eq (tgt := 71) hx hb dX4_findOrAddConstant_65 (by decide) (fun c65 => ?_) (fun c65 => ?_)
        · skip
          rw [if_pos c65] at hR
          refine lv_aload_n hx hb dX4_findOrAddConstant_71 rfl (lv_at hl 2 rfl) ?_
          refine lv_bipush (v := (21 : Int32)) hx hb dX4_findOrAddConstant_72 (by decide) ?_
          refine lv_iload_n hx hb dX4_findOrAddConstant_74 rfl (lv_at hl 3 rfl) ?_
          refine wl_mi (va_runV (As := [.int (21 : Int32), .int w]) (rest := []) ⟨hx, hb, hml, hown, hta⟩ (kx_Terms_addPlain l dC dI a k st (21 : Int32) w _ (wl_isFull hN h64 c65)) (cwV 2 hta gX4_41 rfl rfl rfl (by decide +kernel) ⟨Nat.le_of_ble_eq_true rfl, Nat.le_of_ble_eq_true rfl⟩) (wl_pM (C := RX4) (ci := 2) (q0 := 7) hK hP hD rfl (xr_7 a k st)) rfl rfl hl.1 rfl (lv_room (Nat.le_of_ble_eq_true rfl)) dX4_findOrAddConstant_75 ⟨Nat.zero_le _, Nat.zero_le _⟩) hP hD hS hAz (fun r75 u75 H locs hw75 hP hD hS => ?_)
          have v75 : (fx_Terms_addPlain st (21 : Int32) w).1 = r75 := congrArg Prod.fst hw75.symm
          have w75 : (fx_Terms_addPlain st (21 : Int32) w).2 = u75 := congrArg Prod.snd hw75.symm
          have hf75 : XF [6] [3, 4] [] st u75 := by rw [← w75]; exact ff_Terms_addPlain st (21 : Int32) w
          try rw [v75] at hR
          try rw [w75] at hR
          refine lv_istore (lv' := [(6, .int (r75)), (4, .long (fx_Width_readSigned w x)), (0, .ref (a 7)), (1, .int w), (2, .long x)]) hx hb dX4_findOrAddConstant_78 hl (by decide) rfl (fun ls hl => ?_)
          refine lv_aload_n hx hb dX4_findOrAddConstant_80 rfl (lv_at hl 2 rfl) ?_
          refine va_get (D := (dC, dI)) (ci := 2) (v := .ref (a 12)) (C := RX4) (T := TX4) (N := 7) hx hb hta inX4 hown hK hP 7 (xr_7 a k (u75)) rfl 4 (by decide) hf24 (fun _ h9 => h9) rfl dX4_findOrAddConstant_81 ?_
          refine lv_iload hx hb dX4_findOrAddConstant_84 (lv_at hl 0 rfl) ?_
          refine lv_lload hx hb dX4_findOrAddConstant_86 (lv_at hl 1 rfl) ?_
          refine va_last hx hb hK hP hD hS 12 8 (xr_12 a k (u75)) rfl (by rw [← v75]; exact wl_isFull hN h64 c65) dX4_findOrAddConstant_88 (fun H locs hP hD hS => ?_)
          have hP := xp_L1 hP
          have hD := xd_L1 hD
          refine lv_iload hx hb dX4_findOrAddConstant_89 (lv_at hl 0 rfl) ?_
          exact W.iret (v := r75) hx hb hr (fun t ht hW => ⟨⟨_, _, rfl, hR, by rw [ht]; exact hP, va_K.moved hW.alike hK, hD⟩, hS.F ht⟩) hS.2.2 dX4_findOrAddConstant_91
        · skip
          rw [if_neg c65] at hR
          refine lv_bipush (v := (-2 : Int32)) hx hb dX4_findOrAddConstant_68 (by decide) ?_
          exact W.iret (v := (-2 : Int32)) hx hb hr (fun t ht hW => ⟨⟨_, _, rfl, hR, by rw [ht]; exact hP, va_K.moved hW.alike hK, hD⟩, hS.F ht⟩) hS.2.2 dX4_findOrAddConstant_70
      · skip
        rw [if_neg c16] at hR
        have hlt : i < N := wl_lt (by rw [← hN]; exact c16) (by omega)
        refine lv_aload_n hx hb dX4_findOrAddConstant_19 rfl (lv_at hl 2 rfl) ?_
        refine lv_iload hx hb dX4_findOrAddConstant_20 (lv_at hl 0 rfl) ?_
        refine wl_ci (va_runV (As := [.int (nI i)]) (rest := []) ⟨hx, hb, hml, hown, hta⟩ (kx_Terms_isConstant l dC dI a k st (nI i) (wl_in (by omega) (by decide))) (cwV 1 hta gX4_37 rfl rfl rfl (by decide +kernel) ⟨Nat.le_of_ble_eq_true rfl, Nat.le_of_ble_eq_true rfl⟩) (wl_pR (C := RX4) (ci := 2) (q0 := 7) hK hP rfl (xr_7 a k st)) rfl rfl hl.1 rfl (lv_room (Nat.le_of_ble_eq_true rfl)) dX4_findOrAddConstant_22 ⟨Nat.zero_le _, Nat.zero_le _⟩) ?_
        refine lv_if_eq (tgt := 55) hx hb dX4_findOrAddConstant_25 (by decide) (fun c25 => ?_) (fun c25 => ?_)
        · skip
          rw [if_pos c25] at hR
          refine lv_iinc (v := nI (i + 1)) (lv' := [(6, .int (nI (i + 1))), (4, .long (fx_Width_readSigned w x)), (0, .ref (a 7)), (1, .int w), (2, .long x)]) hx hb dX4_findOrAddConstant_55 hl (k := 0) rfl (nI_1 _) (by decide) rfl (fun ls hl => ?_)
          refine lv_goto (tgt := 10) hx hb dX4_findOrAddConstant_58 (by decide) ?_
          exact ih (i + 1) _ _ ls hR (by omega) (by omega) hP hD hS (lv_sub hl [0, 1, 2, 3, 4] rfl)
        · skip
          rw [if_neg c25] at hR
          refine lv_aload_n hx hb dX4_findOrAddConstant_28 rfl (lv_at hl 2 rfl) ?_
          refine va_get (D := (dC, dI)) (ci := 2) (v := .ref (a 9)) (C := RX4) (T := TX4) (N := 7) hx hb hta inX4 hown hK hP 7 (xr_7 a k st) rfl 1 (by decide) hf15 (fun _ h9 => h9) rfl dX4_findOrAddConstant_29 ?_
          refine lv_iload hx hb dX4_findOrAddConstant_32 (lv_at hl 0 rfl) ?_
          refine va_iald hx hb hK hP 9 5 (xr_9 a k st) rfl (wl_in (by omega) (by decide)) dX4_findOrAddConstant_34 ?_
          refine lv_iload_n hx hb dX4_findOrAddConstant_35 rfl (lv_at hl 3 rfl) ?_
          refine lv_icmp_ne (tgt := 55) hx hb dX4_findOrAddConstant_36 (by decide) (fun c36 => ?_) (fun c36 => ?_)
          · skip
            rw [if_neg c36] at hR
            refine lv_iinc (v := nI (i + 1)) (lv' := [(6, .int (nI (i + 1))), (4, .long (fx_Width_readSigned w x)), (0, .ref (a 7)), (1, .int w), (2, .long x)]) hx hb dX4_findOrAddConstant_55 hl (k := 0) rfl (nI_1 _) (by decide) rfl (fun ls hl => ?_)
            refine lv_goto (tgt := 10) hx hb dX4_findOrAddConstant_58 (by decide) ?_
            exact ih (i + 1) _ _ ls hR (by omega) (by omega) hP hD hS (lv_sub hl [0, 1, 2, 3, 4] rfl)
          · skip
            rw [if_pos c36] at hR
            refine lv_aload_n hx hb dX4_findOrAddConstant_39 rfl (lv_at hl 2 rfl) ?_
            refine va_get (D := (dC, dI)) (ci := 2) (v := .ref (a 12)) (C := RX4) (T := TX4) (N := 7) hx hb hta inX4 hown hK hP 7 (xr_7 a k st) rfl 4 (by decide) hf24 (fun _ h9 => h9) rfl dX4_findOrAddConstant_40 ?_
            refine lv_iload hx hb dX4_findOrAddConstant_43 (lv_at hl 0 rfl) ?_
            refine va_lald hx hb hK hP 12 8 (xr_12 a k st) rfl (wl_in (by omega) (by decide)) dX4_findOrAddConstant_45 ?_
            refine lv_lload hx hb dX4_findOrAddConstant_46 (lv_at hl 1 rfl) ?_
            refine W.lcmp hx hb dX4_findOrAddConstant_48 ?_
            refine lv_if_ne (tgt := 55) hx hb dX4_findOrAddConstant_49 (by decide) (fun c49 => ?_) (fun c49 => ?_)
            · skip
              rw [if_neg c49] at hR
              refine lv_iinc (v := nI (i + 1)) (lv' := [(6, .int (nI (i + 1))), (4, .long (fx_Width_readSigned w x)), (0, .ref (a 7)), (1, .int w), (2, .long x)]) hx hb dX4_findOrAddConstant_55 hl (k := 0) rfl (nI_1 _) (by decide) rfl (fun ls hl => ?_)
              refine lv_goto (tgt := 10) hx hb dX4_findOrAddConstant_58 (by decide) ?_
              exact ih (i + 1) _ _ ls hR (by omega) (by omega) hP hD hS (lv_sub hl [0, 1, 2, 3, 4] rfl)
            · skip
              rw [if_pos c49] at hR
              refine lv_iload hx hb dX4_findOrAddConstant_52 (lv_at hl 0 rfl) ?_
              exact W.iret (v := nI i) hx hb hr (fun t ht hW => ⟨⟨_, _, rfl, hR, by rw [ht]; exact hP, va_K.moved hW.alike hK, hD⟩, hS.F ht⟩) hS.2.2 dX4_findOrAddConstant_54
  exact L10 65 0 _ _ ls hR (Nat.zero_le _) (by omega) hP hD hS (lv_sub hl [0, 1, 2, 3, 4] rfl)

theorem mw_430 : (.code yX4_operandOf cX4_operandOf 3 (some .int) : Cond) ∈ AW := List.mem_filter.mpr ⟨List.mem_of_getElem? (i := 430) (by decide +kernel), rfl⟩
theorem mw_435 : (.methodLink RX4 55 yX4_operandOf : Cond) ∈ AW := List.mem_filter.mpr ⟨List.mem_of_getElem? (i := 435) (by decide +kernel), rfl⟩
theorem mw_428 : (.instanceMethod yX4_operandOf : Cond) ∈ AW := List.mem_filter.mpr ⟨List.mem_of_getElem? (i := 428) (by decide +kernel), rfl⟩
theorem mw_429 : (.selects RX4 yX4_operandOf yX4_operandOf : Cond) ∈ AW := List.mem_filter.mpr ⟨List.mem_of_getElem? (i := 429) (by decide +kernel), rfl⟩
theorem gX4_55 : GoodIn AW (wsV RX4 55 RX4 yX4_operandOf wsX4_operandOf) := aw_V mw_435 mw_428 mw_429 mw_41 mw_430
theorem dX4_find_0 : decode cX4_find 0 = .ok (.iconst 0, 1) := by decide +kernel
theorem dX4_find_1 : decode cX4_find 1 = .ok (.istore 5, 2) := by decide +kernel
theorem dX4_find_3 : decode cX4_find 3 = .ok (.iload 5, 2) := by decide +kernel
theorem dX4_find_5 : decode cX4_find 5 = .ok (.aload_n 0, 1) := by decide +kernel
theorem dX4_find_6 : decode cX4_find 6 = .ok (.getfield 28, 3) := by decide +kernel
theorem dX4_find_9 : decode cX4_find 9 = .ok (.if_icmp .ge 57, 3) := by decide +kernel
theorem dX4_find_12 : decode cX4_find 12 = .ok (.aload_n 0, 1) := by decide +kernel
theorem dX4_find_13 : decode cX4_find 13 = .ok (.getfield 11, 3) := by decide +kernel
theorem dX4_find_16 : decode cX4_find 16 = .ok (.iload 5, 2) := by decide +kernel
theorem dX4_find_18 : decode cX4_find 18 = .ok (.iaload, 1) := by decide +kernel
theorem dX4_find_19 : decode cX4_find 19 = .ok (.iload_n 1, 1) := by decide +kernel
theorem dX4_find_20 : decode cX4_find 20 = .ok (.if_icmp .ne 40, 3) := by decide +kernel
theorem dX4_find_23 : decode cX4_find 23 = .ok (.aload_n 0, 1) := by decide +kernel
theorem dX4_find_24 : decode cX4_find 24 = .ok (.iload 5, 2) := by decide +kernel
theorem dX4_find_26 : decode cX4_find 26 = .ok (.iconst 0, 1) := by decide +kernel
theorem dX4_find_27 : decode cX4_find 27 = .ok (.invokevirtual 55, 3) := by decide +kernel
theorem dX4_find_30 : decode cX4_find 30 = .ok (.iload_n 2, 1) := by decide +kernel
theorem dX4_find_31 : decode cX4_find 31 = .ok (.if_icmp .ne 29, 3) := by decide +kernel
theorem dX4_find_34 : decode cX4_find 34 = .ok (.aload_n 0, 1) := by decide +kernel
theorem dX4_find_35 : decode cX4_find 35 = .ok (.iload 5, 2) := by decide +kernel
theorem dX4_find_37 : decode cX4_find 37 = .ok (.iconst 1, 1) := by decide +kernel
theorem dX4_find_38 : decode cX4_find 38 = .ok (.invokevirtual 55, 3) := by decide +kernel
theorem dX4_find_41 : decode cX4_find 41 = .ok (.iload_n 3, 1) := by decide +kernel
theorem dX4_find_42 : decode cX4_find 42 = .ok (.if_icmp .ne 18, 3) := by decide +kernel
theorem dX4_find_45 : decode cX4_find 45 = .ok (.aload_n 0, 1) := by decide +kernel
theorem dX4_find_46 : decode cX4_find 46 = .ok (.iload 5, 2) := by decide +kernel
theorem dX4_find_48 : decode cX4_find 48 = .ok (.iconst 2, 1) := by decide +kernel
theorem dX4_find_49 : decode cX4_find 49 = .ok (.invokevirtual 55, 3) := by decide +kernel
theorem dX4_find_52 : decode cX4_find 52 = .ok (.iload 4, 2) := by decide +kernel
theorem dX4_find_54 : decode cX4_find 54 = .ok (.if_icmp .ne 6, 3) := by decide +kernel
theorem dX4_find_57 : decode cX4_find 57 = .ok (.iload 5, 2) := by decide +kernel
theorem dX4_find_59 : decode cX4_find 59 = .ok (.ireturn, 1) := by decide +kernel
theorem dX4_find_60 : decode cX4_find 60 = .ok (.iinc 5 1, 3) := by decide +kernel
theorem dX4_find_63 : decode cX4_find 63 = .ok (.goto (-60), 3) := by decide +kernel
theorem dX4_find_66 : decode cX4_find 66 = .ok (.bipush (-3), 2) := by decide +kernel
theorem dX4_find_68 : decode cX4_find 68 = .ok (.ireturn, 1) := by decide +kernel
def fx_Terms_find_L3 (st : XS) (o : Int32) (a1 : Int32) (b1 : Int32) (c1 : Int32) : Nat → Nat → Int32
  | 0, i => 0
  | n + 1, i => 
    if gI st 6 ≤ nI i then (-3 : Int32)
    else 
      if fA st 3 (nI i).toNatClampNeg = o then 
        if fx_Terms_operandOf st (nI i) (0 : Int32) = a1 then 
          if fx_Terms_operandOf st (nI i) (1 : Int32) = b1 then 
            if fx_Terms_operandOf st (nI i) (2 : Int32) = c1 then nI i
            else fx_Terms_find_L3 st o a1 b1 c1 n (i + 1)
          else fx_Terms_find_L3 st o a1 b1 c1 n (i + 1)
        else fx_Terms_find_L3 st o a1 b1 c1 n (i + 1)
      else fx_Terms_find_L3 st o a1 b1 c1 n (i + 1)
def fx_Terms_find (st : XS) (o : Int32) (a1 : Int32) (b1 : Int32) (c1 : Int32) : Int32 := fx_Terms_find_L3 st o a1 b1 c1 65 0
set_option maxHeartbeats 4000000 in
set_option maxRecDepth 100000 in
theorem kx_Terms_find (l : Launch) (dC : Nat → ClassId) (dI : Nat → Nat → Nat) (a : Nat → Nat) (k : Nat → ClassId) (st : XS) (o : Int32) (a1 : Int32) (b1 : Int32) (c1 : Int32) (N : Nat) (hN : gI st 6 = nI N) (h64 : N ≤ 64) : Met l yX4_find wsX4_find ({ frames := 1, cells := 0, slots := 0, locals := 22 }) (va_Pc [.ref (a 7), .int o, .int a1, .int b1, .int c1] (wl_prR (dC, dI) vwCl (xt k) (xw a k st))) (vp_Si (fun r9 => r9 = fx_Terms_find st o a1 b1 c1)) 0 0 (fun _ => False) := by
  refine Met.ofW (cc := cX4_find) (maxL := 6) (ret := (some .int)) (by decide) rfl ?_
  intro p e s m args below meth c s₁ B hml hv
  obtain ⟨rfl, hP, hK⟩ := hv
  have hx := B.exec
  have hb := B.bytes
  have hr := B.returns
  have hta := aw_hts (atoms_spec (ws := wsX4_find) B.pre)
  have hown : s.vm.findClass RX4 = some m.cls := findClass_of_methodNamed B.named
  have hlocks := B.notSynchronized
  have hf28 := hta _ mw_104
  have hf11 := hta _ mw_99
  have hl := lv_entry ([.ref (a 7), .int o, .int a1, .int b1, .int c1]) (n := 6) (Nat.le_of_ble_eq_true rfl)
  rw [lg_entry_eq]
  generalize (lg_sl ([.ref (a 7), .int o, .int a1, .int b1, .int c1]) ++ List.replicate (6 - (lg_sl ([.ref (a 7), .int o, .int a1, .int b1, .int c1])).length) Slot.unset).toArray = ls at hl ⊢
  have hl : lv_has ls 6 [(0, .ref (a 7)), (1, .int o), (2, .int a1), (3, .int b1), (4, .int c1)] := hl
  generalize hR : fx_Terms_find st o a1 b1 c1 = R
  rw [fx_Terms_find] at hR
  refine lv_iconst (v := (0 : Int32)) hx hb dX4_find_0 (by decide) ?_
  refine lv_istore (lv' := [(5, .int (0 : Int32)), (0, .ref (a 7)), (1, .int o), (2, .int a1), (3, .int b1), (4, .int c1)]) hx hb dX4_find_1 hl (by decide) rfl (fun ls hl => ?_)
  have L3 : ∀ (n : Nat) (i : Nat) (ls : Array Slot), fx_Terms_find_L3 st o a1 b1 c1 n i = R → (i ≤ N) → N - i < n → lv_has ls 6 [(5, .int (nI i)), (0, .ref (a 7)), (1, .int o), (2, .int a1), (3, .int b1), (4, .int c1)] → W p l e (headSpec wsX4_find ({ frames := 1, cells := 0, slots := 0, locals := 22 })).room s m ([.ref (a 7), .int o, .int a1, .int b1, .int c1] : List Value).toArray below meth c s.heap [] 0 0 (MQ below (vp_Si (fun r9 => r9 = R)) ([.ref (a 7), .int o, .int a1, .int b1, .int c1] : List Value).toArray s 0 0 (fun _ => False)) (F0 m 3 ls []) := by
    intro n
    induction n with
    | zero =>
      intro i ls hR hi hm hl
      exact absurd hm (Nat.not_lt_zero _)
    | succ n ih =>
      intro i ls hR hi hm hl
      rw [fx_Terms_find_L3] at hR
      refine lv_iload hx hb dX4_find_3 (lv_at hl 0 rfl) ?_
      refine lv_aload_n hx hb dX4_find_5 rfl (lv_at hl 1 rfl) ?_
      refine va_get (D := (dC, dI)) (ci := 2) (v := .int (gI st 6)) (C := RX4) (T := TX4) (N := 7) hx hb hta inX4 hown hK hP 7 (xr_7 a k st) rfl 5 (by decide) hf28 (fun _ h9 => h9) rfl dX4_find_6 ?_
      refine lv_icmp_ge (tgt := 66) hx hb dX4_find_9 (by decide) (fun c9 => ?_) (fun c9 => ?_)
      · skip
        rw [if_pos c9] at hR
        refine lv_bipush (v := (-3 : Int32)) hx hb dX4_find_66 (by decide) ?_
        exact W.iret (v := (-3 : Int32)) hx hb hr (fun t ht hW => ⟨_, rfl, hR, ht⟩) (fun q h => by cases h) dX4_find_68
      · skip
        rw [if_neg c9] at hR
        have hlt : i < N := wl_lt (by rw [← hN]; exact c9) (by omega)
        refine lv_aload_n hx hb dX4_find_12 rfl (lv_at hl 1 rfl) ?_
        refine va_get (D := (dC, dI)) (ci := 2) (v := .ref (a 8)) (C := RX4) (T := TX4) (N := 7) hx hb hta inX4 hown hK hP 7 (xr_7 a k st) rfl 0 (by decide) hf11 (fun _ h9 => h9) rfl dX4_find_13 ?_
        refine lv_iload hx hb dX4_find_16 (lv_at hl 0 rfl) ?_
        refine va_iald hx hb hK hP 8 4 (xr_8 a k st) rfl (wl_in (by omega) (by decide)) dX4_find_18 ?_
        refine lv_iload_n hx hb dX4_find_19 rfl (lv_at hl 2 rfl) ?_
        refine lv_icmp_ne (tgt := 60) hx hb dX4_find_20 (by decide) (fun c20 => ?_) (fun c20 => ?_)
        · skip
          rw [if_neg c20] at hR
          refine lv_iinc (v := nI (i + 1)) (lv' := [(5, .int (nI (i + 1))), (0, .ref (a 7)), (1, .int o), (2, .int a1), (3, .int b1), (4, .int c1)]) hx hb dX4_find_60 hl (k := 0) rfl (nI_1 _) (by decide) rfl (fun ls hl => ?_)
          refine lv_goto (tgt := 3) hx hb dX4_find_63 (by decide) ?_
          exact ih (i + 1) ls hR (by omega) (by omega) (lv_sub hl [0, 1, 2, 3, 4, 5] rfl)
        · skip
          rw [if_pos c20] at hR
          refine lv_aload_n hx hb dX4_find_23 rfl (lv_at hl 1 rfl) ?_
          refine lv_iload hx hb dX4_find_24 (lv_at hl 0 rfl) ?_
          refine lv_iconst (v := (0 : Int32)) hx hb dX4_find_26 (by decide) ?_
          refine wl_ci (va_runV (As := [.int (nI i), .int (0 : Int32)]) (rest := []) ⟨hx, hb, hml, hown, hta⟩ (kx_Terms_operandOf l dC dI a k st (nI i) (0 : Int32) (wl_i3 0 (by omega) (by decide))) (cwV 2 hta gX4_55 rfl rfl rfl (by decide +kernel) ⟨Nat.le_of_ble_eq_true rfl, Nat.le_of_ble_eq_true rfl⟩) (wl_pR (C := RX4) (ci := 2) (q0 := 7) hK hP rfl (xr_7 a k st)) rfl rfl hl.1 rfl (lv_room (Nat.le_of_ble_eq_true rfl)) dX4_find_27 ⟨Nat.zero_le _, Nat.zero_le _⟩) ?_
          refine lv_iload_n hx hb dX4_find_30 rfl (lv_at hl 3 rfl) ?_
          refine lv_icmp_ne (tgt := 60) hx hb dX4_find_31 (by decide) (fun c31 => ?_) (fun c31 => ?_)
          · skip
            rw [if_neg c31] at hR
            refine lv_iinc (v := nI (i + 1)) (lv' := [(5, .int (nI (i + 1))), (0, .ref (a 7)), (1, .int o), (2, .int a1), (3, .int b1), (4, .int c1)]) hx hb dX4_find_60 hl (k := 0) rfl (nI_1 _) (by decide) rfl (fun ls hl => ?_)
            refine lv_goto (tgt := 3) hx hb dX4_find_63 (by decide) ?_
            exact ih (i + 1) ls hR (by omega) (by omega) (lv_sub hl [0, 1, 2, 3, 4, 5] rfl)
          · skip
            rw [if_pos c31] at hR
            refine lv_aload_n hx hb dX4_find_34 rfl (lv_at hl 1 rfl) ?_
            refine lv_iload hx hb dX4_find_35 (lv_at hl 0 rfl) ?_
            refine lv_iconst (v := (1 : Int32)) hx hb dX4_find_37 (by decide) ?_
            refine wl_ci (va_runV (As := [.int (nI i), .int (1 : Int32)]) (rest := []) ⟨hx, hb, hml, hown, hta⟩ (kx_Terms_operandOf l dC dI a k st (nI i) (1 : Int32) (wl_i3 1 (by omega) (by decide))) (cwV 2 hta gX4_55 rfl rfl rfl (by decide +kernel) ⟨Nat.le_of_ble_eq_true rfl, Nat.le_of_ble_eq_true rfl⟩) (wl_pR (C := RX4) (ci := 2) (q0 := 7) hK hP rfl (xr_7 a k st)) rfl rfl hl.1 rfl (lv_room (Nat.le_of_ble_eq_true rfl)) dX4_find_38 ⟨Nat.zero_le _, Nat.zero_le _⟩) ?_
            refine lv_iload_n hx hb dX4_find_41 rfl (lv_at hl 4 rfl) ?_
            refine lv_icmp_ne (tgt := 60) hx hb dX4_find_42 (by decide) (fun c42 => ?_) (fun c42 => ?_)
            · skip
              rw [if_neg c42] at hR
              refine lv_iinc (v := nI (i + 1)) (lv' := [(5, .int (nI (i + 1))), (0, .ref (a 7)), (1, .int o), (2, .int a1), (3, .int b1), (4, .int c1)]) hx hb dX4_find_60 hl (k := 0) rfl (nI_1 _) (by decide) rfl (fun ls hl => ?_)
              refine lv_goto (tgt := 3) hx hb dX4_find_63 (by decide) ?_
              exact ih (i + 1) ls hR (by omega) (by omega) (lv_sub hl [0, 1, 2, 3, 4, 5] rfl)
            · skip
              rw [if_pos c42] at hR
              refine lv_aload_n hx hb dX4_find_45 rfl (lv_at hl 1 rfl) ?_
              refine lv_iload hx hb dX4_find_46 (lv_at hl 0 rfl) ?_
              refine lv_iconst (v := (2 : Int32)) hx hb dX4_find_48 (by decide) ?_
              refine wl_ci (va_runV (As := [.int (nI i), .int (2 : Int32)]) (rest := []) ⟨hx, hb, hml, hown, hta⟩ (kx_Terms_operandOf l dC dI a k st (nI i) (2 : Int32) (wl_i3 2 (by omega) (by decide))) (cwV 2 hta gX4_55 rfl rfl rfl (by decide +kernel) ⟨Nat.le_of_ble_eq_true rfl, Nat.le_of_ble_eq_true rfl⟩) (wl_pR (C := RX4) (ci := 2) (q0 := 7) hK hP rfl (xr_7 a k st)) rfl rfl hl.1 rfl (lv_room (Nat.le_of_ble_eq_true rfl)) dX4_find_49 ⟨Nat.zero_le _, Nat.zero_le _⟩) ?_
              refine lv_iload hx hb dX4_find_52 (lv_at hl 5 rfl) ?_
              refine lv_icmp_ne (tgt := 60) hx hb dX4_find_54 (by decide) (fun c54 => ?_) (fun c54 => ?_)
              · skip
                rw [if_neg c54] at hR
                refine lv_iinc (v := nI (i + 1)) (lv' := [(5, .int (nI (i + 1))), (0, .ref (a 7)), (1, .int o), (2, .int a1), (3, .int b1), (4, .int c1)]) hx hb dX4_find_60 hl (k := 0) rfl (nI_1 _) (by decide) rfl (fun ls hl => ?_)
                refine lv_goto (tgt := 3) hx hb dX4_find_63 (by decide) ?_
                exact ih (i + 1) ls hR (by omega) (by omega) (lv_sub hl [0, 1, 2, 3, 4, 5] rfl)
              · skip
                rw [if_pos c54] at hR
                refine lv_iload hx hb dX4_find_57 (lv_at hl 0 rfl) ?_
                exact W.iret (v := nI i) hx hb hr (fun t ht hW => ⟨_, rfl, hR, ht⟩) (fun q h => by cases h) dX4_find_59
  exact L3 65 0 ls hR (Nat.zero_le _) (by omega) (lv_sub hl [0, 1, 2, 3, 4, 5] rfl)

theorem wl_nmle (o : Int32) : fx_Op_namedTerms o ≤ (3 : Int32) := by
  rw [fx_Op_namedTerms, fx_Op_named]
  (repeat' split) <;> decide
theorem wl_lt3 {nm : Int32} {i : Nat} (hi : i ≤ 3) (hnm : nm ≤ (3 : Int32)) (c : ¬ nm ≤ nI i) : i < 3 := by
  rcases Nat.lt_or_ge i 3 with h | h
  · exact h
  · have e : i = 3 := by omega
    subst e
    exact absurd hnm c
theorem wl_nm3 {o : Int32} {i : Nat} (hi : i ≤ 3) (c : ¬ fx_Op_namedTerms o ≤ nI i) : i < 3 := wl_lt3 hi (wl_nmle o) c
theorem wl_opn {st : XS} {t j : Nat} (ht : t < 64) (hj : j < 3) : fx_Terms_operandOf st (nI t) (nI j) = fA st 5 (3 * t + j) := by
  rw [fx_Terms_operandOf, wl_c3 j ht hj]
theorem wl_ntr {st : XS} {t j : Nat} (ht : t < 64) (hj : j < 3) (h : vp_in (fA st 5 (3 * t + j)) 64) : vp_in (fx_Terms_operandOf st (nI t) (nI j)) 64 := by
  rw [wl_opn ht hj]; exact h

theorem dX4_widthOfResult_0 : decode cX4_widthOfResult 0 = .ok (.iload_n 1, 1) := by decide +kernel
theorem dX4_widthOfResult_1 : decode cX4_widthOfResult 1 = .ok (.tableswitch 54 13 19 #[43, 43, 43, 45, 52, 52, 52], 43) := by decide +kernel
theorem dX4_widthOfResult_44 : decode cX4_widthOfResult 44 = .ok (.iconst 1, 1) := by decide +kernel
theorem dX4_widthOfResult_45 : decode cX4_widthOfResult 45 = .ok (.ireturn, 1) := by decide +kernel
theorem dX4_widthOfResult_46 : decode cX4_widthOfResult 46 = .ok (.aload_n 0, 1) := by decide +kernel
theorem dX4_widthOfResult_47 : decode cX4_widthOfResult 47 = .ok (.getfield 15, 3) := by decide +kernel
theorem dX4_widthOfResult_50 : decode cX4_widthOfResult 50 = .ok (.iload_n 3, 1) := by decide +kernel
theorem dX4_widthOfResult_51 : decode cX4_widthOfResult 51 = .ok (.iaload, 1) := by decide +kernel
theorem dX4_widthOfResult_52 : decode cX4_widthOfResult 52 = .ok (.ireturn, 1) := by decide +kernel
theorem dX4_widthOfResult_53 : decode cX4_widthOfResult 53 = .ok (.iload_n 3, 1) := by decide +kernel
theorem dX4_widthOfResult_54 : decode cX4_widthOfResult 54 = .ok (.ireturn, 1) := by decide +kernel
theorem dX4_widthOfResult_55 : decode cX4_widthOfResult 55 = .ok (.aload_n 0, 1) := by decide +kernel
theorem dX4_widthOfResult_56 : decode cX4_widthOfResult 56 = .ok (.getfield 15, 3) := by decide +kernel
theorem dX4_widthOfResult_59 : decode cX4_widthOfResult 59 = .ok (.iload_n 2, 1) := by decide +kernel
theorem dX4_widthOfResult_60 : decode cX4_widthOfResult 60 = .ok (.iaload, 1) := by decide +kernel
theorem dX4_widthOfResult_61 : decode cX4_widthOfResult 61 = .ok (.ireturn, 1) := by decide +kernel
def fx_Terms_widthOfResult (st : XS) (o : Int32) (a1 : Int32) (b1 : Int32) : Int32 := 
  if o = (13 : Int32) then (1 : Int32)
  else 
    if o = (14 : Int32) then (1 : Int32)
    else 
      if o = (15 : Int32) then (1 : Int32)
      else 
        if o = (16 : Int32) then fA st 4 b1.toNatClampNeg
        else 
          if o = (17 : Int32) then b1
          else 
            if o = (18 : Int32) then b1
            else 
              if o = (19 : Int32) then b1
              else fA st 4 a1.toNatClampNeg
set_option maxHeartbeats 4000000 in
set_option maxRecDepth 100000 in
theorem kx_Terms_widthOfResult (l : Launch) (dC : Nat → ClassId) (dI : Nat → Nat → Nat) (a : Nat → Nat) (k : Nat → ClassId) (st : XS) (o : Int32) (a1 : Int32) (b1 : Int32) (hA : vp_in a1 64) (hB : o = (16 : Int32) → vp_in b1 64) : Met l yX4_widthOfResult wsX4_widthOfResult ({ frames := 0, cells := 0, slots := 0, locals := 0 }) (va_Pc [.ref (a 7), .int o, .int a1, .int b1] (wl_prR (dC, dI) vwCl (xt k) (xw a k st))) (vp_Si (fun r9 => r9 = fx_Terms_widthOfResult st o a1 b1)) 0 0 (fun _ => False) := by
  refine Met.ofW (cc := cX4_widthOfResult) (maxL := 4) (ret := (some .int)) (by decide) rfl ?_
  intro p e s m args below meth c s₁ B hml hv
  obtain ⟨rfl, hP, hK⟩ := hv
  have hx := B.exec
  have hb := B.bytes
  have hr := B.returns
  have hta := aw_hts (atoms_spec (ws := wsX4_widthOfResult) B.pre)
  have hown : s.vm.findClass RX4 = some m.cls := findClass_of_methodNamed B.named
  have hlocks := B.notSynchronized
  have hf15 := hta _ mw_100
  have hl := lv_entry ([.ref (a 7), .int o, .int a1, .int b1]) (n := 4) (Nat.le_of_ble_eq_true rfl)
  rw [lg_entry_eq]
  generalize (lg_sl ([.ref (a 7), .int o, .int a1, .int b1]) ++ List.replicate (4 - (lg_sl ([.ref (a 7), .int o, .int a1, .int b1])).length) Slot.unset).toArray = ls at hl ⊢
  have hl : lv_has ls 4 [(0, .ref (a 7)), (1, .int o), (2, .int a1), (3, .int b1)] := hl
  generalize hR : fx_Terms_widthOfResult st o a1 b1 = R
  rw [fx_Terms_widthOfResult] at hR
  refine lv_iload_n hx hb dX4_widthOfResult_0 rfl (lv_at hl 1 rfl) ?_
  by_cases c1_13 : o = (13 : Int32)
  · skip
    rw [if_pos c1_13] at hR
    refine lv_tableIn (tgt := 44) hx hb dX4_widthOfResult_1 (by rw [c1_13]; decide) (by rw [c1_13]; decide) (by rw [c1_13] <;> rfl) (by decide) ?_
    refine lv_iconst (v := (1 : Int32)) hx hb dX4_widthOfResult_44 (by decide) ?_
    exact W.iret (v := (1 : Int32)) hx hb hr (fun t ht hW => ⟨_, rfl, hR, ht⟩) (fun q h => by cases h) dX4_widthOfResult_45
  · skip
    rw [if_neg c1_13] at hR
    by_cases c1_14 : o = (14 : Int32)
    · skip
      rw [if_pos c1_14] at hR
      refine lv_tableIn (tgt := 44) hx hb dX4_widthOfResult_1 (by rw [c1_14]; decide) (by rw [c1_14]; decide) (by rw [c1_14] <;> rfl) (by decide) ?_
      refine lv_iconst (v := (1 : Int32)) hx hb dX4_widthOfResult_44 (by decide) ?_
      exact W.iret (v := (1 : Int32)) hx hb hr (fun t ht hW => ⟨_, rfl, hR, ht⟩) (fun q h => by cases h) dX4_widthOfResult_45
    · skip
      rw [if_neg c1_14] at hR
      by_cases c1_15 : o = (15 : Int32)
      · skip
        rw [if_pos c1_15] at hR
        refine lv_tableIn (tgt := 44) hx hb dX4_widthOfResult_1 (by rw [c1_15]; decide) (by rw [c1_15]; decide) (by rw [c1_15] <;> rfl) (by decide) ?_
        refine lv_iconst (v := (1 : Int32)) hx hb dX4_widthOfResult_44 (by decide) ?_
        exact W.iret (v := (1 : Int32)) hx hb hr (fun t ht hW => ⟨_, rfl, hR, ht⟩) (fun q h => by cases h) dX4_widthOfResult_45
      · skip
        rw [if_neg c1_15] at hR
        by_cases c1_16 : o = (16 : Int32)
        · skip
          rw [if_pos c1_16] at hR
          refine lv_tableIn (tgt := 46) hx hb dX4_widthOfResult_1 (by rw [c1_16]; decide) (by rw [c1_16]; decide) (by rw [c1_16] <;> rfl) (by decide) ?_
          refine lv_aload_n hx hb dX4_widthOfResult_46 rfl (lv_at hl 0 rfl) ?_
          refine va_get (D := (dC, dI)) (ci := 2) (v := .ref (a 9)) (C := RX4) (T := TX4) (N := 7) hx hb hta inX4 hown hK hP 7 (xr_7 a k st) rfl 1 (by decide) hf15 (fun _ h9 => h9) rfl dX4_widthOfResult_47 ?_
          refine lv_iload_n hx hb dX4_widthOfResult_50 rfl (lv_at hl 3 rfl) ?_
          refine va_iald hx hb hK hP 9 5 (xr_9 a k st) rfl (hB c1_16) dX4_widthOfResult_51 ?_
          exact W.iret (v := fA st 4 b1.toNatClampNeg) hx hb hr (fun t ht hW => ⟨_, rfl, hR, ht⟩) (fun q h => by cases h) dX4_widthOfResult_52
        · skip
          rw [if_neg c1_16] at hR
          by_cases c1_17 : o = (17 : Int32)
          · skip
            rw [if_pos c1_17] at hR
            refine lv_tableIn (tgt := 53) hx hb dX4_widthOfResult_1 (by rw [c1_17]; decide) (by rw [c1_17]; decide) (by rw [c1_17] <;> rfl) (by decide) ?_
            refine lv_iload_n hx hb dX4_widthOfResult_53 rfl (lv_at hl 3 rfl) ?_
            exact W.iret (v := b1) hx hb hr (fun t ht hW => ⟨_, rfl, hR, ht⟩) (fun q h => by cases h) dX4_widthOfResult_54
          · skip
            rw [if_neg c1_17] at hR
            by_cases c1_18 : o = (18 : Int32)
            · skip
              rw [if_pos c1_18] at hR
              refine lv_tableIn (tgt := 53) hx hb dX4_widthOfResult_1 (by rw [c1_18]; decide) (by rw [c1_18]; decide) (by rw [c1_18] <;> rfl) (by decide) ?_
              refine lv_iload_n hx hb dX4_widthOfResult_53 rfl (lv_at hl 3 rfl) ?_
              exact W.iret (v := b1) hx hb hr (fun t ht hW => ⟨_, rfl, hR, ht⟩) (fun q h => by cases h) dX4_widthOfResult_54
            · skip
              rw [if_neg c1_18] at hR
              by_cases c1_19 : o = (19 : Int32)
              · skip
                rw [if_pos c1_19] at hR
                refine lv_tableIn (tgt := 53) hx hb dX4_widthOfResult_1 (by rw [c1_19]; decide) (by rw [c1_19]; decide) (by rw [c1_19] <;> rfl) (by decide) ?_
                refine lv_iload_n hx hb dX4_widthOfResult_53 rfl (lv_at hl 3 rfl) ?_
                exact W.iret (v := b1) hx hb hr (fun t ht hW => ⟨_, rfl, hR, ht⟩) (fun q h => by cases h) dX4_widthOfResult_54
              · skip
                rw [if_neg c1_19] at hR
                have t1_13 := lv_neT (a := 13) c1_13 (by decide)
                have t1_14 := lv_neT (a := 14) c1_14 (by decide)
                have t1_15 := lv_neT (a := 15) c1_15 (by decide)
                have t1_16 := lv_neT (a := 16) c1_16 (by decide)
                have t1_17 := lv_neT (a := 17) c1_17 (by decide)
                have t1_18 := lv_neT (a := 18) c1_18 (by decide)
                have t1_19 := lv_neT (a := 19) c1_19 (by decide)
                refine lv_tableOut (tgt := 55) hx hb dX4_widthOfResult_1 (by omega) (by decide) ?_
                refine lv_aload_n hx hb dX4_widthOfResult_55 rfl (lv_at hl 0 rfl) ?_
                refine va_get (D := (dC, dI)) (ci := 2) (v := .ref (a 9)) (C := RX4) (T := TX4) (N := 7) hx hb hta inX4 hown hK hP 7 (xr_7 a k st) rfl 1 (by decide) hf15 (fun _ h9 => h9) rfl dX4_widthOfResult_56 ?_
                refine lv_iload_n hx hb dX4_widthOfResult_59 rfl (lv_at hl 2 rfl) ?_
                refine va_iald hx hb hK hP 9 5 (xr_9 a k st) rfl hA dX4_widthOfResult_60 ?_
                exact W.iret (v := fA st 4 a1.toNatClampNeg) hx hb hr (fun t ht hW => ⟨_, rfl, hR, ht⟩) (fun q h => by cases h) dX4_widthOfResult_61

theorem mw_342 : (.code yX1_namedTerms cX1_namedTerms 1 (some .int) : Cond) ∈ AW := List.mem_filter.mpr ⟨List.mem_of_getElem? (i := 342) (by decide +kernel), rfl⟩
theorem mw_448 : (.methodLink RX4 69 yX1_namedTerms : Cond) ∈ AW := List.mem_filter.mpr ⟨List.mem_of_getElem? (i := 448) (by decide +kernel), rfl⟩
theorem mw_341 : (.static yX1_namedTerms : Cond) ∈ AW := List.mem_filter.mpr ⟨List.mem_of_getElem? (i := 341) (by decide +kernel), rfl⟩
theorem gX4_69 : GoodIn AW (va_wsS RX4 69 yX1_namedTerms wsX1_namedTerms) := aw_S mw_448 mw_341 mw_48 mw_342
theorem dX4_noteTablesRead_0 : decode cX4_noteTablesRead 0 = .ok (.aload_n 0, 1) := by decide +kernel
theorem dX4_noteTablesRead_1 : decode cX4_noteTablesRead 1 = .ok (.getfield 11, 3) := by decide +kernel
theorem dX4_noteTablesRead_4 : decode cX4_noteTablesRead 4 = .ok (.iload_n 1, 1) := by decide +kernel
theorem dX4_noteTablesRead_5 : decode cX4_noteTablesRead 5 = .ok (.iaload, 1) := by decide +kernel
theorem dX4_noteTablesRead_6 : decode cX4_noteTablesRead 6 = .ok (.bipush 20, 2) := by decide +kernel
theorem dX4_noteTablesRead_8 : decode cX4_noteTablesRead 8 = .ok (.if_icmp .ne 14, 3) := by decide +kernel
theorem dX4_noteTablesRead_11 : decode cX4_noteTablesRead 11 = .ok (.iconst 1, 1) := by decide +kernel
theorem dX4_noteTablesRead_12 : decode cX4_noteTablesRead 12 = .ok (.aload_n 0, 1) := by decide +kernel
theorem dX4_noteTablesRead_13 : decode cX4_noteTablesRead 13 = .ok (.iload_n 1, 1) := by decide +kernel
theorem dX4_noteTablesRead_14 : decode cX4_noteTablesRead 14 = .ok (.iconst 1, 1) := by decide +kernel
theorem dX4_noteTablesRead_15 : decode cX4_noteTablesRead 15 = .ok (.invokevirtual 55, 3) := by decide +kernel
theorem dX4_noteTablesRead_18 : decode cX4_noteTablesRead 18 = .ok (.ishl, 1) := by decide +kernel
theorem dX4_noteTablesRead_19 : decode cX4_noteTablesRead 19 = .ok (.goto 4, 3) := by decide +kernel
theorem dX4_noteTablesRead_22 : decode cX4_noteTablesRead 22 = .ok (.iconst 0, 1) := by decide +kernel
theorem dX4_noteTablesRead_23 : decode cX4_noteTablesRead 23 = .ok (.istore_n 2, 1) := by decide +kernel
theorem dX4_noteTablesRead_24 : decode cX4_noteTablesRead 24 = .ok (.aload_n 0, 1) := by decide +kernel
theorem dX4_noteTablesRead_25 : decode cX4_noteTablesRead 25 = .ok (.getfield 11, 3) := by decide +kernel
theorem dX4_noteTablesRead_28 : decode cX4_noteTablesRead 28 = .ok (.iload_n 1, 1) := by decide +kernel
theorem dX4_noteTablesRead_29 : decode cX4_noteTablesRead 29 = .ok (.iaload, 1) := by decide +kernel
theorem dX4_noteTablesRead_30 : decode cX4_noteTablesRead 30 = .ok (.invokestatic 69, 3) := by decide +kernel
theorem dX4_noteTablesRead_33 : decode cX4_noteTablesRead 33 = .ok (.istore_n 3, 1) := by decide +kernel
theorem dX4_noteTablesRead_34 : decode cX4_noteTablesRead 34 = .ok (.iconst 0, 1) := by decide +kernel
theorem dX4_noteTablesRead_35 : decode cX4_noteTablesRead 35 = .ok (.istore 4, 2) := by decide +kernel
theorem dX4_noteTablesRead_37 : decode cX4_noteTablesRead 37 = .ok (.iload 4, 2) := by decide +kernel
theorem dX4_noteTablesRead_39 : decode cX4_noteTablesRead 39 = .ok (.iload_n 3, 1) := by decide +kernel
theorem dX4_noteTablesRead_40 : decode cX4_noteTablesRead 40 = .ok (.if_icmp .ge 24, 3) := by decide +kernel
theorem dX4_noteTablesRead_43 : decode cX4_noteTablesRead 43 = .ok (.iload_n 2, 1) := by decide +kernel
theorem dX4_noteTablesRead_44 : decode cX4_noteTablesRead 44 = .ok (.aload_n 0, 1) := by decide +kernel
theorem dX4_noteTablesRead_45 : decode cX4_noteTablesRead 45 = .ok (.getfield 21, 3) := by decide +kernel
theorem dX4_noteTablesRead_48 : decode cX4_noteTablesRead 48 = .ok (.aload_n 0, 1) := by decide +kernel
theorem dX4_noteTablesRead_49 : decode cX4_noteTablesRead 49 = .ok (.iload_n 1, 1) := by decide +kernel
theorem dX4_noteTablesRead_50 : decode cX4_noteTablesRead 50 = .ok (.iload 4, 2) := by decide +kernel
theorem dX4_noteTablesRead_52 : decode cX4_noteTablesRead 52 = .ok (.invokevirtual 55, 3) := by decide +kernel
theorem dX4_noteTablesRead_55 : decode cX4_noteTablesRead 55 = .ok (.iaload, 1) := by decide +kernel
theorem dX4_noteTablesRead_56 : decode cX4_noteTablesRead 56 = .ok (.ior, 1) := by decide +kernel
theorem dX4_noteTablesRead_57 : decode cX4_noteTablesRead 57 = .ok (.istore_n 2, 1) := by decide +kernel
theorem dX4_noteTablesRead_58 : decode cX4_noteTablesRead 58 = .ok (.iinc 4 1, 3) := by decide +kernel
theorem dX4_noteTablesRead_61 : decode cX4_noteTablesRead 61 = .ok (.goto (-24), 3) := by decide +kernel
theorem dX4_noteTablesRead_64 : decode cX4_noteTablesRead 64 = .ok (.aload_n 0, 1) := by decide +kernel
theorem dX4_noteTablesRead_65 : decode cX4_noteTablesRead 65 = .ok (.getfield 21, 3) := by decide +kernel
theorem dX4_noteTablesRead_68 : decode cX4_noteTablesRead 68 = .ok (.iload_n 1, 1) := by decide +kernel
theorem dX4_noteTablesRead_69 : decode cX4_noteTablesRead 69 = .ok (.iload_n 2, 1) := by decide +kernel
theorem dX4_noteTablesRead_70 : decode cX4_noteTablesRead 70 = .ok (.iastore, 1) := by decide +kernel
theorem dX4_noteTablesRead_71 : decode cX4_noteTablesRead 71 = .ok (.return_, 1) := by decide +kernel
def fx_Terms_noteTablesRead_L37 (st : XS) (t : Int32) : Nat → Int32 → Nat → XS
  | 0, rd, i => st
  | n + 1, rd, i => 
    if fx_Op_namedTerms ((fA st 3 (t).toNatClampNeg)) ≤ nI i then wA st 6 ((t).toNatClampNeg) rd
    else fx_Terms_noteTablesRead_L37 st t n (rd ||| (fA st 6 (fx_Terms_operandOf st (t) (nI i)).toNatClampNeg)) (i + 1)
def fx_Terms_noteTablesRead (st : XS) (t : Int32) : XS := 
  if (fA st 3 (t).toNatClampNeg) = (20 : Int32) then fx_Terms_noteTablesRead_L37 st t 4 ((1 : Int32) <<< ((fx_Terms_operandOf st (t) (1 : Int32)) &&& 31)) 0
  else fx_Terms_noteTablesRead_L37 st t 4 (0 : Int32) 0
theorem fr_Terms_noteTablesRead_L37 (st : XS) (t : Int32) : ∀ (n : Nat) (rd : Int32) (i : Nat), XF [] [6] [] st (fx_Terms_noteTablesRead_L37 st t n rd i) := by
  intro n
  induction n with
  | zero => intro rd i; exact XF.rf
  | succ n ih =>
    intro rd i
    rw [fx_Terms_noteTablesRead_L37]
    exact (wl_ite (P := fun (q : XS) => XF [] [6] [] _ (q)) (XF.wA (by decide) XF.rf) (ih _ _))
theorem ff_Terms_noteTablesRead (st : XS) (t : Int32) : XF [] [6] [] st (fx_Terms_noteTablesRead st t) := by
  rw [fx_Terms_noteTablesRead]
  exact (wl_ite (P := fun (q : XS) => XF [] [6] [] _ (q)) (fr_Terms_noteTablesRead_L37 _ _ _ _ _) (fr_Terms_noteTablesRead_L37 _ _ _ _ _))
set_option maxHeartbeats 4000000 in
set_option maxRecDepth 100000 in
theorem kx_Terms_noteTablesRead (l : Launch) (dC : Nat → ClassId) (dI : Nat → Nat → Nat) (a : Nat → Nat) (k : Nat → ClassId) (st : XS) (T : Nat) (sz : Nat) (hT : T < 64) (hops : ∀ j : Nat, j < 3 → nI j < fx_Op_namedTerms (fA st 3 T) → vp_in (fA st 5 (3 * T + j)) 64) : Met l yX4_noteTablesRead wsX4_noteTablesRead ({ frames := 2, cells := 0, slots := 0, locals := 40 }) (va_Pc [.ref (a 7), .int (nI T)] (wl_pre (dC, dI) vwCl (xt k) (xw a k) st sz)) (va_Qv (fun u9 => u9 = fx_Terms_noteTablesRead st (nI T)) (wl_at (dC, dI) vwCl (xt k) (xw a k) (va_A (xw a k st) sz)) (va_A (xw a k st) sz)) 0 0 (va_A (xw a k st) sz) := by
  refine Met.ofW (cc := cX4_noteTablesRead) (maxL := 5) (ret := none) (by decide) rfl ?_
  intro p e s m args below meth c s₁ B hml hv
  obtain ⟨rfl, hsz, hP, hK, hD0⟩ := hv
  have hx := B.exec
  have hb := B.bytes
  have hr := B.returns
  have hta := aw_hts (atoms_spec (ws := wsX4_noteTablesRead) B.pre)
  have hown : s.vm.findClass RX4 = some m.cls := findClass_of_methodNamed B.named
  have hlocks := B.notSynchronized
  have hf11 := hta _ mw_99
  have hf21 := hta _ mw_102
  subst hsz
  have hD := hD0.self (sz := s.heap.size)
  generalize hAe : va_A (xw a k st) s.heap.size = A at hD ⊢
  have hAz : ∀ q : Nat, s.heap.size ≤ q → A q := fun q h => by rw [← hAe]; exact Or.inr h
  have hS : va_S A s.heap s.heap [] := va_S.rf
  have hl := lv_entry ([.ref (a 7), .int (nI T)]) (n := 5) (Nat.le_of_ble_eq_true rfl)
  rw [lg_entry_eq]
  generalize (lg_sl ([.ref (a 7), .int (nI T)]) ++ List.replicate (5 - (lg_sl ([.ref (a 7), .int (nI T)])).length) Slot.unset).toArray = ls at hl ⊢
  have hl : lv_has ls 5 [(0, .ref (a 7)), (1, .int ((nI T)))] := hl
  generalize hR : fx_Terms_noteTablesRead st (nI T) = R
  rw [fx_Terms_noteTablesRead] at hR
  refine lv_aload_n hx hb dX4_noteTablesRead_0 rfl (lv_at hl 0 rfl) ?_
  refine va_get (D := (dC, dI)) (ci := 2) (v := .ref (a 8)) (C := RX4) (T := TX4) (N := 7) hx hb hta inX4 hown hK hP 7 (xr_7 a k st) rfl 0 (by decide) hf11 (fun _ h9 => h9) rfl dX4_noteTablesRead_1 ?_
  refine lv_iload_n hx hb dX4_noteTablesRead_4 rfl (lv_at hl 1 rfl) ?_
  refine va_iald hx hb hK hP 8 4 (xr_8 a k st) rfl (wl_in hT (by decide)) dX4_noteTablesRead_5 ?_
  have e5 : (fA st 3 ((nI T)).toNatClampNeg) = fA st 3 T := (congrArg (fA st 3) (nI_clamp (by omega)))
  rw [e5]
  try rw [e5] at hR
  refine lv_bipush (v := (20 : Int32)) hx hb dX4_noteTablesRead_6 (by decide) ?_
  refine lv_icmp_ne (tgt := 22) hx hb dX4_noteTablesRead_8 (by decide) (fun c8 => ?_) (fun c8 => ?_)
  · skip
    rw [if_neg c8] at hR
    refine lv_iconst (v := (0 : Int32)) hx hb dX4_noteTablesRead_22 (by decide) ?_
    refine lv_istore_n (lv' := [(2, .int (0 : Int32)), (0, .ref (a 7)), (1, .int ((nI T)))]) hx hb dX4_noteTablesRead_23 rfl hl (by decide) rfl (fun ls hl => ?_)
    refine lv_aload_n hx hb dX4_noteTablesRead_24 rfl (lv_at hl 1 rfl) ?_
    refine va_get (D := (dC, dI)) (ci := 2) (v := .ref (a 8)) (C := RX4) (T := TX4) (N := 7) hx hb hta inX4 hown hK hP 7 (xr_7 a k st) rfl 0 (by decide) hf11 (fun _ h9 => h9) rfl dX4_noteTablesRead_25 ?_
    refine lv_iload_n hx hb dX4_noteTablesRead_28 rfl (lv_at hl 2 rfl) ?_
    refine va_iald hx hb hK hP 8 4 (xr_8 a k st) rfl (wl_in hT (by decide)) dX4_noteTablesRead_29 ?_
    have e29 : (fA st 3 ((nI T)).toNatClampNeg) = fA st 3 T := (congrArg (fA st 3) (nI_clamp (by omega)))
    rw [e29]
    try rw [e29] at hR
    refine wl_ci (va_runS (As := [.int ((fA st 3 T))]) (rest := []) ⟨hx, hb, hml, hown, hta⟩ (kx_Op_namedTerms l ((fA st 3 T))) (va_cwS 1 hta gX4_69 rfl rfl rfl (by decide +kernel) ⟨Nat.le_of_ble_eq_true rfl, Nat.le_of_ble_eq_true rfl⟩) preEq rfl rfl hl.1 rfl (lv_room (Nat.le_of_ble_eq_true rfl)) dX4_noteTablesRead_30 ⟨Nat.zero_le _, Nat.zero_le _⟩) ?_
    refine lv_istore_n (lv' := [(3, .int (fx_Op_namedTerms ((fA st 3 T)))), (2, .int (0 : Int32)), (0, .ref (a 7)), (1, .int ((nI T)))]) hx hb dX4_noteTablesRead_33 rfl hl (by decide) rfl (fun ls hl => ?_)
    refine lv_iconst (v := (0 : Int32)) hx hb dX4_noteTablesRead_34 (by decide) ?_
    refine lv_istore (lv' := [(4, .int (0 : Int32)), (3, .int (fx_Op_namedTerms ((fA st 3 T)))), (2, .int (0 : Int32)), (0, .ref (a 7)), (1, .int ((nI T)))]) hx hb dX4_noteTablesRead_35 hl (by decide) rfl (fun ls hl => ?_)
    have L37 : ∀ (n : Nat) (rd : Int32) (i : Nat) (H : Heap) (locs : List Loc) (ls : Array Slot), fx_Terms_noteTablesRead_L37 st (nI T) n rd i = R → (i ≤ 3) → 3 - i < n → va_P (dC, dI) vwCl (xw a k st) H → va_D A (xw a k st) → va_S A s.heap H locs → lv_has ls 5 [(4, .int (nI i)), (3, .int (fx_Op_namedTerms ((fA st 3 T)))), (2, .int rd), (0, .ref (a 7)), (1, .int ((nI T)))] → W p l e (headSpec wsX4_noteTablesRead ({ frames := 2, cells := 0, slots := 0, locals := 40 })).room s m ([.ref (a 7), .int (nI T)] : List Value).toArray below meth c H locs 0 0 (MQ below (va_Qv (fun u9 => u9 = R) (wl_at (dC, dI) vwCl (xt k) (xw a k) A) A) ([.ref (a 7), .int (nI T)] : List Value).toArray s 0 0 A) (F0 m 37 ls []) := by
      intro n
      induction n with
      | zero =>
        intro rd i H locs ls hR hi hm hP hD hS hl
        exact absurd hm (Nat.not_lt_zero _)
      | succ n ih =>
        intro rd i H locs ls hR hi hm hP hD hS hl
        rw [fx_Terms_noteTablesRead_L37] at hR
        try rw [e5] at hR
        try rw [e29] at hR
        refine lv_iload hx hb dX4_noteTablesRead_37 (lv_at hl 0 rfl) ?_
        refine lv_iload_n hx hb dX4_noteTablesRead_39 rfl (lv_at hl 1 rfl) ?_
        refine lv_icmp_ge (tgt := 64) hx hb dX4_noteTablesRead_40 (by decide) (fun c40 => ?_) (fun c40 => ?_)
        · skip
          rw [if_pos c40] at hR
          refine lv_aload_n hx hb dX4_noteTablesRead_64 rfl (lv_at hl 3 rfl) ?_
          refine va_get (D := (dC, dI)) (ci := 2) (v := .ref (a 11)) (C := RX4) (T := TX4) (N := 7) hx hb hta inX4 hown hK hP 7 (xr_7 a k st) rfl 3 (by decide) hf21 (fun _ h9 => h9) rfl dX4_noteTablesRead_65 ?_
          refine lv_iload_n hx hb dX4_noteTablesRead_68 rfl (lv_at hl 4 rfl) ?_
          refine lv_iload_n hx hb dX4_noteTablesRead_69 rfl (lv_at hl 2 rfl) ?_
          refine va_iast hx hb hK hP hD hS 11 7 (xr_11 a k st) rfl (wl_in hT (by decide)) dX4_noteTablesRead_70 (fun H locs hP hD hS => ?_)
          have hP := xp_A6 hP
          have hD := xd_A6 hD
          exact W.vret hx hb hr (fun t ht hW => ⟨⟨_, rfl, hR, by rw [ht]; exact hP, va_K.moved hW.alike hK, hD⟩, hS.F ht⟩) hS.2.2 dX4_noteTablesRead_71
        · skip
          rw [if_neg c40] at hR
          have hlt : i < 3 := wl_nm3 hi c40
          refine lv_iload_n hx hb dX4_noteTablesRead_43 rfl (lv_at hl 2 rfl) ?_
          refine lv_aload_n hx hb dX4_noteTablesRead_44 rfl (lv_at hl 3 rfl) ?_
          refine va_get (D := (dC, dI)) (ci := 2) (v := .ref (a 11)) (C := RX4) (T := TX4) (N := 7) hx hb hta inX4 hown hK hP 7 (xr_7 a k st) rfl 3 (by decide) hf21 (fun _ h9 => h9) rfl dX4_noteTablesRead_45 ?_
          refine lv_aload_n hx hb dX4_noteTablesRead_48 rfl (lv_at hl 3 rfl) ?_
          refine lv_iload_n hx hb dX4_noteTablesRead_49 rfl (lv_at hl 4 rfl) ?_
          refine lv_iload hx hb dX4_noteTablesRead_50 (lv_at hl 0 rfl) ?_
          refine wl_ci (va_runV (As := [.int ((nI T)), .int (nI i)]) (rest := [.ref (a 11), .int rd]) ⟨hx, hb, hml, hown, hta⟩ (kx_Terms_operandOf l dC dI a k st ((nI T)) (nI i) (wl_i3 i hT hlt)) (cwV 2 hta gX4_55 rfl rfl rfl (by decide +kernel) ⟨Nat.le_of_ble_eq_true rfl, Nat.le_of_ble_eq_true rfl⟩) (wl_pR (C := RX4) (ci := 2) (q0 := 7) hK hP rfl (xr_7 a k st)) rfl rfl hl.1 rfl (lv_room (Nat.le_of_ble_eq_true rfl)) dX4_noteTablesRead_52 ⟨Nat.zero_le _, Nat.zero_le _⟩) ?_
          refine va_iald hx hb hK hP 11 7 (xr_11 a k st) rfl (wl_ntr hT hlt (hops i hlt (wl_nle c40))) dX4_noteTablesRead_55 ?_
          refine lv_ior hx hb dX4_noteTablesRead_56 ?_
          refine lv_istore_n (lv' := [(2, .int (rd ||| (fA st 6 (fx_Terms_operandOf st ((nI T)) (nI i)).toNatClampNeg))), (4, .int (nI i)), (3, .int (fx_Op_namedTerms ((fA st 3 T)))), (0, .ref (a 7)), (1, .int ((nI T)))]) hx hb dX4_noteTablesRead_57 rfl hl (by decide) rfl (fun ls hl => ?_)
          refine lv_iinc (v := nI (i + 1)) (lv' := [(4, .int (nI (i + 1))), (2, .int (rd ||| (fA st 6 (fx_Terms_operandOf st ((nI T)) (nI i)).toNatClampNeg))), (3, .int (fx_Op_namedTerms ((fA st 3 T)))), (0, .ref (a 7)), (1, .int ((nI T)))]) hx hb dX4_noteTablesRead_58 hl (k := 1) rfl (nI_1 _) (by decide) rfl (fun ls hl => ?_)
          refine lv_goto (tgt := 37) hx hb dX4_noteTablesRead_61 (by decide) ?_
          exact ih (rd ||| (fA st 6 (fx_Terms_operandOf st ((nI T)) (nI i)).toNatClampNeg)) (i + 1) _ _ ls hR (by omega) (by omega) hP hD hS (lv_sub hl [0, 2, 1, 3, 4] rfl)
    exact L37 4 (0 : Int32) 0 _ _ ls hR (Nat.zero_le _) (by omega) hP hD hS (lv_sub hl [0, 1, 2, 3, 4] rfl)
  · skip
    rw [if_pos c8] at hR
    refine lv_iconst (v := (1 : Int32)) hx hb dX4_noteTablesRead_11 (by decide) ?_
    refine lv_aload_n hx hb dX4_noteTablesRead_12 rfl (lv_at hl 0 rfl) ?_
    refine lv_iload_n hx hb dX4_noteTablesRead_13 rfl (lv_at hl 1 rfl) ?_
    refine lv_iconst (v := (1 : Int32)) hx hb dX4_noteTablesRead_14 (by decide) ?_
    refine wl_ci (va_runV (As := [.int ((nI T)), .int (1 : Int32)]) (rest := [.int (1 : Int32)]) ⟨hx, hb, hml, hown, hta⟩ (kx_Terms_operandOf l dC dI a k st ((nI T)) (1 : Int32) (wl_i3 1 hT (by decide))) (cwV 2 hta gX4_55 rfl rfl rfl (by decide +kernel) ⟨Nat.le_of_ble_eq_true rfl, Nat.le_of_ble_eq_true rfl⟩) (wl_pR (C := RX4) (ci := 2) (q0 := 7) hK hP rfl (xr_7 a k st)) rfl rfl hl.1 rfl (lv_room (Nat.le_of_ble_eq_true rfl)) dX4_noteTablesRead_15 ⟨Nat.zero_le _, Nat.zero_le _⟩) ?_
    refine lv_ishl hx hb dX4_noteTablesRead_18 ?_
    refine lv_goto (tgt := 23) hx hb dX4_noteTablesRead_19 (by decide) ?_
    refine lv_istore_n (lv' := [(2, .int ((1 : Int32) <<< ((fx_Terms_operandOf st ((nI T)) (1 : Int32)) &&& 31))), (0, .ref (a 7)), (1, .int ((nI T)))]) hx hb dX4_noteTablesRead_23 rfl hl (by decide) rfl (fun ls hl => ?_)
    refine lv_aload_n hx hb dX4_noteTablesRead_24 rfl (lv_at hl 1 rfl) ?_
    refine va_get (D := (dC, dI)) (ci := 2) (v := .ref (a 8)) (C := RX4) (T := TX4) (N := 7) hx hb hta inX4 hown hK hP 7 (xr_7 a k st) rfl 0 (by decide) hf11 (fun _ h9 => h9) rfl dX4_noteTablesRead_25 ?_
    refine lv_iload_n hx hb dX4_noteTablesRead_28 rfl (lv_at hl 2 rfl) ?_
    refine va_iald hx hb hK hP 8 4 (xr_8 a k st) rfl (wl_in hT (by decide)) dX4_noteTablesRead_29 ?_
    have e29 : (fA st 3 ((nI T)).toNatClampNeg) = fA st 3 T := (congrArg (fA st 3) (nI_clamp (by omega)))
    rw [e29]
    try rw [e29] at hR
    refine wl_ci (va_runS (As := [.int ((fA st 3 T))]) (rest := []) ⟨hx, hb, hml, hown, hta⟩ (kx_Op_namedTerms l ((fA st 3 T))) (va_cwS 1 hta gX4_69 rfl rfl rfl (by decide +kernel) ⟨Nat.le_of_ble_eq_true rfl, Nat.le_of_ble_eq_true rfl⟩) preEq rfl rfl hl.1 rfl (lv_room (Nat.le_of_ble_eq_true rfl)) dX4_noteTablesRead_30 ⟨Nat.zero_le _, Nat.zero_le _⟩) ?_
    refine lv_istore_n (lv' := [(3, .int (fx_Op_namedTerms ((fA st 3 T)))), (2, .int ((1 : Int32) <<< ((fx_Terms_operandOf st ((nI T)) (1 : Int32)) &&& 31))), (0, .ref (a 7)), (1, .int ((nI T)))]) hx hb dX4_noteTablesRead_33 rfl hl (by decide) rfl (fun ls hl => ?_)
    refine lv_iconst (v := (0 : Int32)) hx hb dX4_noteTablesRead_34 (by decide) ?_
    refine lv_istore (lv' := [(4, .int (0 : Int32)), (3, .int (fx_Op_namedTerms ((fA st 3 T)))), (2, .int ((1 : Int32) <<< ((fx_Terms_operandOf st ((nI T)) (1 : Int32)) &&& 31))), (0, .ref (a 7)), (1, .int ((nI T)))]) hx hb dX4_noteTablesRead_35 hl (by decide) rfl (fun ls hl => ?_)
    have L37 : ∀ (n : Nat) (rd : Int32) (i : Nat) (H : Heap) (locs : List Loc) (ls : Array Slot), fx_Terms_noteTablesRead_L37 st (nI T) n rd i = R → (i ≤ 3) → 3 - i < n → va_P (dC, dI) vwCl (xw a k st) H → va_D A (xw a k st) → va_S A s.heap H locs → lv_has ls 5 [(4, .int (nI i)), (3, .int (fx_Op_namedTerms ((fA st 3 T)))), (2, .int rd), (0, .ref (a 7)), (1, .int ((nI T)))] → W p l e (headSpec wsX4_noteTablesRead ({ frames := 2, cells := 0, slots := 0, locals := 40 })).room s m ([.ref (a 7), .int (nI T)] : List Value).toArray below meth c H locs 0 0 (MQ below (va_Qv (fun u9 => u9 = R) (wl_at (dC, dI) vwCl (xt k) (xw a k) A) A) ([.ref (a 7), .int (nI T)] : List Value).toArray s 0 0 A) (F0 m 37 ls []) := by
      intro n
      induction n with
      | zero =>
        intro rd i H locs ls hR hi hm hP hD hS hl
        exact absurd hm (Nat.not_lt_zero _)
      | succ n ih =>
        intro rd i H locs ls hR hi hm hP hD hS hl
        rw [fx_Terms_noteTablesRead_L37] at hR
        try rw [e5] at hR
        try rw [e29] at hR
        refine lv_iload hx hb dX4_noteTablesRead_37 (lv_at hl 0 rfl) ?_
        refine lv_iload_n hx hb dX4_noteTablesRead_39 rfl (lv_at hl 1 rfl) ?_
        refine lv_icmp_ge (tgt := 64) hx hb dX4_noteTablesRead_40 (by decide) (fun c40 => ?_) (fun c40 => ?_)
        · skip
          rw [if_pos c40] at hR
          refine lv_aload_n hx hb dX4_noteTablesRead_64 rfl (lv_at hl 3 rfl) ?_
          refine va_get (D := (dC, dI)) (ci := 2) (v := .ref (a 11)) (C := RX4) (T := TX4) (N := 7) hx hb hta inX4 hown hK hP 7 (xr_7 a k st) rfl 3 (by decide) hf21 (fun _ h9 => h9) rfl dX4_noteTablesRead_65 ?_
          refine lv_iload_n hx hb dX4_noteTablesRead_68 rfl (lv_at hl 4 rfl) ?_
          refine lv_iload_n hx hb dX4_noteTablesRead_69 rfl (lv_at hl 2 rfl) ?_
          refine va_iast hx hb hK hP hD hS 11 7 (xr_11 a k st) rfl (wl_in hT (by decide)) dX4_noteTablesRead_70 (fun H locs hP hD hS => ?_)
          have hP := xp_A6 hP
          have hD := xd_A6 hD
          exact W.vret hx hb hr (fun t ht hW => ⟨⟨_, rfl, hR, by rw [ht]; exact hP, va_K.moved hW.alike hK, hD⟩, hS.F ht⟩) hS.2.2 dX4_noteTablesRead_71
        · skip
          rw [if_neg c40] at hR
          have hlt : i < 3 := wl_nm3 hi c40
          refine lv_iload_n hx hb dX4_noteTablesRead_43 rfl (lv_at hl 2 rfl) ?_
          refine lv_aload_n hx hb dX4_noteTablesRead_44 rfl (lv_at hl 3 rfl) ?_
          refine va_get (D := (dC, dI)) (ci := 2) (v := .ref (a 11)) (C := RX4) (T := TX4) (N := 7) hx hb hta inX4 hown hK hP 7 (xr_7 a k st) rfl 3 (by decide) hf21 (fun _ h9 => h9) rfl dX4_noteTablesRead_45 ?_
          refine lv_aload_n hx hb dX4_noteTablesRead_48 rfl (lv_at hl 3 rfl) ?_
          refine lv_iload_n hx hb dX4_noteTablesRead_49 rfl (lv_at hl 4 rfl) ?_
          refine lv_iload hx hb dX4_noteTablesRead_50 (lv_at hl 0 rfl) ?_
          refine wl_ci (va_runV (As := [.int ((nI T)), .int (nI i)]) (rest := [.ref (a 11), .int rd]) ⟨hx, hb, hml, hown, hta⟩ (kx_Terms_operandOf l dC dI a k st ((nI T)) (nI i) (wl_i3 i hT hlt)) (cwV 2 hta gX4_55 rfl rfl rfl (by decide +kernel) ⟨Nat.le_of_ble_eq_true rfl, Nat.le_of_ble_eq_true rfl⟩) (wl_pR (C := RX4) (ci := 2) (q0 := 7) hK hP rfl (xr_7 a k st)) rfl rfl hl.1 rfl (lv_room (Nat.le_of_ble_eq_true rfl)) dX4_noteTablesRead_52 ⟨Nat.zero_le _, Nat.zero_le _⟩) ?_
          refine va_iald hx hb hK hP 11 7 (xr_11 a k st) rfl (wl_ntr hT hlt (hops i hlt (wl_nle c40))) dX4_noteTablesRead_55 ?_
          refine lv_ior hx hb dX4_noteTablesRead_56 ?_
          refine lv_istore_n (lv' := [(2, .int (rd ||| (fA st 6 (fx_Terms_operandOf st ((nI T)) (nI i)).toNatClampNeg))), (4, .int (nI i)), (3, .int (fx_Op_namedTerms ((fA st 3 T)))), (0, .ref (a 7)), (1, .int ((nI T)))]) hx hb dX4_noteTablesRead_57 rfl hl (by decide) rfl (fun ls hl => ?_)
          refine lv_iinc (v := nI (i + 1)) (lv' := [(4, .int (nI (i + 1))), (2, .int (rd ||| (fA st 6 (fx_Terms_operandOf st ((nI T)) (nI i)).toNatClampNeg))), (3, .int (fx_Op_namedTerms ((fA st 3 T)))), (0, .ref (a 7)), (1, .int ((nI T)))]) hx hb dX4_noteTablesRead_58 hl (k := 1) rfl (nI_1 _) (by decide) rfl (fun ls hl => ?_)
          refine lv_goto (tgt := 37) hx hb dX4_noteTablesRead_61 (by decide) ?_
          exact ih (rd ||| (fA st 6 (fx_Terms_operandOf st ((nI T)) (nI i)).toNatClampNeg)) (i + 1) _ _ ls hR (by omega) (by omega) hP hD hS (lv_sub hl [0, 2, 1, 3, 4] rfl)
    exact L37 4 ((1 : Int32) <<< ((fx_Terms_operandOf st ((nI T)) (1 : Int32)) &&& 31)) 0 _ _ ls hR (Nat.zero_le _) (by omega) hP hD hS (lv_sub hl [0, 1, 2, 3, 4] rfl)

theorem wl_ap3 {st : XS} {o w : Int32} {N : Nat} (hN : gI st 6 = nI N) (h : N < 64) : fA (fx_Terms_addPlain st o w).2 3 N = o := by
  show upd (fA st 3) (gI st 6).toNatClampNeg o N = o
  rw [hN, nI_clamp (by omega)]
  exact pk_us
theorem wl_ltle {x : Int32} {a b : Nat} (hb : b < 2147483648) (e : b = a + 1) (h : nI a < x) : nI b ≤ x := by
  rw [Int32.lt_iff_toInt_lt, nI_toInt (by omega)] at h
  rw [Int32.le_iff_toInt_le, nI_toInt (by omega)]
  omega
theorem wl_addops {S0 : XS} {N : Nat} {o a1 b1 c1 cst : Int32} (hN : N < 64) (h3 : fA S0 3 N = o) (hA : vp_in a1 64) (hB : (2 : Int32) ≤ fx_Op_namedTerms o → vp_in b1 64) (hC : (3 : Int32) ≤ fx_Op_namedTerms o → vp_in c1 64) :
    ∀ j : Nat, j < 3 → nI j < fx_Op_namedTerms (fA (wI (wA (wA (wA S0 5 (nI N * (3 : Int32)).toNatClampNeg a1) 5 (nI N * (3 : Int32) + (1 : Int32)).toNatClampNeg b1) 5 (nI N * (3 : Int32) + (2 : Int32)).toNatClampNeg c1) 7 cst) 3 N) → vp_in (fA (wI (wA (wA (wA S0 5 (nI N * (3 : Int32)).toNatClampNeg a1) 5 (nI N * (3 : Int32) + (1 : Int32)).toNatClampNeg b1) 5 (nI N * (3 : Int32) + (2 : Int32)).toNatClampNeg c1) 7 cst) 5 (3 * N + j)) 64 := by
  intro j hj h
  have h : nI j < fx_Op_namedTerms (fA S0 3 N) := h
  rw [h3] at h
  show vp_in (upd (upd (upd (fA S0 5) (nI N * (3 : Int32)).toNatClampNeg a1) (nI N * (3 : Int32) + (1 : Int32)).toNatClampNeg b1) (nI N * (3 : Int32) + (2 : Int32)).toNatClampNeg c1 (3 * N + j)) 64
  rw [wl_c30 hN, show (nI N * (3 : Int32) + (1 : Int32)).toNatClampNeg = 3 * N + 1 from wl_c3 1 hN (by decide), show (nI N * (3 : Int32) + (2 : Int32)).toNatClampNeg = 3 * N + 2 from wl_c3 2 hN (by decide)]
  rcases (show j = 0 ∨ j = 1 ∨ j = 2 by omega) with rfl | rfl | rfl
  · rw [pk_un (by omega), pk_un (by omega)]
    rw [show 3 * N + 0 = 3 * N from rfl, pk_us]
    exact hA
  · rw [pk_un (by omega), pk_us]
    exact hB (wl_ltle (a := 1) (b := 2) (by decide) rfl h)
  · rw [pk_us]
    exact hC (wl_ltle (a := 2) (b := 3) (by decide) rfl h)

theorem mw_442 : (.code yX1_costFor cX1_costFor 2 (some .int) : Cond) ∈ AW := List.mem_filter.mpr ⟨List.mem_of_getElem? (i := 442) (by decide +kernel), rfl⟩
theorem mw_440 : (.methodLink RX4 58 yX1_costFor : Cond) ∈ AW := List.mem_filter.mpr ⟨List.mem_of_getElem? (i := 440) (by decide +kernel), rfl⟩
theorem mw_441 : (.static yX1_costFor : Cond) ∈ AW := List.mem_filter.mpr ⟨List.mem_of_getElem? (i := 441) (by decide +kernel), rfl⟩
theorem mw_352 : (.code yX4_widthOfResult cX4_widthOfResult 4 (some .int) : Cond) ∈ AW := List.mem_filter.mpr ⟨List.mem_of_getElem? (i := 352) (by decide +kernel), rfl⟩
theorem mw_443 : (.methodLink RX4 61 yX4_widthOfResult : Cond) ∈ AW := List.mem_filter.mpr ⟨List.mem_of_getElem? (i := 443) (by decide +kernel), rfl⟩
theorem mw_350 : (.instanceMethod yX4_widthOfResult : Cond) ∈ AW := List.mem_filter.mpr ⟨List.mem_of_getElem? (i := 350) (by decide +kernel), rfl⟩
theorem mw_351 : (.selects RX4 yX4_widthOfResult yX4_widthOfResult : Cond) ∈ AW := List.mem_filter.mpr ⟨List.mem_of_getElem? (i := 351) (by decide +kernel), rfl⟩
theorem mw_447 : (.code yX4_noteTablesRead cX4_noteTablesRead 5 none : Cond) ∈ AW := List.mem_filter.mpr ⟨List.mem_of_getElem? (i := 447) (by decide +kernel), rfl⟩
theorem mw_444 : (.methodLink RX4 65 yX4_noteTablesRead : Cond) ∈ AW := List.mem_filter.mpr ⟨List.mem_of_getElem? (i := 444) (by decide +kernel), rfl⟩
theorem mw_446 : (.instanceMethod yX4_noteTablesRead : Cond) ∈ AW := List.mem_filter.mpr ⟨List.mem_of_getElem? (i := 446) (by decide +kernel), rfl⟩
theorem mw_9 : (.selects RX4 yX4_noteTablesRead yX4_noteTablesRead : Cond) ∈ AW := List.mem_filter.mpr ⟨List.mem_of_getElem? (i := 9) (by decide +kernel), rfl⟩
theorem gX4_58 : GoodIn AW (va_wsS RX4 58 yX1_costFor wsX1_costFor) := aw_S mw_440 mw_441 mw_48 mw_442
theorem gX4_61 : GoodIn AW (wsV RX4 61 RX4 yX4_widthOfResult wsX4_widthOfResult) := aw_V mw_443 mw_350 mw_351 mw_41 mw_352
theorem gX4_65 : GoodIn AW (wsV RX4 65 RX4 yX4_noteTablesRead wsX4_noteTablesRead) := aw_V mw_444 mw_446 mw_9 mw_41 mw_447
theorem dX4_add_0 : decode cX4_add 0 = .ok (.iload_n 1, 1) := by decide +kernel
theorem dX4_add_1 : decode cX4_add 1 = .ok (.bipush 16, 2) := by decide +kernel
theorem dX4_add_3 : decode cX4_add 3 = .ok (.if_icmp .ne 12, 3) := by decide +kernel
theorem dX4_add_6 : decode cX4_add 6 = .ok (.aload_n 0, 1) := by decide +kernel
theorem dX4_add_7 : decode cX4_add 7 = .ok (.getfield 15, 3) := by decide +kernel
theorem dX4_add_10 : decode cX4_add 10 = .ok (.iload_n 3, 1) := by decide +kernel
theorem dX4_add_11 : decode cX4_add 11 = .ok (.iaload, 1) := by decide +kernel
theorem dX4_add_12 : decode cX4_add 12 = .ok (.goto 9, 3) := by decide +kernel
theorem dX4_add_15 : decode cX4_add 15 = .ok (.aload_n 0, 1) := by decide +kernel
theorem dX4_add_16 : decode cX4_add 16 = .ok (.getfield 15, 3) := by decide +kernel
theorem dX4_add_19 : decode cX4_add 19 = .ok (.iload_n 2, 1) := by decide +kernel
theorem dX4_add_20 : decode cX4_add 20 = .ok (.iaload, 1) := by decide +kernel
theorem dX4_add_21 : decode cX4_add 21 = .ok (.istore 5, 2) := by decide +kernel
theorem dX4_add_23 : decode cX4_add 23 = .ok (.iload_n 1, 1) := by decide +kernel
theorem dX4_add_24 : decode cX4_add 24 = .ok (.iload 5, 2) := by decide +kernel
theorem dX4_add_26 : decode cX4_add 26 = .ok (.invokestatic 58, 3) := by decide +kernel
theorem dX4_add_29 : decode cX4_add 29 = .ok (.istore 6, 2) := by decide +kernel
theorem dX4_add_31 : decode cX4_add 31 = .ok (.aload_n 0, 1) := by decide +kernel
theorem dX4_add_32 : decode cX4_add 32 = .ok (.invokevirtual 51, 3) := by decide +kernel
theorem dX4_add_35 : decode cX4_add 35 = .ok (.ifCond .ne 16, 3) := by decide +kernel
theorem dX4_add_38 : decode cX4_add 38 = .ok (.aload_n 0, 1) := by decide +kernel
theorem dX4_add_39 : decode cX4_add 39 = .ok (.getfield 32, 3) := by decide +kernel
theorem dX4_add_42 : decode cX4_add 42 = .ok (.iload 6, 2) := by decide +kernel
theorem dX4_add_44 : decode cX4_add 44 = .ok (.iadd, 1) := by decide +kernel
theorem dX4_add_45 : decode cX4_add 45 = .ok (.sipush 400, 3) := by decide +kernel
theorem dX4_add_48 : decode cX4_add 48 = .ok (.if_icmp .le 6, 3) := by decide +kernel
theorem dX4_add_51 : decode cX4_add 51 = .ok (.bipush (-2), 2) := by decide +kernel
theorem dX4_add_53 : decode cX4_add 53 = .ok (.ireturn, 1) := by decide +kernel
theorem dX4_add_54 : decode cX4_add 54 = .ok (.aload_n 0, 1) := by decide +kernel
theorem dX4_add_55 : decode cX4_add 55 = .ok (.iload_n 1, 1) := by decide +kernel
theorem dX4_add_56 : decode cX4_add 56 = .ok (.aload_n 0, 1) := by decide +kernel
theorem dX4_add_57 : decode cX4_add 57 = .ok (.iload_n 1, 1) := by decide +kernel
theorem dX4_add_58 : decode cX4_add 58 = .ok (.iload_n 2, 1) := by decide +kernel
theorem dX4_add_59 : decode cX4_add 59 = .ok (.iload_n 3, 1) := by decide +kernel
theorem dX4_add_60 : decode cX4_add 60 = .ok (.invokevirtual 61, 3) := by decide +kernel
theorem dX4_add_63 : decode cX4_add 63 = .ok (.invokevirtual 41, 3) := by decide +kernel
theorem dX4_add_66 : decode cX4_add 66 = .ok (.istore 7, 2) := by decide +kernel
theorem dX4_add_68 : decode cX4_add 68 = .ok (.aload_n 0, 1) := by decide +kernel
theorem dX4_add_69 : decode cX4_add 69 = .ok (.getfield 18, 3) := by decide +kernel
theorem dX4_add_72 : decode cX4_add 72 = .ok (.iload 7, 2) := by decide +kernel
theorem dX4_add_74 : decode cX4_add 74 = .ok (.iconst 3, 1) := by decide +kernel
theorem dX4_add_75 : decode cX4_add 75 = .ok (.imul, 1) := by decide +kernel
theorem dX4_add_76 : decode cX4_add 76 = .ok (.iload_n 2, 1) := by decide +kernel
theorem dX4_add_77 : decode cX4_add 77 = .ok (.iastore, 1) := by decide +kernel
theorem dX4_add_78 : decode cX4_add 78 = .ok (.aload_n 0, 1) := by decide +kernel
theorem dX4_add_79 : decode cX4_add 79 = .ok (.getfield 18, 3) := by decide +kernel
theorem dX4_add_82 : decode cX4_add 82 = .ok (.iload 7, 2) := by decide +kernel
theorem dX4_add_84 : decode cX4_add 84 = .ok (.iconst 3, 1) := by decide +kernel
theorem dX4_add_85 : decode cX4_add 85 = .ok (.imul, 1) := by decide +kernel
theorem dX4_add_86 : decode cX4_add 86 = .ok (.iconst 1, 1) := by decide +kernel
theorem dX4_add_87 : decode cX4_add 87 = .ok (.iadd, 1) := by decide +kernel
theorem dX4_add_88 : decode cX4_add 88 = .ok (.iload_n 3, 1) := by decide +kernel
theorem dX4_add_89 : decode cX4_add 89 = .ok (.iastore, 1) := by decide +kernel
theorem dX4_add_90 : decode cX4_add 90 = .ok (.aload_n 0, 1) := by decide +kernel
theorem dX4_add_91 : decode cX4_add 91 = .ok (.getfield 18, 3) := by decide +kernel
theorem dX4_add_94 : decode cX4_add 94 = .ok (.iload 7, 2) := by decide +kernel
theorem dX4_add_96 : decode cX4_add 96 = .ok (.iconst 3, 1) := by decide +kernel
theorem dX4_add_97 : decode cX4_add 97 = .ok (.imul, 1) := by decide +kernel
theorem dX4_add_98 : decode cX4_add 98 = .ok (.iconst 2, 1) := by decide +kernel
theorem dX4_add_99 : decode cX4_add 99 = .ok (.iadd, 1) := by decide +kernel
theorem dX4_add_100 : decode cX4_add 100 = .ok (.iload 4, 2) := by decide +kernel
theorem dX4_add_102 : decode cX4_add 102 = .ok (.iastore, 1) := by decide +kernel
theorem dX4_add_103 : decode cX4_add 103 = .ok (.aload_n 0, 1) := by decide +kernel
theorem dX4_add_104 : decode cX4_add 104 = .ok (.dup, 1) := by decide +kernel
theorem dX4_add_105 : decode cX4_add 105 = .ok (.getfield 32, 3) := by decide +kernel
theorem dX4_add_108 : decode cX4_add 108 = .ok (.iload 6, 2) := by decide +kernel
theorem dX4_add_110 : decode cX4_add 110 = .ok (.iadd, 1) := by decide +kernel
theorem dX4_add_111 : decode cX4_add 111 = .ok (.putfield 32, 3) := by decide +kernel
theorem dX4_add_114 : decode cX4_add 114 = .ok (.aload_n 0, 1) := by decide +kernel
theorem dX4_add_115 : decode cX4_add 115 = .ok (.iload 7, 2) := by decide +kernel
theorem dX4_add_117 : decode cX4_add 117 = .ok (.invokevirtual 65, 3) := by decide +kernel
theorem dX4_add_120 : decode cX4_add 120 = .ok (.iload 7, 2) := by decide +kernel
theorem dX4_add_122 : decode cX4_add 122 = .ok (.ireturn, 1) := by decide +kernel
def fx_Terms_add (st : XS) (o : Int32) (a1 : Int32) (b1 : Int32) (c1 : Int32) : Int32 × XS := 
  if o = (16 : Int32) then 
    if fx_Terms_isFull st = (0 : Int32) then 
      if (gI st 7) + (fx_Op_costFor o (fA st 4 b1.toNatClampNeg)) ≤ (400 : Int32) then ((((fx_Terms_addPlain st o (fx_Terms_widthOfResult st o a1 b1)).1)), (fx_Terms_noteTablesRead (wI (wA (wA (wA (((fx_Terms_addPlain st o (fx_Terms_widthOfResult st o a1 b1)).2)) 5 ((((((fx_Terms_addPlain st o (fx_Terms_widthOfResult st o a1 b1)).1))) * (3 : Int32)).toNatClampNeg) a1) 5 (((((((fx_Terms_addPlain st o (fx_Terms_widthOfResult st o a1 b1)).1))) * (3 : Int32)) + (1 : Int32)).toNatClampNeg) b1) 5 (((((((fx_Terms_addPlain st o (fx_Terms_widthOfResult st o a1 b1)).1))) * (3 : Int32)) + (2 : Int32)).toNatClampNeg) c1) 7 ((gI (((fx_Terms_addPlain st o (fx_Terms_widthOfResult st o a1 b1)).2)) 7) + (fx_Op_costFor o (fA st 4 b1.toNatClampNeg)))) ((((fx_Terms_addPlain st o (fx_Terms_widthOfResult st o a1 b1)).1)))))
      else ((-2 : Int32), st)
    else ((-2 : Int32), st)
  else 
    if fx_Terms_isFull st = (0 : Int32) then 
      if (gI st 7) + (fx_Op_costFor o (fA st 4 a1.toNatClampNeg)) ≤ (400 : Int32) then ((((fx_Terms_addPlain st o (fx_Terms_widthOfResult st o a1 b1)).1)), (fx_Terms_noteTablesRead (wI (wA (wA (wA (((fx_Terms_addPlain st o (fx_Terms_widthOfResult st o a1 b1)).2)) 5 ((((((fx_Terms_addPlain st o (fx_Terms_widthOfResult st o a1 b1)).1))) * (3 : Int32)).toNatClampNeg) a1) 5 (((((((fx_Terms_addPlain st o (fx_Terms_widthOfResult st o a1 b1)).1))) * (3 : Int32)) + (1 : Int32)).toNatClampNeg) b1) 5 (((((((fx_Terms_addPlain st o (fx_Terms_widthOfResult st o a1 b1)).1))) * (3 : Int32)) + (2 : Int32)).toNatClampNeg) c1) 7 ((gI (((fx_Terms_addPlain st o (fx_Terms_widthOfResult st o a1 b1)).2)) 7) + (fx_Op_costFor o (fA st 4 a1.toNatClampNeg)))) ((((fx_Terms_addPlain st o (fx_Terms_widthOfResult st o a1 b1)).1)))))
      else ((-2 : Int32), st)
    else ((-2 : Int32), st)
theorem ff_Terms_add (st : XS) (o : Int32) (a1 : Int32) (b1 : Int32) (c1 : Int32) : XF [6, 7] [3, 4, 5, 6] [] st (fx_Terms_add st o a1 b1 c1).2 := by
  rw [fx_Terms_add]
  exact (wl_ite (P := fun (q : Int32 × XS) => XF [6, 7] [3, 4, 5, 6] [] _ (q.2)) (wl_ite (P := fun (q : Int32 × XS) => XF [6, 7] [3, 4, 5, 6] [] _ (q.2)) (wl_ite (P := fun (q : Int32 × XS) => XF [6, 7] [3, 4, 5, 6] [] _ (q.2)) (XF.tr (XF.wI (by decide) (XF.wA (by decide) (XF.wA (by decide) (XF.wA (by decide) (XF.tr XF.rf (XF.mono (ff_Terms_addPlain _ _ _) (by decide) (by decide) (by decide))))))) (XF.mono (ff_Terms_noteTablesRead _ _) (by decide) (by decide) (by decide))) XF.rf) XF.rf) (wl_ite (P := fun (q : Int32 × XS) => XF [6, 7] [3, 4, 5, 6] [] _ (q.2)) (wl_ite (P := fun (q : Int32 × XS) => XF [6, 7] [3, 4, 5, 6] [] _ (q.2)) (XF.tr (XF.wI (by decide) (XF.wA (by decide) (XF.wA (by decide) (XF.wA (by decide) (XF.tr XF.rf (XF.mono (ff_Terms_addPlain _ _ _) (by decide) (by decide) (by decide))))))) (XF.mono (ff_Terms_noteTablesRead _ _) (by decide) (by decide) (by decide))) XF.rf) XF.rf))
set_option maxHeartbeats 4000000 in
set_option maxRecDepth 100000 in
theorem kx_Terms_add (l : Launch) (dC : Nat → ClassId) (dI : Nat → Nat → Nat) (a : Nat → Nat) (k : Nat → ClassId) (st : XS) (o : Int32) (a1 : Int32) (b1 : Int32) (c1 : Int32) (sz : Nat) (N : Nat) (hN : gI st 6 = nI N) (h64 : N ≤ 64) (hA : vp_in a1 64) (hB : (2 : Int32) ≤ fx_Op_namedTerms o → vp_in b1 64) (hC : (3 : Int32) ≤ fx_Op_namedTerms o → vp_in c1 64) : Met l yX4_add wsX4_add ({ frames := 3, cells := 0, slots := 0, locals := 64 }) (va_Pc [.ref (a 7), .int o, .int a1, .int b1, .int c1] (wl_pre (dC, dI) vwCl (xt k) (xw a k) st sz)) (va_Qi (fun r9 u9 => (r9, u9) = fx_Terms_add st o a1 b1 c1) (wl_at (dC, dI) vwCl (xt k) (xw a k) (va_A (xw a k st) sz)) (va_A (xw a k st) sz)) 0 0 (va_A (xw a k st) sz) := by
  refine Met.ofW (cc := cX4_add) (maxL := 8) (ret := (some .int)) (by decide) rfl ?_
  intro p e s m args below meth c s₁ B hml hv
  obtain ⟨rfl, hsz, hP, hK, hD0⟩ := hv
  have hx := B.exec
  have hb := B.bytes
  have hr := B.returns
  have hta := aw_hts (atoms_spec (ws := wsX4_add) B.pre)
  have hown : s.vm.findClass RX4 = some m.cls := findClass_of_methodNamed B.named
  have hlocks := B.notSynchronized
  have hf15 := hta _ mw_100
  have hf32 := hta _ mw_105
  have hf18 := hta _ mw_101
  subst hsz
  have hD := hD0.self (sz := s.heap.size)
  generalize hAe : va_A (xw a k st) s.heap.size = A at hD ⊢
  have hAz : ∀ q : Nat, s.heap.size ≤ q → A q := fun q h => by rw [← hAe]; exact Or.inr h
  have hS : va_S A s.heap s.heap [] := va_S.rf
  have hl := lv_entry ([.ref (a 7), .int o, .int a1, .int b1, .int c1]) (n := 8) (Nat.le_of_ble_eq_true rfl)
  rw [lg_entry_eq]
  generalize (lg_sl ([.ref (a 7), .int o, .int a1, .int b1, .int c1]) ++ List.replicate (8 - (lg_sl ([.ref (a 7), .int o, .int a1, .int b1, .int c1])).length) Slot.unset).toArray = ls at hl ⊢
  have hl : lv_has ls 8 [(0, .ref (a 7)), (1, .int o), (2, .int a1), (3, .int b1), (4, .int c1)] := hl
  generalize hR : fx_Terms_add st o a1 b1 c1 = R
  rw [fx_Terms_add] at hR
  refine lv_iload_n hx hb dX4_add_0 rfl (lv_at hl 1 rfl) ?_
  refine lv_bipush (v := (16 : Int32)) hx hb dX4_add_1 (by decide) ?_
  refine lv_icmp_ne (tgt := 15) hx hb dX4_add_3 (by decide) (fun c3 => ?_) (fun c3 => ?_)
  · skip
    rw [if_neg c3] at hR
    refine lv_aload_n hx hb dX4_add_15 rfl (lv_at hl 0 rfl) ?_
    refine va_get (D := (dC, dI)) (ci := 2) (v := .ref (a 9)) (C := RX4) (T := TX4) (N := 7) hx hb hta inX4 hown hK hP 7 (xr_7 a k st) rfl 1 (by decide) hf15 (fun _ h9 => h9) rfl dX4_add_16 ?_
    refine lv_iload_n hx hb dX4_add_19 rfl (lv_at hl 2 rfl) ?_
    refine va_iald hx hb hK hP 9 5 (xr_9 a k st) rfl hA dX4_add_20 ?_
    refine lv_istore (lv' := [(5, .int (fA st 4 a1.toNatClampNeg)), (0, .ref (a 7)), (1, .int o), (2, .int a1), (3, .int b1), (4, .int c1)]) hx hb dX4_add_21 hl (by decide) rfl (fun ls hl => ?_)
    refine lv_iload_n hx hb dX4_add_23 rfl (lv_at hl 2 rfl) ?_
    refine lv_iload hx hb dX4_add_24 (lv_at hl 0 rfl) ?_
    refine wl_ci (va_runS (As := [.int o, .int (fA st 4 a1.toNatClampNeg)]) (rest := []) ⟨hx, hb, hml, hown, hta⟩ (kx_Op_costFor l o (fA st 4 a1.toNatClampNeg)) (va_cwS 2 hta gX4_58 rfl rfl rfl (by decide +kernel) ⟨Nat.le_of_ble_eq_true rfl, Nat.le_of_ble_eq_true rfl⟩) preEq rfl rfl hl.1 rfl (lv_room (Nat.le_of_ble_eq_true rfl)) dX4_add_26 ⟨Nat.zero_le _, Nat.zero_le _⟩) ?_
    refine lv_istore (lv' := [(6, .int (fx_Op_costFor o (fA st 4 a1.toNatClampNeg))), (5, .int (fA st 4 a1.toNatClampNeg)), (0, .ref (a 7)), (1, .int o), (2, .int a1), (3, .int b1), (4, .int c1)]) hx hb dX4_add_29 hl (by decide) rfl (fun ls hl => ?_)
    refine lv_aload_n hx hb dX4_add_31 rfl (lv_at hl 2 rfl) ?_
    refine wl_ci (va_runV (As := []) (rest := []) ⟨hx, hb, hml, hown, hta⟩ (kx_Terms_isFull l dC dI a k st) (cwV 0 hta gX4_51 rfl rfl rfl (by decide +kernel) ⟨Nat.le_of_ble_eq_true rfl, Nat.le_of_ble_eq_true rfl⟩) (wl_pR (C := RX4) (ci := 2) (q0 := 7) hK hP rfl (xr_7 a k st)) rfl rfl hl.1 rfl (lv_room (Nat.le_of_ble_eq_true rfl)) dX4_add_32 ⟨Nat.zero_le _, Nat.zero_le _⟩) ?_
    refine lv_if_ne (tgt := 51) hx hb dX4_add_35 (by decide) (fun c35 => ?_) (fun c35 => ?_)
    · skip
      rw [if_neg c35] at hR
      refine lv_bipush (v := (-2 : Int32)) hx hb dX4_add_51 (by decide) ?_
      exact W.iret (v := (-2 : Int32)) hx hb hr (fun t ht hW => ⟨⟨_, _, rfl, hR, by rw [ht]; exact hP, va_K.moved hW.alike hK, hD⟩, hS.F ht⟩) hS.2.2 dX4_add_53
    · skip
      rw [if_pos c35] at hR
      have hN64 : N < 64 := wl_isFullN hN h64 c35
      refine lv_aload_n hx hb dX4_add_38 rfl (lv_at hl 2 rfl) ?_
      refine va_get (D := (dC, dI)) (ci := 2) (v := .int (gI st 7)) (C := RX4) (T := TX4) (N := 7) hx hb hta inX4 hown hK hP 7 (xr_7 a k st) rfl 6 (by decide) hf32 (fun _ h9 => h9) rfl dX4_add_39 ?_
      refine lv_iload hx hb dX4_add_42 (lv_at hl 0 rfl) ?_
      refine lv_iadd hx hb dX4_add_44 ?_
      refine lv_sipush (v := (400 : Int32)) hx hb dX4_add_45 (by decide) ?_
      refine lv_icmp_le (tgt := 54) hx hb dX4_add_48 (by decide) (fun c48 => ?_) (fun c48 => ?_)
      · skip
        rw [if_pos c48] at hR
        refine lv_aload_n hx hb dX4_add_54 rfl (lv_at hl 2 rfl) ?_
        refine lv_iload_n hx hb dX4_add_55 rfl (lv_at hl 3 rfl) ?_
        refine lv_aload_n hx hb dX4_add_56 rfl (lv_at hl 2 rfl) ?_
        refine lv_iload_n hx hb dX4_add_57 rfl (lv_at hl 3 rfl) ?_
        refine lv_iload_n hx hb dX4_add_58 rfl (lv_at hl 4 rfl) ?_
        refine lv_iload_n hx hb dX4_add_59 rfl (lv_at hl 5 rfl) ?_
        refine wl_ci (va_runV (As := [.int o, .int a1, .int b1]) (rest := [.int o, .ref (a 7)]) ⟨hx, hb, hml, hown, hta⟩ (kx_Terms_widthOfResult l dC dI a k st o a1 b1 hA (fun h => hB (by rw [h]; decide))) (cwV 3 hta gX4_61 rfl rfl rfl (by decide +kernel) ⟨Nat.le_of_ble_eq_true rfl, Nat.le_of_ble_eq_true rfl⟩) (wl_pR (C := RX4) (ci := 2) (q0 := 7) hK hP rfl (xr_7 a k st)) rfl rfl hl.1 rfl (lv_room (Nat.le_of_ble_eq_true rfl)) dX4_add_60 ⟨Nat.zero_le _, Nat.zero_le _⟩) ?_
        refine wl_mi (va_runV (As := [.int o, .int (fx_Terms_widthOfResult st o a1 b1)]) (rest := []) ⟨hx, hb, hml, hown, hta⟩ (kx_Terms_addPlain l dC dI a k st o (fx_Terms_widthOfResult st o a1 b1) _ (by rw [hN]; exact wl_in hN64 (by decide))) (cwV 2 hta gX4_41 rfl rfl rfl (by decide +kernel) ⟨Nat.le_of_ble_eq_true rfl, Nat.le_of_ble_eq_true rfl⟩) (wl_pM (C := RX4) (ci := 2) (q0 := 7) hK hP hD rfl (xr_7 a k st)) rfl rfl hl.1 rfl (lv_room (Nat.le_of_ble_eq_true rfl)) dX4_add_63 ⟨Nat.zero_le _, Nat.zero_le _⟩) hP hD hS hAz (fun r63 u63 H locs hw63 hP hD hS => ?_)
        have v63 : (fx_Terms_addPlain st o (fx_Terms_widthOfResult st o a1 b1)).1 = r63 := congrArg Prod.fst hw63.symm
        have w63 : (fx_Terms_addPlain st o (fx_Terms_widthOfResult st o a1 b1)).2 = u63 := congrArg Prod.snd hw63.symm
        have hf63 : XF [6] [3, 4] [] st u63 := by rw [← w63]; exact ff_Terms_addPlain st o (fx_Terms_widthOfResult st o a1 b1)
        try rw [v63] at hR
        try rw [w63] at hR
        have e63 : (r63) = nI N := ((congrArg Prod.fst hw63).trans hN)
        rw [e63]
        try rw [e63] at hR
        refine lv_istore (lv' := [(7, .int ((nI N))), (6, .int (fx_Op_costFor o (fA st 4 a1.toNatClampNeg))), (5, .int (fA st 4 a1.toNatClampNeg)), (0, .ref (a 7)), (1, .int o), (2, .int a1), (3, .int b1), (4, .int c1)]) hx hb dX4_add_66 hl (by decide) rfl (fun ls hl => ?_)
        refine lv_aload_n hx hb dX4_add_68 rfl (lv_at hl 3 rfl) ?_
        refine va_get (D := (dC, dI)) (ci := 2) (v := .ref (a 10)) (C := RX4) (T := TX4) (N := 7) hx hb hta inX4 hown hK hP 7 (xr_7 a k (u63)) rfl 2 (by decide) hf18 (fun _ h9 => h9) rfl dX4_add_69 ?_
        refine lv_iload hx hb dX4_add_72 (lv_at hl 0 rfl) ?_
        refine lv_iconst (v := (3 : Int32)) hx hb dX4_add_74 (by decide) ?_
        refine lv_imul hx hb dX4_add_75 ?_
        refine lv_iload_n hx hb dX4_add_76 rfl (lv_at hl 5 rfl) ?_
        refine va_iast hx hb hK hP hD hS 10 6 (xr_10 a k (u63)) rfl (wl_i30 hN64) dX4_add_77 (fun H locs hP hD hS => ?_)
        have hP := xp_A5 hP
        have hD := xd_A5 hD
        refine lv_aload_n hx hb dX4_add_78 rfl (lv_at hl 3 rfl) ?_
        refine va_get (D := (dC, dI)) (ci := 2) (v := .ref (a 10)) (C := RX4) (T := TX4) (N := 7) hx hb hta inX4 hown hK hP 7 (xr_7 a k (wA (u63) 5 ((((nI N)) * (3 : Int32)).toNatClampNeg) a1)) rfl 2 (by decide) hf18 (fun _ h9 => h9) rfl dX4_add_79 ?_
        refine lv_iload hx hb dX4_add_82 (lv_at hl 0 rfl) ?_
        refine lv_iconst (v := (3 : Int32)) hx hb dX4_add_84 (by decide) ?_
        refine lv_imul hx hb dX4_add_85 ?_
        refine lv_iconst (v := (1 : Int32)) hx hb dX4_add_86 (by decide) ?_
        refine lv_iadd hx hb dX4_add_87 ?_
        refine lv_iload_n hx hb dX4_add_88 rfl (lv_at hl 6 rfl) ?_
        refine va_iast hx hb hK hP hD hS 10 6 (xr_10 a k (wA (u63) 5 ((((nI N)) * (3 : Int32)).toNatClampNeg) a1)) rfl (wl_i3 1 hN64 (by decide)) dX4_add_89 (fun H locs hP hD hS => ?_)
        have hP := xp_A5 hP
        have hD := xd_A5 hD
        refine lv_aload_n hx hb dX4_add_90 rfl (lv_at hl 3 rfl) ?_
        refine va_get (D := (dC, dI)) (ci := 2) (v := .ref (a 10)) (C := RX4) (T := TX4) (N := 7) hx hb hta inX4 hown hK hP 7 (xr_7 a k (wA (wA (u63) 5 ((((nI N)) * (3 : Int32)).toNatClampNeg) a1) 5 (((((nI N)) * (3 : Int32)) + (1 : Int32)).toNatClampNeg) b1)) rfl 2 (by decide) hf18 (fun _ h9 => h9) rfl dX4_add_91 ?_
        refine lv_iload hx hb dX4_add_94 (lv_at hl 0 rfl) ?_
        refine lv_iconst (v := (3 : Int32)) hx hb dX4_add_96 (by decide) ?_
        refine lv_imul hx hb dX4_add_97 ?_
        refine lv_iconst (v := (2 : Int32)) hx hb dX4_add_98 (by decide) ?_
        refine lv_iadd hx hb dX4_add_99 ?_
        refine lv_iload hx hb dX4_add_100 (lv_at hl 7 rfl) ?_
        refine va_iast hx hb hK hP hD hS 10 6 (xr_10 a k (wA (wA (u63) 5 ((((nI N)) * (3 : Int32)).toNatClampNeg) a1) 5 (((((nI N)) * (3 : Int32)) + (1 : Int32)).toNatClampNeg) b1)) rfl (wl_i3 2 hN64 (by decide)) dX4_add_102 (fun H locs hP hD hS => ?_)
        have hP := xp_A5 hP
        have hD := xd_A5 hD
        refine lv_aload_n hx hb dX4_add_103 rfl (lv_at hl 3 rfl) ?_
        refine lv_dup hx hb dX4_add_104 rfl ?_
        refine va_get (D := (dC, dI)) (ci := 2) (v := .int (gI (u63) 7)) (C := RX4) (T := TX4) (N := 7) hx hb hta inX4 hown hK hP 7 (xr_7 a k (wA (wA (wA (u63) 5 ((((nI N)) * (3 : Int32)).toNatClampNeg) a1) 5 (((((nI N)) * (3 : Int32)) + (1 : Int32)).toNatClampNeg) b1) 5 (((((nI N)) * (3 : Int32)) + (2 : Int32)).toNatClampNeg) c1)) rfl 6 (by decide) hf32 (fun _ h9 => h9) rfl dX4_add_105 ?_
        refine lv_iload hx hb dX4_add_108 (lv_at hl 1 rfl) ?_
        refine lv_iadd hx hb dX4_add_110 ?_
        refine va_put (D := (dC, dI)) (ci := 2) (v := .int ((gI (u63) 7) + (fx_Op_costFor o (fA st 4 a1.toNatClampNeg)))) (ty := .int) (C := RX4) (T := TX4) (N := 7) hx hb hta inX4 tyX4 tyX4_ok nmX4 hown hK hP hD hS 7 (xr_7 a k (wA (wA (wA (u63) 5 ((((nI N)) * (3 : Int32)).toNatClampNeg) a1) 5 (((((nI N)) * (3 : Int32)) + (1 : Int32)).toNatClampNeg) b1) 5 (((((nI N)) * (3 : Int32)) + (2 : Int32)).toNatClampNeg) c1)) rfl 6 (by decide) hf32 (fun _ h9 => h9) rfl (by decide +kernel) rfl rfl (Nat.le_of_ble_eq_true rfl) dX4_add_111 (fun H locs hP hD hS => ?_)
        have hP := xp_I7 hP
        have hD := xd_I7 hD
        refine lv_aload_n hx hb dX4_add_114 rfl (lv_at hl 3 rfl) ?_
        refine lv_iload hx hb dX4_add_115 (lv_at hl 0 rfl) ?_
        refine wl_mv (va_runV (As := [.int ((nI N))]) (rest := []) ⟨hx, hb, hml, hown, hta⟩ (kx_Terms_noteTablesRead l dC dI a k (wI (wA (wA (wA (u63) 5 ((((nI N)) * (3 : Int32)).toNatClampNeg) a1) 5 (((((nI N)) * (3 : Int32)) + (1 : Int32)).toNatClampNeg) b1) 5 (((((nI N)) * (3 : Int32)) + (2 : Int32)).toNatClampNeg) c1) 7 ((gI (u63) 7) + (fx_Op_costFor o (fA st 4 a1.toNatClampNeg)))) N _ hN64 (wl_addops hN64 (by rw [← w63]; exact wl_ap3 hN hN64) hA hB hC)) (cwV 1 hta gX4_65 rfl rfl rfl (by decide +kernel) ⟨Nat.le_of_ble_eq_true rfl, Nat.le_of_ble_eq_true rfl⟩) (wl_pM (C := RX4) (ci := 2) (q0 := 7) hK hP hD rfl (xr_7 a k (wI (wA (wA (wA (u63) 5 ((((nI N)) * (3 : Int32)).toNatClampNeg) a1) 5 (((((nI N)) * (3 : Int32)) + (1 : Int32)).toNatClampNeg) b1) 5 (((((nI N)) * (3 : Int32)) + (2 : Int32)).toNatClampNeg) c1) 7 ((gI (u63) 7) + (fx_Op_costFor o (fA st 4 a1.toNatClampNeg)))))) rfl rfl hl.1 rfl (lv_room (Nat.le_of_ble_eq_true rfl)) dX4_add_117 ⟨Nat.zero_le _, Nat.zero_le _⟩) hP hD hS hAz (fun u117 H locs hw117 hP hD hS => ?_)
        have w117 : fx_Terms_noteTablesRead (wI (wA (wA (wA (u63) 5 ((((nI N)) * (3 : Int32)).toNatClampNeg) a1) 5 (((((nI N)) * (3 : Int32)) + (1 : Int32)).toNatClampNeg) b1) 5 (((((nI N)) * (3 : Int32)) + (2 : Int32)).toNatClampNeg) c1) 7 ((gI (u63) 7) + (fx_Op_costFor o (fA st 4 a1.toNatClampNeg)))) ((nI N)) = u117 := hw117.symm
        have hf117 : XF [] [6] [] (wI (wA (wA (wA (u63) 5 ((((nI N)) * (3 : Int32)).toNatClampNeg) a1) 5 (((((nI N)) * (3 : Int32)) + (1 : Int32)).toNatClampNeg) b1) 5 (((((nI N)) * (3 : Int32)) + (2 : Int32)).toNatClampNeg) c1) 7 ((gI (u63) 7) + (fx_Op_costFor o (fA st 4 a1.toNatClampNeg)))) u117 := by rw [← w117]; exact ff_Terms_noteTablesRead (wI (wA (wA (wA (u63) 5 ((((nI N)) * (3 : Int32)).toNatClampNeg) a1) 5 (((((nI N)) * (3 : Int32)) + (1 : Int32)).toNatClampNeg) b1) 5 (((((nI N)) * (3 : Int32)) + (2 : Int32)).toNatClampNeg) c1) 7 ((gI (u63) 7) + (fx_Op_costFor o (fA st 4 a1.toNatClampNeg)))) ((nI N))
        try rw [w117] at hR
        refine lv_iload hx hb dX4_add_120 (lv_at hl 0 rfl) ?_
        exact W.iret (v := (nI N)) hx hb hr (fun t ht hW => ⟨⟨_, _, rfl, hR, by rw [ht]; exact hP, va_K.moved hW.alike hK, hD⟩, hS.F ht⟩) hS.2.2 dX4_add_122
      · skip
        rw [if_neg c48] at hR
        refine lv_bipush (v := (-2 : Int32)) hx hb dX4_add_51 (by decide) ?_
        exact W.iret (v := (-2 : Int32)) hx hb hr (fun t ht hW => ⟨⟨_, _, rfl, hR, by rw [ht]; exact hP, va_K.moved hW.alike hK, hD⟩, hS.F ht⟩) hS.2.2 dX4_add_53
  · skip
    rw [if_pos c3] at hR
    refine lv_aload_n hx hb dX4_add_6 rfl (lv_at hl 0 rfl) ?_
    refine va_get (D := (dC, dI)) (ci := 2) (v := .ref (a 9)) (C := RX4) (T := TX4) (N := 7) hx hb hta inX4 hown hK hP 7 (xr_7 a k st) rfl 1 (by decide) hf15 (fun _ h9 => h9) rfl dX4_add_7 ?_
    refine lv_iload_n hx hb dX4_add_10 rfl (lv_at hl 3 rfl) ?_
    refine va_iald hx hb hK hP 9 5 (xr_9 a k st) rfl (hB (by rw [c3]; decide)) dX4_add_11 ?_
    refine lv_goto (tgt := 21) hx hb dX4_add_12 (by decide) ?_
    refine lv_istore (lv' := [(5, .int (fA st 4 b1.toNatClampNeg)), (0, .ref (a 7)), (1, .int o), (2, .int a1), (3, .int b1), (4, .int c1)]) hx hb dX4_add_21 hl (by decide) rfl (fun ls hl => ?_)
    refine lv_iload_n hx hb dX4_add_23 rfl (lv_at hl 2 rfl) ?_
    refine lv_iload hx hb dX4_add_24 (lv_at hl 0 rfl) ?_
    refine wl_ci (va_runS (As := [.int o, .int (fA st 4 b1.toNatClampNeg)]) (rest := []) ⟨hx, hb, hml, hown, hta⟩ (kx_Op_costFor l o (fA st 4 b1.toNatClampNeg)) (va_cwS 2 hta gX4_58 rfl rfl rfl (by decide +kernel) ⟨Nat.le_of_ble_eq_true rfl, Nat.le_of_ble_eq_true rfl⟩) preEq rfl rfl hl.1 rfl (lv_room (Nat.le_of_ble_eq_true rfl)) dX4_add_26 ⟨Nat.zero_le _, Nat.zero_le _⟩) ?_
    refine lv_istore (lv' := [(6, .int (fx_Op_costFor o (fA st 4 b1.toNatClampNeg))), (5, .int (fA st 4 b1.toNatClampNeg)), (0, .ref (a 7)), (1, .int o), (2, .int a1), (3, .int b1), (4, .int c1)]) hx hb dX4_add_29 hl (by decide) rfl (fun ls hl => ?_)
    refine lv_aload_n hx hb dX4_add_31 rfl (lv_at hl 2 rfl) ?_
    refine wl_ci (va_runV (As := []) (rest := []) ⟨hx, hb, hml, hown, hta⟩ (kx_Terms_isFull l dC dI a k st) (cwV 0 hta gX4_51 rfl rfl rfl (by decide +kernel) ⟨Nat.le_of_ble_eq_true rfl, Nat.le_of_ble_eq_true rfl⟩) (wl_pR (C := RX4) (ci := 2) (q0 := 7) hK hP rfl (xr_7 a k st)) rfl rfl hl.1 rfl (lv_room (Nat.le_of_ble_eq_true rfl)) dX4_add_32 ⟨Nat.zero_le _, Nat.zero_le _⟩) ?_
    refine lv_if_ne (tgt := 51) hx hb dX4_add_35 (by decide) (fun c35 => ?_) (fun c35 => ?_)
    · skip
      rw [if_neg c35] at hR
      refine lv_bipush (v := (-2 : Int32)) hx hb dX4_add_51 (by decide) ?_
      exact W.iret (v := (-2 : Int32)) hx hb hr (fun t ht hW => ⟨⟨_, _, rfl, hR, by rw [ht]; exact hP, va_K.moved hW.alike hK, hD⟩, hS.F ht⟩) hS.2.2 dX4_add_53
    · skip
      rw [if_pos c35] at hR
      have hN64 : N < 64 := wl_isFullN hN h64 c35
      refine lv_aload_n hx hb dX4_add_38 rfl (lv_at hl 2 rfl) ?_
      refine va_get (D := (dC, dI)) (ci := 2) (v := .int (gI st 7)) (C := RX4) (T := TX4) (N := 7) hx hb hta inX4 hown hK hP 7 (xr_7 a k st) rfl 6 (by decide) hf32 (fun _ h9 => h9) rfl dX4_add_39 ?_
      refine lv_iload hx hb dX4_add_42 (lv_at hl 0 rfl) ?_
      refine lv_iadd hx hb dX4_add_44 ?_
      refine lv_sipush (v := (400 : Int32)) hx hb dX4_add_45 (by decide) ?_
      refine lv_icmp_le (tgt := 54) hx hb dX4_add_48 (by decide) (fun c48 => ?_) (fun c48 => ?_)
      · skip
        rw [if_pos c48] at hR
        refine lv_aload_n hx hb dX4_add_54 rfl (lv_at hl 2 rfl) ?_
        refine lv_iload_n hx hb dX4_add_55 rfl (lv_at hl 3 rfl) ?_
        refine lv_aload_n hx hb dX4_add_56 rfl (lv_at hl 2 rfl) ?_
        refine lv_iload_n hx hb dX4_add_57 rfl (lv_at hl 3 rfl) ?_
        refine lv_iload_n hx hb dX4_add_58 rfl (lv_at hl 4 rfl) ?_
        refine lv_iload_n hx hb dX4_add_59 rfl (lv_at hl 5 rfl) ?_
        refine wl_ci (va_runV (As := [.int o, .int a1, .int b1]) (rest := [.int o, .ref (a 7)]) ⟨hx, hb, hml, hown, hta⟩ (kx_Terms_widthOfResult l dC dI a k st o a1 b1 hA (fun h => hB (by rw [h]; decide))) (cwV 3 hta gX4_61 rfl rfl rfl (by decide +kernel) ⟨Nat.le_of_ble_eq_true rfl, Nat.le_of_ble_eq_true rfl⟩) (wl_pR (C := RX4) (ci := 2) (q0 := 7) hK hP rfl (xr_7 a k st)) rfl rfl hl.1 rfl (lv_room (Nat.le_of_ble_eq_true rfl)) dX4_add_60 ⟨Nat.zero_le _, Nat.zero_le _⟩) ?_
        refine wl_mi (va_runV (As := [.int o, .int (fx_Terms_widthOfResult st o a1 b1)]) (rest := []) ⟨hx, hb, hml, hown, hta⟩ (kx_Terms_addPlain l dC dI a k st o (fx_Terms_widthOfResult st o a1 b1) _ (by rw [hN]; exact wl_in hN64 (by decide))) (cwV 2 hta gX4_41 rfl rfl rfl (by decide +kernel) ⟨Nat.le_of_ble_eq_true rfl, Nat.le_of_ble_eq_true rfl⟩) (wl_pM (C := RX4) (ci := 2) (q0 := 7) hK hP hD rfl (xr_7 a k st)) rfl rfl hl.1 rfl (lv_room (Nat.le_of_ble_eq_true rfl)) dX4_add_63 ⟨Nat.zero_le _, Nat.zero_le _⟩) hP hD hS hAz (fun r63 u63 H locs hw63 hP hD hS => ?_)
        have v63 : (fx_Terms_addPlain st o (fx_Terms_widthOfResult st o a1 b1)).1 = r63 := congrArg Prod.fst hw63.symm
        have w63 : (fx_Terms_addPlain st o (fx_Terms_widthOfResult st o a1 b1)).2 = u63 := congrArg Prod.snd hw63.symm
        have hf63 : XF [6] [3, 4] [] st u63 := by rw [← w63]; exact ff_Terms_addPlain st o (fx_Terms_widthOfResult st o a1 b1)
        try rw [v63] at hR
        try rw [w63] at hR
        have e63 : (r63) = nI N := ((congrArg Prod.fst hw63).trans hN)
        rw [e63]
        try rw [e63] at hR
        refine lv_istore (lv' := [(7, .int ((nI N))), (6, .int (fx_Op_costFor o (fA st 4 b1.toNatClampNeg))), (5, .int (fA st 4 b1.toNatClampNeg)), (0, .ref (a 7)), (1, .int o), (2, .int a1), (3, .int b1), (4, .int c1)]) hx hb dX4_add_66 hl (by decide) rfl (fun ls hl => ?_)
        refine lv_aload_n hx hb dX4_add_68 rfl (lv_at hl 3 rfl) ?_
        refine va_get (D := (dC, dI)) (ci := 2) (v := .ref (a 10)) (C := RX4) (T := TX4) (N := 7) hx hb hta inX4 hown hK hP 7 (xr_7 a k (u63)) rfl 2 (by decide) hf18 (fun _ h9 => h9) rfl dX4_add_69 ?_
        refine lv_iload hx hb dX4_add_72 (lv_at hl 0 rfl) ?_
        refine lv_iconst (v := (3 : Int32)) hx hb dX4_add_74 (by decide) ?_
        refine lv_imul hx hb dX4_add_75 ?_
        refine lv_iload_n hx hb dX4_add_76 rfl (lv_at hl 5 rfl) ?_
        refine va_iast hx hb hK hP hD hS 10 6 (xr_10 a k (u63)) rfl (wl_i30 hN64) dX4_add_77 (fun H locs hP hD hS => ?_)
        have hP := xp_A5 hP
        have hD := xd_A5 hD
        refine lv_aload_n hx hb dX4_add_78 rfl (lv_at hl 3 rfl) ?_
        refine va_get (D := (dC, dI)) (ci := 2) (v := .ref (a 10)) (C := RX4) (T := TX4) (N := 7) hx hb hta inX4 hown hK hP 7 (xr_7 a k (wA (u63) 5 ((((nI N)) * (3 : Int32)).toNatClampNeg) a1)) rfl 2 (by decide) hf18 (fun _ h9 => h9) rfl dX4_add_79 ?_
        refine lv_iload hx hb dX4_add_82 (lv_at hl 0 rfl) ?_
        refine lv_iconst (v := (3 : Int32)) hx hb dX4_add_84 (by decide) ?_
        refine lv_imul hx hb dX4_add_85 ?_
        refine lv_iconst (v := (1 : Int32)) hx hb dX4_add_86 (by decide) ?_
        refine lv_iadd hx hb dX4_add_87 ?_
        refine lv_iload_n hx hb dX4_add_88 rfl (lv_at hl 6 rfl) ?_
        refine va_iast hx hb hK hP hD hS 10 6 (xr_10 a k (wA (u63) 5 ((((nI N)) * (3 : Int32)).toNatClampNeg) a1)) rfl (wl_i3 1 hN64 (by decide)) dX4_add_89 (fun H locs hP hD hS => ?_)
        have hP := xp_A5 hP
        have hD := xd_A5 hD
        refine lv_aload_n hx hb dX4_add_90 rfl (lv_at hl 3 rfl) ?_
        refine va_get (D := (dC, dI)) (ci := 2) (v := .ref (a 10)) (C := RX4) (T := TX4) (N := 7) hx hb hta inX4 hown hK hP 7 (xr_7 a k (wA (wA (u63) 5 ((((nI N)) * (3 : Int32)).toNatClampNeg) a1) 5 (((((nI N)) * (3 : Int32)) + (1 : Int32)).toNatClampNeg) b1)) rfl 2 (by decide) hf18 (fun _ h9 => h9) rfl dX4_add_91 ?_
        refine lv_iload hx hb dX4_add_94 (lv_at hl 0 rfl) ?_
        refine lv_iconst (v := (3 : Int32)) hx hb dX4_add_96 (by decide) ?_
        refine lv_imul hx hb dX4_add_97 ?_
        refine lv_iconst (v := (2 : Int32)) hx hb dX4_add_98 (by decide) ?_
        refine lv_iadd hx hb dX4_add_99 ?_
        refine lv_iload hx hb dX4_add_100 (lv_at hl 7 rfl) ?_
        refine va_iast hx hb hK hP hD hS 10 6 (xr_10 a k (wA (wA (u63) 5 ((((nI N)) * (3 : Int32)).toNatClampNeg) a1) 5 (((((nI N)) * (3 : Int32)) + (1 : Int32)).toNatClampNeg) b1)) rfl (wl_i3 2 hN64 (by decide)) dX4_add_102 (fun H locs hP hD hS => ?_)
        have hP := xp_A5 hP
        have hD := xd_A5 hD
        refine lv_aload_n hx hb dX4_add_103 rfl (lv_at hl 3 rfl) ?_
        refine lv_dup hx hb dX4_add_104 rfl ?_
        refine va_get (D := (dC, dI)) (ci := 2) (v := .int (gI (u63) 7)) (C := RX4) (T := TX4) (N := 7) hx hb hta inX4 hown hK hP 7 (xr_7 a k (wA (wA (wA (u63) 5 ((((nI N)) * (3 : Int32)).toNatClampNeg) a1) 5 (((((nI N)) * (3 : Int32)) + (1 : Int32)).toNatClampNeg) b1) 5 (((((nI N)) * (3 : Int32)) + (2 : Int32)).toNatClampNeg) c1)) rfl 6 (by decide) hf32 (fun _ h9 => h9) rfl dX4_add_105 ?_
        refine lv_iload hx hb dX4_add_108 (lv_at hl 1 rfl) ?_
        refine lv_iadd hx hb dX4_add_110 ?_
        refine va_put (D := (dC, dI)) (ci := 2) (v := .int ((gI (u63) 7) + (fx_Op_costFor o (fA st 4 b1.toNatClampNeg)))) (ty := .int) (C := RX4) (T := TX4) (N := 7) hx hb hta inX4 tyX4 tyX4_ok nmX4 hown hK hP hD hS 7 (xr_7 a k (wA (wA (wA (u63) 5 ((((nI N)) * (3 : Int32)).toNatClampNeg) a1) 5 (((((nI N)) * (3 : Int32)) + (1 : Int32)).toNatClampNeg) b1) 5 (((((nI N)) * (3 : Int32)) + (2 : Int32)).toNatClampNeg) c1)) rfl 6 (by decide) hf32 (fun _ h9 => h9) rfl (by decide +kernel) rfl rfl (Nat.le_of_ble_eq_true rfl) dX4_add_111 (fun H locs hP hD hS => ?_)
        have hP := xp_I7 hP
        have hD := xd_I7 hD
        refine lv_aload_n hx hb dX4_add_114 rfl (lv_at hl 3 rfl) ?_
        refine lv_iload hx hb dX4_add_115 (lv_at hl 0 rfl) ?_
        refine wl_mv (va_runV (As := [.int ((nI N))]) (rest := []) ⟨hx, hb, hml, hown, hta⟩ (kx_Terms_noteTablesRead l dC dI a k (wI (wA (wA (wA (u63) 5 ((((nI N)) * (3 : Int32)).toNatClampNeg) a1) 5 (((((nI N)) * (3 : Int32)) + (1 : Int32)).toNatClampNeg) b1) 5 (((((nI N)) * (3 : Int32)) + (2 : Int32)).toNatClampNeg) c1) 7 ((gI (u63) 7) + (fx_Op_costFor o (fA st 4 b1.toNatClampNeg)))) N _ hN64 (wl_addops hN64 (by rw [← w63]; exact wl_ap3 hN hN64) hA hB hC)) (cwV 1 hta gX4_65 rfl rfl rfl (by decide +kernel) ⟨Nat.le_of_ble_eq_true rfl, Nat.le_of_ble_eq_true rfl⟩) (wl_pM (C := RX4) (ci := 2) (q0 := 7) hK hP hD rfl (xr_7 a k (wI (wA (wA (wA (u63) 5 ((((nI N)) * (3 : Int32)).toNatClampNeg) a1) 5 (((((nI N)) * (3 : Int32)) + (1 : Int32)).toNatClampNeg) b1) 5 (((((nI N)) * (3 : Int32)) + (2 : Int32)).toNatClampNeg) c1) 7 ((gI (u63) 7) + (fx_Op_costFor o (fA st 4 b1.toNatClampNeg)))))) rfl rfl hl.1 rfl (lv_room (Nat.le_of_ble_eq_true rfl)) dX4_add_117 ⟨Nat.zero_le _, Nat.zero_le _⟩) hP hD hS hAz (fun u117 H locs hw117 hP hD hS => ?_)
        have w117 : fx_Terms_noteTablesRead (wI (wA (wA (wA (u63) 5 ((((nI N)) * (3 : Int32)).toNatClampNeg) a1) 5 (((((nI N)) * (3 : Int32)) + (1 : Int32)).toNatClampNeg) b1) 5 (((((nI N)) * (3 : Int32)) + (2 : Int32)).toNatClampNeg) c1) 7 ((gI (u63) 7) + (fx_Op_costFor o (fA st 4 b1.toNatClampNeg)))) ((nI N)) = u117 := hw117.symm
        have hf117 : XF [] [6] [] (wI (wA (wA (wA (u63) 5 ((((nI N)) * (3 : Int32)).toNatClampNeg) a1) 5 (((((nI N)) * (3 : Int32)) + (1 : Int32)).toNatClampNeg) b1) 5 (((((nI N)) * (3 : Int32)) + (2 : Int32)).toNatClampNeg) c1) 7 ((gI (u63) 7) + (fx_Op_costFor o (fA st 4 b1.toNatClampNeg)))) u117 := by rw [← w117]; exact ff_Terms_noteTablesRead (wI (wA (wA (wA (u63) 5 ((((nI N)) * (3 : Int32)).toNatClampNeg) a1) 5 (((((nI N)) * (3 : Int32)) + (1 : Int32)).toNatClampNeg) b1) 5 (((((nI N)) * (3 : Int32)) + (2 : Int32)).toNatClampNeg) c1) 7 ((gI (u63) 7) + (fx_Op_costFor o (fA st 4 b1.toNatClampNeg)))) ((nI N))
        try rw [w117] at hR
        refine lv_iload hx hb dX4_add_120 (lv_at hl 0 rfl) ?_
        exact W.iret (v := (nI N)) hx hb hr (fun t ht hW => ⟨⟨_, _, rfl, hR, by rw [ht]; exact hP, va_K.moved hW.alike hK, hD⟩, hS.F ht⟩) hS.2.2 dX4_add_122
      · skip
        rw [if_neg c48] at hR
        refine lv_bipush (v := (-2 : Int32)) hx hb dX4_add_51 (by decide) ?_
        exact W.iret (v := (-2 : Int32)) hx hb hr (fun t ht hW => ⟨⟨_, _, rfl, hR, by rw [ht]; exact hP, va_K.moved hW.alike hK, hD⟩, hS.F ht⟩) hS.2.2 dX4_add_53
