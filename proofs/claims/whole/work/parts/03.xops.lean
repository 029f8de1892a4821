theorem dX0_isOne_0 : decode cX0_isOne 0 = .ok (.iload_n 0, 1) := by decide +kernel
theorem dX0_isOne_1 : decode cX0_isOne 1 = .ok (.iconst 1, 1) := by decide +kernel
theorem dX0_isOne_2 : decode cX0_isOne 2 = .ok (.if_icmp .eq 27, 3) := by decide +kernel
theorem dX0_isOne_5 : decode cX0_isOne 5 = .ok (.iload_n 0, 1) := by decide +kernel
theorem dX0_isOne_6 : decode cX0_isOne 6 = .ok (.bipush 8, 2) := by decide +kernel
theorem dX0_isOne_8 : decode cX0_isOne 8 = .ok (.if_icmp .eq 21, 3) := by decide +kernel
theorem dX0_isOne_11 : decode cX0_isOne 11 = .ok (.iload_n 0, 1) := by decide +kernel
theorem dX0_isOne_12 : decode cX0_isOne 12 = .ok (.bipush 16, 2) := by decide +kernel
theorem dX0_isOne_14 : decode cX0_isOne 14 = .ok (.if_icmp .eq 15, 3) := by decide +kernel
theorem dX0_isOne_17 : decode cX0_isOne 17 = .ok (.iload_n 0, 1) := by decide +kernel
theorem dX0_isOne_18 : decode cX0_isOne 18 = .ok (.bipush 32, 2) := by decide +kernel
theorem dX0_isOne_20 : decode cX0_isOne 20 = .ok (.if_icmp .eq 9, 3) := by decide +kernel
theorem dX0_isOne_23 : decode cX0_isOne 23 = .ok (.iload_n 0, 1) := by decide +kernel
theorem dX0_isOne_24 : decode cX0_isOne 24 = .ok (.bipush 64, 2) := by decide +kernel
theorem dX0_isOne_26 : decode cX0_isOne 26 = .ok (.if_icmp .ne 7, 3) := by decide +kernel
theorem dX0_isOne_29 : decode cX0_isOne 29 = .ok (.iconst 1, 1) := by decide +kernel
theorem dX0_isOne_30 : decode cX0_isOne 30 = .ok (.goto 4, 3) := by decide +kernel
theorem dX0_isOne_33 : decode cX0_isOne 33 = .ok (.iconst 0, 1) := by decide +kernel
theorem dX0_isOne_34 : decode cX0_isOne 34 = .ok (.ireturn, 1) := by decide +kernel
def fx_Width_isOne (w : Int32) : Int32 := 
  if w = (1 : Int32) then (1 : Int32)
  else 
    if w = (8 : Int32) then (1 : Int32)
    else 
      if w = (16 : Int32) then (1 : Int32)
      else 
        if w = (32 : Int32) then (1 : Int32)
        else 
          if w = (64 : Int32) then (1 : Int32)
          else (0 : Int32)
set_option maxHeartbeats 4000000 in
set_option maxRecDepth 100000 in
theorem kx_Width_isOne (l : Launch) (w : Int32) : Met l yX0_isOne wsX0_isOne ({ frames := 0, cells := 0, slots := 0, locals := 0 }) (fun v _ => v = ([.int w] : List Value).toArray) (vp_Si (fun r9 => r9 = fx_Width_isOne w)) 0 0 (fun _ => False) := by
  refine Met.ofW (cc := cX0_isOne) (maxL := 1) (ret := (some .boolean)) (by decide) rfl ?_
  intro p e s m args below meth c s₁ B hml hv
  subst hv
  have hx := B.exec
  have hb := B.bytes
  have hr := B.returns
  have hta := aw_hts (atoms_spec (ws := wsX0_isOne) B.pre)
  have hown : s.vm.findClass RX0 = some m.cls := findClass_of_methodNamed B.named
  have hlocks := B.notSynchronized
  have hl := lv_entry ([.int w]) (n := 1) (Nat.le_of_ble_eq_true rfl)
  rw [lg_entry_eq]
  generalize (lg_sl ([.int w]) ++ List.replicate (1 - (lg_sl ([.int w])).length) Slot.unset).toArray = ls at hl ⊢
  have hl : lv_has ls 1 [(0, .int w)] := hl
  generalize hR : fx_Width_isOne w = R
  rw [fx_Width_isOne] at hR
  refine lv_iload_n hx hb dX0_isOne_0 rfl (lv_at hl 0 rfl) ?_
  refine lv_iconst (v := (1 : Int32)) hx hb dX0_isOne_1 (by decide) ?_
  refine lv_icmp_eq (tgt := 29) hx hb dX0_isOne_2 (by decide) (fun c2 => ?_) (fun c2 => ?_)
  · skip
    rw [if_pos c2] at hR
    refine lv_iconst (v := (1 : Int32)) hx hb dX0_isOne_29 (by decide) ?_
    refine lv_goto (tgt := 34) hx hb dX0_isOne_30 (by decide) ?_
    exact W.zret (v := (1 : Int32)) (ty := .boolean) hx hb hr rfl (fun t ht hW => ⟨_, rfl, hR, ht⟩) (fun q h => by cases h) dX0_isOne_34
  · skip
    rw [if_neg c2] at hR
    refine lv_iload_n hx hb dX0_isOne_5 rfl (lv_at hl 0 rfl) ?_
    refine lv_bipush (v := (8 : Int32)) hx hb dX0_isOne_6 (by decide) ?_
    refine lv_icmp_eq (tgt := 29) hx hb dX0_isOne_8 (by decide) (fun c8 => ?_) (fun c8 => ?_)
    · skip
      rw [if_pos c8] at hR
      refine lv_iconst (v := (1 : Int32)) hx hb dX0_isOne_29 (by decide) ?_
      refine lv_goto (tgt := 34) hx hb dX0_isOne_30 (by decide) ?_
      exact W.zret (v := (1 : Int32)) (ty := .boolean) hx hb hr rfl (fun t ht hW => ⟨_, rfl, hR, ht⟩) (fun q h => by cases h) dX0_isOne_34
    · skip
      rw [if_neg c8] at hR
      refine lv_iload_n hx hb dX0_isOne_11 rfl (lv_at hl 0 rfl) ?_
      refine lv_bipush (v := (16 : Int32)) hx hb dX0_isOne_12 (by decide) ?_
      refine lv_icmp_eq (tgt := 29) hx hb dX0_isOne_14 (by decide) (fun c14 => ?_) (fun c14 => ?_)
      · skip
        rw [if_pos c14] at hR
        refine lv_iconst (v := (1 : Int32)) hx hb dX0_isOne_29 (by decide) ?_
        refine lv_goto (tgt := 34) hx hb dX0_isOne_30 (by decide) ?_
        exact W.zret (v := (1 : Int32)) (ty := .boolean) hx hb hr rfl (fun t ht hW => ⟨_, rfl, hR, ht⟩) (fun q h => by cases h) dX0_isOne_34
      · skip
        rw [if_neg c14] at hR
        refine lv_iload_n hx hb dX0_isOne_17 rfl (lv_at hl 0 rfl) ?_
        refine lv_bipush (v := (32 : Int32)) hx hb dX0_isOne_18 (by decide) ?_
        refine lv_icmp_eq (tgt := 29) hx hb dX0_isOne_20 (by decide) (fun c20 => ?_) (fun c20 => ?_)
        · skip
          rw [if_pos c20] at hR
          refine lv_iconst (v := (1 : Int32)) hx hb dX0_isOne_29 (by decide) ?_
          refine lv_goto (tgt := 34) hx hb dX0_isOne_30 (by decide) ?_
          exact W.zret (v := (1 : Int32)) (ty := .boolean) hx hb hr rfl (fun t ht hW => ⟨_, rfl, hR, ht⟩) (fun q h => by cases h) dX0_isOne_34
        · skip
          rw [if_neg c20] at hR
          refine lv_iload_n hx hb dX0_isOne_23 rfl (lv_at hl 0 rfl) ?_
          refine lv_bipush (v := (64 : Int32)) hx hb dX0_isOne_24 (by decide) ?_
          refine lv_icmp_ne (tgt := 33) hx hb dX0_isOne_26 (by decide) (fun c26 => ?_) (fun c26 => ?_)
          · skip
            rw [if_neg c26] at hR
            refine lv_iconst (v := (0 : Int32)) hx hb dX0_isOne_33 (by decide) ?_
            exact W.zret (v := (0 : Int32)) (ty := .boolean) hx hb hr rfl (fun t ht hW => ⟨_, rfl, hR, ht⟩) (fun q h => by cases h) dX0_isOne_34
          · skip
            rw [if_pos c26] at hR
            refine lv_iconst (v := (1 : Int32)) hx hb dX0_isOne_29 (by decide) ?_
            refine lv_goto (tgt := 34) hx hb dX0_isOne_30 (by decide) ?_
            exact W.zret (v := (1 : Int32)) (ty := .boolean) hx hb hr rfl (fun t ht hW => ⟨_, rfl, hR, ht⟩) (fun q h => by cases h) dX0_isOne_34

theorem dX0_readSigned_0 : decode cX0_readSigned 0 = .ok (.bipush 64, 2) := by decide +kernel
theorem dX0_readSigned_2 : decode cX0_readSigned 2 = .ok (.iload_n 0, 1) := by decide +kernel
theorem dX0_readSigned_3 : decode cX0_readSigned 3 = .ok (.isub, 1) := by decide +kernel
theorem dX0_readSigned_4 : decode cX0_readSigned 4 = .ok (.istore_n 3, 1) := by decide +kernel
theorem dX0_readSigned_5 : decode cX0_readSigned 5 = .ok (.lload_n 1, 1) := by decide +kernel
theorem dX0_readSigned_6 : decode cX0_readSigned 6 = .ok (.iload_n 3, 1) := by decide +kernel
theorem dX0_readSigned_7 : decode cX0_readSigned 7 = .ok (.lshl, 1) := by decide +kernel
theorem dX0_readSigned_8 : decode cX0_readSigned 8 = .ok (.iload_n 3, 1) := by decide +kernel
theorem dX0_readSigned_9 : decode cX0_readSigned 9 = .ok (.lshr, 1) := by decide +kernel
theorem dX0_readSigned_10 : decode cX0_readSigned 10 = .ok (.lreturn, 1) := by decide +kernel
def fx_Width_readSigned (w : Int32) (x : Int64) : Int64 := (x <<< (((64 : Int32) - w).toInt64 &&& 63)) >>> (((64 : Int32) - w).toInt64 &&& 63)
set_option maxHeartbeats 4000000 in
set_option maxRecDepth 100000 in
theorem kx_Width_readSigned (l : Launch) (w : Int32) (x : Int64) : Met l yX0_readSigned wsX0_readSigned ({ frames := 0, cells := 0, slots := 0, locals := 0 }) (fun v _ => v = ([.int w, .long x] : List Value).toArray) (vp_Sl (fun r9 => r9 = fx_Width_readSigned w x)) 0 0 (fun _ => False) := by
  refine Met.ofW (cc := cX0_readSigned) (maxL := 4) (ret := (some .long)) (by decide) rfl ?_
  intro p e s m args below meth c s₁ B hml hv
  subst hv
  have hx := B.exec
  have hb := B.bytes
  have hr := B.returns
  have hta := aw_hts (atoms_spec (ws := wsX0_readSigned) B.pre)
  have hown : s.vm.findClass RX0 = some m.cls := findClass_of_methodNamed B.named
  have hlocks := B.notSynchronized
  have hl := lv_entry ([.int w, .long x]) (n := 4) (Nat.le_of_ble_eq_true rfl)
  rw [lg_entry_eq]
  generalize (lg_sl ([.int w, .long x]) ++ List.replicate (4 - (lg_sl ([.int w, .long x])).length) Slot.unset).toArray = ls at hl ⊢
  have hl : lv_has ls 4 [(0, .int w), (1, .long x)] := hl
  generalize hR : fx_Width_readSigned w x = R
  rw [fx_Width_readSigned] at hR
  refine lv_bipush (v := (64 : Int32)) hx hb dX0_readSigned_0 (by decide) ?_
  refine lv_iload_n hx hb dX0_readSigned_2 rfl (lv_at hl 0 rfl) ?_
  refine lv_isub hx hb dX0_readSigned_3 ?_
  refine lv_istore_n (lv' := [(3, .int ((64 : Int32) - w)), (0, .int w), (1, .long x)]) hx hb dX0_readSigned_4 rfl hl (by decide) rfl (fun ls hl => ?_)
  refine lv_lload_n hx hb dX0_readSigned_5 rfl (lv_at hl 2 rfl) ?_
  refine lv_iload_n hx hb dX0_readSigned_6 rfl (lv_at hl 0 rfl) ?_
  refine lv_lshl (v := x <<< (((64 : Int32) - w).toInt64 &&& 63)) hx hb dX0_readSigned_7 rfl ?_
  refine lv_iload_n hx hb dX0_readSigned_8 rfl (lv_at hl 0 rfl) ?_
  refine lv_lshr (v := (x <<< (((64 : Int32) - w).toInt64 &&& 63)) >>> (((64 : Int32) - w).toInt64 &&& 63)) hx hb dX0_readSigned_9 rfl ?_
  exact W.lret (v := (x <<< (((64 : Int32) - w).toInt64 &&& 63)) >>> (((64 : Int32) - w).toInt64 &&& 63)) hx hb hr (fun t ht hW => ⟨_, rfl, hR, ht⟩) (fun q h => by cases h) dX0_readSigned_10

theorem dX0_readPlain_0 : decode cX0_readPlain 0 = .ok (.bipush 64, 2) := by decide +kernel
theorem dX0_readPlain_2 : decode cX0_readPlain 2 = .ok (.iload_n 0, 1) := by decide +kernel
theorem dX0_readPlain_3 : decode cX0_readPlain 3 = .ok (.isub, 1) := by decide +kernel
theorem dX0_readPlain_4 : decode cX0_readPlain 4 = .ok (.istore_n 3, 1) := by decide +kernel
theorem dX0_readPlain_5 : decode cX0_readPlain 5 = .ok (.lload_n 1, 1) := by decide +kernel
theorem dX0_readPlain_6 : decode cX0_readPlain 6 = .ok (.iload_n 3, 1) := by decide +kernel
theorem dX0_readPlain_7 : decode cX0_readPlain 7 = .ok (.lshl, 1) := by decide +kernel
theorem dX0_readPlain_8 : decode cX0_readPlain 8 = .ok (.iload_n 3, 1) := by decide +kernel
theorem dX0_readPlain_9 : decode cX0_readPlain 9 = .ok (.lushr, 1) := by decide +kernel
theorem dX0_readPlain_10 : decode cX0_readPlain 10 = .ok (.lreturn, 1) := by decide +kernel
def fx_Width_readPlain (w : Int32) (x : Int64) : Int64 := ((x <<< (((64 : Int32) - w).toInt64 &&& 63)).toUInt64 >>> (((64 : Int32) - w).toInt64.toUInt64 &&& Int64.toUInt64 63)).toInt64
set_option maxHeartbeats 4000000 in
set_option maxRecDepth 100000 in
theorem kx_Width_readPlain (l : Launch) (w : Int32) (x : Int64) : Met l yX0_readPlain wsX0_readPlain ({ frames := 0, cells := 0, slots := 0, locals := 0 }) (fun v _ => v = ([.int w, .long x] : List Value).toArray) (vp_Sl (fun r9 => r9 = fx_Width_readPlain w x)) 0 0 (fun _ => False) := by
  refine Met.ofW (cc := cX0_readPlain) (maxL := 4) (ret := (some .long)) (by decide) rfl ?_
  intro p e s m args below meth c s₁ B hml hv
  subst hv
  have hx := B.exec
  have hb := B.bytes
  have hr := B.returns
  have hta := aw_hts (atoms_spec (ws := wsX0_readPlain) B.pre)
  have hown : s.vm.findClass RX0 = some m.cls := findClass_of_methodNamed B.named
  have hlocks := B.notSynchronized
  have hl := lv_entry ([.int w, .long x]) (n := 4) (Nat.le_of_ble_eq_true rfl)
  rw [lg_entry_eq]
  generalize (lg_sl ([.int w, .long x]) ++ List.replicate (4 - (lg_sl ([.int w, .long x])).length) Slot.unset).toArray = ls at hl ⊢
  have hl : lv_has ls 4 [(0, .int w), (1, .long x)] := hl
  generalize hR : fx_Width_readPlain w x = R
  rw [fx_Width_readPlain] at hR
  refine lv_bipush (v := (64 : Int32)) hx hb dX0_readPlain_0 (by decide) ?_
  refine lv_iload_n hx hb dX0_readPlain_2 rfl (lv_at hl 0 rfl) ?_
  refine lv_isub hx hb dX0_readPlain_3 ?_
  refine lv_istore_n (lv' := [(3, .int ((64 : Int32) - w)), (0, .int w), (1, .long x)]) hx hb dX0_readPlain_4 rfl hl (by decide) rfl (fun ls hl => ?_)
  refine lv_lload_n hx hb dX0_readPlain_5 rfl (lv_at hl 2 rfl) ?_
  refine lv_iload_n hx hb dX0_readPlain_6 rfl (lv_at hl 0 rfl) ?_
  refine lv_lshl (v := x <<< (((64 : Int32) - w).toInt64 &&& 63)) hx hb dX0_readPlain_7 rfl ?_
  refine lv_iload_n hx hb dX0_readPlain_8 rfl (lv_at hl 0 rfl) ?_
  refine lv_lushr (v := ((x <<< (((64 : Int32) - w).toInt64 &&& 63)).toUInt64 >>> (((64 : Int32) - w).toInt64.toUInt64 &&& Int64.toUInt64 63)).toInt64) hx hb dX0_readPlain_9 rfl ?_
  exact W.lret (v := ((x <<< (((64 : Int32) - w).toInt64 &&& 63)).toUInt64 >>> (((64 : Int32) - w).toInt64.toUInt64 &&& Int64.toUInt64 63)).toInt64) hx hb hr (fun t ht hW => ⟨_, rfl, hR, ht⟩) (fun q h => by cases h) dX0_readPlain_10

theorem dX1_named_0 : decode cX1_named 0 = .ok (.iload_n 0, 1) := by decide +kernel
theorem dX1_named_1 : decode cX1_named 1 = .ok (.bipush 20, 2) := by decide +kernel
theorem dX1_named_3 : decode cX1_named 3 = .ok (.if_icmp .le 5, 3) := by decide +kernel
theorem dX1_named_6 : decode cX1_named 6 = .ok (.iconst 0, 1) := by decide +kernel
theorem dX1_named_7 : decode cX1_named 7 = .ok (.ireturn, 1) := by decide +kernel
theorem dX1_named_8 : decode cX1_named 8 = .ok (.iload_n 0, 1) := by decide +kernel
theorem dX1_named_9 : decode cX1_named 9 = .ok (.iconst 1, 1) := by decide +kernel
theorem dX1_named_10 : decode cX1_named 10 = .ok (.if_icmp .gt 5, 3) := by decide +kernel
theorem dX1_named_13 : decode cX1_named 13 = .ok (.iconst 1, 1) := by decide +kernel
theorem dX1_named_14 : decode cX1_named 14 = .ok (.ireturn, 1) := by decide +kernel
theorem dX1_named_15 : decode cX1_named 15 = .ok (.iload_n 0, 1) := by decide +kernel
theorem dX1_named_16 : decode cX1_named 16 = .ok (.bipush 16, 2) := by decide +kernel
theorem dX1_named_18 : decode cX1_named 18 = .ok (.if_icmp .ne 7, 3) := by decide +kernel
theorem dX1_named_21 : decode cX1_named 21 = .ok (.iconst 3, 1) := by decide +kernel
theorem dX1_named_22 : decode cX1_named 22 = .ok (.goto 4, 3) := by decide +kernel
theorem dX1_named_25 : decode cX1_named 25 = .ok (.iconst 2, 1) := by decide +kernel
theorem dX1_named_26 : decode cX1_named 26 = .ok (.ireturn, 1) := by decide +kernel
def fx_Op_named (o : Int32) : Int32 := 
  if o ≤ (20 : Int32) then 
    if (1 : Int32) < o then 
      if o = (16 : Int32) then (3 : Int32)
      else (2 : Int32)
    else (1 : Int32)
  else (0 : Int32)
set_option maxHeartbeats 4000000 in
set_option maxRecDepth 100000 in
theorem kx_Op_named (l : Launch) (o : Int32) : Met l yX1_named wsX1_named ({ frames := 0, cells := 0, slots := 0, locals := 0 }) (fun v _ => v = ([.int o] : List Value).toArray) (vp_Si (fun r9 => r9 = fx_Op_named o)) 0 0 (fun _ => False) := by
  refine Met.ofW (cc := cX1_named) (maxL := 1) (ret := (some .int)) (by decide) rfl ?_
  intro p e s m args below meth c s₁ B hml hv
  subst hv
  have hx := B.exec
  have hb := B.bytes
  have hr := B.returns
  have hta := aw_hts (atoms_spec (ws := wsX1_named) B.pre)
  have hown : s.vm.findClass RX1 = some m.cls := findClass_of_methodNamed B.named
  have hlocks := B.notSynchronized
  have hl := lv_entry ([.int o]) (n := 1) (Nat.le_of_ble_eq_true rfl)
  rw [lg_entry_eq]
  generalize (lg_sl ([.int o]) ++ List.replicate (1 - (lg_sl ([.int o])).length) Slot.unset).toArray = ls at hl ⊢
  have hl : lv_has ls 1 [(0, .int o)] := hl
  generalize hR : fx_Op_named o = R
  rw [fx_Op_named] at hR
  refine lv_iload_n hx hb dX1_named_0 rfl (lv_at hl 0 rfl) ?_
  refine lv_bipush (v := (20 : Int32)) hx hb dX1_named_1 (by decide) ?_
  refine lv_icmp_le (tgt := 8) hx hb dX1_named_3 (by decide) (fun c3 => ?_) (fun c3 => ?_)
  · skip
    rw [if_pos c3] at hR
    refine lv_iload_n hx hb dX1_named_8 rfl (lv_at hl 0 rfl) ?_
    refine lv_iconst (v := (1 : Int32)) hx hb dX1_named_9 (by decide) ?_
    refine lv_icmp_gt (tgt := 15) hx hb dX1_named_10 (by decide) (fun c10 => ?_) (fun c10 => ?_)
    · skip
      rw [if_pos c10] at hR
      refine lv_iload_n hx hb dX1_named_15 rfl (lv_at hl 0 rfl) ?_
      refine lv_bipush (v := (16 : Int32)) hx hb dX1_named_16 (by decide) ?_
      refine lv_icmp_ne (tgt := 25) hx hb dX1_named_18 (by decide) (fun c18 => ?_) (fun c18 => ?_)
      · skip
        rw [if_neg c18] at hR
        refine lv_iconst (v := (2 : Int32)) hx hb dX1_named_25 (by decide) ?_
        exact W.iret (v := (2 : Int32)) hx hb hr (fun t ht hW => ⟨_, rfl, hR, ht⟩) (fun q h => by cases h) dX1_named_26
      · skip
        rw [if_pos c18] at hR
        refine lv_iconst (v := (3 : Int32)) hx hb dX1_named_21 (by decide) ?_
        refine lv_goto (tgt := 26) hx hb dX1_named_22 (by decide) ?_
        exact W.iret (v := (3 : Int32)) hx hb hr (fun t ht hW => ⟨_, rfl, hR, ht⟩) (fun q h => by cases h) dX1_named_26
    · skip
      rw [if_neg c10] at hR
      refine lv_iconst (v := (1 : Int32)) hx hb dX1_named_13 (by decide) ?_
      exact W.iret (v := (1 : Int32)) hx hb hr (fun t ht hW => ⟨_, rfl, hR, ht⟩) (fun q h => by cases h) dX1_named_14
  · skip
    rw [if_neg c3] at hR
    refine lv_iconst (v := (0 : Int32)) hx hb dX1_named_6 (by decide) ?_
    exact W.iret (v := (0 : Int32)) hx hb hr (fun t ht hW => ⟨_, rfl, hR, ht⟩) (fun q h => by cases h) dX1_named_7

theorem mw_339 : (.code yX1_named cX1_named 1 (some .int) : Cond) ∈ AW := List.mem_filter.mpr ⟨List.mem_of_getElem? (i := 339) (by decide +kernel), rfl⟩
theorem mw_343 : (.methodLink RX1 9 yX1_named : Cond) ∈ AW := List.mem_filter.mpr ⟨List.mem_of_getElem? (i := 343) (by decide +kernel), rfl⟩
theorem mw_48 : (.initialized RX1 : Cond) ∈ AW := List.mem_filter.mpr ⟨List.mem_of_getElem? (i := 48) (by decide +kernel), rfl⟩
theorem mw_338 : (.static yX1_named : Cond) ∈ AW := List.mem_filter.mpr ⟨List.mem_of_getElem? (i := 338) (by decide +kernel), rfl⟩
theorem gX1_9 : GoodIn AW (va_wsS RX1 9 yX1_named wsX1_named) := aw_S mw_343 mw_338 mw_48 mw_339
theorem dX1_namedTerms_0 : decode cX1_namedTerms 0 = .ok (.iload_n 0, 1) := by decide +kernel
theorem dX1_namedTerms_1 : decode cX1_namedTerms 1 = .ok (.bipush 17, 2) := by decide +kernel
theorem dX1_namedTerms_3 : decode cX1_namedTerms 3 = .ok (.if_icmp .lt 13, 3) := by decide +kernel
theorem dX1_namedTerms_6 : decode cX1_namedTerms 6 = .ok (.iload_n 0, 1) := by decide +kernel
theorem dX1_namedTerms_7 : decode cX1_namedTerms 7 = .ok (.bipush 20, 2) := by decide +kernel
theorem dX1_namedTerms_9 : decode cX1_namedTerms 9 = .ok (.if_icmp .gt 7, 3) := by decide +kernel
theorem dX1_namedTerms_12 : decode cX1_namedTerms 12 = .ok (.iconst 1, 1) := by decide +kernel
theorem dX1_namedTerms_13 : decode cX1_namedTerms 13 = .ok (.goto 7, 3) := by decide +kernel
theorem dX1_namedTerms_16 : decode cX1_namedTerms 16 = .ok (.iload_n 0, 1) := by decide +kernel
theorem dX1_namedTerms_17 : decode cX1_namedTerms 17 = .ok (.invokestatic 9, 3) := by decide +kernel
theorem dX1_namedTerms_20 : decode cX1_namedTerms 20 = .ok (.ireturn, 1) := by decide +kernel
def fx_Op_namedTerms (o : Int32) : Int32 := 
  if o < (17 : Int32) then fx_Op_named o
  else 
    if (20 : Int32) < o then fx_Op_named o
    else (1 : Int32)
set_option maxHeartbeats 4000000 in
set_option maxRecDepth 100000 in
theorem kx_Op_namedTerms (l : Launch) (o : Int32) : Met l yX1_namedTerms wsX1_namedTerms ({ frames := 1, cells := 0, slots := 0, locals := 20 }) (fun v _ => v = ([.int o] : List Value).toArray) (vp_Si (fun r9 => r9 = fx_Op_namedTerms o)) 0 0 (fun _ => False) := by
  refine Met.ofW (cc := cX1_namedTerms) (maxL := 1) (ret := (some .int)) (by decide) rfl ?_
  intro p e s m args below meth c s₁ B hml hv
  subst hv
  have hx := B.exec
  have hb := B.bytes
  have hr := B.returns
  have hta := aw_hts (atoms_spec (ws := wsX1_namedTerms) B.pre)
  have hown : s.vm.findClass RX1 = some m.cls := findClass_of_methodNamed B.named
  have hlocks := B.notSynchronized
  have hl := lv_entry ([.int o]) (n := 1) (Nat.le_of_ble_eq_true rfl)
  rw [lg_entry_eq]
  generalize (lg_sl ([.int o]) ++ List.replicate (1 - (lg_sl ([.int o])).length) Slot.unset).toArray = ls at hl ⊢
  have hl : lv_has ls 1 [(0, .int o)] := hl
  generalize hR : fx_Op_namedTerms o = R
  rw [fx_Op_namedTerms] at hR
  refine lv_iload_n hx hb dX1_namedTerms_0 rfl (lv_at hl 0 rfl) ?_
  refine lv_bipush (v := (17 : Int32)) hx hb dX1_namedTerms_1 (by decide) ?_
  refine lv_icmp_lt (tgt := 16) hx hb dX1_namedTerms_3 (by decide) (fun c3 => ?_) (fun c3 => ?_)
  · skip
    rw [if_pos c3] at hR
    refine lv_iload_n hx hb dX1_namedTerms_16 rfl (lv_at hl 0 rfl) ?_
    refine wl_ci (va_runS (As := [.int o]) (rest := []) ⟨hx, hb, hml, hown, hta⟩ (kx_Op_named l o) (va_cwS 1 hta gX1_9 rfl rfl rfl (by decide +kernel) ⟨Nat.le_of_ble_eq_true rfl, Nat.le_of_ble_eq_true rfl⟩) preEq rfl rfl hl.1 rfl (lv_room (Nat.le_of_ble_eq_true rfl)) dX1_namedTerms_17 ⟨Nat.zero_le _, Nat.zero_le _⟩) ?_
    exact W.iret (v := fx_Op_named o) hx hb hr (fun t ht hW => ⟨_, rfl, hR, ht⟩) (fun q h => by cases h) dX1_namedTerms_20
  · skip
    rw [if_neg c3] at hR
    refine lv_iload_n hx hb dX1_namedTerms_6 rfl (lv_at hl 0 rfl) ?_
    refine lv_bipush (v := (20 : Int32)) hx hb dX1_namedTerms_7 (by decide) ?_
    refine lv_icmp_gt (tgt := 16) hx hb dX1_namedTerms_9 (by decide) (fun c9 => ?_) (fun c9 => ?_)
    · skip
      rw [if_pos c9] at hR
      refine lv_iload_n hx hb dX1_namedTerms_16 rfl (lv_at hl 0 rfl) ?_
      refine wl_ci (va_runS (As := [.int o]) (rest := []) ⟨hx, hb, hml, hown, hta⟩ (kx_Op_named l o) (va_cwS 1 hta gX1_9 rfl rfl rfl (by decide +kernel) ⟨Nat.le_of_ble_eq_true rfl, Nat.le_of_ble_eq_true rfl⟩) preEq rfl rfl hl.1 rfl (lv_room (Nat.le_of_ble_eq_true rfl)) dX1_namedTerms_17 ⟨Nat.zero_le _, Nat.zero_le _⟩) ?_
      exact W.iret (v := fx_Op_named o) hx hb hr (fun t ht hW => ⟨_, rfl, hR, ht⟩) (fun q h => by cases h) dX1_namedTerms_20
    · skip
      rw [if_neg c9] at hR
      refine lv_iconst (v := (1 : Int32)) hx hb dX1_namedTerms_12 (by decide) ?_
      refine lv_goto (tgt := 20) hx hb dX1_namedTerms_13 (by decide) ?_
      exact W.iret (v := (1 : Int32)) hx hb hr (fun t ht hW => ⟨_, rfl, hR, ht⟩) (fun q h => by cases h) dX1_namedTerms_20

theorem dX1_changesPlaces_0 : decode cX1_changesPlaces 0 = .ok (.iload_n 0, 1) := by decide +kernel
theorem dX1_changesPlaces_1 : decode cX1_changesPlaces 1 = .ok (.iconst 2, 1) := by decide +kernel
theorem dX1_changesPlaces_2 : decode cX1_changesPlaces 2 = .ok (.if_icmp .lt 8, 3) := by decide +kernel
theorem dX1_changesPlaces_5 : decode cX1_changesPlaces 5 = .ok (.iload_n 0, 1) := by decide +kernel
theorem dX1_changesPlaces_6 : decode cX1_changesPlaces 6 = .ok (.iconst 5, 1) := by decide +kernel
theorem dX1_changesPlaces_7 : decode cX1_changesPlaces 7 = .ok (.if_icmp .le 15, 3) := by decide +kernel
theorem dX1_changesPlaces_10 : decode cX1_changesPlaces 10 = .ok (.iload_n 0, 1) := by decide +kernel
theorem dX1_changesPlaces_11 : decode cX1_changesPlaces 11 = .ok (.bipush 7, 2) := by decide +kernel
theorem dX1_changesPlaces_13 : decode cX1_changesPlaces 13 = .ok (.if_icmp .eq 9, 3) := by decide +kernel
theorem dX1_changesPlaces_16 : decode cX1_changesPlaces 16 = .ok (.iload_n 0, 1) := by decide +kernel
theorem dX1_changesPlaces_17 : decode cX1_changesPlaces 17 = .ok (.bipush 13, 2) := by decide +kernel
theorem dX1_changesPlaces_19 : decode cX1_changesPlaces 19 = .ok (.if_icmp .ne 7, 3) := by decide +kernel
theorem dX1_changesPlaces_22 : decode cX1_changesPlaces 22 = .ok (.iconst 1, 1) := by decide +kernel
theorem dX1_changesPlaces_23 : decode cX1_changesPlaces 23 = .ok (.goto 4, 3) := by decide +kernel
theorem dX1_changesPlaces_26 : decode cX1_changesPlaces 26 = .ok (.iconst 0, 1) := by decide +kernel
theorem dX1_changesPlaces_27 : decode cX1_changesPlaces 27 = .ok (.ireturn, 1) := by decide +kernel
def fx_Op_changesPlaces (o : Int32) : Int32 := 
  if o < (2 : Int32) then 
    if o = (7 : Int32) then (1 : Int32)
    else 
      if o = (13 : Int32) then (1 : Int32)
      else (0 : Int32)
  else 
    if o ≤ (5 : Int32) then (1 : Int32)
    else 
      if o = (7 : Int32) then (1 : Int32)
      else 
        if o = (13 : Int32) then (1 : Int32)
        else (0 : Int32)
set_option maxHeartbeats 4000000 in
set_option maxRecDepth 100000 in
theorem kx_Op_changesPlaces (l : Launch) (o : Int32) : Met l yX1_changesPlaces wsX1_changesPlaces ({ frames := 0, cells := 0, slots := 0, locals := 0 }) (fun v _ => v = ([.int o] : List Value).toArray) (vp_Si (fun r9 => r9 = fx_Op_changesPlaces o)) 0 0 (fun _ => False) := by
  refine Met.ofW (cc := cX1_changesPlaces) (maxL := 1) (ret := (some .boolean)) (by decide) rfl ?_
  intro p e s m args below meth c s₁ B hml hv
  subst hv
  have hx := B.exec
  have hb := B.bytes
  have hr := B.returns
  have hta := aw_hts (atoms_spec (ws := wsX1_changesPlaces) B.pre)
  have hown : s.vm.findClass RX1 = some m.cls := findClass_of_methodNamed B.named
  have hlocks := B.notSynchronized
  have hl := lv_entry ([.int o]) (n := 1) (Nat.le_of_ble_eq_true rfl)
  rw [lg_entry_eq]
  generalize (lg_sl ([.int o]) ++ List.replicate (1 - (lg_sl ([.int o])).length) Slot.unset).toArray = ls at hl ⊢
  have hl : lv_has ls 1 [(0, .int o)] := hl
  generalize hR : fx_Op_changesPlaces o = R
  rw [fx_Op_changesPlaces] at hR
  refine lv_iload_n hx hb dX1_changesPlaces_0 rfl (lv_at hl 0 rfl) ?_
  refine lv_iconst (v := (2 : Int32)) hx hb dX1_changesPlaces_1 (by decide) ?_
  refine lv_icmp_lt (tgt := 10) hx hb dX1_changesPlaces_2 (by decide) (fun c2 => ?_) (fun c2 => ?_)
  · skip
    rw [if_pos c2] at hR
    refine lv_iload_n hx hb dX1_changesPlaces_10 rfl (lv_at hl 0 rfl) ?_
    refine lv_bipush (v := (7 : Int32)) hx hb dX1_changesPlaces_11 (by decide) ?_
    refine lv_icmp_eq (tgt := 22) hx hb dX1_changesPlaces_13 (by decide) (fun c13 => ?_) (fun c13 => ?_)
    · skip
      rw [if_pos c13] at hR
      refine lv_iconst (v := (1 : Int32)) hx hb dX1_changesPlaces_22 (by decide) ?_
      refine lv_goto (tgt := 27) hx hb dX1_changesPlaces_23 (by decide) ?_
      exact W.zret (v := (1 : Int32)) (ty := .boolean) hx hb hr rfl (fun t ht hW => ⟨_, rfl, hR, ht⟩) (fun q h => by cases h) dX1_changesPlaces_27
    · skip
      rw [if_neg c13] at hR
      refine lv_iload_n hx hb dX1_changesPlaces_16 rfl (lv_at hl 0 rfl) ?_
      refine lv_bipush (v := (13 : Int32)) hx hb dX1_changesPlaces_17 (by decide) ?_
      refine lv_icmp_ne (tgt := 26) hx hb dX1_changesPlaces_19 (by decide) (fun c19 => ?_) (fun c19 => ?_)
      · skip
        rw [if_neg c19] at hR
        refine lv_iconst (v := (0 : Int32)) hx hb dX1_changesPlaces_26 (by decide) ?_
        exact W.zret (v := (0 : Int32)) (ty := .boolean) hx hb hr rfl (fun t ht hW => ⟨_, rfl, hR, ht⟩) (fun q h => by cases h) dX1_changesPlaces_27
      · skip
        rw [if_pos c19] at hR
        refine lv_iconst (v := (1 : Int32)) hx hb dX1_changesPlaces_22 (by decide) ?_
        refine lv_goto (tgt := 27) hx hb dX1_changesPlaces_23 (by decide) ?_
        exact W.zret (v := (1 : Int32)) (ty := .boolean) hx hb hr rfl (fun t ht hW => ⟨_, rfl, hR, ht⟩) (fun q h => by cases h) dX1_changesPlaces_27
  · skip
    rw [if_neg c2] at hR
    refine lv_iload_n hx hb dX1_changesPlaces_5 rfl (lv_at hl 0 rfl) ?_
    refine lv_iconst (v := (5 : Int32)) hx hb dX1_changesPlaces_6 (by decide) ?_
    refine lv_icmp_le (tgt := 22) hx hb dX1_changesPlaces_7 (by decide) (fun c7 => ?_) (fun c7 => ?_)
    · skip
      rw [if_pos c7] at hR
      refine lv_iconst (v := (1 : Int32)) hx hb dX1_changesPlaces_22 (by decide) ?_
      refine lv_goto (tgt := 27) hx hb dX1_changesPlaces_23 (by decide) ?_
      exact W.zret (v := (1 : Int32)) (ty := .boolean) hx hb hr rfl (fun t ht hW => ⟨_, rfl, hR, ht⟩) (fun q h => by cases h) dX1_changesPlaces_27
    · skip
      rw [if_neg c7] at hR
      refine lv_iload_n hx hb dX1_changesPlaces_10 rfl (lv_at hl 0 rfl) ?_
      refine lv_bipush (v := (7 : Int32)) hx hb dX1_changesPlaces_11 (by decide) ?_
      refine lv_icmp_eq (tgt := 22) hx hb dX1_changesPlaces_13 (by decide) (fun c13 => ?_) (fun c13 => ?_)
      · skip
        rw [if_pos c13] at hR
        refine lv_iconst (v := (1 : Int32)) hx hb dX1_changesPlaces_22 (by decide) ?_
        refine lv_goto (tgt := 27) hx hb dX1_changesPlaces_23 (by decide) ?_
        exact W.zret (v := (1 : Int32)) (ty := .boolean) hx hb hr rfl (fun t ht hW => ⟨_, rfl, hR, ht⟩) (fun q h => by cases h) dX1_changesPlaces_27
      · skip
        rw [if_neg c13] at hR
        refine lv_iload_n hx hb dX1_changesPlaces_16 rfl (lv_at hl 0 rfl) ?_
        refine lv_bipush (v := (13 : Int32)) hx hb dX1_changesPlaces_17 (by decide) ?_
        refine lv_icmp_ne (tgt := 26) hx hb dX1_changesPlaces_19 (by decide) (fun c19 => ?_) (fun c19 => ?_)
        · skip
          rw [if_neg c19] at hR
          refine lv_iconst (v := (0 : Int32)) hx hb dX1_changesPlaces_26 (by decide) ?_
          exact W.zret (v := (0 : Int32)) (ty := .boolean) hx hb hr rfl (fun t ht hW => ⟨_, rfl, hR, ht⟩) (fun q h => by cases h) dX1_changesPlaces_27
        · skip
          rw [if_pos c19] at hR
          refine lv_iconst (v := (1 : Int32)) hx hb dX1_changesPlaces_22 (by decide) ?_
          refine lv_goto (tgt := 27) hx hb dX1_changesPlaces_23 (by decide) ?_
          exact W.zret (v := (1 : Int32)) (ty := .boolean) hx hb hr rfl (fun t ht hW => ⟨_, rfl, hR, ht⟩) (fun q h => by cases h) dX1_changesPlaces_27

theorem dX1_isThereFor_0 : decode cX1_isThereFor 0 = .ok (.iload_n 0, 1) := by decide +kernel
theorem dX1_isThereFor_1 : decode cX1_isThereFor 1 = .ok (.bipush 7, 2) := by decide +kernel
theorem dX1_isThereFor_3 : decode cX1_isThereFor 3 = .ok (.if_icmp .ne 15, 3) := by decide +kernel
theorem dX1_isThereFor_6 : decode cX1_isThereFor 6 = .ok (.iload_n 1, 1) := by decide +kernel
theorem dX1_isThereFor_7 : decode cX1_isThereFor 7 = .ok (.bipush 16, 2) := by decide +kernel
theorem dX1_isThereFor_9 : decode cX1_isThereFor 9 = .ok (.if_icmp .gt 7, 3) := by decide +kernel
theorem dX1_isThereFor_12 : decode cX1_isThereFor 12 = .ok (.iconst 1, 1) := by decide +kernel
theorem dX1_isThereFor_13 : decode cX1_isThereFor 13 = .ok (.goto 4, 3) := by decide +kernel
theorem dX1_isThereFor_16 : decode cX1_isThereFor 16 = .ok (.iconst 0, 1) := by decide +kernel
theorem dX1_isThereFor_17 : decode cX1_isThereFor 17 = .ok (.ireturn, 1) := by decide +kernel
theorem dX1_isThereFor_18 : decode cX1_isThereFor 18 = .ok (.iload_n 0, 1) := by decide +kernel
theorem dX1_isThereFor_19 : decode cX1_isThereFor 19 = .ok (.bipush 8, 2) := by decide +kernel
theorem dX1_isThereFor_21 : decode cX1_isThereFor 21 = .ok (.if_icmp .eq 9, 3) := by decide +kernel
theorem dX1_isThereFor_24 : decode cX1_isThereFor 24 = .ok (.iload_n 0, 1) := by decide +kernel
theorem dX1_isThereFor_25 : decode cX1_isThereFor 25 = .ok (.bipush 9, 2) := by decide +kernel
theorem dX1_isThereFor_27 : decode cX1_isThereFor 27 = .ok (.if_icmp .ne 9, 3) := by decide +kernel
theorem dX1_isThereFor_30 : decode cX1_isThereFor 30 = .ok (.iload_n 1, 1) := by decide +kernel
theorem dX1_isThereFor_31 : decode cX1_isThereFor 31 = .ok (.bipush 8, 2) := by decide +kernel
theorem dX1_isThereFor_33 : decode cX1_isThereFor 33 = .ok (.if_icmp .ne 7, 3) := by decide +kernel
theorem dX1_isThereFor_36 : decode cX1_isThereFor 36 = .ok (.iconst 1, 1) := by decide +kernel
theorem dX1_isThereFor_37 : decode cX1_isThereFor 37 = .ok (.goto 4, 3) := by decide +kernel
theorem dX1_isThereFor_40 : decode cX1_isThereFor 40 = .ok (.iconst 0, 1) := by decide +kernel
theorem dX1_isThereFor_41 : decode cX1_isThereFor 41 = .ok (.ireturn, 1) := by decide +kernel
def fx_Op_isThereFor (o : Int32) (w : Int32) : Int32 := 
  if o = (7 : Int32) then 
    if (16 : Int32) < w then (0 : Int32)
    else (1 : Int32)
  else 
    if o = (8 : Int32) then 
      if w = (8 : Int32) then (1 : Int32)
      else (0 : Int32)
    else 
      if o = (9 : Int32) then 
        if w = (8 : Int32) then (1 : Int32)
        else (0 : Int32)
      else (1 : Int32)
set_option maxHeartbeats 4000000 in
set_option maxRecDepth 100000 in
theorem kx_Op_isThereFor (l : Launch) (o : Int32) (w : Int32) : Met l yX1_isThereFor wsX1_isThereFor ({ frames := 0, cells := 0, slots := 0, locals := 0 }) (fun v _ => v = ([.int o, .int w] : List Value).toArray) (vp_Si (fun r9 => r9 = fx_Op_isThereFor o w)) 0 0 (fun _ => False) := by
  refine Met.ofW (cc := cX1_isThereFor) (maxL := 2) (ret := (some .boolean)) (by decide) rfl ?_
  intro p e s m args below meth c s₁ B hml hv
  subst hv
  have hx := B.exec
  have hb := B.bytes
  have hr := B.returns
  have hta := aw_hts (atoms_spec (ws := wsX1_isThereFor) B.pre)
  have hown : s.vm.findClass RX1 = some m.cls := findClass_of_methodNamed B.named
  have hlocks := B.notSynchronized
  have hl := lv_entry ([.int o, .int w]) (n := 2) (Nat.le_of_ble_eq_true rfl)
  rw [lg_entry_eq]
  generalize (lg_sl ([.int o, .int w]) ++ List.replicate (2 - (lg_sl ([.int o, .int w])).length) Slot.unset).toArray = ls at hl ⊢
  have hl : lv_has ls 2 [(0, .int o), (1, .int w)] := hl
  generalize hR : fx_Op_isThereFor o w = R
  rw [fx_Op_isThereFor] at hR
  refine lv_iload_n hx hb dX1_isThereFor_0 rfl (lv_at hl 0 rfl) ?_
  refine lv_bipush (v := (7 : Int32)) hx hb dX1_isThereFor_1 (by decide) ?_
  refine lv_icmp_ne (tgt := 18) hx hb dX1_isThereFor_3 (by decide) (fun c3 => ?_) (fun c3 => ?_)
  · skip
    rw [if_neg c3] at hR
    refine lv_iload_n hx hb dX1_isThereFor_18 rfl (lv_at hl 0 rfl) ?_
    refine lv_bipush (v := (8 : Int32)) hx hb dX1_isThereFor_19 (by decide) ?_
    refine lv_icmp_eq (tgt := 30) hx hb dX1_isThereFor_21 (by decide) (fun c21 => ?_) (fun c21 => ?_)
    · skip
      rw [if_pos c21] at hR
      refine lv_iload_n hx hb dX1_isThereFor_30 rfl (lv_at hl 1 rfl) ?_
      refine lv_bipush (v := (8 : Int32)) hx hb dX1_isThereFor_31 (by decide) ?_
      refine lv_icmp_ne (tgt := 40) hx hb dX1_isThereFor_33 (by decide) (fun c33 => ?_) (fun c33 => ?_)
      · skip
        rw [if_neg c33] at hR
        refine lv_iconst (v := (0 : Int32)) hx hb dX1_isThereFor_40 (by decide) ?_
        exact W.zret (v := (0 : Int32)) (ty := .boolean) hx hb hr rfl (fun t ht hW => ⟨_, rfl, hR, ht⟩) (fun q h => by cases h) dX1_isThereFor_41
      · skip
        rw [if_pos c33] at hR
        refine lv_iconst (v := (1 : Int32)) hx hb dX1_isThereFor_36 (by decide) ?_
        refine lv_goto (tgt := 41) hx hb dX1_isThereFor_37 (by decide) ?_
        exact W.zret (v := (1 : Int32)) (ty := .boolean) hx hb hr rfl (fun t ht hW => ⟨_, rfl, hR, ht⟩) (fun q h => by cases h) dX1_isThereFor_41
    · skip
      rw [if_neg c21] at hR
      refine lv_iload_n hx hb dX1_isThereFor_24 rfl (lv_at hl 0 rfl) ?_
      refine lv_bipush (v := (9 : Int32)) hx hb dX1_isThereFor_25 (by decide) ?_
      refine lv_icmp_ne (tgt := 36) hx hb dX1_isThereFor_27 (by decide) (fun c27 => ?_) (fun c27 => ?_)
      · skip
        rw [if_neg c27] at hR
        refine lv_iconst (v := (1 : Int32)) hx hb dX1_isThereFor_36 (by decide) ?_
        refine lv_goto (tgt := 41) hx hb dX1_isThereFor_37 (by decide) ?_
        exact W.zret (v := (1 : Int32)) (ty := .boolean) hx hb hr rfl (fun t ht hW => ⟨_, rfl, hR, ht⟩) (fun q h => by cases h) dX1_isThereFor_41
      · skip
        rw [if_pos c27] at hR
        refine lv_iload_n hx hb dX1_isThereFor_30 rfl (lv_at hl 1 rfl) ?_
        refine lv_bipush (v := (8 : Int32)) hx hb dX1_isThereFor_31 (by decide) ?_
        refine lv_icmp_ne (tgt := 40) hx hb dX1_isThereFor_33 (by decide) (fun c33 => ?_) (fun c33 => ?_)
        · skip
          rw [if_neg c33] at hR
          refine lv_iconst (v := (0 : Int32)) hx hb dX1_isThereFor_40 (by decide) ?_
          exact W.zret (v := (0 : Int32)) (ty := .boolean) hx hb hr rfl (fun t ht hW => ⟨_, rfl, hR, ht⟩) (fun q h => by cases h) dX1_isThereFor_41
        · skip
          rw [if_pos c33] at hR
          refine lv_iconst (v := (1 : Int32)) hx hb dX1_isThereFor_36 (by decide) ?_
          refine lv_goto (tgt := 41) hx hb dX1_isThereFor_37 (by decide) ?_
          exact W.zret (v := (1 : Int32)) (ty := .boolean) hx hb hr rfl (fun t ht hW => ⟨_, rfl, hR, ht⟩) (fun q h => by cases h) dX1_isThereFor_41
  · skip
    rw [if_pos c3] at hR
    refine lv_iload_n hx hb dX1_isThereFor_6 rfl (lv_at hl 1 rfl) ?_
    refine lv_bipush (v := (16 : Int32)) hx hb dX1_isThereFor_7 (by decide) ?_
    refine lv_icmp_gt (tgt := 16) hx hb dX1_isThereFor_9 (by decide) (fun c9 => ?_) (fun c9 => ?_)
    · skip
      rw [if_pos c9] at hR
      refine lv_iconst (v := (0 : Int32)) hx hb dX1_isThereFor_16 (by decide) ?_
      exact W.zret (v := (0 : Int32)) (ty := .boolean) hx hb hr rfl (fun t ht hW => ⟨_, rfl, hR, ht⟩) (fun q h => by cases h) dX1_isThereFor_17
    · skip
      rw [if_neg c9] at hR
      refine lv_iconst (v := (1 : Int32)) hx hb dX1_isThereFor_12 (by decide) ?_
      refine lv_goto (tgt := 17) hx hb dX1_isThereFor_13 (by decide) ?_
      exact W.zret (v := (1 : Int32)) (ty := .boolean) hx hb hr rfl (fun t ht hW => ⟨_, rfl, hR, ht⟩) (fun q h => by cases h) dX1_isThereFor_17

theorem dX1_costFor_0 : decode cX1_costFor 0 = .ok (.iload_n 0, 1) := by decide +kernel
theorem dX1_costFor_1 : decode cX1_costFor 1 = .ok (.tableswitch 93 7 20 #[71, 81, 81, 84, 84, 84, 93, 93, 93, 93, 88, 88, 88, 90], 71) := by decide +kernel
theorem dX1_costFor_72 : decode cX1_costFor 72 = .ok (.iload_n 1, 1) := by decide +kernel
theorem dX1_costFor_73 : decode cX1_costFor 73 = .ok (.iload_n 1, 1) := by decide +kernel
theorem dX1_costFor_74 : decode cX1_costFor 74 = .ok (.imul, 1) := by decide +kernel
theorem dX1_costFor_75 : decode cX1_costFor 75 = .ok (.iconst 5, 1) := by decide +kernel
theorem dX1_costFor_76 : decode cX1_costFor 76 = .ok (.imul, 1) := by decide +kernel
theorem dX1_costFor_77 : decode cX1_costFor 77 = .ok (.iconst 4, 1) := by decide +kernel
theorem dX1_costFor_78 : decode cX1_costFor 78 = .ok (.idiv, 1) := by decide +kernel
theorem dX1_costFor_79 : decode cX1_costFor 79 = .ok (.iconst 1, 1) := by decide +kernel
theorem dX1_costFor_80 : decode cX1_costFor 80 = .ok (.iadd, 1) := by decide +kernel
theorem dX1_costFor_81 : decode cX1_costFor 81 = .ok (.ireturn, 1) := by decide +kernel
theorem dX1_costFor_82 : decode cX1_costFor 82 = .ok (.bipush 100, 2) := by decide +kernel
theorem dX1_costFor_84 : decode cX1_costFor 84 = .ok (.ireturn, 1) := by decide +kernel
theorem dX1_costFor_85 : decode cX1_costFor 85 = .ok (.iload_n 1, 1) := by decide +kernel
theorem dX1_costFor_86 : decode cX1_costFor 86 = .ok (.iconst 3, 1) := by decide +kernel
theorem dX1_costFor_87 : decode cX1_costFor 87 = .ok (.imul, 1) := by decide +kernel
theorem dX1_costFor_88 : decode cX1_costFor 88 = .ok (.ireturn, 1) := by decide +kernel
theorem dX1_costFor_89 : decode cX1_costFor 89 = .ok (.iconst 0, 1) := by decide +kernel
theorem dX1_costFor_90 : decode cX1_costFor 90 = .ok (.ireturn, 1) := by decide +kernel
theorem dX1_costFor_91 : decode cX1_costFor 91 = .ok (.bipush 40, 2) := by decide +kernel
theorem dX1_costFor_93 : decode cX1_costFor 93 = .ok (.ireturn, 1) := by decide +kernel
theorem dX1_costFor_94 : decode cX1_costFor 94 = .ok (.iload_n 1, 1) := by decide +kernel
theorem dX1_costFor_95 : decode cX1_costFor 95 = .ok (.ireturn, 1) := by decide +kernel
def fx_Op_costFor (o : Int32) (w : Int32) : Int32 := 
  if o = (7 : Int32) then (((w * w) * (5 : Int32)) / (4 : Int32)) + (1 : Int32)
  else 
    if o = (8 : Int32) then (100 : Int32)
    else 
      if o = (9 : Int32) then (100 : Int32)
      else 
        if o = (10 : Int32) then w * (3 : Int32)
        else 
          if o = (11 : Int32) then w * (3 : Int32)
          else 
            if o = (12 : Int32) then w * (3 : Int32)
            else 
              if o = (17 : Int32) then (0 : Int32)
              else 
                if o = (18 : Int32) then (0 : Int32)
                else 
                  if o = (19 : Int32) then (0 : Int32)
                  else 
                    if o = (20 : Int32) then (40 : Int32)
                    else w
set_option maxHeartbeats 4000000 in
set_option maxRecDepth 100000 in
theorem kx_Op_costFor (l : Launch) (o : Int32) (w : Int32) : Met l yX1_costFor wsX1_costFor ({ frames := 0, cells := 0, slots := 0, locals := 0 }) (fun v _ => v = ([.int o, .int w] : List Value).toArray) (vp_Si (fun r9 => r9 = fx_Op_costFor o w)) 0 0 (fun _ => False) := by
  refine Met.ofW (cc := cX1_costFor) (maxL := 2) (ret := (some .int)) (by decide) rfl ?_
  intro p e s m args below meth c s₁ B hml hv
  subst hv
  have hx := B.exec
  have hb := B.bytes
  have hr := B.returns
  have hta := aw_hts (atoms_spec (ws := wsX1_costFor) B.pre)
  have hown : s.vm.findClass RX1 = some m.cls := findClass_of_methodNamed B.named
  have hlocks := B.notSynchronized
  have hl := lv_entry ([.int o, .int w]) (n := 2) (Nat.le_of_ble_eq_true rfl)
  rw [lg_entry_eq]
  generalize (lg_sl ([.int o, .int w]) ++ List.replicate (2 - (lg_sl ([.int o, .int w])).length) Slot.unset).toArray = ls at hl ⊢
  have hl : lv_has ls 2 [(0, .int o), (1, .int w)] := hl
  generalize hR : fx_Op_costFor o w = R
  rw [fx_Op_costFor] at hR
  refine lv_iload_n hx hb dX1_costFor_0 rfl (lv_at hl 0 rfl) ?_
  by_cases c1_7 : o = (7 : Int32)
  · skip
    rw [if_pos c1_7] at hR
    refine lv_tableIn (tgt := 72) hx hb dX1_costFor_1 (by rw [c1_7]; decide) (by rw [c1_7]; decide) (by rw [c1_7] <;> rfl) (by decide) ?_
    refine lv_iload_n hx hb dX1_costFor_72 rfl (lv_at hl 1 rfl) ?_
    refine lv_iload_n hx hb dX1_costFor_73 rfl (lv_at hl 1 rfl) ?_
    refine lv_imul hx hb dX1_costFor_74 ?_
    refine lv_iconst (v := (5 : Int32)) hx hb dX1_costFor_75 (by decide) ?_
    refine lv_imul hx hb dX1_costFor_76 ?_
    refine lv_iconst (v := (4 : Int32)) hx hb dX1_costFor_77 (by decide) ?_
    refine lv_idiv hx hb dX1_costFor_78 (by decide) ?_
    refine lv_iconst (v := (1 : Int32)) hx hb dX1_costFor_79 (by decide) ?_
    refine lv_iadd hx hb dX1_costFor_80 ?_
    exact W.iret (v := (((w * w) * (5 : Int32)) / (4 : Int32)) + (1 : Int32)) hx hb hr (fun t ht hW => ⟨_, rfl, hR, ht⟩) (fun q h => by cases h) dX1_costFor_81
  · skip
    rw [if_neg c1_7] at hR
    by_cases c1_8 : o = (8 : Int32)
    · skip
      rw [if_pos c1_8] at hR
      refine lv_tableIn (tgt := 82) hx hb dX1_costFor_1 (by rw [c1_8]; decide) (by rw [c1_8]; decide) (by rw [c1_8] <;> rfl) (by decide) ?_
      refine lv_bipush (v := (100 : Int32)) hx hb dX1_costFor_82 (by decide) ?_
      exact W.iret (v := (100 : Int32)) hx hb hr (fun t ht hW => ⟨_, rfl, hR, ht⟩) (fun q h => by cases h) dX1_costFor_84
    · skip
      rw [if_neg c1_8] at hR
      by_cases c1_9 : o = (9 : Int32)
      · skip
        rw [if_pos c1_9] at hR
        refine lv_tableIn (tgt := 82) hx hb dX1_costFor_1 (by rw [c1_9]; decide) (by rw [c1_9]; decide) (by rw [c1_9] <;> rfl) (by decide) ?_
        refine lv_bipush (v := (100 : Int32)) hx hb dX1_costFor_82 (by decide) ?_
        exact W.iret (v := (100 : Int32)) hx hb hr (fun t ht hW => ⟨_, rfl, hR, ht⟩) (fun q h => by cases h) dX1_costFor_84
      · skip
        rw [if_neg c1_9] at hR
        by_cases c1_10 : o = (10 : Int32)
        · skip
          rw [if_pos c1_10] at hR
          refine lv_tableIn (tgt := 85) hx hb dX1_costFor_1 (by rw [c1_10]; decide) (by rw [c1_10]; decide) (by rw [c1_10] <;> rfl) (by decide) ?_
          refine lv_iload_n hx hb dX1_costFor_85 rfl (lv_at hl 1 rfl) ?_
          refine lv_iconst (v := (3 : Int32)) hx hb dX1_costFor_86 (by decide) ?_
          refine lv_imul hx hb dX1_costFor_87 ?_
          exact W.iret (v := w * (3 : Int32)) hx hb hr (fun t ht hW => ⟨_, rfl, hR, ht⟩) (fun q h => by cases h) dX1_costFor_88
        · skip
          rw [if_neg c1_10] at hR
          by_cases c1_11 : o = (11 : Int32)
          · skip
            rw [if_pos c1_11] at hR
            refine lv_tableIn (tgt := 85) hx hb dX1_costFor_1 (by rw [c1_11]; decide) (by rw [c1_11]; decide) (by rw [c1_11] <;> rfl) (by decide) ?_
            refine lv_iload_n hx hb dX1_costFor_85 rfl (lv_at hl 1 rfl) ?_
            refine lv_iconst (v := (3 : Int32)) hx hb dX1_costFor_86 (by decide) ?_
            refine lv_imul hx hb dX1_costFor_87 ?_
            exact W.iret (v := w * (3 : Int32)) hx hb hr (fun t ht hW => ⟨_, rfl, hR, ht⟩) (fun q h => by cases h) dX1_costFor_88
          · skip
            rw [if_neg c1_11] at hR
            by_cases c1_12 : o = (12 : Int32)
            · skip
              rw [if_pos c1_12] at hR
              refine lv_tableIn (tgt := 85) hx hb dX1_costFor_1 (by rw [c1_12]; decide) (by rw [c1_12]; decide) (by rw [c1_12] <;> rfl) (by decide) ?_
              refine lv_iload_n hx hb dX1_costFor_85 rfl (lv_at hl 1 rfl) ?_
              refine lv_iconst (v := (3 : Int32)) hx hb dX1_costFor_86 (by decide) ?_
              refine lv_imul hx hb dX1_costFor_87 ?_
              exact W.iret (v := w * (3 : Int32)) hx hb hr (fun t ht hW => ⟨_, rfl, hR, ht⟩) (fun q h => by cases h) dX1_costFor_88
            · skip
              rw [if_neg c1_12] at hR
              by_cases c1_17 : o = (17 : Int32)
              · skip
                rw [if_pos c1_17] at hR
                refine lv_tableIn (tgt := 89) hx hb dX1_costFor_1 (by rw [c1_17]; decide) (by rw [c1_17]; decide) (by rw [c1_17] <;> rfl) (by decide) ?_
                refine lv_iconst (v := (0 : Int32)) hx hb dX1_costFor_89 (by decide) ?_
                exact W.iret (v := (0 : Int32)) hx hb hr (fun t ht hW => ⟨_, rfl, hR, ht⟩) (fun q h => by cases h) dX1_costFor_90
              · skip
                rw [if_neg c1_17] at hR
                by_cases c1_18 : o = (18 : Int32)
                · skip
                  rw [if_pos c1_18] at hR
                  refine lv_tableIn (tgt := 89) hx hb dX1_costFor_1 (by rw [c1_18]; decide) (by rw [c1_18]; decide) (by rw [c1_18] <;> rfl) (by decide) ?_
                  refine lv_iconst (v := (0 : Int32)) hx hb dX1_costFor_89 (by decide) ?_
                  exact W.iret (v := (0 : Int32)) hx hb hr (fun t ht hW => ⟨_, rfl, hR, ht⟩) (fun q h => by cases h) dX1_costFor_90
                · skip
                  rw [if_neg c1_18] at hR
                  by_cases c1_19 : o = (19 : Int32)
                  · skip
                    rw [if_pos c1_19] at hR
                    refine lv_tableIn (tgt := 89) hx hb dX1_costFor_1 (by rw [c1_19]; decide) (by rw [c1_19]; decide) (by rw [c1_19] <;> rfl) (by decide) ?_
                    refine lv_iconst (v := (0 : Int32)) hx hb dX1_costFor_89 (by decide) ?_
                    exact W.iret (v := (0 : Int32)) hx hb hr (fun t ht hW => ⟨_, rfl, hR, ht⟩) (fun q h => by cases h) dX1_costFor_90
                  · skip
                    rw [if_neg c1_19] at hR
                    by_cases c1_20 : o = (20 : Int32)
                    · skip
                      rw [if_pos c1_20] at hR
                      refine lv_tableIn (tgt := 91) hx hb dX1_costFor_1 (by rw [c1_20]; decide) (by rw [c1_20]; decide) (by rw [c1_20] <;> rfl) (by decide) ?_
                      refine lv_bipush (v := (40 : Int32)) hx hb dX1_costFor_91 (by decide) ?_
                      exact W.iret (v := (40 : Int32)) hx hb hr (fun t ht hW => ⟨_, rfl, hR, ht⟩) (fun q h => by cases h) dX1_costFor_93
                    · skip
                      rw [if_neg c1_20] at hR
                      have t1_7 := lv_neT (a := 7) c1_7 (by decide)
                      have t1_8 := lv_neT (a := 8) c1_8 (by decide)
                      have t1_9 := lv_neT (a := 9) c1_9 (by decide)
                      have t1_10 := lv_neT (a := 10) c1_10 (by decide)
                      have t1_11 := lv_neT (a := 11) c1_11 (by decide)
                      have t1_12 := lv_neT (a := 12) c1_12 (by decide)
                      have t1_17 := lv_neT (a := 17) c1_17 (by decide)
                      have t1_18 := lv_neT (a := 18) c1_18 (by decide)
                      have t1_19 := lv_neT (a := 19) c1_19 (by decide)
                      have t1_20 := lv_neT (a := 20) c1_20 (by decide)
                      refine wl_tabD (tgt := 94) (ks := [7, 8, 9, 10, 11, 12, 17, 18, 19, 20]) hx hb dX1_costFor_1 (by decide) (by decide +kernel) (by intro k hk; simp only [List.mem_cons, List.not_mem_nil, or_false] at hk; rcases hk with rfl | rfl | rfl | rfl | rfl | rfl | rfl | rfl | rfl | rfl <;> assumption) (by decide) ?_
                      refine lv_iload_n hx hb dX1_costFor_94 rfl (lv_at hl 1 rfl) ?_
                      exact W.iret (v := w) hx hb hr (fun t ht hW => ⟨_, rfl, hR, ht⟩) (fun q h => by cases h) dX1_costFor_95

theorem mw_369 : (.constantLong RX1 13 (-1) : Cond) ∈ AW := List.mem_filter.mpr ⟨List.mem_of_getElem? (i := 369) (by decide +kernel), rfl⟩
theorem dX1_bit_0 : decode cX1_bit 0 = .ok (.iload_n 0, 1) := by decide +kernel
theorem dX1_bit_1 : decode cX1_bit 1 = .ok (.ifCond .eq 9, 3) := by decide +kernel
theorem dX1_bit_4 : decode cX1_bit 4 = .ok (.ldc2_w 13, 3) := by decide +kernel
theorem dX1_bit_7 : decode cX1_bit 7 = .ok (.goto 4, 3) := by decide +kernel
theorem dX1_bit_10 : decode cX1_bit 10 = .ok (.lconst 0, 1) := by decide +kernel
theorem dX1_bit_11 : decode cX1_bit 11 = .ok (.lreturn, 1) := by decide +kernel
def fx_Op_bit (z : Int32) : Int64 := 
  if z = (0 : Int32) then (0 : Int64)
  else (-1 : Int64)
set_option maxHeartbeats 4000000 in
set_option maxRecDepth 100000 in
theorem kx_Op_bit (l : Launch) (z : Int32) : Met l yX1_bit wsX1_bit ({ frames := 0, cells := 0, slots := 0, locals := 0 }) (fun v _ => v = ([.int z] : List Value).toArray) (vp_Sl (fun r9 => r9 = fx_Op_bit z)) 0 0 (fun _ => False) := by
  refine Met.ofW (cc := cX1_bit) (maxL := 1) (ret := (some .long)) (by decide) rfl ?_
  intro p e s m args below meth c s₁ B hml hv
  subst hv
  have hx := B.exec
  have hb := B.bytes
  have hr := B.returns
  have hta := aw_hts (atoms_spec (ws := wsX1_bit) B.pre)
  have hown : s.vm.findClass RX1 = some m.cls := findClass_of_methodNamed B.named
  have hlocks := B.notSynchronized
  have hc13 := hta _ mw_369
  have hl := lv_entry ([.int z]) (n := 1) (Nat.le_of_ble_eq_true rfl)
  rw [lg_entry_eq]
  generalize (lg_sl ([.int z]) ++ List.replicate (1 - (lg_sl ([.int z])).length) Slot.unset).toArray = ls at hl ⊢
  have hl : lv_has ls 1 [(0, .int z)] := hl
  generalize hR : fx_Op_bit z = R
  rw [fx_Op_bit] at hR
  refine lv_iload_n hx hb dX1_bit_0 rfl (lv_at hl 0 rfl) ?_
  refine lv_if_eq (tgt := 10) hx hb dX1_bit_1 (by decide) (fun c1 => ?_) (fun c1 => ?_)
  · skip
    rw [if_pos c1] at hR
    refine lv_lconst (v := (0 : Int64)) hx hb dX1_bit_10 (by decide) ?_
    exact W.lret (v := (0 : Int64)) hx hb hr (fun t ht hW => ⟨_, rfl, hR, ht⟩) (fun q h => by cases h) dX1_bit_11
  · skip
    rw [if_neg c1] at hR
    refine lv_ldc2 (v := (-1 : Int64)) hx hb hown hc13 dX1_bit_4 ?_
    refine lv_goto (tgt := 11) hx hb dX1_bit_7 (by decide) ?_
    exact W.lret (v := (-1 : Int64)) hx hb hr (fun t ht hW => ⟨_, rfl, hR, ht⟩) (fun q h => by cases h) dX1_bit_11

theorem mw_275 : (.code yX0_readSigned cX0_readSigned 4 (some .long) : Cond) ∈ AW := List.mem_filter.mpr ⟨List.mem_of_getElem? (i := 275) (by decide +kernel), rfl⟩
theorem mw_370 : (.methodLink RX1 15 yX0_readSigned : Cond) ∈ AW := List.mem_filter.mpr ⟨List.mem_of_getElem? (i := 370) (by decide +kernel), rfl⟩
theorem mw_47 : (.initialized RX0 : Cond) ∈ AW := List.mem_filter.mpr ⟨List.mem_of_getElem? (i := 47) (by decide +kernel), rfl⟩
theorem mw_274 : (.static yX0_readSigned : Cond) ∈ AW := List.mem_filter.mpr ⟨List.mem_of_getElem? (i := 274) (by decide +kernel), rfl⟩
theorem gX1_15 : GoodIn AW (va_wsS RX1 15 yX0_readSigned wsX0_readSigned) := aw_S mw_370 mw_274 mw_47 mw_275
theorem dX1_ofOne_0 : decode cX1_ofOne 0 = .ok (.iload_n 0, 1) := by decide +kernel
theorem dX1_ofOne_1 : decode cX1_ofOne 1 = .ok (.ifCond .ne 11, 3) := by decide +kernel
theorem dX1_ofOne_4 : decode cX1_ofOne 4 = .ok (.lload_n 2, 1) := by decide +kernel
theorem dX1_ofOne_5 : decode cX1_ofOne 5 = .ok (.ldc2_w 13, 3) := by decide +kernel
theorem dX1_ofOne_8 : decode cX1_ofOne 8 = .ok (.lxor, 1) := by decide +kernel
theorem dX1_ofOne_9 : decode cX1_ofOne 9 = .ok (.goto 9, 3) := by decide +kernel
theorem dX1_ofOne_12 : decode cX1_ofOne 12 = .ok (.iload_n 1, 1) := by decide +kernel
theorem dX1_ofOne_13 : decode cX1_ofOne 13 = .ok (.lload_n 2, 1) := by decide +kernel
theorem dX1_ofOne_14 : decode cX1_ofOne 14 = .ok (.lneg, 1) := by decide +kernel
theorem dX1_ofOne_15 : decode cX1_ofOne 15 = .ok (.invokestatic 15, 3) := by decide +kernel
theorem dX1_ofOne_18 : decode cX1_ofOne 18 = .ok (.lreturn, 1) := by decide +kernel
def fx_Op_ofOne (o : Int32) (w : Int32) (x : Int64) : Int64 := 
  if o = (0 : Int32) then x ^^^ (-1 : Int64)
  else fx_Width_readSigned w (-x)
set_option maxHeartbeats 4000000 in
set_option maxRecDepth 100000 in
theorem kx_Op_ofOne (l : Launch) (o : Int32) (w : Int32) (x : Int64) : Met l yX1_ofOne wsX1_ofOne ({ frames := 1, cells := 0, slots := 0, locals := 23 }) (fun v _ => v = ([.int o, .int w, .long x] : List Value).toArray) (vp_Sl (fun r9 => r9 = fx_Op_ofOne o w x)) 0 0 (fun _ => False) := by
  refine Met.ofW (cc := cX1_ofOne) (maxL := 4) (ret := (some .long)) (by decide) rfl ?_
  intro p e s m args below meth c s₁ B hml hv
  subst hv
  have hx := B.exec
  have hb := B.bytes
  have hr := B.returns
  have hta := aw_hts (atoms_spec (ws := wsX1_ofOne) B.pre)
  have hown : s.vm.findClass RX1 = some m.cls := findClass_of_methodNamed B.named
  have hlocks := B.notSynchronized
  have hc13 := hta _ mw_369
  have hl := lv_entry ([.int o, .int w, .long x]) (n := 4) (Nat.le_of_ble_eq_true rfl)
  rw [lg_entry_eq]
  generalize (lg_sl ([.int o, .int w, .long x]) ++ List.replicate (4 - (lg_sl ([.int o, .int w, .long x])).length) Slot.unset).toArray = ls at hl ⊢
  have hl : lv_has ls 4 [(0, .int o), (1, .int w), (2, .long x)] := hl
  generalize hR : fx_Op_ofOne o w x = R
  rw [fx_Op_ofOne] at hR
  refine lv_iload_n hx hb dX1_ofOne_0 rfl (lv_at hl 0 rfl) ?_
  refine lv_if_ne (tgt := 12) hx hb dX1_ofOne_1 (by decide) (fun c1 => ?_) (fun c1 => ?_)
  · skip
    rw [if_neg c1] at hR
    refine lv_iload_n hx hb dX1_ofOne_12 rfl (lv_at hl 1 rfl) ?_
    refine lv_lload_n hx hb dX1_ofOne_13 rfl (lv_at hl 2 rfl) ?_
    refine lv_lneg hx hb dX1_ofOne_14 ?_
    refine wl_cl (va_runS (As := [.int w, .long (-x)]) (rest := []) ⟨hx, hb, hml, hown, hta⟩ (kx_Width_readSigned l w (-x)) (va_cwS 2 hta gX1_15 rfl rfl rfl (by decide +kernel) ⟨Nat.le_of_ble_eq_true rfl, Nat.le_of_ble_eq_true rfl⟩) preEq rfl rfl hl.1 rfl (lv_room (Nat.le_of_ble_eq_true rfl)) dX1_ofOne_15 ⟨Nat.zero_le _, Nat.zero_le _⟩) ?_
    exact W.lret (v := fx_Width_readSigned w (-x)) hx hb hr (fun t ht hW => ⟨_, rfl, hR, ht⟩) (fun q h => by cases h) dX1_ofOne_18
  · skip
    rw [if_pos c1] at hR
    refine lv_lload_n hx hb dX1_ofOne_4 rfl (lv_at hl 2 rfl) ?_
    refine lv_ldc2 (v := (-1 : Int64)) hx hb hown hc13 dX1_ofOne_5 ?_
    refine lv_lxor hx hb dX1_ofOne_8 ?_
    refine lv_goto (tgt := 18) hx hb dX1_ofOne_9 (by decide) ?_
    exact W.lret (v := x ^^^ (-1 : Int64)) hx hb hr (fun t ht hW => ⟨_, rfl, hR, ht⟩) (fun q h => by cases h) dX1_ofOne_18

theorem mw_393 : (.code yX1_bit cX1_bit 1 (some .long) : Cond) ∈ AW := List.mem_filter.mpr ⟨List.mem_of_getElem? (i := 393) (by decide +kernel), rfl⟩
theorem mw_391 : (.methodLink RX1 21 yX1_bit : Cond) ∈ AW := List.mem_filter.mpr ⟨List.mem_of_getElem? (i := 391) (by decide +kernel), rfl⟩
theorem mw_392 : (.static yX1_bit : Cond) ∈ AW := List.mem_filter.mpr ⟨List.mem_of_getElem? (i := 392) (by decide +kernel), rfl⟩
theorem mw_394 : (.constantLong RX1 27 (-9223372036854775808) : Cond) ∈ AW := List.mem_filter.mpr ⟨List.mem_of_getElem? (i := 394) (by decide +kernel), rfl⟩
theorem gX1_21 : GoodIn AW (va_wsS RX1 21 yX1_bit wsX1_bit) := aw_S mw_391 mw_392 mw_48 mw_393
theorem dX1_ofTwo_0 : decode cX1_ofTwo 0 = .ok (.iload_n 0, 1) := by decide +kernel
theorem dX1_ofTwo_1 : decode cX1_ofTwo 1 = .ok (.tableswitch 149 2 14 #[67, 72, 77, 82, 91, 100, 149, 149, 149, 149, 149, 109, 125], 67) := by decide +kernel
theorem dX1_ofTwo_68 : decode cX1_ofTwo 68 = .ok (.lload_n 2, 1) := by decide +kernel
theorem dX1_ofTwo_69 : decode cX1_ofTwo 69 = .ok (.lload 4, 2) := by decide +kernel
theorem dX1_ofTwo_71 : decode cX1_ofTwo 71 = .ok (.land, 1) := by decide +kernel
theorem dX1_ofTwo_72 : decode cX1_ofTwo 72 = .ok (.lreturn, 1) := by decide +kernel
theorem dX1_ofTwo_73 : decode cX1_ofTwo 73 = .ok (.lload_n 2, 1) := by decide +kernel
theorem dX1_ofTwo_74 : decode cX1_ofTwo 74 = .ok (.lload 4, 2) := by decide +kernel
theorem dX1_ofTwo_76 : decode cX1_ofTwo 76 = .ok (.lor, 1) := by decide +kernel
theorem dX1_ofTwo_77 : decode cX1_ofTwo 77 = .ok (.lreturn, 1) := by decide +kernel
theorem dX1_ofTwo_78 : decode cX1_ofTwo 78 = .ok (.lload_n 2, 1) := by decide +kernel
theorem dX1_ofTwo_79 : decode cX1_ofTwo 79 = .ok (.lload 4, 2) := by decide +kernel
theorem dX1_ofTwo_81 : decode cX1_ofTwo 81 = .ok (.lxor, 1) := by decide +kernel
theorem dX1_ofTwo_82 : decode cX1_ofTwo 82 = .ok (.lreturn, 1) := by decide +kernel
theorem dX1_ofTwo_83 : decode cX1_ofTwo 83 = .ok (.iload_n 1, 1) := by decide +kernel
theorem dX1_ofTwo_84 : decode cX1_ofTwo 84 = .ok (.lload_n 2, 1) := by decide +kernel
theorem dX1_ofTwo_85 : decode cX1_ofTwo 85 = .ok (.lload 4, 2) := by decide +kernel
theorem dX1_ofTwo_87 : decode cX1_ofTwo 87 = .ok (.ladd, 1) := by decide +kernel
theorem dX1_ofTwo_88 : decode cX1_ofTwo 88 = .ok (.invokestatic 15, 3) := by decide +kernel
theorem dX1_ofTwo_91 : decode cX1_ofTwo 91 = .ok (.lreturn, 1) := by decide +kernel
theorem dX1_ofTwo_92 : decode cX1_ofTwo 92 = .ok (.iload_n 1, 1) := by decide +kernel
theorem dX1_ofTwo_93 : decode cX1_ofTwo 93 = .ok (.lload_n 2, 1) := by decide +kernel
theorem dX1_ofTwo_94 : decode cX1_ofTwo 94 = .ok (.lload 4, 2) := by decide +kernel
theorem dX1_ofTwo_96 : decode cX1_ofTwo 96 = .ok (.lsub, 1) := by decide +kernel
theorem dX1_ofTwo_97 : decode cX1_ofTwo 97 = .ok (.invokestatic 15, 3) := by decide +kernel
theorem dX1_ofTwo_100 : decode cX1_ofTwo 100 = .ok (.lreturn, 1) := by decide +kernel
theorem dX1_ofTwo_101 : decode cX1_ofTwo 101 = .ok (.iload_n 1, 1) := by decide +kernel
theorem dX1_ofTwo_102 : decode cX1_ofTwo 102 = .ok (.lload_n 2, 1) := by decide +kernel
theorem dX1_ofTwo_103 : decode cX1_ofTwo 103 = .ok (.lload 4, 2) := by decide +kernel
theorem dX1_ofTwo_105 : decode cX1_ofTwo 105 = .ok (.lmul, 1) := by decide +kernel
theorem dX1_ofTwo_106 : decode cX1_ofTwo 106 = .ok (.invokestatic 15, 3) := by decide +kernel
theorem dX1_ofTwo_109 : decode cX1_ofTwo 109 = .ok (.lreturn, 1) := by decide +kernel
theorem dX1_ofTwo_110 : decode cX1_ofTwo 110 = .ok (.lload_n 2, 1) := by decide +kernel
theorem dX1_ofTwo_111 : decode cX1_ofTwo 111 = .ok (.lload 4, 2) := by decide +kernel
theorem dX1_ofTwo_113 : decode cX1_ofTwo 113 = .ok (.lcmp, 1) := by decide +kernel
theorem dX1_ofTwo_114 : decode cX1_ofTwo 114 = .ok (.ifCond .ne 7, 3) := by decide +kernel
theorem dX1_ofTwo_117 : decode cX1_ofTwo 117 = .ok (.iconst 1, 1) := by decide +kernel
theorem dX1_ofTwo_118 : decode cX1_ofTwo 118 = .ok (.goto 4, 3) := by decide +kernel
theorem dX1_ofTwo_121 : decode cX1_ofTwo 121 = .ok (.iconst 0, 1) := by decide +kernel
theorem dX1_ofTwo_122 : decode cX1_ofTwo 122 = .ok (.invokestatic 21, 3) := by decide +kernel
theorem dX1_ofTwo_125 : decode cX1_ofTwo 125 = .ok (.lreturn, 1) := by decide +kernel
theorem dX1_ofTwo_126 : decode cX1_ofTwo 126 = .ok (.lload_n 2, 1) := by decide +kernel
theorem dX1_ofTwo_127 : decode cX1_ofTwo 127 = .ok (.ldc2_w 27, 3) := by decide +kernel
theorem dX1_ofTwo_130 : decode cX1_ofTwo 130 = .ok (.lxor, 1) := by decide +kernel
theorem dX1_ofTwo_131 : decode cX1_ofTwo 131 = .ok (.lload 4, 2) := by decide +kernel
theorem dX1_ofTwo_133 : decode cX1_ofTwo 133 = .ok (.ldc2_w 27, 3) := by decide +kernel
theorem dX1_ofTwo_136 : decode cX1_ofTwo 136 = .ok (.lxor, 1) := by decide +kernel
theorem dX1_ofTwo_137 : decode cX1_ofTwo 137 = .ok (.lcmp, 1) := by decide +kernel
theorem dX1_ofTwo_138 : decode cX1_ofTwo 138 = .ok (.ifCond .ge 7, 3) := by decide +kernel
theorem dX1_ofTwo_141 : decode cX1_ofTwo 141 = .ok (.iconst 1, 1) := by decide +kernel
theorem dX1_ofTwo_142 : decode cX1_ofTwo 142 = .ok (.goto 4, 3) := by decide +kernel
theorem dX1_ofTwo_145 : decode cX1_ofTwo 145 = .ok (.iconst 0, 1) := by decide +kernel
theorem dX1_ofTwo_146 : decode cX1_ofTwo 146 = .ok (.invokestatic 21, 3) := by decide +kernel
theorem dX1_ofTwo_149 : decode cX1_ofTwo 149 = .ok (.lreturn, 1) := by decide +kernel
theorem dX1_ofTwo_150 : decode cX1_ofTwo 150 = .ok (.lload_n 2, 1) := by decide +kernel
theorem dX1_ofTwo_151 : decode cX1_ofTwo 151 = .ok (.lload 4, 2) := by decide +kernel
theorem dX1_ofTwo_153 : decode cX1_ofTwo 153 = .ok (.lcmp, 1) := by decide +kernel
theorem dX1_ofTwo_154 : decode cX1_ofTwo 154 = .ok (.ifCond .ge 7, 3) := by decide +kernel
theorem dX1_ofTwo_157 : decode cX1_ofTwo 157 = .ok (.iconst 1, 1) := by decide +kernel
theorem dX1_ofTwo_158 : decode cX1_ofTwo 158 = .ok (.goto 4, 3) := by decide +kernel
theorem dX1_ofTwo_161 : decode cX1_ofTwo 161 = .ok (.iconst 0, 1) := by decide +kernel
theorem dX1_ofTwo_162 : decode cX1_ofTwo 162 = .ok (.invokestatic 21, 3) := by decide +kernel
theorem dX1_ofTwo_165 : decode cX1_ofTwo 165 = .ok (.lreturn, 1) := by decide +kernel
def fx_Op_ofTwo (o : Int32) (w : Int32) (x : Int64) (y : Int64) : Int64 := 
  if o = (2 : Int32) then x &&& y
  else 
    if o = (3 : Int32) then x ||| y
    else 
      if o = (4 : Int32) then x ^^^ y
      else 
        if o = (5 : Int32) then fx_Width_readSigned w (x + y)
        else 
          if o = (6 : Int32) then fx_Width_readSigned w (x - y)
          else 
            if o = (7 : Int32) then fx_Width_readSigned w (x * y)
            else 
              if o = (13 : Int32) then 
                if lg_cmp x y = (0 : Int32) then fx_Op_bit (1 : Int32)
                else fx_Op_bit (0 : Int32)
              else 
                if o = (14 : Int32) then 
                  if (0 : Int32) ≤ lg_cmp (x ^^^ (-9223372036854775808 : Int64)) (y ^^^ (-9223372036854775808 : Int64)) then fx_Op_bit (0 : Int32)
                  else fx_Op_bit (1 : Int32)
                else 
                  if (0 : Int32) ≤ lg_cmp x y then fx_Op_bit (0 : Int32)
                  else fx_Op_bit (1 : Int32)
set_option maxHeartbeats 4000000 in
set_option maxRecDepth 100000 in
theorem kx_Op_ofTwo (l : Launch) (o : Int32) (w : Int32) (x : Int64) (y : Int64) : Met l yX1_ofTwo wsX1_ofTwo ({ frames := 1, cells := 0, slots := 0, locals := 23 }) (fun v _ => v = ([.int o, .int w, .long x, .long y] : List Value).toArray) (vp_Sl (fun r9 => r9 = fx_Op_ofTwo o w x y)) 0 0 (fun _ => False) := by
  refine Met.ofW (cc := cX1_ofTwo) (maxL := 6) (ret := (some .long)) (by decide) rfl ?_
  intro p e s m args below meth c s₁ B hml hv
  subst hv
  have hx := B.exec
  have hb := B.bytes
  have hr := B.returns
  have hta := aw_hts (atoms_spec (ws := wsX1_ofTwo) B.pre)
  have hown : s.vm.findClass RX1 = some m.cls := findClass_of_methodNamed B.named
  have hlocks := B.notSynchronized
  have hc27 := hta _ mw_394
  have hl := lv_entry ([.int o, .int w, .long x, .long y]) (n := 6) (Nat.le_of_ble_eq_true rfl)
  rw [lg_entry_eq]
  generalize (lg_sl ([.int o, .int w, .long x, .long y]) ++ List.replicate (6 - (lg_sl ([.int o, .int w, .long x, .long y])).length) Slot.unset).toArray = ls at hl ⊢
  have hl : lv_has ls 6 [(0, .int o), (1, .int w), (2, .long x), (4, .long y)] := hl
  generalize hR : fx_Op_ofTwo o w x y = R
  rw [fx_Op_ofTwo] at hR
  refine lv_iload_n hx hb dX1_ofTwo_0 rfl (lv_at hl 0 rfl) ?_
  by_cases c1_2 : o = (2 : Int32)
  · skip
    rw [if_pos c1_2] at hR
    refine lv_tableIn (tgt := 68) hx hb dX1_ofTwo_1 (by rw [c1_2]; decide) (by rw [c1_2]; decide) (by rw [c1_2] <;> rfl) (by decide) ?_
    refine lv_lload_n hx hb dX1_ofTwo_68 rfl (lv_at hl 2 rfl) ?_
    refine lv_lload hx hb dX1_ofTwo_69 (lv_at hl 3 rfl) ?_
    refine lv_land hx hb dX1_ofTwo_71 ?_
    exact W.lret (v := x &&& y) hx hb hr (fun t ht hW => ⟨_, rfl, hR, ht⟩) (fun q h => by cases h) dX1_ofTwo_72
  · skip
    rw [if_neg c1_2] at hR
    by_cases c1_3 : o = (3 : Int32)
    · skip
      rw [if_pos c1_3] at hR
      refine lv_tableIn (tgt := 73) hx hb dX1_ofTwo_1 (by rw [c1_3]; decide) (by rw [c1_3]; decide) (by rw [c1_3] <;> rfl) (by decide) ?_
      refine lv_lload_n hx hb dX1_ofTwo_73 rfl (lv_at hl 2 rfl) ?_
      refine lv_lload hx hb dX1_ofTwo_74 (lv_at hl 3 rfl) ?_
      refine lv_lor hx hb dX1_ofTwo_76 ?_
      exact W.lret (v := x ||| y) hx hb hr (fun t ht hW => ⟨_, rfl, hR, ht⟩) (fun q h => by cases h) dX1_ofTwo_77
    · skip
      rw [if_neg c1_3] at hR
      by_cases c1_4 : o = (4 : Int32)
      · skip
        rw [if_pos c1_4] at hR
        refine lv_tableIn (tgt := 78) hx hb dX1_ofTwo_1 (by rw [c1_4]; decide) (by rw [c1_4]; decide) (by rw [c1_4] <;> rfl) (by decide) ?_
        refine lv_lload_n hx hb dX1_ofTwo_78 rfl (lv_at hl 2 rfl) ?_
        refine lv_lload hx hb dX1_ofTwo_79 (lv_at hl 3 rfl) ?_
        refine lv_lxor hx hb dX1_ofTwo_81 ?_
        exact W.lret (v := x ^^^ y) hx hb hr (fun t ht hW => ⟨_, rfl, hR, ht⟩) (fun q h => by cases h) dX1_ofTwo_82
      · skip
        rw [if_neg c1_4] at hR
        by_cases c1_5 : o = (5 : Int32)
        · skip
          rw [if_pos c1_5] at hR
          refine lv_tableIn (tgt := 83) hx hb dX1_ofTwo_1 (by rw [c1_5]; decide) (by rw [c1_5]; decide) (by rw [c1_5] <;> rfl) (by decide) ?_
          refine lv_iload_n hx hb dX1_ofTwo_83 rfl (lv_at hl 1 rfl) ?_
          refine lv_lload_n hx hb dX1_ofTwo_84 rfl (lv_at hl 2 rfl) ?_
          refine lv_lload hx hb dX1_ofTwo_85 (lv_at hl 3 rfl) ?_
          refine lv_ladd hx hb dX1_ofTwo_87 ?_
          refine wl_cl (va_runS (As := [.int w, .long (x + y)]) (rest := []) ⟨hx, hb, hml, hown, hta⟩ (kx_Width_readSigned l w (x + y)) (va_cwS 2 hta gX1_15 rfl rfl rfl (by decide +kernel) ⟨Nat.le_of_ble_eq_true rfl, Nat.le_of_ble_eq_true rfl⟩) preEq rfl rfl hl.1 rfl (lv_room (Nat.le_of_ble_eq_true rfl)) dX1_ofTwo_88 ⟨Nat.zero_le _, Nat.zero_le _⟩) ?_
          exact W.lret (v := fx_Width_readSigned w (x + y)) hx hb hr (fun t ht hW => ⟨_, rfl, hR, ht⟩) (fun q h => by cases h) dX1_ofTwo_91
        · skip
          rw [if_neg c1_5] at hR
          by_cases c1_6 : o = (6 : Int32)
          · skip
            rw [if_pos c1_6] at hR
            refine lv_tableIn (tgt := 92) hx hb dX1_ofTwo_1 (by rw [c1_6]; decide) (by rw [c1_6]; decide) (by rw [c1_6] <;> rfl) (by decide) ?_
            refine lv_iload_n hx hb dX1_ofTwo_92 rfl (lv_at hl 1 rfl) ?_
            refine lv_lload_n hx hb dX1_ofTwo_93 rfl (lv_at hl 2 rfl) ?_
            refine lv_lload hx hb dX1_ofTwo_94 (lv_at hl 3 rfl) ?_
            refine lv_lsub hx hb dX1_ofTwo_96 ?_
            refine wl_cl (va_runS (As := [.int w, .long (x - y)]) (rest := []) ⟨hx, hb, hml, hown, hta⟩ (kx_Width_readSigned l w (x - y)) (va_cwS 2 hta gX1_15 rfl rfl rfl (by decide +kernel) ⟨Nat.le_of_ble_eq_true rfl, Nat.le_of_ble_eq_true rfl⟩) preEq rfl rfl hl.1 rfl (lv_room (Nat.le_of_ble_eq_true rfl)) dX1_ofTwo_97 ⟨Nat.zero_le _, Nat.zero_le _⟩) ?_
            exact W.lret (v := fx_Width_readSigned w (x - y)) hx hb hr (fun t ht hW => ⟨_, rfl, hR, ht⟩) (fun q h => by cases h) dX1_ofTwo_100
          · skip
            rw [if_neg c1_6] at hR
            by_cases c1_7 : o = (7 : Int32)
            · skip
              rw [if_pos c1_7] at hR
              refine lv_tableIn (tgt := 101) hx hb dX1_ofTwo_1 (by rw [c1_7]; decide) (by rw [c1_7]; decide) (by rw [c1_7] <;> rfl) (by decide) ?_
              refine lv_iload_n hx hb dX1_ofTwo_101 rfl (lv_at hl 1 rfl) ?_
              refine lv_lload_n hx hb dX1_ofTwo_102 rfl (lv_at hl 2 rfl) ?_
              refine lv_lload hx hb dX1_ofTwo_103 (lv_at hl 3 rfl) ?_
              refine lv_lmul hx hb dX1_ofTwo_105 ?_
              refine wl_cl (va_runS (As := [.int w, .long (x * y)]) (rest := []) ⟨hx, hb, hml, hown, hta⟩ (kx_Width_readSigned l w (x * y)) (va_cwS 2 hta gX1_15 rfl rfl rfl (by decide +kernel) ⟨Nat.le_of_ble_eq_true rfl, Nat.le_of_ble_eq_true rfl⟩) preEq rfl rfl hl.1 rfl (lv_room (Nat.le_of_ble_eq_true rfl)) dX1_ofTwo_106 ⟨Nat.zero_le _, Nat.zero_le _⟩) ?_
              exact W.lret (v := fx_Width_readSigned w (x * y)) hx hb hr (fun t ht hW => ⟨_, rfl, hR, ht⟩) (fun q h => by cases h) dX1_ofTwo_109
            · skip
              rw [if_neg c1_7] at hR
              by_cases c1_13 : o = (13 : Int32)
              · skip
                rw [if_pos c1_13] at hR
                refine lv_tableIn (tgt := 110) hx hb dX1_ofTwo_1 (by rw [c1_13]; decide) (by rw [c1_13]; decide) (by rw [c1_13] <;> rfl) (by decide) ?_
                refine lv_lload_n hx hb dX1_ofTwo_110 rfl (lv_at hl 2 rfl) ?_
                refine lv_lload hx hb dX1_ofTwo_111 (lv_at hl 3 rfl) ?_
                refine W.lcmp hx hb dX1_ofTwo_113 ?_
                refine lv_if_ne (tgt := 121) hx hb dX1_ofTwo_114 (by decide) (fun c114 => ?_) (fun c114 => ?_)
                · skip
                  rw [if_neg c114] at hR
                  refine lv_iconst (v := (0 : Int32)) hx hb dX1_ofTwo_121 (by decide) ?_
                  refine wl_cl (va_runS (As := [.int (0 : Int32)]) (rest := []) ⟨hx, hb, hml, hown, hta⟩ (kx_Op_bit l (0 : Int32)) (va_cwS 1 hta gX1_21 rfl rfl rfl (by decide +kernel) ⟨Nat.le_of_ble_eq_true rfl, Nat.le_of_ble_eq_true rfl⟩) preEq rfl rfl hl.1 rfl (lv_room (Nat.le_of_ble_eq_true rfl)) dX1_ofTwo_122 ⟨Nat.zero_le _, Nat.zero_le _⟩) ?_
                  exact W.lret (v := fx_Op_bit (0 : Int32)) hx hb hr (fun t ht hW => ⟨_, rfl, hR, ht⟩) (fun q h => by cases h) dX1_ofTwo_125
                · skip
                  rw [if_pos c114] at hR
                  refine lv_iconst (v := (1 : Int32)) hx hb dX1_ofTwo_117 (by decide) ?_
                  refine lv_goto (tgt := 122) hx hb dX1_ofTwo_118 (by decide) ?_
                  refine wl_cl (va_runS (As := [.int (1 : Int32)]) (rest := []) ⟨hx, hb, hml, hown, hta⟩ (kx_Op_bit l (1 : Int32)) (va_cwS 1 hta gX1_21 rfl rfl rfl (by decide +kernel) ⟨Nat.le_of_ble_eq_true rfl, Nat.le_of_ble_eq_true rfl⟩) preEq rfl rfl hl.1 rfl (lv_room (Nat.le_of_ble_eq_true rfl)) dX1_ofTwo_122 ⟨Nat.zero_le _, Nat.zero_le _⟩) ?_
                  exact W.lret (v := fx_Op_bit (1 : Int32)) hx hb hr (fun t ht hW => ⟨_, rfl, hR, ht⟩) (fun q h => by cases h) dX1_ofTwo_125
              · skip
                rw [if_neg c1_13] at hR
                by_cases c1_14 : o = (14 : Int32)
                · skip
                  rw [if_pos c1_14] at hR
                  refine lv_tableIn (tgt := 126) hx hb dX1_ofTwo_1 (by rw [c1_14]; decide) (by rw [c1_14]; decide) (by rw [c1_14] <;> rfl) (by decide) ?_
                  refine lv_lload_n hx hb dX1_ofTwo_126 rfl (lv_at hl 2 rfl) ?_
                  refine lv_ldc2 (v := (-9223372036854775808 : Int64)) hx hb hown hc27 dX1_ofTwo_127 ?_
                  refine lv_lxor hx hb dX1_ofTwo_130 ?_
                  refine lv_lload hx hb dX1_ofTwo_131 (lv_at hl 3 rfl) ?_
                  refine lv_ldc2 (v := (-9223372036854775808 : Int64)) hx hb hown hc27 dX1_ofTwo_133 ?_
                  refine lv_lxor hx hb dX1_ofTwo_136 ?_
                  refine W.lcmp hx hb dX1_ofTwo_137 ?_
                  refine lv_if_ge (tgt := 145) hx hb dX1_ofTwo_138 (by decide) (fun c138 => ?_) (fun c138 => ?_)
                  · skip
                    rw [if_pos c138] at hR
                    refine lv_iconst (v := (0 : Int32)) hx hb dX1_ofTwo_145 (by decide) ?_
                    refine wl_cl (va_runS (As := [.int (0 : Int32)]) (rest := []) ⟨hx, hb, hml, hown, hta⟩ (kx_Op_bit l (0 : Int32)) (va_cwS 1 hta gX1_21 rfl rfl rfl (by decide +kernel) ⟨Nat.le_of_ble_eq_true rfl, Nat.le_of_ble_eq_true rfl⟩) preEq rfl rfl hl.1 rfl (lv_room (Nat.le_of_ble_eq_true rfl)) dX1_ofTwo_146 ⟨Nat.zero_le _, Nat.zero_le _⟩) ?_
                    exact W.lret (v := fx_Op_bit (0 : Int32)) hx hb hr (fun t ht hW => ⟨_, rfl, hR, ht⟩) (fun q h => by cases h) dX1_ofTwo_149
                  · skip
                    rw [if_neg c138] at hR
                    refine lv_iconst (v := (1 : Int32)) hx hb dX1_ofTwo_141 (by decide) ?_
                    refine lv_goto (tgt := 146) hx hb dX1_ofTwo_142 (by decide) ?_
                    refine wl_cl (va_runS (As := [.int (1 : Int32)]) (rest := []) ⟨hx, hb, hml, hown, hta⟩ (kx_Op_bit l (1 : Int32)) (va_cwS 1 hta gX1_21 rfl rfl rfl (by decide +kernel) ⟨Nat.le_of_ble_eq_true rfl, Nat.le_of_ble_eq_true rfl⟩) preEq rfl rfl hl.1 rfl (lv_room (Nat.le_of_ble_eq_true rfl)) dX1_ofTwo_146 ⟨Nat.zero_le _, Nat.zero_le _⟩) ?_
                    exact W.lret (v := fx_Op_bit (1 : Int32)) hx hb hr (fun t ht hW => ⟨_, rfl, hR, ht⟩) (fun q h => by cases h) dX1_ofTwo_149
                · skip
                  rw [if_neg c1_14] at hR
                  have t1_2 := lv_neT (a := 2) c1_2 (by decide)
                  have t1_3 := lv_neT (a := 3) c1_3 (by decide)
                  have t1_4 := lv_neT (a := 4) c1_4 (by decide)
                  have t1_5 := lv_neT (a := 5) c1_5 (by decide)
                  have t1_6 := lv_neT (a := 6) c1_6 (by decide)
                  have t1_7 := lv_neT (a := 7) c1_7 (by decide)
                  have t1_13 := lv_neT (a := 13) c1_13 (by decide)
                  have t1_14 := lv_neT (a := 14) c1_14 (by decide)
                  refine wl_tabD (tgt := 150) (ks := [2, 3, 4, 5, 6, 7, 13, 14]) hx hb dX1_ofTwo_1 (by decide) (by decide +kernel) (by intro k hk; simp only [List.mem_cons, List.not_mem_nil, or_false] at hk; rcases hk with rfl | rfl | rfl | rfl | rfl | rfl | rfl | rfl <;> assumption) (by decide) ?_
                  refine lv_lload_n hx hb dX1_ofTwo_150 rfl (lv_at hl 2 rfl) ?_
                  refine lv_lload hx hb dX1_ofTwo_151 (lv_at hl 3 rfl) ?_
                  refine W.lcmp hx hb dX1_ofTwo_153 ?_
                  refine lv_if_ge (tgt := 161) hx hb dX1_ofTwo_154 (by decide) (fun c154 => ?_) (fun c154 => ?_)
                  · skip
                    rw [if_pos c154] at hR
                    refine lv_iconst (v := (0 : Int32)) hx hb dX1_ofTwo_161 (by decide) ?_
                    refine wl_cl (va_runS (As := [.int (0 : Int32)]) (rest := []) ⟨hx, hb, hml, hown, hta⟩ (kx_Op_bit l (0 : Int32)) (va_cwS 1 hta gX1_21 rfl rfl rfl (by decide +kernel) ⟨Nat.le_of_ble_eq_true rfl, Nat.le_of_ble_eq_true rfl⟩) preEq rfl rfl hl.1 rfl (lv_room (Nat.le_of_ble_eq_true rfl)) dX1_ofTwo_162 ⟨Nat.zero_le _, Nat.zero_le _⟩) ?_
                    exact W.lret (v := fx_Op_bit (0 : Int32)) hx hb hr (fun t ht hW => ⟨_, rfl, hR, ht⟩) (fun q h => by cases h) dX1_ofTwo_165
                  · skip
                    rw [if_neg c154] at hR
                    refine lv_iconst (v := (1 : Int32)) hx hb dX1_ofTwo_157 (by decide) ?_
                    refine lv_goto (tgt := 162) hx hb dX1_ofTwo_158 (by decide) ?_
                    refine wl_cl (va_runS (As := [.int (1 : Int32)]) (rest := []) ⟨hx, hb, hml, hown, hta⟩ (kx_Op_bit l (1 : Int32)) (va_cwS 1 hta gX1_21 rfl rfl rfl (by decide +kernel) ⟨Nat.le_of_ble_eq_true rfl, Nat.le_of_ble_eq_true rfl⟩) preEq rfl rfl hl.1 rfl (lv_room (Nat.le_of_ble_eq_true rfl)) dX1_ofTwo_162 ⟨Nat.zero_le _, Nat.zero_le _⟩) ?_
                    exact W.lret (v := fx_Op_bit (1 : Int32)) hx hb hr (fun t ht hW => ⟨_, rfl, hR, ht⟩) (fun q h => by cases h) dX1_ofTwo_165

theorem mw_376 : (.code yX0_readPlain cX0_readPlain 4 (some .long) : Cond) ∈ AW := List.mem_filter.mpr ⟨List.mem_of_getElem? (i := 376) (by decide +kernel), rfl⟩
theorem mw_374 : (.methodLink RX1 29 yX0_readPlain : Cond) ∈ AW := List.mem_filter.mpr ⟨List.mem_of_getElem? (i := 374) (by decide +kernel), rfl⟩
theorem mw_375 : (.static yX0_readPlain : Cond) ∈ AW := List.mem_filter.mpr ⟨List.mem_of_getElem? (i := 375) (by decide +kernel), rfl⟩
theorem gX1_29 : GoodIn AW (va_wsS RX1 29 yX0_readPlain wsX0_readPlain) := aw_S mw_374 mw_375 mw_47 mw_376
theorem dX1_resized_0 : decode cX1_resized 0 = .ok (.iload_n 0, 1) := by decide +kernel
theorem dX1_resized_1 : decode cX1_resized 1 = .ok (.lookupswitch 39 #[(17, 27), (19, 33)], 27) := by decide +kernel
theorem dX1_resized_28 : decode cX1_resized 28 = .ok (.iload_n 1, 1) := by decide +kernel
theorem dX1_resized_29 : decode cX1_resized 29 = .ok (.lload_n 3, 1) := by decide +kernel
theorem dX1_resized_30 : decode cX1_resized 30 = .ok (.invokestatic 29, 3) := by decide +kernel
theorem dX1_resized_33 : decode cX1_resized 33 = .ok (.lreturn, 1) := by decide +kernel
theorem dX1_resized_34 : decode cX1_resized 34 = .ok (.iload_n 2, 1) := by decide +kernel
theorem dX1_resized_35 : decode cX1_resized 35 = .ok (.lload_n 3, 1) := by decide +kernel
theorem dX1_resized_36 : decode cX1_resized 36 = .ok (.invokestatic 15, 3) := by decide +kernel
theorem dX1_resized_39 : decode cX1_resized 39 = .ok (.lreturn, 1) := by decide +kernel
theorem dX1_resized_40 : decode cX1_resized 40 = .ok (.lload_n 3, 1) := by decide +kernel
theorem dX1_resized_41 : decode cX1_resized 41 = .ok (.lreturn, 1) := by decide +kernel
def fx_Op_resized (o : Int32) (w : Int32) (nw : Int32) (x : Int64) : Int64 := 
  if o = (17 : Int32) then fx_Width_readPlain w x
  else 
    if o = (19 : Int32) then fx_Width_readSigned nw x
    else x
set_option maxHeartbeats 4000000 in
set_option maxRecDepth 100000 in
theorem kx_Op_resized (l : Launch) (o : Int32) (w : Int32) (nw : Int32) (x : Int64) : Met l yX1_resized wsX1_resized ({ frames := 1, cells := 0, slots := 0, locals := 23 }) (fun v _ => v = ([.int o, .int w, .int nw, .long x] : List Value).toArray) (vp_Sl (fun r9 => r9 = fx_Op_resized o w nw x)) 0 0 (fun _ => False) := by
  refine Met.ofW (cc := cX1_resized) (maxL := 5) (ret := (some .long)) (by decide) rfl ?_
  intro p e s m args below meth c s₁ B hml hv
  subst hv
  have hx := B.exec
  have hb := B.bytes
  have hr := B.returns
  have hta := aw_hts (atoms_spec (ws := wsX1_resized) B.pre)
  have hown : s.vm.findClass RX1 = some m.cls := findClass_of_methodNamed B.named
  have hlocks := B.notSynchronized
  have hl := lv_entry ([.int o, .int w, .int nw, .long x]) (n := 5) (Nat.le_of_ble_eq_true rfl)
  rw [lg_entry_eq]
  generalize (lg_sl ([.int o, .int w, .int nw, .long x]) ++ List.replicate (5 - (lg_sl ([.int o, .int w, .int nw, .long x])).length) Slot.unset).toArray = ls at hl ⊢
  have hl : lv_has ls 5 [(0, .int o), (1, .int w), (2, .int nw), (3, .long x)] := hl
  generalize hR : fx_Op_resized o w nw x = R
  rw [fx_Op_resized] at hR
  refine lv_iload_n hx hb dX1_resized_0 rfl (lv_at hl 0 rfl) ?_
  by_cases c1_17 : o = (17 : Int32)
  · skip
    rw [if_pos c1_17] at hR
    refine lv_lookup (tgt := 28) hx hb dX1_resized_1 (by decide) (by rw [c1_17] <;> rfl) (by decide) ?_
    refine lv_iload_n hx hb dX1_resized_28 rfl (lv_at hl 1 rfl) ?_
    refine lv_lload_n hx hb dX1_resized_29 rfl (lv_at hl 3 rfl) ?_
    refine wl_cl (va_runS (As := [.int w, .long x]) (rest := []) ⟨hx, hb, hml, hown, hta⟩ (kx_Width_readPlain l w x) (va_cwS 2 hta gX1_29 rfl rfl rfl (by decide +kernel) ⟨Nat.le_of_ble_eq_true rfl, Nat.le_of_ble_eq_true rfl⟩) preEq rfl rfl hl.1 rfl (lv_room (Nat.le_of_ble_eq_true rfl)) dX1_resized_30 ⟨Nat.zero_le _, Nat.zero_le _⟩) ?_
    exact W.lret (v := fx_Width_readPlain w x) hx hb hr (fun t ht hW => ⟨_, rfl, hR, ht⟩) (fun q h => by cases h) dX1_resized_33
  · skip
    rw [if_neg c1_17] at hR
    by_cases c1_19 : o = (19 : Int32)
    · skip
      rw [if_pos c1_19] at hR
      refine lv_lookup (tgt := 34) hx hb dX1_resized_1 (by decide) (by rw [c1_19] <;> rfl) (by decide) ?_
      refine lv_iload_n hx hb dX1_resized_34 rfl (lv_at hl 2 rfl) ?_
      refine lv_lload_n hx hb dX1_resized_35 rfl (lv_at hl 3 rfl) ?_
      refine wl_cl (va_runS (As := [.int nw, .long x]) (rest := []) ⟨hx, hb, hml, hown, hta⟩ (kx_Width_readSigned l nw x) (va_cwS 2 hta gX1_15 rfl rfl rfl (by decide +kernel) ⟨Nat.le_of_ble_eq_true rfl, Nat.le_of_ble_eq_true rfl⟩) preEq rfl rfl hl.1 rfl (lv_room (Nat.le_of_ble_eq_true rfl)) dX1_resized_36 ⟨Nat.zero_le _, Nat.zero_le _⟩) ?_
      exact W.lret (v := fx_Width_readSigned nw x) hx hb hr (fun t ht hW => ⟨_, rfl, hR, ht⟩) (fun q h => by cases h) dX1_resized_39
    · skip
      rw [if_neg c1_19] at hR
      refine lv_lookup (off := 39) (tgt := 40) hx hb dX1_resized_1 (by decide) (by rw [lv_osw (a := 17) c1_17 (by decide), lv_osw (a := 19) c1_19 (by decide)] <;> rfl) (by decide) ?_
      refine lv_lload_n hx hb dX1_resized_40 rfl (lv_at hl 3 rfl) ?_
      exact W.lret (v := x) hx hb hr (fun t ht hW => ⟨_, rfl, hR, ht⟩) (fun q h => by cases h) dX1_resized_41

theorem dX1_divided_0 : decode cX1_divided 0 = .ok (.iload_n 1, 1) := by decide +kernel
theorem dX1_divided_1 : decode cX1_divided 1 = .ok (.lload_n 2, 1) := by decide +kernel
theorem dX1_divided_2 : decode cX1_divided 2 = .ok (.invokestatic 29, 3) := by decide +kernel
theorem dX1_divided_5 : decode cX1_divided 5 = .ok (.lstore 6, 2) := by decide +kernel
theorem dX1_divided_7 : decode cX1_divided 7 = .ok (.iload_n 1, 1) := by decide +kernel
theorem dX1_divided_8 : decode cX1_divided 8 = .ok (.lload 4, 2) := by decide +kernel
theorem dX1_divided_10 : decode cX1_divided 10 = .ok (.invokestatic 29, 3) := by decide +kernel
theorem dX1_divided_13 : decode cX1_divided 13 = .ok (.lstore 8, 2) := by decide +kernel
theorem dX1_divided_15 : decode cX1_divided 15 = .ok (.lload 8, 2) := by decide +kernel
theorem dX1_divided_17 : decode cX1_divided 17 = .ok (.lconst 0, 1) := by decide +kernel
theorem dX1_divided_18 : decode cX1_divided 18 = .ok (.lcmp, 1) := by decide +kernel
theorem dX1_divided_19 : decode cX1_divided 19 = .ok (.ifCond .ne 17, 3) := by decide +kernel
theorem dX1_divided_22 : decode cX1_divided 22 = .ok (.iload_n 0, 1) := by decide +kernel
theorem dX1_divided_23 : decode cX1_divided 23 = .ok (.bipush 8, 2) := by decide +kernel
theorem dX1_divided_25 : decode cX1_divided 25 = .ok (.if_icmp .ne 9, 3) := by decide +kernel
theorem dX1_divided_28 : decode cX1_divided 28 = .ok (.ldc2_w 13, 3) := by decide +kernel
theorem dX1_divided_31 : decode cX1_divided 31 = .ok (.goto 4, 3) := by decide +kernel
theorem dX1_divided_34 : decode cX1_divided 34 = .ok (.lload_n 2, 1) := by decide +kernel
theorem dX1_divided_35 : decode cX1_divided 35 = .ok (.lreturn, 1) := by decide +kernel
theorem dX1_divided_36 : decode cX1_divided 36 = .ok (.iload_n 0, 1) := by decide +kernel
theorem dX1_divided_37 : decode cX1_divided 37 = .ok (.bipush 8, 2) := by decide +kernel
theorem dX1_divided_39 : decode cX1_divided 39 = .ok (.if_icmp .ne 11, 3) := by decide +kernel
theorem dX1_divided_42 : decode cX1_divided 42 = .ok (.lload 6, 2) := by decide +kernel
theorem dX1_divided_44 : decode cX1_divided 44 = .ok (.lload 8, 2) := by decide +kernel
theorem dX1_divided_46 : decode cX1_divided 46 = .ok (.ldiv, 1) := by decide +kernel
theorem dX1_divided_47 : decode cX1_divided 47 = .ok (.goto 8, 3) := by decide +kernel
theorem dX1_divided_50 : decode cX1_divided 50 = .ok (.lload 6, 2) := by decide +kernel
theorem dX1_divided_52 : decode cX1_divided 52 = .ok (.lload 8, 2) := by decide +kernel
theorem dX1_divided_54 : decode cX1_divided 54 = .ok (.lrem, 1) := by decide +kernel
theorem dX1_divided_55 : decode cX1_divided 55 = .ok (.lstore 10, 2) := by decide +kernel
theorem dX1_divided_57 : decode cX1_divided 57 = .ok (.iload_n 1, 1) := by decide +kernel
theorem dX1_divided_58 : decode cX1_divided 58 = .ok (.lload 10, 2) := by decide +kernel
theorem dX1_divided_60 : decode cX1_divided 60 = .ok (.invokestatic 15, 3) := by decide +kernel
theorem dX1_divided_63 : decode cX1_divided 63 = .ok (.lreturn, 1) := by decide +kernel
def fx_Op_divided (o : Int32) (w : Int32) (x : Int64) (y : Int64) : Int64 := 
  if lg_cmp (fx_Width_readPlain w y) (0 : Int64) = (0 : Int32) then 
    if o = (8 : Int32) then (-1 : Int64)
    else x
  else 
    if o = (8 : Int32) then fx_Width_readSigned w ((fx_Width_readPlain w x) / (fx_Width_readPlain w y))
    else fx_Width_readSigned w ((fx_Width_readPlain w x) - (fx_Width_readPlain w x) / (fx_Width_readPlain w y) * (fx_Width_readPlain w y))
set_option maxHeartbeats 4000000 in
set_option maxRecDepth 100000 in
theorem kx_Op_divided (l : Launch) (o : Int32) (w : Int32) (x : Int64) (y : Int64) (hnz : ¬ y = 0 → ¬ fx_Width_readPlain w y = 0) : Met l yX1_divided wsX1_divided ({ frames := 1, cells := 0, slots := 0, locals := 23 }) (fun v _ => v = ([.int o, .int w, .long x, .long y] : List Value).toArray) (vp_Sl (fun r9 => r9 = fx_Op_divided o w x y)) 0 0 (fun _ => False) := by
  refine Met.ofW (cc := cX1_divided) (maxL := 12) (ret := (some .long)) (by decide) rfl ?_
  intro p e s m args below meth c s₁ B hml hv
  subst hv
  have hx := B.exec
  have hb := B.bytes
  have hr := B.returns
  have hta := aw_hts (atoms_spec (ws := wsX1_divided) B.pre)
  have hown : s.vm.findClass RX1 = some m.cls := findClass_of_methodNamed B.named
  have hlocks := B.notSynchronized
  have hc13 := hta _ mw_369
  have hl := lv_entry ([.int o, .int w, .long x, .long y]) (n := 12) (Nat.le_of_ble_eq_true rfl)
  rw [lg_entry_eq]
  generalize (lg_sl ([.int o, .int w, .long x, .long y]) ++ List.replicate (12 - (lg_sl ([.int o, .int w, .long x, .long y])).length) Slot.unset).toArray = ls at hl ⊢
  have hl : lv_has ls 12 [(0, .int o), (1, .int w), (2, .long x), (4, .long y)] := hl
  generalize hR : fx_Op_divided o w x y = R
  rw [fx_Op_divided] at hR
  refine lv_iload_n hx hb dX1_divided_0 rfl (lv_at hl 1 rfl) ?_
  refine lv_lload_n hx hb dX1_divided_1 rfl (lv_at hl 2 rfl) ?_
  refine wl_cl (va_runS (As := [.int w, .long x]) (rest := []) ⟨hx, hb, hml, hown, hta⟩ (kx_Width_readPlain l w x) (va_cwS 2 hta gX1_29 rfl rfl rfl (by decide +kernel) ⟨Nat.le_of_ble_eq_true rfl, Nat.le_of_ble_eq_true rfl⟩) preEq rfl rfl hl.1 rfl (lv_room (Nat.le_of_ble_eq_true rfl)) dX1_divided_2 ⟨Nat.zero_le _, Nat.zero_le _⟩) ?_
  refine lv_lstore (lv' := [(6, .long (fx_Width_readPlain w x)), (0, .int o), (1, .int w), (2, .long x), (4, .long y)]) hx hb dX1_divided_5 hl (by decide) rfl (fun ls hl => ?_)
  refine lv_iload_n hx hb dX1_divided_7 rfl (lv_at hl 2 rfl) ?_
  refine lv_lload hx hb dX1_divided_8 (lv_at hl 4 rfl) ?_
  refine wl_cl (va_runS (As := [.int w, .long y]) (rest := []) ⟨hx, hb, hml, hown, hta⟩ (kx_Width_readPlain l w y) (va_cwS 2 hta gX1_29 rfl rfl rfl (by decide +kernel) ⟨Nat.le_of_ble_eq_true rfl, Nat.le_of_ble_eq_true rfl⟩) preEq rfl rfl hl.1 rfl (lv_room (Nat.le_of_ble_eq_true rfl)) dX1_divided_10 ⟨Nat.zero_le _, Nat.zero_le _⟩) ?_
  refine lv_lstore (lv' := [(8, .long (fx_Width_readPlain w y)), (6, .long (fx_Width_readPlain w x)), (0, .int o), (1, .int w), (2, .long x), (4, .long y)]) hx hb dX1_divided_13 hl (by decide) rfl (fun ls hl => ?_)
  refine lv_lload hx hb dX1_divided_15 (lv_at hl 0 rfl) ?_
  refine lv_lconst (v := (0 : Int64)) hx hb dX1_divided_17 (by decide) ?_
  refine W.lcmp hx hb dX1_divided_18 ?_
  refine lv_if_ne (tgt := 36) hx hb dX1_divided_19 (by decide) (fun c19 => ?_) (fun c19 => ?_)
  · skip
    rw [if_neg c19] at hR
    refine lv_iload_n hx hb dX1_divided_36 rfl (lv_at hl 2 rfl) ?_
    refine lv_bipush (v := (8 : Int32)) hx hb dX1_divided_37 (by decide) ?_
    refine lv_icmp_ne (tgt := 50) hx hb dX1_divided_39 (by decide) (fun c39 => ?_) (fun c39 => ?_)
    · skip
      rw [if_neg c39] at hR
      refine lv_lload hx hb dX1_divided_50 (lv_at hl 1 rfl) ?_
      refine lv_lload hx hb dX1_divided_52 (lv_at hl 0 rfl) ?_
      refine lv_lrem hx hb dX1_divided_54 (fun h => c19 ((lg_cmp_eq _ _).mpr h)) ?_
      refine lv_lstore (lv' := [(10, .long ((fx_Width_readPlain w x) - (fx_Width_readPlain w x) / (fx_Width_readPlain w y) * (fx_Width_readPlain w y))), (8, .long (fx_Width_readPlain w y)), (6, .long (fx_Width_readPlain w x)), (0, .int o), (1, .int w), (2, .long x), (4, .long y)]) hx hb dX1_divided_55 hl (by decide) rfl (fun ls hl => ?_)
      refine lv_iload_n hx hb dX1_divided_57 rfl (lv_at hl 4 rfl) ?_
      refine lv_lload hx hb dX1_divided_58 (lv_at hl 0 rfl) ?_
      refine wl_cl (va_runS (As := [.int w, .long ((fx_Width_readPlain w x) - (fx_Width_readPlain w x) / (fx_Width_readPlain w y) * (fx_Width_readPlain w y))]) (rest := []) ⟨hx, hb, hml, hown, hta⟩ (kx_Width_readSigned l w ((fx_Width_readPlain w x) - (fx_Width_readPlain w x) / (fx_Width_readPlain w y) * (fx_Width_readPlain w y))) (va_cwS 2 hta gX1_15 rfl rfl rfl (by decide +kernel) ⟨Nat.le_of_ble_eq_true rfl, Nat.le_of_ble_eq_true rfl⟩) preEq rfl rfl hl.1 rfl (lv_room (Nat.le_of_ble_eq_true rfl)) dX1_divided_60 ⟨Nat.zero_le _, Nat.zero_le _⟩) ?_
      exact W.lret (v := fx_Width_readSigned w ((fx_Width_readPlain w x) - (fx_Width_readPlain w x) / (fx_Width_readPlain w y) * (fx_Width_readPlain w y))) hx hb hr (fun t ht hW => ⟨_, rfl, hR, ht⟩) (fun q h => by cases h) dX1_divided_63
    · skip
      rw [if_pos c39] at hR
      refine lv_lload hx hb dX1_divided_42 (lv_at hl 1 rfl) ?_
      refine lv_lload hx hb dX1_divided_44 (lv_at hl 0 rfl) ?_
      refine lv_ldiv hx hb dX1_divided_46 (fun h => c19 ((lg_cmp_eq _ _).mpr h)) ?_
      refine lv_goto (tgt := 55) hx hb dX1_divided_47 (by decide) ?_
      refine lv_lstore (lv' := [(10, .long ((fx_Width_readPlain w x) / (fx_Width_readPlain w y))), (8, .long (fx_Width_readPlain w y)), (6, .long (fx_Width_readPlain w x)), (0, .int o), (1, .int w), (2, .long x), (4, .long y)]) hx hb dX1_divided_55 hl (by decide) rfl (fun ls hl => ?_)
      refine lv_iload_n hx hb dX1_divided_57 rfl (lv_at hl 4 rfl) ?_
      refine lv_lload hx hb dX1_divided_58 (lv_at hl 0 rfl) ?_
      refine wl_cl (va_runS (As := [.int w, .long ((fx_Width_readPlain w x) / (fx_Width_readPlain w y))]) (rest := []) ⟨hx, hb, hml, hown, hta⟩ (kx_Width_readSigned l w ((fx_Width_readPlain w x) / (fx_Width_readPlain w y))) (va_cwS 2 hta gX1_15 rfl rfl rfl (by decide +kernel) ⟨Nat.le_of_ble_eq_true rfl, Nat.le_of_ble_eq_true rfl⟩) preEq rfl rfl hl.1 rfl (lv_room (Nat.le_of_ble_eq_true rfl)) dX1_divided_60 ⟨Nat.zero_le _, Nat.zero_le _⟩) ?_
      exact W.lret (v := fx_Width_readSigned w ((fx_Width_readPlain w x) / (fx_Width_readPlain w y))) hx hb hr (fun t ht hW => ⟨_, rfl, hR, ht⟩) (fun q h => by cases h) dX1_divided_63
  · skip
    rw [if_pos c19] at hR
    refine lv_iload_n hx hb dX1_divided_22 rfl (lv_at hl 2 rfl) ?_
    refine lv_bipush (v := (8 : Int32)) hx hb dX1_divided_23 (by decide) ?_
    refine lv_icmp_ne (tgt := 34) hx hb dX1_divided_25 (by decide) (fun c25 => ?_) (fun c25 => ?_)
    · skip
      rw [if_neg c25] at hR
      refine lv_lload_n hx hb dX1_divided_34 rfl (lv_at hl 4 rfl) ?_
      exact W.lret (v := x) hx hb hr (fun t ht hW => ⟨_, rfl, hR, ht⟩) (fun q h => by cases h) dX1_divided_35
    · skip
      rw [if_pos c25] at hR
      refine lv_ldc2 (v := (-1 : Int64)) hx hb hown hc13 dX1_divided_28 ?_
      refine lv_goto (tgt := 35) hx hb dX1_divided_31 (by decide) ?_
      exact W.lret (v := (-1 : Int64)) hx hb hr (fun t ht hW => ⟨_, rfl, hR, ht⟩) (fun q h => by cases h) dX1_divided_35

theorem dX1_moved_0 : decode cX1_moved 0 = .ok (.lload 4, 2) := by decide +kernel
theorem dX1_moved_2 : decode cX1_moved 2 = .ok (.lconst 0, 1) := by decide +kernel
theorem dX1_moved_3 : decode cX1_moved 3 = .ok (.lcmp, 1) := by decide +kernel
theorem dX1_moved_4 : decode cX1_moved 4 = .ok (.ifCond .lt 11, 3) := by decide +kernel
theorem dX1_moved_7 : decode cX1_moved 7 = .ok (.lload 4, 2) := by decide +kernel
theorem dX1_moved_9 : decode cX1_moved 9 = .ok (.iload_n 1, 1) := by decide +kernel
theorem dX1_moved_10 : decode cX1_moved 10 = .ok (.i2l, 1) := by decide +kernel
theorem dX1_moved_11 : decode cX1_moved 11 = .ok (.lcmp, 1) := by decide +kernel
theorem dX1_moved_12 : decode cX1_moved 12 = .ok (.ifCond .lt 23, 3) := by decide +kernel
theorem dX1_moved_15 : decode cX1_moved 15 = .ok (.iload_n 0, 1) := by decide +kernel
theorem dX1_moved_16 : decode cX1_moved 16 = .ok (.bipush 12, 2) := by decide +kernel
theorem dX1_moved_18 : decode cX1_moved 18 = .ok (.if_icmp .ne 15, 3) := by decide +kernel
theorem dX1_moved_21 : decode cX1_moved 21 = .ok (.lload_n 2, 1) := by decide +kernel
theorem dX1_moved_22 : decode cX1_moved 22 = .ok (.lconst 0, 1) := by decide +kernel
theorem dX1_moved_23 : decode cX1_moved 23 = .ok (.lcmp, 1) := by decide +kernel
theorem dX1_moved_24 : decode cX1_moved 24 = .ok (.ifCond .ge 9, 3) := by decide +kernel
theorem dX1_moved_27 : decode cX1_moved 27 = .ok (.ldc2_w 13, 3) := by decide +kernel
theorem dX1_moved_30 : decode cX1_moved 30 = .ok (.goto 4, 3) := by decide +kernel
theorem dX1_moved_33 : decode cX1_moved 33 = .ok (.lconst 0, 1) := by decide +kernel
theorem dX1_moved_34 : decode cX1_moved 34 = .ok (.lreturn, 1) := by decide +kernel
theorem dX1_moved_35 : decode cX1_moved 35 = .ok (.lload 4, 2) := by decide +kernel
theorem dX1_moved_37 : decode cX1_moved 37 = .ok (.l2i, 1) := by decide +kernel
theorem dX1_moved_38 : decode cX1_moved 38 = .ok (.istore 6, 2) := by decide +kernel
theorem dX1_moved_40 : decode cX1_moved 40 = .ok (.iload_n 0, 1) := by decide +kernel
theorem dX1_moved_41 : decode cX1_moved 41 = .ok (.lookupswitch 49 #[(10, 27), (11, 36)], 27) := by decide +kernel
theorem dX1_moved_68 : decode cX1_moved 68 = .ok (.iload_n 1, 1) := by decide +kernel
theorem dX1_moved_69 : decode cX1_moved 69 = .ok (.lload_n 2, 1) := by decide +kernel
theorem dX1_moved_70 : decode cX1_moved 70 = .ok (.iload 6, 2) := by decide +kernel
theorem dX1_moved_72 : decode cX1_moved 72 = .ok (.lshl, 1) := by decide +kernel
theorem dX1_moved_73 : decode cX1_moved 73 = .ok (.invokestatic 15, 3) := by decide +kernel
theorem dX1_moved_76 : decode cX1_moved 76 = .ok (.lreturn, 1) := by decide +kernel
theorem dX1_moved_77 : decode cX1_moved 77 = .ok (.iload_n 1, 1) := by decide +kernel
theorem dX1_moved_78 : decode cX1_moved 78 = .ok (.iload_n 1, 1) := by decide +kernel
theorem dX1_moved_79 : decode cX1_moved 79 = .ok (.lload_n 2, 1) := by decide +kernel
theorem dX1_moved_80 : decode cX1_moved 80 = .ok (.invokestatic 29, 3) := by decide +kernel
theorem dX1_moved_83 : decode cX1_moved 83 = .ok (.iload 6, 2) := by decide +kernel
theorem dX1_moved_85 : decode cX1_moved 85 = .ok (.lushr, 1) := by decide +kernel
theorem dX1_moved_86 : decode cX1_moved 86 = .ok (.invokestatic 15, 3) := by decide +kernel
theorem dX1_moved_89 : decode cX1_moved 89 = .ok (.lreturn, 1) := by decide +kernel
theorem dX1_moved_90 : decode cX1_moved 90 = .ok (.lload_n 2, 1) := by decide +kernel
theorem dX1_moved_91 : decode cX1_moved 91 = .ok (.iload 6, 2) := by decide +kernel
theorem dX1_moved_93 : decode cX1_moved 93 = .ok (.lshr, 1) := by decide +kernel
theorem dX1_moved_94 : decode cX1_moved 94 = .ok (.lreturn, 1) := by decide +kernel
def fx_Op_moved (o : Int32) (w : Int32) (x : Int64) (y : Int64) : Int64 := 
  if lg_cmp y (0 : Int64) < (0 : Int32) then 
    if o = (12 : Int32) then 
      if (0 : Int32) ≤ lg_cmp x (0 : Int64) then (0 : Int64)
      else (-1 : Int64)
    else (0 : Int64)
  else 
    if lg_cmp y w.toInt64 < (0 : Int32) then 
      if o = (10 : Int32) then fx_Width_readSigned w (x <<< (y.toInt32.toInt64 &&& 63))
      else 
        if o = (11 : Int32) then fx_Width_readSigned w (((fx_Width_readPlain w x).toUInt64 >>> (y.toInt32.toInt64.toUInt64 &&& Int64.toUInt64 63)).toInt64)
        else x >>> (y.toInt32.toInt64 &&& 63)
    else 
      if o = (12 : Int32) then 
        if (0 : Int32) ≤ lg_cmp x (0 : Int64) then (0 : Int64)
        else (-1 : Int64)
      else (0 : Int64)
set_option maxHeartbeats 4000000 in
set_option maxRecDepth 100000 in
theorem kx_Op_moved (l : Launch) (o : Int32) (w : Int32) (x : Int64) (y : Int64) : Met l yX1_moved wsX1_moved ({ frames := 1, cells := 0, slots := 0, locals := 23 }) (fun v _ => v = ([.int o, .int w, .long x, .long y] : List Value).toArray) (vp_Sl (fun r9 => r9 = fx_Op_moved o w x y)) 0 0 (fun _ => False) := by
  refine Met.ofW (cc := cX1_moved) (maxL := 7) (ret := (some .long)) (by decide) rfl ?_
  intro p e s m args below meth c s₁ B hml hv
  subst hv
  have hx := B.exec
  have hb := B.bytes
  have hr := B.returns
  have hta := aw_hts (atoms_spec (ws := wsX1_moved) B.pre)
  have hown : s.vm.findClass RX1 = some m.cls := findClass_of_methodNamed B.named
  have hlocks := B.notSynchronized
  have hc13 := hta _ mw_369
  have hl := lv_entry ([.int o, .int w, .long x, .long y]) (n := 7) (Nat.le_of_ble_eq_true rfl)
  rw [lg_entry_eq]
  generalize (lg_sl ([.int o, .int w, .long x, .long y]) ++ List.replicate (7 - (lg_sl ([.int o, .int w, .long x, .long y])).length) Slot.unset).toArray = ls at hl ⊢
  have hl : lv_has ls 7 [(0, .int o), (1, .int w), (2, .long x), (4, .long y)] := hl
  generalize hR : fx_Op_moved o w x y = R
  rw [fx_Op_moved] at hR
  refine lv_lload hx hb dX1_moved_0 (lv_at hl 3 rfl) ?_
  refine lv_lconst (v := (0 : Int64)) hx hb dX1_moved_2 (by decide) ?_
  refine W.lcmp hx hb dX1_moved_3 ?_
  refine lv_if_lt (tgt := 15) hx hb dX1_moved_4 (by decide) (fun c4 => ?_) (fun c4 => ?_)
  · skip
    rw [if_pos c4] at hR
    refine lv_iload_n hx hb dX1_moved_15 rfl (lv_at hl 0 rfl) ?_
    refine lv_bipush (v := (12 : Int32)) hx hb dX1_moved_16 (by decide) ?_
    refine lv_icmp_ne (tgt := 33) hx hb dX1_moved_18 (by decide) (fun c18 => ?_) (fun c18 => ?_)
    · skip
      rw [if_neg c18] at hR
      refine lv_lconst (v := (0 : Int64)) hx hb dX1_moved_33 (by decide) ?_
      exact W.lret (v := (0 : Int64)) hx hb hr (fun t ht hW => ⟨_, rfl, hR, ht⟩) (fun q h => by cases h) dX1_moved_34
    · skip
      rw [if_pos c18] at hR
      refine lv_lload_n hx hb dX1_moved_21 rfl (lv_at hl 2 rfl) ?_
      refine lv_lconst (v := (0 : Int64)) hx hb dX1_moved_22 (by decide) ?_
      refine W.lcmp hx hb dX1_moved_23 ?_
      refine lv_if_ge (tgt := 33) hx hb dX1_moved_24 (by decide) (fun c24 => ?_) (fun c24 => ?_)
      · skip
        rw [if_pos c24] at hR
        refine lv_lconst (v := (0 : Int64)) hx hb dX1_moved_33 (by decide) ?_
        exact W.lret (v := (0 : Int64)) hx hb hr (fun t ht hW => ⟨_, rfl, hR, ht⟩) (fun q h => by cases h) dX1_moved_34
      · skip
        rw [if_neg c24] at hR
        refine lv_ldc2 (v := (-1 : Int64)) hx hb hown hc13 dX1_moved_27 ?_
        refine lv_goto (tgt := 34) hx hb dX1_moved_30 (by decide) ?_
        exact W.lret (v := (-1 : Int64)) hx hb hr (fun t ht hW => ⟨_, rfl, hR, ht⟩) (fun q h => by cases h) dX1_moved_34
  · skip
    rw [if_neg c4] at hR
    refine lv_lload hx hb dX1_moved_7 (lv_at hl 3 rfl) ?_
    refine lv_iload_n hx hb dX1_moved_9 rfl (lv_at hl 1 rfl) ?_
    refine lv_i2l (v := w.toInt64) hx hb dX1_moved_10 rfl ?_
    refine W.lcmp hx hb dX1_moved_11 ?_
    refine lv_if_lt (tgt := 35) hx hb dX1_moved_12 (by decide) (fun c12 => ?_) (fun c12 => ?_)
    · skip
      rw [if_pos c12] at hR
      refine lv_lload hx hb dX1_moved_35 (lv_at hl 3 rfl) ?_
      refine lv_l2i (v := y.toInt32) hx hb dX1_moved_37 rfl ?_
      refine lv_istore (lv' := [(6, .int y.toInt32), (0, .int o), (1, .int w), (2, .long x), (4, .long y)]) hx hb dX1_moved_38 hl (by decide) rfl (fun ls hl => ?_)
      refine lv_iload_n hx hb dX1_moved_40 rfl (lv_at hl 1 rfl) ?_
      by_cases c41_10 : o = (10 : Int32)
      · skip
        rw [if_pos c41_10] at hR
        refine lv_lookup (tgt := 68) hx hb dX1_moved_41 (by decide) (by rw [c41_10] <;> rfl) (by decide) ?_
        refine lv_iload_n hx hb dX1_moved_68 rfl (lv_at hl 2 rfl) ?_
        refine lv_lload_n hx hb dX1_moved_69 rfl (lv_at hl 3 rfl) ?_
        refine lv_iload hx hb dX1_moved_70 (lv_at hl 0 rfl) ?_
        refine lv_lshl (v := x <<< (y.toInt32.toInt64 &&& 63)) hx hb dX1_moved_72 rfl ?_
        refine wl_cl (va_runS (As := [.int w, .long (x <<< (y.toInt32.toInt64 &&& 63))]) (rest := []) ⟨hx, hb, hml, hown, hta⟩ (kx_Width_readSigned l w (x <<< (y.toInt32.toInt64 &&& 63))) (va_cwS 2 hta gX1_15 rfl rfl rfl (by decide +kernel) ⟨Nat.le_of_ble_eq_true rfl, Nat.le_of_ble_eq_true rfl⟩) preEq rfl rfl hl.1 rfl (lv_room (Nat.le_of_ble_eq_true rfl)) dX1_moved_73 ⟨Nat.zero_le _, Nat.zero_le _⟩) ?_
        exact W.lret (v := fx_Width_readSigned w (x <<< (y.toInt32.toInt64 &&& 63))) hx hb hr (fun t ht hW => ⟨_, rfl, hR, ht⟩) (fun q h => by cases h) dX1_moved_76
      · skip
        rw [if_neg c41_10] at hR
        by_cases c41_11 : o = (11 : Int32)
        · skip
          rw [if_pos c41_11] at hR
          refine lv_lookup (tgt := 77) hx hb dX1_moved_41 (by decide) (by rw [c41_11] <;> rfl) (by decide) ?_
          refine lv_iload_n hx hb dX1_moved_77 rfl (lv_at hl 2 rfl) ?_
          refine lv_iload_n hx hb dX1_moved_78 rfl (lv_at hl 2 rfl) ?_
          refine lv_lload_n hx hb dX1_moved_79 rfl (lv_at hl 3 rfl) ?_
          refine wl_cl (va_runS (As := [.int w, .long x]) (rest := [.int w]) ⟨hx, hb, hml, hown, hta⟩ (kx_Width_readPlain l w x) (va_cwS 2 hta gX1_29 rfl rfl rfl (by decide +kernel) ⟨Nat.le_of_ble_eq_true rfl, Nat.le_of_ble_eq_true rfl⟩) preEq rfl rfl hl.1 rfl (lv_room (Nat.le_of_ble_eq_true rfl)) dX1_moved_80 ⟨Nat.zero_le _, Nat.zero_le _⟩) ?_
          refine lv_iload hx hb dX1_moved_83 (lv_at hl 0 rfl) ?_
          refine lv_lushr (v := ((fx_Width_readPlain w x).toUInt64 >>> (y.toInt32.toInt64.toUInt64 &&& Int64.toUInt64 63)).toInt64) hx hb dX1_moved_85 rfl ?_
          refine wl_cl (va_runS (As := [.int w, .long (((fx_Width_readPlain w x).toUInt64 >>> (y.toInt32.toInt64.toUInt64 &&& Int64.toUInt64 63)).toInt64)]) (rest := []) ⟨hx, hb, hml, hown, hta⟩ (kx_Width_readSigned l w (((fx_Width_readPlain w x).toUInt64 >>> (y.toInt32.toInt64.toUInt64 &&& Int64.toUInt64 63)).toInt64)) (va_cwS 2 hta gX1_15 rfl rfl rfl (by decide +kernel) ⟨Nat.le_of_ble_eq_true rfl, Nat.le_of_ble_eq_true rfl⟩) preEq rfl rfl hl.1 rfl (lv_room (Nat.le_of_ble_eq_true rfl)) dX1_moved_86 ⟨Nat.zero_le _, Nat.zero_le _⟩) ?_
          exact W.lret (v := fx_Width_readSigned w (((fx_Width_readPlain w x).toUInt64 >>> (y.toInt32.toInt64.toUInt64 &&& Int64.toUInt64 63)).toInt64)) hx hb hr (fun t ht hW => ⟨_, rfl, hR, ht⟩) (fun q h => by cases h) dX1_moved_89
        · skip
          rw [if_neg c41_11] at hR
          refine lv_lookup (off := 49) (tgt := 90) hx hb dX1_moved_41 (by decide) (by rw [lv_osw (a := 10) c41_10 (by decide), lv_osw (a := 11) c41_11 (by decide)] <;> rfl) (by decide) ?_
          refine lv_lload_n hx hb dX1_moved_90 rfl (lv_at hl 3 rfl) ?_
          refine lv_iload hx hb dX1_moved_91 (lv_at hl 0 rfl) ?_
          refine lv_lshr (v := x >>> (y.toInt32.toInt64 &&& 63)) hx hb dX1_moved_93 rfl ?_
          exact W.lret (v := x >>> (y.toInt32.toInt64 &&& 63)) hx hb hr (fun t ht hW => ⟨_, rfl, hR, ht⟩) (fun q h => by cases h) dX1_moved_94
    · skip
      rw [if_neg c12] at hR
      refine lv_iload_n hx hb dX1_moved_15 rfl (lv_at hl 0 rfl) ?_
      refine lv_bipush (v := (12 : Int32)) hx hb dX1_moved_16 (by decide) ?_
      refine lv_icmp_ne (tgt := 33) hx hb dX1_moved_18 (by decide) (fun c18 => ?_) (fun c18 => ?_)
      · skip
        rw [if_neg c18] at hR
        refine lv_lconst (v := (0 : Int64)) hx hb dX1_moved_33 (by decide) ?_
        exact W.lret (v := (0 : Int64)) hx hb hr (fun t ht hW => ⟨_, rfl, hR, ht⟩) (fun q h => by cases h) dX1_moved_34
      · skip
        rw [if_pos c18] at hR
        refine lv_lload_n hx hb dX1_moved_21 rfl (lv_at hl 2 rfl) ?_
        refine lv_lconst (v := (0 : Int64)) hx hb dX1_moved_22 (by decide) ?_
        refine W.lcmp hx hb dX1_moved_23 ?_
        refine lv_if_ge (tgt := 33) hx hb dX1_moved_24 (by decide) (fun c24 => ?_) (fun c24 => ?_)
        · skip
          rw [if_pos c24] at hR
          refine lv_lconst (v := (0 : Int64)) hx hb dX1_moved_33 (by decide) ?_
          exact W.lret (v := (0 : Int64)) hx hb hr (fun t ht hW => ⟨_, rfl, hR, ht⟩) (fun q h => by cases h) dX1_moved_34
        · skip
          rw [if_neg c24] at hR
          refine lv_ldc2 (v := (-1 : Int64)) hx hb hown hc13 dX1_moved_27 ?_
          refine lv_goto (tgt := 34) hx hb dX1_moved_30 (by decide) ?_
          exact W.lret (v := (-1 : Int64)) hx hb hr (fun t ht hW => ⟨_, rfl, hR, ht⟩) (fun q h => by cases h) dX1_moved_34
