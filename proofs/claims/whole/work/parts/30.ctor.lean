theorem mw_63 : (.methodLink RX2 1 objectInit : Cond) ∈ AW := List.mem_filter.mpr ⟨List.mem_of_getElem? (i := 63) (by decide +kernel), rfl⟩
theorem mw_56 : (.instanceMethod objectInit : Cond) ∈ AW := List.mem_filter.mpr ⟨List.mem_of_getElem? (i := 56) (by decide +kernel), rfl⟩
theorem mw_57 : (.code objectInit ⟨#[0xb1]⟩ 1 none : Cond) ∈ AW := List.mem_filter.mpr ⟨List.mem_of_getElem? (i := 57) (by decide +kernel), rfl⟩
theorem mw_80 : (.arrayClass .int : Cond) ∈ AW := List.mem_filter.mpr ⟨List.mem_of_getElem? (i := 80) (by decide +kernel), rfl⟩
theorem mw_81 : (.arrayClass .boolean : Cond) ∈ AW := List.mem_filter.mpr ⟨List.mem_of_getElem? (i := 81) (by decide +kernel), rfl⟩
theorem dX2_init_0 : decode cX2_init 0 = .ok (.aload_n 0, 1) := by decide +kernel
theorem dX2_init_1 : decode cX2_init 1 = .ok (.invokespecial 1, 3) := by decide +kernel
theorem dX2_init_4 : decode cX2_init 4 = .ok (.aload_n 0, 1) := by decide +kernel
theorem dX2_init_5 : decode cX2_init 5 = .ok (.iconst 4, 1) := by decide +kernel
theorem dX2_init_6 : decode cX2_init 6 = .ok (.newarray .int, 2) := by decide +kernel
theorem dX2_init_8 : decode cX2_init 8 = .ok (.putfield 9, 3) := by decide +kernel
theorem dX2_init_11 : decode cX2_init 11 = .ok (.aload_n 0, 1) := by decide +kernel
theorem dX2_init_12 : decode cX2_init 12 = .ok (.iconst 4, 1) := by decide +kernel
theorem dX2_init_13 : decode cX2_init 13 = .ok (.newarray .int, 2) := by decide +kernel
theorem dX2_init_15 : decode cX2_init 15 = .ok (.putfield 13, 3) := by decide +kernel
theorem dX2_init_18 : decode cX2_init 18 = .ok (.aload_n 0, 1) := by decide +kernel
theorem dX2_init_19 : decode cX2_init 19 = .ok (.iconst 4, 1) := by decide +kernel
theorem dX2_init_20 : decode cX2_init 20 = .ok (.newarray .boolean, 2) := by decide +kernel
theorem dX2_init_22 : decode cX2_init 22 = .ok (.putfield 16, 3) := by decide +kernel
theorem dX2_init_25 : decode cX2_init 25 = .ok (.aload_n 0, 1) := by decide +kernel
theorem dX2_init_26 : decode cX2_init 26 = .ok (.iconst 0, 1) := by decide +kernel
theorem dX2_init_27 : decode cX2_init 27 = .ok (.putfield 20, 3) := by decide +kernel
theorem dX2_init_30 : decode cX2_init 30 = .ok (.aload_n 0, 1) := by decide +kernel
theorem dX2_init_31 : decode cX2_init 31 = .ok (.iconst 0, 1) := by decide +kernel
theorem dX2_init_32 : decode cX2_init 32 = .ok (.putfield 24, 3) := by decide +kernel
theorem dX2_init_35 : decode cX2_init 35 = .ok (.return_, 1) := by decide +kernel
set_option maxHeartbeats 4000000 in
set_option maxRecDepth 100000 in
theorem kc_Vars (l : Launch) (dC : Nat → ClassId) (dI : Nat → Nat → Nat) (h sz : Nat) : Met l yX2_init wsX2_init ({ frames := 1, cells := 3, slots := 12, locals := 20 }) (va_Pc [.ref h] (fun U => U.heap.size = sz ∧ va_P (dC, dI) vwCl [(h, .inr (0, [.null, .null, .null, .int 0, .int 0]))] U.heap ∧ va_K (dC, dI) vwCl [] U ∧ va_D (fun _ => True) [(h, .inr (0, [.null, .null, .null, .int 0, .int 0]))])) (va_Qv (fun _ : Unit => True) (fun _ t => ∃ (q1 q2 q3 : Nat) (c1 c2 c3 : ClassId), va_P (dC, dI) vwCl [(h, .inr (0, [.ref q1, .ref q2, .ref q3, .int (0 : Int32), .int (0 : Int32)])), (q1, .inl (c1, 4, .inl (fun _ => 0))), (q2, .inl (c2, 4, .inl (fun _ => 0))), (q3, .inl (c3, 4, .inl (fun _ => 0)))] t.heap ∧ va_K (dC, dI) vwCl [(c1, .int), (c2, .int), (c3, .boolean)] t ∧ va_D (va_A [(h, .inr (0, [.null, .null, .null, .int 0, .int 0]))] sz) [(h, .inr (0, [.ref q1, .ref q2, .ref q3, .int (0 : Int32), .int (0 : Int32)])), (q1, .inl (c1, 4, .inl (fun _ => 0))), (q2, .inl (c2, 4, .inl (fun _ => 0))), (q3, .inl (c3, 4, .inl (fun _ => 0)))]) (va_A [(h, .inr (0, [.null, .null, .null, .int 0, .int 0]))] sz)) 3 12 (va_A [(h, .inr (0, [.null, .null, .null, .int 0, .int 0]))] sz) := by
  refine Met.ofW (cc := cX2_init) (maxL := 1) (ret := none) (by decide) rfl ?_
  intro p e s m args below meth c s₁ B hml hv
  obtain ⟨rfl, hsz, hP, hK, hD0⟩ := hv
  have hx := B.exec
  have hb := B.bytes
  have hr := B.returns
  have hta := aw_hts (atoms_spec (ws := wsX2_init) B.pre)
  have hown : s.vm.findClass RX2 = some m.cls := findClass_of_methodNamed B.named
  have hlocks := B.notSynchronized
  have hin : meth.name = "<init>" := (name_of_methodNamed B.named B.method).1
  subst hsz
  have hD := hD0.self (sz := s.heap.size)
  generalize hAe : va_A [(h, .inr (0, [.null, .null, .null, .int 0, .int 0]))] s.heap.size = A at hD ⊢
  have hAz : ∀ q : Nat, s.heap.size ≤ q → A q := fun q h => by rw [← hAe]; exact Or.inr h
  have hS : va_S A s.heap s.heap [] := va_S.rf
  have hP : va_P (dC, dI) vwCl [(h, .inr (0, [.null, .null, .null, .int 0, .int 0]))] s.heap := hP
  have hl := lv_entry ([.ref h]) (n := 1) (Nat.le_of_ble_eq_true rfl)
  rw [lg_entry_eq]
  generalize (lg_sl ([.ref h]) ++ List.replicate (1 - (lg_sl ([.ref h])).length) Slot.unset).toArray = ls at hl ⊢
  have hl : lv_has ls 1 [(0, .ref h)] := hl
  refine lv_aload_n hx hb dX2_init_0 rfl (lv_at hl 0 rfl) ?_
  refine W.objInit hx hb hown (hta _ mw_63) (hta _ mw_56) (hta _ mw_57) rfl (by rw [hml]; exact hl.1) rfl dX2_init_1 (Nat.le_of_ble_eq_true rfl) (Nat.le_of_ble_eq_true rfl) ?_
  refine W.eq (g2 := F0 m 4 ls []) rfl ?_
  refine lv_aload_n hx hb dX2_init_4 rfl (lv_at hl 0 rfl) ?_
  refine lv_iconst (v := (4 : Int32)) hx hb dX2_init_5 (by decide) ?_
  refine va_newa (atype := .int) (ty := .int) (N' := 4) (a0 := (4, .inl (fun _ => 0))) hx hb (hta _ mw_80) rfl hK hP hD hS hAz (fun cA => rfl) (by decide) rfl (by decide) (Nat.le_of_ble_eq_true rfl) (Nat.le_of_ble_eq_true rfl) dX2_init_6 (fun q1 c1 H hK hP hD hS => ?_)
  have hP : va_P (dC, dI) vwCl [(h, .inr (0, [.null, .null, .null, .int 0, .int 0])), (q1, .inl (c1, 4, .inl (fun _ => 0)))] H := hP
  have hD : va_D A [(h, .inr (0, [.null, .null, .null, .int 0, .int 0])), (q1, .inl (c1, 4, .inl (fun _ => 0)))] := hD
  have hK : va_K (dC, dI) vwCl [(c1, .int)] s := hK
  refine W.widen (k := 1) (n := 4) (by omega) (by omega) ?_
  refine va_putF (D := (dC, dI)) (ci := 0) (v := .ref q1) (ty := .array .int) (C := RX2) (T := TX2) (N := 5) hx hb hta inX2 tyX2 tyX2_ok nmX2 hown hK hP hD hS 0 rfl rfl 0 (by decide) (hta _ mw_64) (fun _ h9 => h9) rfl hin rfl (by decide +kernel) rfl rfl (Nat.le_of_ble_eq_true rfl) dX2_init_8 (fun H locs hP hD hS => ?_)
  have hP : va_P (dC, dI) vwCl [(h, .inr (0, [.ref q1, .null, .null, .int 0, .int 0])), (q1, .inl (c1, 4, .inl (fun _ => 0)))] H := hP
  have hD : va_D A [(h, .inr (0, [.ref q1, .null, .null, .int 0, .int 0])), (q1, .inl (c1, 4, .inl (fun _ => 0)))] := hD
  refine lv_aload_n hx hb dX2_init_11 rfl (lv_at hl 0 rfl) ?_
  refine lv_iconst (v := (4 : Int32)) hx hb dX2_init_12 (by decide) ?_
  refine va_newa (atype := .int) (ty := .int) (N' := 4) (a0 := (4, .inl (fun _ => 0))) hx hb (hta _ mw_80) rfl hK hP hD hS hAz (fun cA => rfl) (by decide) rfl (by decide) (Nat.le_of_ble_eq_true rfl) (Nat.le_of_ble_eq_true rfl) dX2_init_13 (fun q2 c2 H hK hP hD hS => ?_)
  have hP : va_P (dC, dI) vwCl [(h, .inr (0, [.ref q1, .null, .null, .int 0, .int 0])), (q1, .inl (c1, 4, .inl (fun _ => 0))), (q2, .inl (c2, 4, .inl (fun _ => 0)))] H := hP
  have hD : va_D A [(h, .inr (0, [.ref q1, .null, .null, .int 0, .int 0])), (q1, .inl (c1, 4, .inl (fun _ => 0))), (q2, .inl (c2, 4, .inl (fun _ => 0)))] := hD
  have hK : va_K (dC, dI) vwCl [(c1, .int), (c2, .int)] s := hK
  refine W.widen (k := 2) (n := 8) (by omega) (by omega) ?_
  refine va_putF (D := (dC, dI)) (ci := 0) (v := .ref q2) (ty := .array .int) (C := RX2) (T := TX2) (N := 5) hx hb hta inX2 tyX2 tyX2_ok nmX2 hown hK hP hD hS 0 rfl rfl 1 (by decide) (hta _ mw_65) (fun _ h9 => h9) rfl hin rfl (by decide +kernel) rfl rfl (Nat.le_of_ble_eq_true rfl) dX2_init_15 (fun H locs hP hD hS => ?_)
  have hP : va_P (dC, dI) vwCl [(h, .inr (0, [.ref q1, .ref q2, .null, .int 0, .int 0])), (q1, .inl (c1, 4, .inl (fun _ => 0))), (q2, .inl (c2, 4, .inl (fun _ => 0)))] H := hP
  have hD : va_D A [(h, .inr (0, [.ref q1, .ref q2, .null, .int 0, .int 0])), (q1, .inl (c1, 4, .inl (fun _ => 0))), (q2, .inl (c2, 4, .inl (fun _ => 0)))] := hD
  refine lv_aload_n hx hb dX2_init_18 rfl (lv_at hl 0 rfl) ?_
  refine lv_iconst (v := (4 : Int32)) hx hb dX2_init_19 (by decide) ?_
  refine va_newa (atype := .boolean) (ty := .boolean) (N' := 4) (a0 := (4, .inl (fun _ => 0))) hx hb (hta _ mw_81) rfl hK hP hD hS hAz (fun cA => rfl) (by decide) rfl (by decide) (Nat.le_of_ble_eq_true rfl) (Nat.le_of_ble_eq_true rfl) dX2_init_20 (fun q3 c3 H hK hP hD hS => ?_)
  have hP : va_P (dC, dI) vwCl [(h, .inr (0, [.ref q1, .ref q2, .null, .int 0, .int 0])), (q1, .inl (c1, 4, .inl (fun _ => 0))), (q2, .inl (c2, 4, .inl (fun _ => 0))), (q3, .inl (c3, 4, .inl (fun _ => 0)))] H := hP
  have hD : va_D A [(h, .inr (0, [.ref q1, .ref q2, .null, .int 0, .int 0])), (q1, .inl (c1, 4, .inl (fun _ => 0))), (q2, .inl (c2, 4, .inl (fun _ => 0))), (q3, .inl (c3, 4, .inl (fun _ => 0)))] := hD
  have hK : va_K (dC, dI) vwCl [(c1, .int), (c2, .int), (c3, .boolean)] s := hK
  refine W.widen (k := 3) (n := 12) (by omega) (by omega) ?_
  refine va_putF (D := (dC, dI)) (ci := 0) (v := .ref q3) (ty := .array .boolean) (C := RX2) (T := TX2) (N := 5) hx hb hta inX2 tyX2 tyX2_ok nmX2 hown hK hP hD hS 0 rfl rfl 2 (by decide) (hta _ mw_66) (fun _ h9 => h9) rfl hin rfl (by decide +kernel) rfl rfl (Nat.le_of_ble_eq_true rfl) dX2_init_22 (fun H locs hP hD hS => ?_)
  have hP : va_P (dC, dI) vwCl [(h, .inr (0, [.ref q1, .ref q2, .ref q3, .int 0, .int 0])), (q1, .inl (c1, 4, .inl (fun _ => 0))), (q2, .inl (c2, 4, .inl (fun _ => 0))), (q3, .inl (c3, 4, .inl (fun _ => 0)))] H := hP
  have hD : va_D A [(h, .inr (0, [.ref q1, .ref q2, .ref q3, .int 0, .int 0])), (q1, .inl (c1, 4, .inl (fun _ => 0))), (q2, .inl (c2, 4, .inl (fun _ => 0))), (q3, .inl (c3, 4, .inl (fun _ => 0)))] := hD
  refine lv_aload_n hx hb dX2_init_25 rfl (lv_at hl 0 rfl) ?_
  refine lv_iconst (v := (0 : Int32)) hx hb dX2_init_26 (by decide) ?_
  refine va_put (D := (dC, dI)) (ci := 0) (v := .int (0 : Int32)) (ty := .int) (C := RX2) (T := TX2) (N := 5) hx hb hta inX2 tyX2 tyX2_ok nmX2 hown hK hP hD hS 0 rfl rfl 3 (by decide) (hta _ mw_67) (fun _ h9 => h9) rfl (by decide +kernel) rfl rfl (Nat.le_of_ble_eq_true rfl) dX2_init_27 (fun H locs hP hD hS => ?_)
  have hP : va_P (dC, dI) vwCl [(h, .inr (0, [.ref q1, .ref q2, .ref q3, .int (0 : Int32), .int 0])), (q1, .inl (c1, 4, .inl (fun _ => 0))), (q2, .inl (c2, 4, .inl (fun _ => 0))), (q3, .inl (c3, 4, .inl (fun _ => 0)))] H := hP
  have hD : va_D A [(h, .inr (0, [.ref q1, .ref q2, .ref q3, .int (0 : Int32), .int 0])), (q1, .inl (c1, 4, .inl (fun _ => 0))), (q2, .inl (c2, 4, .inl (fun _ => 0))), (q3, .inl (c3, 4, .inl (fun _ => 0)))] := hD
  refine lv_aload_n hx hb dX2_init_30 rfl (lv_at hl 0 rfl) ?_
  refine lv_iconst (v := (0 : Int32)) hx hb dX2_init_31 (by decide) ?_
  refine va_put (D := (dC, dI)) (ci := 0) (v := .int (0 : Int32)) (ty := .int) (C := RX2) (T := TX2) (N := 5) hx hb hta inX2 tyX2 tyX2_ok nmX2 hown hK hP hD hS 0 rfl rfl 4 (by decide) (hta _ mw_68) (fun _ h9 => h9) rfl (by decide +kernel) rfl rfl (Nat.le_of_ble_eq_true rfl) dX2_init_32 (fun H locs hP hD hS => ?_)
  have hP : va_P (dC, dI) vwCl [(h, .inr (0, [.ref q1, .ref q2, .ref q3, .int (0 : Int32), .int (0 : Int32)])), (q1, .inl (c1, 4, .inl (fun _ => 0))), (q2, .inl (c2, 4, .inl (fun _ => 0))), (q3, .inl (c3, 4, .inl (fun _ => 0)))] H := hP
  have hD : va_D A [(h, .inr (0, [.ref q1, .ref q2, .ref q3, .int (0 : Int32), .int (0 : Int32)])), (q1, .inl (c1, 4, .inl (fun _ => 0))), (q2, .inl (c2, 4, .inl (fun _ => 0))), (q3, .inl (c3, 4, .inl (fun _ => 0)))] := hD
  have hP9 := hP.sub (ws' := [(h, .inr (0, [.ref q1, .ref q2, .ref q3, .int (0 : Int32), .int (0 : Int32)])), (q1, .inl (c1, 4, .inl (fun _ => 0))), (q2, .inl (c2, 4, .inl (fun _ => 0))), (q3, .inl (c3, 4, .inl (fun _ => 0)))]) [0, 1, 2, 3] rfl
  have hD9 := hD.sub (ws' := [(h, .inr (0, [.ref q1, .ref q2, .ref q3, .int (0 : Int32), .int (0 : Int32)])), (q1, .inl (c1, 4, .inl (fun _ => 0))), (q2, .inl (c2, 4, .inl (fun _ => 0))), (q3, .inl (c3, 4, .inl (fun _ => 0)))]) [0, 1, 2, 3] (by decide) rfl
  have hK9 := hK.sub (tys' := [(c1, .int), (c2, .int), (c3, .boolean)]) [0, 1, 2] rfl
  exact W.vret hx hb hr (fun t ht hW => ⟨⟨(), rfl, trivial, q1, q2, q3, c1, c2, c3, by rw [ht]; exact hP9, va_K.moved hW.alike hK9, hD9⟩, hS.F ht⟩) hS.2.2 dX2_init_35

theorem mw_87 : (.methodLink RX3 1 objectInit : Cond) ∈ AW := List.mem_filter.mpr ⟨List.mem_of_getElem? (i := 87) (by decide +kernel), rfl⟩
theorem mw_92 : (.arrayClass .long : Cond) ∈ AW := List.mem_filter.mpr ⟨List.mem_of_getElem? (i := 92) (by decide +kernel), rfl⟩
theorem dX3_init_0 : decode cX3_init 0 = .ok (.aload_n 0, 1) := by decide +kernel
theorem dX3_init_1 : decode cX3_init 1 = .ok (.invokespecial 1, 3) := by decide +kernel
theorem dX3_init_4 : decode cX3_init 4 = .ok (.aload_n 0, 1) := by decide +kernel
theorem dX3_init_5 : decode cX3_init 5 = .ok (.bipush 16, 2) := by decide +kernel
theorem dX3_init_7 : decode cX3_init 7 = .ok (.newarray .long, 2) := by decide +kernel
theorem dX3_init_9 : decode cX3_init 9 = .ok (.putfield 9, 3) := by decide +kernel
theorem dX3_init_12 : decode cX3_init 12 = .ok (.return_, 1) := by decide +kernel
set_option maxHeartbeats 4000000 in
set_option maxRecDepth 100000 in
theorem kc_Tabs (l : Launch) (dC : Nat → ClassId) (dI : Nat → Nat → Nat) (h sz : Nat) : Met l yX3_init wsX3_init ({ frames := 1, cells := 1, slots := 16, locals := 20 }) (va_Pc [.ref h] (fun U => U.heap.size = sz ∧ va_P (dC, dI) vwCl [(h, .inr (1, [.null]))] U.heap ∧ va_K (dC, dI) vwCl [] U ∧ va_D (fun _ => True) [(h, .inr (1, [.null]))])) (va_Qv (fun _ : Unit => True) (fun _ t => ∃ (q1 : Nat) (c1 : ClassId), va_P (dC, dI) vwCl [(h, .inr (1, [.ref q1])), (q1, .inl (c1, 16, .inr (.inl (fun _ => 0))))] t.heap ∧ va_K (dC, dI) vwCl [(c1, .long)] t ∧ va_D (va_A [(h, .inr (1, [.null]))] sz) [(h, .inr (1, [.ref q1])), (q1, .inl (c1, 16, .inr (.inl (fun _ => 0))))]) (va_A [(h, .inr (1, [.null]))] sz)) 1 16 (va_A [(h, .inr (1, [.null]))] sz) := by
  refine Met.ofW (cc := cX3_init) (maxL := 1) (ret := none) (by decide) rfl ?_
  intro p e s m args below meth c s₁ B hml hv
  obtain ⟨rfl, hsz, hP, hK, hD0⟩ := hv
  have hx := B.exec
  have hb := B.bytes
  have hr := B.returns
  have hta := aw_hts (atoms_spec (ws := wsX3_init) B.pre)
  have hown : s.vm.findClass RX3 = some m.cls := findClass_of_methodNamed B.named
  have hlocks := B.notSynchronized
  have hin : meth.name = "<init>" := (name_of_methodNamed B.named B.method).1
  subst hsz
  have hD := hD0.self (sz := s.heap.size)
  generalize hAe : va_A [(h, .inr (1, [.null]))] s.heap.size = A at hD ⊢
  have hAz : ∀ q : Nat, s.heap.size ≤ q → A q := fun q h => by rw [← hAe]; exact Or.inr h
  have hS : va_S A s.heap s.heap [] := va_S.rf
  have hP : va_P (dC, dI) vwCl [(h, .inr (1, [.null]))] s.heap := hP
  have hl := lv_entry ([.ref h]) (n := 1) (Nat.le_of_ble_eq_true rfl)
  rw [lg_entry_eq]
  generalize (lg_sl ([.ref h]) ++ List.replicate (1 - (lg_sl ([.ref h])).length) Slot.unset).toArray = ls at hl ⊢
  have hl : lv_has ls 1 [(0, .ref h)] := hl
  refine lv_aload_n hx hb dX3_init_0 rfl (lv_at hl 0 rfl) ?_
  refine W.objInit hx hb hown (hta _ mw_87) (hta _ mw_56) (hta _ mw_57) rfl (by rw [hml]; exact hl.1) rfl dX3_init_1 (Nat.le_of_ble_eq_true rfl) (Nat.le_of_ble_eq_true rfl) ?_
  refine W.eq (g2 := F0 m 4 ls []) rfl ?_
  refine lv_aload_n hx hb dX3_init_4 rfl (lv_at hl 0 rfl) ?_
  refine lv_bipush (v := (16 : Int32)) hx hb dX3_init_5 (by decide) ?_
  refine va_newa (atype := .long) (ty := .long) (N' := 16) (a0 := (16, .inr (.inl (fun _ => 0)))) hx hb (hta _ mw_92) rfl hK hP hD hS hAz (fun cA => rfl) (by decide) rfl (by decide) (Nat.le_of_ble_eq_true rfl) (Nat.le_of_ble_eq_true rfl) dX3_init_7 (fun q1 c1 H hK hP hD hS => ?_)
  have hP : va_P (dC, dI) vwCl [(h, .inr (1, [.null])), (q1, .inl (c1, 16, .inr (.inl (fun _ => 0))))] H := hP
  have hD : va_D A [(h, .inr (1, [.null])), (q1, .inl (c1, 16, .inr (.inl (fun _ => 0))))] := hD
  have hK : va_K (dC, dI) vwCl [(c1, .long)] s := hK
  refine W.widen (k := 1) (n := 16) (by omega) (by omega) ?_
  refine va_putF (D := (dC, dI)) (ci := 1) (v := .ref q1) (ty := .array .long) (C := RX3) (T := TX3) (N := 1) hx hb hta inX3 tyX3 tyX3_ok nmX3 hown hK hP hD hS 0 rfl rfl 0 (by decide) (hta _ mw_88) (fun _ h9 => h9) rfl hin rfl (by decide +kernel) rfl rfl (Nat.le_of_ble_eq_true rfl) dX3_init_9 (fun H locs hP hD hS => ?_)
  have hP : va_P (dC, dI) vwCl [(h, .inr (1, [.ref q1])), (q1, .inl (c1, 16, .inr (.inl (fun _ => 0))))] H := hP
  have hD : va_D A [(h, .inr (1, [.ref q1])), (q1, .inl (c1, 16, .inr (.inl (fun _ => 0))))] := hD
  have hP9 := hP.sub (ws' := [(h, .inr (1, [.ref q1])), (q1, .inl (c1, 16, .inr (.inl (fun _ => 0))))]) [0, 1] rfl
  have hD9 := hD.sub (ws' := [(h, .inr (1, [.ref q1])), (q1, .inl (c1, 16, .inr (.inl (fun _ => 0))))]) [0, 1] (by decide) rfl
  have hK9 := hK.sub (tys' := [(c1, .long)]) [0] rfl
  exact W.vret hx hb hr (fun t ht hW => ⟨⟨(), rfl, trivial, q1, c1, by rw [ht]; exact hP9, va_K.moved hW.alike hK9, hD9⟩, hS.F ht⟩) hS.2.2 dX3_init_12

theorem mw_98 : (.methodLink RX4 3 objectInit : Cond) ∈ AW := List.mem_filter.mpr ⟨List.mem_of_getElem? (i := 98) (by decide +kernel), rfl⟩
theorem dX4_init_0 : decode cX4_init 0 = .ok (.aload_n 0, 1) := by decide +kernel
theorem dX4_init_1 : decode cX4_init 1 = .ok (.invokespecial 3, 3) := by decide +kernel
theorem dX4_init_4 : decode cX4_init 4 = .ok (.aload_n 0, 1) := by decide +kernel
theorem dX4_init_5 : decode cX4_init 5 = .ok (.bipush 64, 2) := by decide +kernel
theorem dX4_init_7 : decode cX4_init 7 = .ok (.newarray .int, 2) := by decide +kernel
theorem dX4_init_9 : decode cX4_init 9 = .ok (.putfield 11, 3) := by decide +kernel
theorem dX4_init_12 : decode cX4_init 12 = .ok (.aload_n 0, 1) := by decide +kernel
theorem dX4_init_13 : decode cX4_init 13 = .ok (.bipush 64, 2) := by decide +kernel
theorem dX4_init_15 : decode cX4_init 15 = .ok (.newarray .int, 2) := by decide +kernel
theorem dX4_init_17 : decode cX4_init 17 = .ok (.putfield 15, 3) := by decide +kernel
theorem dX4_init_20 : decode cX4_init 20 = .ok (.aload_n 0, 1) := by decide +kernel
theorem dX4_init_21 : decode cX4_init 21 = .ok (.sipush 192, 3) := by decide +kernel
theorem dX4_init_24 : decode cX4_init 24 = .ok (.newarray .int, 2) := by decide +kernel
theorem dX4_init_26 : decode cX4_init 26 = .ok (.putfield 18, 3) := by decide +kernel
theorem dX4_init_29 : decode cX4_init 29 = .ok (.aload_n 0, 1) := by decide +kernel
theorem dX4_init_30 : decode cX4_init 30 = .ok (.bipush 64, 2) := by decide +kernel
theorem dX4_init_32 : decode cX4_init 32 = .ok (.newarray .int, 2) := by decide +kernel
theorem dX4_init_34 : decode cX4_init 34 = .ok (.putfield 21, 3) := by decide +kernel
theorem dX4_init_37 : decode cX4_init 37 = .ok (.aload_n 0, 1) := by decide +kernel
theorem dX4_init_38 : decode cX4_init 38 = .ok (.bipush 64, 2) := by decide +kernel
theorem dX4_init_40 : decode cX4_init 40 = .ok (.newarray .long, 2) := by decide +kernel
theorem dX4_init_42 : decode cX4_init 42 = .ok (.putfield 24, 3) := by decide +kernel
theorem dX4_init_45 : decode cX4_init 45 = .ok (.aload_n 0, 1) := by decide +kernel
theorem dX4_init_46 : decode cX4_init 46 = .ok (.iconst 0, 1) := by decide +kernel
theorem dX4_init_47 : decode cX4_init 47 = .ok (.putfield 28, 3) := by decide +kernel
theorem dX4_init_50 : decode cX4_init 50 = .ok (.aload_n 0, 1) := by decide +kernel
theorem dX4_init_51 : decode cX4_init 51 = .ok (.iconst 0, 1) := by decide +kernel
theorem dX4_init_52 : decode cX4_init 52 = .ok (.putfield 32, 3) := by decide +kernel
theorem dX4_init_55 : decode cX4_init 55 = .ok (.return_, 1) := by decide +kernel
set_option maxHeartbeats 4000000 in
set_option maxRecDepth 100000 in
theorem kc_Terms (l : Launch) (dC : Nat → ClassId) (dI : Nat → Nat → Nat) (h sz : Nat) : Met l yX4_init wsX4_init ({ frames := 1, cells := 5, slots := 448, locals := 20 }) (va_Pc [.ref h] (fun U => U.heap.size = sz ∧ va_P (dC, dI) vwCl [(h, .inr (2, [.null, .null, .null, .null, .null, .int 0, .int 0]))] U.heap ∧ va_K (dC, dI) vwCl [] U ∧ va_D (fun _ => True) [(h, .inr (2, [.null, .null, .null, .null, .null, .int 0, .int 0]))])) (va_Qv (fun _ : Unit => True) (fun _ t => ∃ (q1 q2 q3 q4 q5 : Nat) (c1 c2 c3 c4 c5 : ClassId), va_P (dC, dI) vwCl [(h, .inr (2, [.ref q1, .ref q2, .ref q3, .ref q4, .ref q5, .int (0 : Int32), .int (0 : Int32)])), (q1, .inl (c1, 64, .inl (fun _ => 0))), (q2, .inl (c2, 64, .inl (fun _ => 0))), (q3, .inl (c3, 192, .inl (fun _ => 0))), (q4, .inl (c4, 64, .inl (fun _ => 0))), (q5, .inl (c5, 64, .inr (.inl (fun _ => 0))))] t.heap ∧ va_K (dC, dI) vwCl [(c1, .int), (c2, .int), (c3, .int), (c4, .int), (c5, .long)] t ∧ va_D (va_A [(h, .inr (2, [.null, .null, .null, .null, .null, .int 0, .int 0]))] sz) [(h, .inr (2, [.ref q1, .ref q2, .ref q3, .ref q4, .ref q5, .int (0 : Int32), .int (0 : Int32)])), (q1, .inl (c1, 64, .inl (fun _ => 0))), (q2, .inl (c2, 64, .inl (fun _ => 0))), (q3, .inl (c3, 192, .inl (fun _ => 0))), (q4, .inl (c4, 64, .inl (fun _ => 0))), (q5, .inl (c5, 64, .inr (.inl (fun _ => 0))))]) (va_A [(h, .inr (2, [.null, .null, .null, .null, .null, .int 0, .int 0]))] sz)) 5 448 (va_A [(h, .inr (2, [.null, .null, .null, .null, .null, .int 0, .int 0]))] sz) := by
  refine Met.ofW (cc := cX4_init) (maxL := 1) (ret := none) (by decide) rfl ?_
  intro p e s m args below meth c s₁ B hml hv
  obtain ⟨rfl, hsz, hP, hK, hD0⟩ := hv
  have hx := B.exec
  have hb := B.bytes
  have hr := B.returns
  have hta := aw_hts (atoms_spec (ws := wsX4_init) B.pre)
  have hown : s.vm.findClass RX4 = some m.cls := findClass_of_methodNamed B.named
  have hlocks := B.notSynchronized
  have hin : meth.name = "<init>" := (name_of_methodNamed B.named B.method).1
  subst hsz
  have hD := hD0.self (sz := s.heap.size)
  generalize hAe : va_A [(h, .inr (2, [.null, .null, .null, .null, .null, .int 0, .int 0]))] s.heap.size = A at hD ⊢
  have hAz : ∀ q : Nat, s.heap.size ≤ q → A q := fun q h => by rw [← hAe]; exact Or.inr h
  have hS : va_S A s.heap s.heap [] := va_S.rf
  have hP : va_P (dC, dI) vwCl [(h, .inr (2, [.null, .null, .null, .null, .null, .int 0, .int 0]))] s.heap := hP
  have hl := lv_entry ([.ref h]) (n := 1) (Nat.le_of_ble_eq_true rfl)
  rw [lg_entry_eq]
  generalize (lg_sl ([.ref h]) ++ List.replicate (1 - (lg_sl ([.ref h])).length) Slot.unset).toArray = ls at hl ⊢
  have hl : lv_has ls 1 [(0, .ref h)] := hl
  refine lv_aload_n hx hb dX4_init_0 rfl (lv_at hl 0 rfl) ?_
  refine W.objInit hx hb hown (hta _ mw_98) (hta _ mw_56) (hta _ mw_57) rfl (by rw [hml]; exact hl.1) rfl dX4_init_1 (Nat.le_of_ble_eq_true rfl) (Nat.le_of_ble_eq_true rfl) ?_
  refine W.eq (g2 := F0 m 4 ls []) rfl ?_
  refine lv_aload_n hx hb dX4_init_4 rfl (lv_at hl 0 rfl) ?_
  refine lv_bipush (v := (64 : Int32)) hx hb dX4_init_5 (by decide) ?_
  refine va_newa (atype := .int) (ty := .int) (N' := 64) (a0 := (64, .inl (fun _ => 0))) hx hb (hta _ mw_80) rfl hK hP hD hS hAz (fun cA => rfl) (by decide) rfl (by decide) (Nat.le_of_ble_eq_true rfl) (Nat.le_of_ble_eq_true rfl) dX4_init_7 (fun q1 c1 H hK hP hD hS => ?_)
  have hP : va_P (dC, dI) vwCl [(h, .inr (2, [.null, .null, .null, .null, .null, .int 0, .int 0])), (q1, .inl (c1, 64, .inl (fun _ => 0)))] H := hP
  have hD : va_D A [(h, .inr (2, [.null, .null, .null, .null, .null, .int 0, .int 0])), (q1, .inl (c1, 64, .inl (fun _ => 0)))] := hD
  have hK : va_K (dC, dI) vwCl [(c1, .int)] s := hK
  refine W.widen (k := 1) (n := 64) (by omega) (by omega) ?_
  refine va_putF (D := (dC, dI)) (ci := 2) (v := .ref q1) (ty := .array .int) (C := RX4) (T := TX4) (N := 7) hx hb hta inX4 tyX4 tyX4_ok nmX4 hown hK hP hD hS 0 rfl rfl 0 (by decide) (hta _ mw_99) (fun _ h9 => h9) rfl hin rfl (by decide +kernel) rfl rfl (Nat.le_of_ble_eq_true rfl) dX4_init_9 (fun H locs hP hD hS => ?_)
  have hP : va_P (dC, dI) vwCl [(h, .inr (2, [.ref q1, .null, .null, .null, .null, .int 0, .int 0])), (q1, .inl (c1, 64, .inl (fun _ => 0)))] H := hP
  have hD : va_D A [(h, .inr (2, [.ref q1, .null, .null, .null, .null, .int 0, .int 0])), (q1, .inl (c1, 64, .inl (fun _ => 0)))] := hD
  refine lv_aload_n hx hb dX4_init_12 rfl (lv_at hl 0 rfl) ?_
  refine lv_bipush (v := (64 : Int32)) hx hb dX4_init_13 (by decide) ?_
  refine va_newa (atype := .int) (ty := .int) (N' := 64) (a0 := (64, .inl (fun _ => 0))) hx hb (hta _ mw_80) rfl hK hP hD hS hAz (fun cA => rfl) (by decide) rfl (by decide) (Nat.le_of_ble_eq_true rfl) (Nat.le_of_ble_eq_true rfl) dX4_init_15 (fun q2 c2 H hK hP hD hS => ?_)
  have hP : va_P (dC, dI) vwCl [(h, .inr (2, [.ref q1, .null, .null, .null, .null, .int 0, .int 0])), (q1, .inl (c1, 64, .inl (fun _ => 0))), (q2, .inl (c2, 64, .inl (fun _ => 0)))] H := hP
  have hD : va_D A [(h, .inr (2, [.ref q1, .null, .null, .null, .null, .int 0, .int 0])), (q1, .inl (c1, 64, .inl (fun _ => 0))), (q2, .inl (c2, 64, .inl (fun _ => 0)))] := hD
  have hK : va_K (dC, dI) vwCl [(c1, .int), (c2, .int)] s := hK
  refine W.widen (k := 2) (n := 128) (by omega) (by omega) ?_
  refine va_putF (D := (dC, dI)) (ci := 2) (v := .ref q2) (ty := .array .int) (C := RX4) (T := TX4) (N := 7) hx hb hta inX4 tyX4 tyX4_ok nmX4 hown hK hP hD hS 0 rfl rfl 1 (by decide) (hta _ mw_100) (fun _ h9 => h9) rfl hin rfl (by decide +kernel) rfl rfl (Nat.le_of_ble_eq_true rfl) dX4_init_17 (fun H locs hP hD hS => ?_)
  have hP : va_P (dC, dI) vwCl [(h, .inr (2, [.ref q1, .ref q2, .null, .null, .null, .int 0, .int 0])), (q1, .inl (c1, 64, .inl (fun _ => 0))), (q2, .inl (c2, 64, .inl (fun _ => 0)))] H := hP
  have hD : va_D A [(h, .inr (2, [.ref q1, .ref q2, .null, .null, .null, .int 0, .int 0])), (q1, .inl (c1, 64, .inl (fun _ => 0))), (q2, .inl (c2, 64, .inl (fun _ => 0)))] := hD
  refine lv_aload_n hx hb dX4_init_20 rfl (lv_at hl 0 rfl) ?_
  refine lv_sipush (v := (192 : Int32)) hx hb dX4_init_21 (by decide) ?_
  refine va_newa (atype := .int) (ty := .int) (N' := 192) (a0 := (192, .inl (fun _ => 0))) hx hb (hta _ mw_80) rfl hK hP hD hS hAz (fun cA => rfl) (by decide) rfl (by decide) (Nat.le_of_ble_eq_true rfl) (Nat.le_of_ble_eq_true rfl) dX4_init_24 (fun q3 c3 H hK hP hD hS => ?_)
  have hP : va_P (dC, dI) vwCl [(h, .inr (2, [.ref q1, .ref q2, .null, .null, .null, .int 0, .int 0])), (q1, .inl (c1, 64, .inl (fun _ => 0))), (q2, .inl (c2, 64, .inl (fun _ => 0))), (q3, .inl (c3, 192, .inl (fun _ => 0)))] H := hP
  have hD : va_D A [(h, .inr (2, [.ref q1, .ref q2, .null, .null, .null, .int 0, .int 0])), (q1, .inl (c1, 64, .inl (fun _ => 0))), (q2, .inl (c2, 64, .inl (fun _ => 0))), (q3, .inl (c3, 192, .inl (fun _ => 0)))] := hD
  have hK : va_K (dC, dI) vwCl [(c1, .int), (c2, .int), (c3, .int)] s := hK
  refine W.widen (k := 3) (n := 320) (by omega) (by omega) ?_
  refine va_putF (D := (dC, dI)) (ci := 2) (v := .ref q3) (ty := .array .int) (C := RX4) (T := TX4) (N := 7) hx hb hta inX4 tyX4 tyX4_ok nmX4 hown hK hP hD hS 0 rfl rfl 2 (by decide) (hta _ mw_101) (fun _ h9 => h9) rfl hin rfl (by decide +kernel) rfl rfl (Nat.le_of_ble_eq_true rfl) dX4_init_26 (fun H locs hP hD hS => ?_)
  have hP : va_P (dC, dI) vwCl [(h, .inr (2, [.ref q1, .ref q2, .ref q3, .null, .null, .int 0, .int 0])), (q1, .inl (c1, 64, .inl (fun _ => 0))), (q2, .inl (c2, 64, .inl (fun _ => 0))), (q3, .inl (c3, 192, .inl (fun _ => 0)))] H := hP
  have hD : va_D A [(h, .inr (2, [.ref q1, .ref q2, .ref q3, .null, .null, .int 0, .int 0])), (q1, .inl (c1, 64, .inl (fun _ => 0))), (q2, .inl (c2, 64, .inl (fun _ => 0))), (q3, .inl (c3, 192, .inl (fun _ => 0)))] := hD
  refine lv_aload_n hx hb dX4_init_29 rfl (lv_at hl 0 rfl) ?_
  refine lv_bipush (v := (64 : Int32)) hx hb dX4_init_30 (by decide) ?_
  refine va_newa (atype := .int) (ty := .int) (N' := 64) (a0 := (64, .inl (fun _ => 0))) hx hb (hta _ mw_80) rfl hK hP hD hS hAz (fun cA => rfl) (by decide) rfl (by decide) (Nat.le_of_ble_eq_true rfl) (Nat.le_of_ble_eq_true rfl) dX4_init_32 (fun q4 c4 H hK hP hD hS => ?_)
  have hP : va_P (dC, dI) vwCl [(h, .inr (2, [.ref q1, .ref q2, .ref q3, .null, .null, .int 0, .int 0])), (q1, .inl (c1, 64, .inl (fun _ => 0))), (q2, .inl (c2, 64, .inl (fun _ => 0))), (q3, .inl (c3, 192, .inl (fun _ => 0))), (q4, .inl (c4, 64, .inl (fun _ => 0)))] H := hP
  have hD : va_D A [(h, .inr (2, [.ref q1, .ref q2, .ref q3, .null, .null, .int 0, .int 0])), (q1, .inl (c1, 64, .inl (fun _ => 0))), (q2, .inl (c2, 64, .inl (fun _ => 0))), (q3, .inl (c3, 192, .inl (fun _ => 0))), (q4, .inl (c4, 64, .inl (fun _ => 0)))] := hD
  have hK : va_K (dC, dI) vwCl [(c1, .int), (c2, .int), (c3, .int), (c4, .int)] s := hK
  refine W.widen (k := 4) (n := 384) (by omega) (by omega) ?_
  refine va_putF (D := (dC, dI)) (ci := 2) (v := .ref q4) (ty := .array .int) (C := RX4) (T := TX4) (N := 7) hx hb hta inX4 tyX4 tyX4_ok nmX4 hown hK hP hD hS 0 rfl rfl 3 (by decide) (hta _ mw_102) (fun _ h9 => h9) rfl hin rfl (by decide +kernel) rfl rfl (Nat.le_of_ble_eq_true rfl) dX4_init_34 (fun H locs hP hD hS => ?_)
  have hP : va_P (dC, dI) vwCl [(h, .inr (2, [.ref q1, .ref q2, .ref q3, .ref q4, .null, .int 0, .int 0])), (q1, .inl (c1, 64, .inl (fun _ => 0))), (q2, .inl (c2, 64, .inl (fun _ => 0))), (q3, .inl (c3, 192, .inl (fun _ => 0))), (q4, .inl (c4, 64, .inl (fun _ => 0)))] H := hP
  have hD : va_D A [(h, .inr (2, [.ref q1, .ref q2, .ref q3, .ref q4, .null, .int 0, .int 0])), (q1, .inl (c1, 64, .inl (fun _ => 0))), (q2, .inl (c2, 64, .inl (fun _ => 0))), (q3, .inl (c3, 192, .inl (fun _ => 0))), (q4, .inl (c4, 64, .inl (fun _ => 0)))] := hD
  refine lv_aload_n hx hb dX4_init_37 rfl (lv_at hl 0 rfl) ?_
  refine lv_bipush (v := (64 : Int32)) hx hb dX4_init_38 (by decide) ?_
  refine va_newa (atype := .long) (ty := .long) (N' := 64) (a0 := (64, .inr (.inl (fun _ => 0)))) hx hb (hta _ mw_92) rfl hK hP hD hS hAz (fun cA => rfl) (by decide) rfl (by decide) (Nat.le_of_ble_eq_true rfl) (Nat.le_of_ble_eq_true rfl) dX4_init_40 (fun q5 c5 H hK hP hD hS => ?_)
  have hP : va_P (dC, dI) vwCl [(h, .inr (2, [.ref q1, .ref q2, .ref q3, .ref q4, .null, .int 0, .int 0])), (q1, .inl (c1, 64, .inl (fun _ => 0))), (q2, .inl (c2, 64, .inl (fun _ => 0))), (q3, .inl (c3, 192, .inl (fun _ => 0))), (q4, .inl (c4, 64, .inl (fun _ => 0))), (q5, .inl (c5, 64, .inr (.inl (fun _ => 0))))] H := hP
  have hD : va_D A [(h, .inr (2, [.ref q1, .ref q2, .ref q3, .ref q4, .null, .int 0, .int 0])), (q1, .inl (c1, 64, .inl (fun _ => 0))), (q2, .inl (c2, 64, .inl (fun _ => 0))), (q3, .inl (c3, 192, .inl (fun _ => 0))), (q4, .inl (c4, 64, .inl (fun _ => 0))), (q5, .inl (c5, 64, .inr (.inl (fun _ => 0))))] := hD
  have hK : va_K (dC, dI) vwCl [(c1, .int), (c2, .int), (c3, .int), (c4, .int), (c5, .long)] s := hK
  refine W.widen (k := 5) (n := 448) (by omega) (by omega) ?_
  refine va_putF (D := (dC, dI)) (ci := 2) (v := .ref q5) (ty := .array .long) (C := RX4) (T := TX4) (N := 7) hx hb hta inX4 tyX4 tyX4_ok nmX4 hown hK hP hD hS 0 rfl rfl 4 (by decide) (hta _ mw_103) (fun _ h9 => h9) rfl hin rfl (by decide +kernel) rfl rfl (Nat.le_of_ble_eq_true rfl) dX4_init_42 (fun H locs hP hD hS => ?_)
  have hP : va_P (dC, dI) vwCl [(h, .inr (2, [.ref q1, .ref q2, .ref q3, .ref q4, .ref q5, .int 0, .int 0])), (q1, .inl (c1, 64, .inl (fun _ => 0))), (q2, .inl (c2, 64, .inl (fun _ => 0))), (q3, .inl (c3, 192, .inl (fun _ => 0))), (q4, .inl (c4, 64, .inl (fun _ => 0))), (q5, .inl (c5, 64, .inr (.inl (fun _ => 0))))] H := hP
  have hD : va_D A [(h, .inr (2, [.ref q1, .ref q2, .ref q3, .ref q4, .ref q5, .int 0, .int 0])), (q1, .inl (c1, 64, .inl (fun _ => 0))), (q2, .inl (c2, 64, .inl (fun _ => 0))), (q3, .inl (c3, 192, .inl (fun _ => 0))), (q4, .inl (c4, 64, .inl (fun _ => 0))), (q5, .inl (c5, 64, .inr (.inl (fun _ => 0))))] := hD
  refine lv_aload_n hx hb dX4_init_45 rfl (lv_at hl 0 rfl) ?_
  refine lv_iconst (v := (0 : Int32)) hx hb dX4_init_46 (by decide) ?_
  refine va_put (D := (dC, dI)) (ci := 2) (v := .int (0 : Int32)) (ty := .int) (C := RX4) (T := TX4) (N := 7) hx hb hta inX4 tyX4 tyX4_ok nmX4 hown hK hP hD hS 0 rfl rfl 5 (by decide) (hta _ mw_104) (fun _ h9 => h9) rfl (by decide +kernel) rfl rfl (Nat.le_of_ble_eq_true rfl) dX4_init_47 (fun H locs hP hD hS => ?_)
  have hP : va_P (dC, dI) vwCl [(h, .inr (2, [.ref q1, .ref q2, .ref q3, .ref q4, .ref q5, .int (0 : Int32), .int 0])), (q1, .inl (c1, 64, .inl (fun _ => 0))), (q2, .inl (c2, 64, .inl (fun _ => 0))), (q3, .inl (c3, 192, .inl (fun _ => 0))), (q4, .inl (c4, 64, .inl (fun _ => 0))), (q5, .inl (c5, 64, .inr (.inl (fun _ => 0))))] H := hP
  have hD : va_D A [(h, .inr (2, [.ref q1, .ref q2, .ref q3, .ref q4, .ref q5, .int (0 : Int32), .int 0])), (q1, .inl (c1, 64, .inl (fun _ => 0))), (q2, .inl (c2, 64, .inl (fun _ => 0))), (q3, .inl (c3, 192, .inl (fun _ => 0))), (q4, .inl (c4, 64, .inl (fun _ => 0))), (q5, .inl (c5, 64, .inr (.inl (fun _ => 0))))] := hD
  refine lv_aload_n hx hb dX4_init_50 rfl (lv_at hl 0 rfl) ?_
  refine lv_iconst (v := (0 : Int32)) hx hb dX4_init_51 (by decide) ?_
  refine va_put (D := (dC, dI)) (ci := 2) (v := .int (0 : Int32)) (ty := .int) (C := RX4) (T := TX4) (N := 7) hx hb hta inX4 tyX4 tyX4_ok nmX4 hown hK hP hD hS 0 rfl rfl 6 (by decide) (hta _ mw_105) (fun _ h9 => h9) rfl (by decide +kernel) rfl rfl (Nat.le_of_ble_eq_true rfl) dX4_init_52 (fun H locs hP hD hS => ?_)
  have hP : va_P (dC, dI) vwCl [(h, .inr (2, [.ref q1, .ref q2, .ref q3, .ref q4, .ref q5, .int (0 : Int32), .int (0 : Int32)])), (q1, .inl (c1, 64, .inl (fun _ => 0))), (q2, .inl (c2, 64, .inl (fun _ => 0))), (q3, .inl (c3, 192, .inl (fun _ => 0))), (q4, .inl (c4, 64, .inl (fun _ => 0))), (q5, .inl (c5, 64, .inr (.inl (fun _ => 0))))] H := hP
  have hD : va_D A [(h, .inr (2, [.ref q1, .ref q2, .ref q3, .ref q4, .ref q5, .int (0 : Int32), .int (0 : Int32)])), (q1, .inl (c1, 64, .inl (fun _ => 0))), (q2, .inl (c2, 64, .inl (fun _ => 0))), (q3, .inl (c3, 192, .inl (fun _ => 0))), (q4, .inl (c4, 64, .inl (fun _ => 0))), (q5, .inl (c5, 64, .inr (.inl (fun _ => 0))))] := hD
  have hP9 := hP.sub (ws' := [(h, .inr (2, [.ref q1, .ref q2, .ref q3, .ref q4, .ref q5, .int (0 : Int32), .int (0 : Int32)])), (q1, .inl (c1, 64, .inl (fun _ => 0))), (q2, .inl (c2, 64, .inl (fun _ => 0))), (q3, .inl (c3, 192, .inl (fun _ => 0))), (q4, .inl (c4, 64, .inl (fun _ => 0))), (q5, .inl (c5, 64, .inr (.inl (fun _ => 0))))]) [0, 1, 2, 3, 4, 5] rfl
  have hD9 := hD.sub (ws' := [(h, .inr (2, [.ref q1, .ref q2, .ref q3, .ref q4, .ref q5, .int (0 : Int32), .int (0 : Int32)])), (q1, .inl (c1, 64, .inl (fun _ => 0))), (q2, .inl (c2, 64, .inl (fun _ => 0))), (q3, .inl (c3, 192, .inl (fun _ => 0))), (q4, .inl (c4, 64, .inl (fun _ => 0))), (q5, .inl (c5, 64, .inr (.inl (fun _ => 0))))]) [0, 1, 2, 3, 4, 5] (by decide) rfl
  have hK9 := hK.sub (tys' := [(c1, .int), (c2, .int), (c3, .int), (c4, .int), (c5, .long)]) [0, 1, 2, 3, 4] rfl
  exact W.vret hx hb hr (fun t ht hW => ⟨⟨(), rfl, trivial, q1, q2, q3, q4, q5, c1, c2, c3, c4, c5, by rw [ht]; exact hP9, va_K.moved hW.alike hK9, hD9⟩, hS.F ht⟩) hS.2.2 dX4_init_55

theorem mw_126 : (.methodLink RX5 1 objectInit : Cond) ∈ AW := List.mem_filter.mpr ⟨List.mem_of_getElem? (i := 126) (by decide +kernel), rfl⟩
theorem dX5_init_0 : decode cX5_init 0 = .ok (.aload_n 0, 1) := by decide +kernel
theorem dX5_init_1 : decode cX5_init 1 = .ok (.invokespecial 1, 3) := by decide +kernel
theorem dX5_init_4 : decode cX5_init 4 = .ok (.aload_n 0, 1) := by decide +kernel
theorem dX5_init_5 : decode cX5_init 5 = .ok (.aload_n 1, 1) := by decide +kernel
theorem dX5_init_6 : decode cX5_init 6 = .ok (.putfield 7, 3) := by decide +kernel
theorem dX5_init_9 : decode cX5_init 9 = .ok (.aload_n 0, 1) := by decide +kernel
theorem dX5_init_10 : decode cX5_init 10 = .ok (.aload_n 2, 1) := by decide +kernel
theorem dX5_init_11 : decode cX5_init 11 = .ok (.putfield 13, 3) := by decide +kernel
theorem dX5_init_14 : decode cX5_init 14 = .ok (.aload_n 0, 1) := by decide +kernel
theorem dX5_init_15 : decode cX5_init 15 = .ok (.aload_n 3, 1) := by decide +kernel
theorem dX5_init_16 : decode cX5_init 16 = .ok (.putfield 17, 3) := by decide +kernel
theorem dX5_init_19 : decode cX5_init 19 = .ok (.aload_n 0, 1) := by decide +kernel
theorem dX5_init_20 : decode cX5_init 20 = .ok (.bipush 64, 2) := by decide +kernel
theorem dX5_init_22 : decode cX5_init 22 = .ok (.newarray .long, 2) := by decide +kernel
theorem dX5_init_24 : decode cX5_init 24 = .ok (.putfield 23, 3) := by decide +kernel
theorem dX5_init_27 : decode cX5_init 27 = .ok (.aload_n 0, 1) := by decide +kernel
theorem dX5_init_28 : decode cX5_init 28 = .ok (.bipush 64, 2) := by decide +kernel
theorem dX5_init_30 : decode cX5_init 30 = .ok (.newarray .boolean, 2) := by decide +kernel
theorem dX5_init_32 : decode cX5_init 32 = .ok (.putfield 27, 3) := by decide +kernel
theorem dX5_init_35 : decode cX5_init 35 = .ok (.return_, 1) := by decide +kernel
set_option maxHeartbeats 4000000 in
set_option maxRecDepth 100000 in
theorem kc_Eval (l : Launch) (dC : Nat → ClassId) (dI : Nat → Nat → Nat) (h sz p1 p2 p3 : Nat) : Met l yX5_init wsX5_init ({ frames := 1, cells := 2, slots := 128, locals := 20 }) (va_Pc [.ref h, .ref p1, .ref p2, .ref p3] (fun U => U.heap.size = sz ∧ va_P (dC, dI) vwCl [(h, .inr (3, [.null, .null, .null, .null, .null]))] U.heap ∧ va_K (dC, dI) vwCl [] U ∧ va_D (fun _ => True) [(h, .inr (3, [.null, .null, .null, .null, .null]))])) (va_Qv (fun _ : Unit => True) (fun _ t => ∃ (q1 q2 : Nat) (c1 c2 : ClassId), va_P (dC, dI) vwCl [(h, .inr (3, [.ref p1, .ref p2, .ref p3, .ref q1, .ref q2])), (q1, .inl (c1, 64, .inr (.inl (fun _ => 0)))), (q2, .inl (c2, 64, .inl (fun _ => 0)))] t.heap ∧ va_K (dC, dI) vwCl [(c1, .long), (c2, .boolean)] t ∧ va_D (va_A [(h, .inr (3, [.null, .null, .null, .null, .null]))] sz) [(h, .inr (3, [.ref p1, .ref p2, .ref p3, .ref q1, .ref q2])), (q1, .inl (c1, 64, .inr (.inl (fun _ => 0)))), (q2, .inl (c2, 64, .inl (fun _ => 0)))]) (va_A [(h, .inr (3, [.null, .null, .null, .null, .null]))] sz)) 2 128 (va_A [(h, .inr (3, [.null, .null, .null, .null, .null]))] sz) := by
  refine Met.ofW (cc := cX5_init) (maxL := 4) (ret := none) (by decide) rfl ?_
  intro p e s m args below meth c s₁ B hml hv
  obtain ⟨rfl, hsz, hP, hK, hD0⟩ := hv
  have hx := B.exec
  have hb := B.bytes
  have hr := B.returns
  have hta := aw_hts (atoms_spec (ws := wsX5_init) B.pre)
  have hown : s.vm.findClass RX5 = some m.cls := findClass_of_methodNamed B.named
  have hlocks := B.notSynchronized
  have hin : meth.name = "<init>" := (name_of_methodNamed B.named B.method).1
  subst hsz
  have hD := hD0.self (sz := s.heap.size)
  generalize hAe : va_A [(h, .inr (3, [.null, .null, .null, .null, .null]))] s.heap.size = A at hD ⊢
  have hAz : ∀ q : Nat, s.heap.size ≤ q → A q := fun q h => by rw [← hAe]; exact Or.inr h
  have hS : va_S A s.heap s.heap [] := va_S.rf
  have hP : va_P (dC, dI) vwCl [(h, .inr (3, [.null, .null, .null, .null, .null]))] s.heap := hP
  have hl := lv_entry ([.ref h, .ref p1, .ref p2, .ref p3]) (n := 4) (Nat.le_of_ble_eq_true rfl)
  rw [lg_entry_eq]
  generalize (lg_sl ([.ref h, .ref p1, .ref p2, .ref p3]) ++ List.replicate (4 - (lg_sl ([.ref h, .ref p1, .ref p2, .ref p3])).length) Slot.unset).toArray = ls at hl ⊢
  have hl : lv_has ls 4 [(0, .ref h), (1, .ref p1), (2, .ref p2), (3, .ref p3)] := hl
  refine lv_aload_n hx hb dX5_init_0 rfl (lv_at hl 0 rfl) ?_
  refine W.objInit hx hb hown (hta _ mw_126) (hta _ mw_56) (hta _ mw_57) rfl (by rw [hml]; exact hl.1) rfl dX5_init_1 (Nat.le_of_ble_eq_true rfl) (Nat.le_of_ble_eq_true rfl) ?_
  refine W.eq (g2 := F0 m 4 ls []) rfl ?_
  refine lv_aload_n hx hb dX5_init_4 rfl (lv_at hl 0 rfl) ?_
  refine lv_aload_n hx hb dX5_init_5 rfl (lv_at hl 1 rfl) ?_
  refine va_putF (D := (dC, dI)) (ci := 3) (v := .ref p1) (ty := .object "PathSolver$Terms") (C := RX5) (T := TX5) (N := 5) hx hb hta inX5 tyX5 tyX5_ok nmX5 hown hK hP hD hS 0 rfl rfl 0 (by decide) (hta _ mw_127) (fun _ h9 => h9) rfl hin rfl (by decide +kernel) rfl rfl (Nat.le_of_ble_eq_true rfl) dX5_init_6 (fun H locs hP hD hS => ?_)
  have hP : va_P (dC, dI) vwCl [(h, .inr (3, [.ref p1, .null, .null, .null, .null]))] H := hP
  have hD : va_D A [(h, .inr (3, [.ref p1, .null, .null, .null, .null]))] := hD
  refine lv_aload_n hx hb dX5_init_9 rfl (lv_at hl 0 rfl) ?_
  refine lv_aload_n hx hb dX5_init_10 rfl (lv_at hl 2 rfl) ?_
  refine va_putF (D := (dC, dI)) (ci := 3) (v := .ref p2) (ty := .object "PathSolver$Variables") (C := RX5) (T := TX5) (N := 5) hx hb hta inX5 tyX5 tyX5_ok nmX5 hown hK hP hD hS 0 rfl rfl 1 (by decide) (hta _ mw_128) (fun _ h9 => h9) rfl hin rfl (by decide +kernel) rfl rfl (Nat.le_of_ble_eq_true rfl) dX5_init_11 (fun H locs hP hD hS => ?_)
  have hP : va_P (dC, dI) vwCl [(h, .inr (3, [.ref p1, .ref p2, .null, .null, .null]))] H := hP
  have hD : va_D A [(h, .inr (3, [.ref p1, .ref p2, .null, .null, .null]))] := hD
  refine lv_aload_n hx hb dX5_init_14 rfl (lv_at hl 0 rfl) ?_
  refine lv_aload_n hx hb dX5_init_15 rfl (lv_at hl 3 rfl) ?_
  refine va_putF (D := (dC, dI)) (ci := 3) (v := .ref p3) (ty := .object "PathSolver$Tables") (C := RX5) (T := TX5) (N := 5) hx hb hta inX5 tyX5 tyX5_ok nmX5 hown hK hP hD hS 0 rfl rfl 2 (by decide) (hta _ mw_129) (fun _ h9 => h9) rfl hin rfl (by decide +kernel) rfl rfl (Nat.le_of_ble_eq_true rfl) dX5_init_16 (fun H locs hP hD hS => ?_)
  have hP : va_P (dC, dI) vwCl [(h, .inr (3, [.ref p1, .ref p2, .ref p3, .null, .null]))] H := hP
  have hD : va_D A [(h, .inr (3, [.ref p1, .ref p2, .ref p3, .null, .null]))] := hD
  refine lv_aload_n hx hb dX5_init_19 rfl (lv_at hl 0 rfl) ?_
  refine lv_bipush (v := (64 : Int32)) hx hb dX5_init_20 (by decide) ?_
  refine va_newa (atype := .long) (ty := .long) (N' := 64) (a0 := (64, .inr (.inl (fun _ => 0)))) hx hb (hta _ mw_92) rfl hK hP hD hS hAz (fun cA => rfl) (by decide) rfl (by decide) (Nat.le_of_ble_eq_true rfl) (Nat.le_of_ble_eq_true rfl) dX5_init_22 (fun q1 c1 H hK hP hD hS => ?_)
  have hP : va_P (dC, dI) vwCl [(h, .inr (3, [.ref p1, .ref p2, .ref p3, .null, .null])), (q1, .inl (c1, 64, .inr (.inl (fun _ => 0))))] H := hP
  have hD : va_D A [(h, .inr (3, [.ref p1, .ref p2, .ref p3, .null, .null])), (q1, .inl (c1, 64, .inr (.inl (fun _ => 0))))] := hD
  have hK : va_K (dC, dI) vwCl [(c1, .long)] s := hK
  refine W.widen (k := 1) (n := 64) (by omega) (by omega) ?_
  refine va_putF (D := (dC, dI)) (ci := 3) (v := .ref q1) (ty := .array .long) (C := RX5) (T := TX5) (N := 5) hx hb hta inX5 tyX5 tyX5_ok nmX5 hown hK hP hD hS 0 rfl rfl 3 (by decide) (hta _ mw_130) (fun _ h9 => h9) rfl hin rfl (by decide +kernel) rfl rfl (Nat.le_of_ble_eq_true rfl) dX5_init_24 (fun H locs hP hD hS => ?_)
  have hP : va_P (dC, dI) vwCl [(h, .inr (3, [.ref p1, .ref p2, .ref p3, .ref q1, .null])), (q1, .inl (c1, 64, .inr (.inl (fun _ => 0))))] H := hP
  have hD : va_D A [(h, .inr (3, [.ref p1, .ref p2, .ref p3, .ref q1, .null])), (q1, .inl (c1, 64, .inr (.inl (fun _ => 0))))] := hD
  refine lv_aload_n hx hb dX5_init_27 rfl (lv_at hl 0 rfl) ?_
  refine lv_bipush (v := (64 : Int32)) hx hb dX5_init_28 (by decide) ?_
  refine va_newa (atype := .boolean) (ty := .boolean) (N' := 64) (a0 := (64, .inl (fun _ => 0))) hx hb (hta _ mw_81) rfl hK hP hD hS hAz (fun cA => rfl) (by decide) rfl (by decide) (Nat.le_of_ble_eq_true rfl) (Nat.le_of_ble_eq_true rfl) dX5_init_30 (fun q2 c2 H hK hP hD hS => ?_)
  have hP : va_P (dC, dI) vwCl [(h, .inr (3, [.ref p1, .ref p2, .ref p3, .ref q1, .null])), (q1, .inl (c1, 64, .inr (.inl (fun _ => 0)))), (q2, .inl (c2, 64, .inl (fun _ => 0)))] H := hP
  have hD : va_D A [(h, .inr (3, [.ref p1, .ref p2, .ref p3, .ref q1, .null])), (q1, .inl (c1, 64, .inr (.inl (fun _ => 0)))), (q2, .inl (c2, 64, .inl (fun _ => 0)))] := hD
  have hK : va_K (dC, dI) vwCl [(c1, .long), (c2, .boolean)] s := hK
  refine W.widen (k := 2) (n := 128) (by omega) (by omega) ?_
  refine va_putF (D := (dC, dI)) (ci := 3) (v := .ref q2) (ty := .array .boolean) (C := RX5) (T := TX5) (N := 5) hx hb hta inX5 tyX5 tyX5_ok nmX5 hown hK hP hD hS 0 rfl rfl 4 (by decide) (hta _ mw_131) (fun _ h9 => h9) rfl hin rfl (by decide +kernel) rfl rfl (Nat.le_of_ble_eq_true rfl) dX5_init_32 (fun H locs hP hD hS => ?_)
  have hP : va_P (dC, dI) vwCl [(h, .inr (3, [.ref p1, .ref p2, .ref p3, .ref q1, .ref q2])), (q1, .inl (c1, 64, .inr (.inl (fun _ => 0)))), (q2, .inl (c2, 64, .inl (fun _ => 0)))] H := hP
  have hD : va_D A [(h, .inr (3, [.ref p1, .ref p2, .ref p3, .ref q1, .ref q2])), (q1, .inl (c1, 64, .inr (.inl (fun _ => 0)))), (q2, .inl (c2, 64, .inl (fun _ => 0)))] := hD
  have hP9 := hP.sub (ws' := [(h, .inr (3, [.ref p1, .ref p2, .ref p3, .ref q1, .ref q2])), (q1, .inl (c1, 64, .inr (.inl (fun _ => 0)))), (q2, .inl (c2, 64, .inl (fun _ => 0)))]) [0, 1, 2] rfl
  have hD9 := hD.sub (ws' := [(h, .inr (3, [.ref p1, .ref p2, .ref p3, .ref q1, .ref q2])), (q1, .inl (c1, 64, .inr (.inl (fun _ => 0)))), (q2, .inl (c2, 64, .inl (fun _ => 0)))]) [0, 1, 2] (by decide) rfl
  have hK9 := hK.sub (tys' := [(c1, .long), (c2, .boolean)]) [0, 1] rfl
  exact W.vret hx hb hr (fun t ht hW => ⟨⟨(), rfl, trivial, q1, q2, c1, c2, by rw [ht]; exact hP9, va_K.moved hW.alike hK9, hD9⟩, hS.F ht⟩) hS.2.2 dX5_init_35

theorem mw_148 : (.methodLink RX6 3 objectInit : Cond) ∈ AW := List.mem_filter.mpr ⟨List.mem_of_getElem? (i := 148) (by decide +kernel), rfl⟩
theorem dX6_init_0 : decode cX6_init 0 = .ok (.aload_n 0, 1) := by decide +kernel
theorem dX6_init_1 : decode cX6_init 1 = .ok (.invokespecial 3, 3) := by decide +kernel
theorem dX6_init_4 : decode cX6_init 4 = .ok (.aload_n 0, 1) := by decide +kernel
theorem dX6_init_5 : decode cX6_init 5 = .ok (.aload_n 1, 1) := by decide +kernel
theorem dX6_init_6 : decode cX6_init 6 = .ok (.putfield 9, 3) := by decide +kernel
theorem dX6_init_9 : decode cX6_init 9 = .ok (.aload_n 0, 1) := by decide +kernel
theorem dX6_init_10 : decode cX6_init 10 = .ok (.aload_n 2, 1) := by decide +kernel
theorem dX6_init_11 : decode cX6_init 11 = .ok (.putfield 15, 3) := by decide +kernel
theorem dX6_init_14 : decode cX6_init 14 = .ok (.return_, 1) := by decide +kernel
set_option maxHeartbeats 4000000 in
set_option maxRecDepth 100000 in
theorem kc_Maker (l : Launch) (dC : Nat → ClassId) (dI : Nat → Nat → Nat) (h sz p1 p2 : Nat) : Met l yX6_init wsX6_init ({ frames := 1, cells := 0, slots := 0, locals := 20 }) (va_Pc [.ref h, .ref p1, .ref p2] (fun U => U.heap.size = sz ∧ va_P (dC, dI) vwCl [(h, .inr (4, [.null, .null]))] U.heap ∧ va_K (dC, dI) vwCl [] U ∧ va_D (fun _ => True) [(h, .inr (4, [.null, .null]))])) (va_Qv (fun _ : Unit => True) (fun _ t => va_P (dC, dI) vwCl [(h, .inr (4, [.ref p1, .ref p2]))] t.heap ∧ va_K (dC, dI) vwCl [] t ∧ va_D (va_A [(h, .inr (4, [.null, .null]))] sz) [(h, .inr (4, [.ref p1, .ref p2]))]) (va_A [(h, .inr (4, [.null, .null]))] sz)) 0 0 (va_A [(h, .inr (4, [.null, .null]))] sz) := by
  refine Met.ofW (cc := cX6_init) (maxL := 3) (ret := none) (by decide) rfl ?_
  intro p e s m args below meth c s₁ B hml hv
  obtain ⟨rfl, hsz, hP, hK, hD0⟩ := hv
  have hx := B.exec
  have hb := B.bytes
  have hr := B.returns
  have hta := aw_hts (atoms_spec (ws := wsX6_init) B.pre)
  have hown : s.vm.findClass RX6 = some m.cls := findClass_of_methodNamed B.named
  have hlocks := B.notSynchronized
  have hin : meth.name = "<init>" := (name_of_methodNamed B.named B.method).1
  subst hsz
  have hD := hD0.self (sz := s.heap.size)
  generalize hAe : va_A [(h, .inr (4, [.null, .null]))] s.heap.size = A at hD ⊢
  have hAz : ∀ q : Nat, s.heap.size ≤ q → A q := fun q h => by rw [← hAe]; exact Or.inr h
  have hS : va_S A s.heap s.heap [] := va_S.rf
  have hP : va_P (dC, dI) vwCl [(h, .inr (4, [.null, .null]))] s.heap := hP
  have hl := lv_entry ([.ref h, .ref p1, .ref p2]) (n := 3) (Nat.le_of_ble_eq_true rfl)
  rw [lg_entry_eq]
  generalize (lg_sl ([.ref h, .ref p1, .ref p2]) ++ List.replicate (3 - (lg_sl ([.ref h, .ref p1, .ref p2])).length) Slot.unset).toArray = ls at hl ⊢
  have hl : lv_has ls 3 [(0, .ref h), (1, .ref p1), (2, .ref p2)] := hl
  refine lv_aload_n hx hb dX6_init_0 rfl (lv_at hl 0 rfl) ?_
  refine W.objInit hx hb hown (hta _ mw_148) (hta _ mw_56) (hta _ mw_57) rfl (by rw [hml]; exact hl.1) rfl dX6_init_1 (Nat.le_of_ble_eq_true rfl) (Nat.le_of_ble_eq_true rfl) ?_
  refine W.eq (g2 := F0 m 4 ls []) rfl ?_
  refine lv_aload_n hx hb dX6_init_4 rfl (lv_at hl 0 rfl) ?_
  refine lv_aload_n hx hb dX6_init_5 rfl (lv_at hl 1 rfl) ?_
  refine va_putF (D := (dC, dI)) (ci := 4) (v := .ref p1) (ty := .object "PathSolver$Terms") (C := RX6) (T := TX6) (N := 2) hx hb hta inX6 tyX6 tyX6_ok nmX6 hown hK hP hD hS 0 rfl rfl 0 (by decide) (hta _ mw_149) (fun _ h9 => h9) rfl hin rfl (by decide +kernel) rfl rfl (Nat.le_of_ble_eq_true rfl) dX6_init_6 (fun H locs hP hD hS => ?_)
  have hP : va_P (dC, dI) vwCl [(h, .inr (4, [.ref p1, .null]))] H := hP
  have hD : va_D A [(h, .inr (4, [.ref p1, .null]))] := hD
  refine lv_aload_n hx hb dX6_init_9 rfl (lv_at hl 0 rfl) ?_
  refine lv_aload_n hx hb dX6_init_10 rfl (lv_at hl 2 rfl) ?_
  refine va_putF (D := (dC, dI)) (ci := 4) (v := .ref p2) (ty := .object "PathSolver$Evaluator") (C := RX6) (T := TX6) (N := 2) hx hb hta inX6 tyX6 tyX6_ok nmX6 hown hK hP hD hS 0 rfl rfl 1 (by decide) (hta _ mw_150) (fun _ h9 => h9) rfl hin rfl (by decide +kernel) rfl rfl (Nat.le_of_ble_eq_true rfl) dX6_init_11 (fun H locs hP hD hS => ?_)
  have hP : va_P (dC, dI) vwCl [(h, .inr (4, [.ref p1, .ref p2]))] H := hP
  have hD : va_D A [(h, .inr (4, [.ref p1, .ref p2]))] := hD
  have hP9 := hP.sub (ws' := [(h, .inr (4, [.ref p1, .ref p2]))]) [0] rfl
  have hD9 := hD.sub (ws' := [(h, .inr (4, [.ref p1, .ref p2]))]) [0] (by decide) rfl
  have hK9 := hK.sub (tys' := []) [] rfl
  exact W.vret hx hb hr (fun t ht hW => ⟨⟨(), rfl, trivial, by rw [ht]; exact hP9, va_K.moved hW.alike hK9, hD9⟩, hS.F ht⟩) hS.2.2 dX6_init_14

theorem mw_161 : (.methodLink RX7 3 objectInit : Cond) ∈ AW := List.mem_filter.mpr ⟨List.mem_of_getElem? (i := 161) (by decide +kernel), rfl⟩
theorem dX7_init_0 : decode cX7_init 0 = .ok (.aload_n 0, 1) := by decide +kernel
theorem dX7_init_1 : decode cX7_init 1 = .ok (.invokespecial 3, 3) := by decide +kernel
theorem dX7_init_4 : decode cX7_init 4 = .ok (.aload_n 0, 1) := by decide +kernel
theorem dX7_init_5 : decode cX7_init 5 = .ok (.aload_n 1, 1) := by decide +kernel
theorem dX7_init_6 : decode cX7_init 6 = .ok (.putfield 9, 3) := by decide +kernel
theorem dX7_init_9 : decode cX7_init 9 = .ok (.aload_n 0, 1) := by decide +kernel
theorem dX7_init_10 : decode cX7_init 10 = .ok (.aload_n 2, 1) := by decide +kernel
theorem dX7_init_11 : decode cX7_init 11 = .ok (.putfield 15, 3) := by decide +kernel
theorem dX7_init_14 : decode cX7_init 14 = .ok (.aload_n 0, 1) := by decide +kernel
theorem dX7_init_15 : decode cX7_init 15 = .ok (.aload_n 3, 1) := by decide +kernel
theorem dX7_init_16 : decode cX7_init 16 = .ok (.putfield 19, 3) := by decide +kernel
theorem dX7_init_19 : decode cX7_init 19 = .ok (.aload_n 0, 1) := by decide +kernel
theorem dX7_init_20 : decode cX7_init 20 = .ok (.sipush 1024, 3) := by decide +kernel
theorem dX7_init_23 : decode cX7_init 23 = .ok (.newarray .long, 2) := by decide +kernel
theorem dX7_init_25 : decode cX7_init 25 = .ok (.putfield 25, 3) := by decide +kernel
theorem dX7_init_28 : decode cX7_init 28 = .ok (.aload_n 0, 1) := by decide +kernel
theorem dX7_init_29 : decode cX7_init 29 = .ok (.bipush 64, 2) := by decide +kernel
theorem dX7_init_31 : decode cX7_init 31 = .ok (.newarray .boolean, 2) := by decide +kernel
theorem dX7_init_33 : decode cX7_init 33 = .ok (.putfield 29, 3) := by decide +kernel
theorem dX7_init_36 : decode cX7_init 36 = .ok (.aload_n 0, 1) := by decide +kernel
theorem dX7_init_37 : decode cX7_init 37 = .ok (.bipush 64, 2) := by decide +kernel
theorem dX7_init_39 : decode cX7_init 39 = .ok (.newarray .int, 2) := by decide +kernel
theorem dX7_init_41 : decode cX7_init 41 = .ok (.putfield 33, 3) := by decide +kernel
theorem dX7_init_44 : decode cX7_init 44 = .ok (.aload_n 0, 1) := by decide +kernel
theorem dX7_init_45 : decode cX7_init 45 = .ok (.iconst 0, 1) := by decide +kernel
theorem dX7_init_46 : decode cX7_init 46 = .ok (.putfield 37, 3) := by decide +kernel
theorem dX7_init_49 : decode cX7_init 49 = .ok (.return_, 1) := by decide +kernel
set_option maxHeartbeats 4000000 in
set_option maxRecDepth 100000 in
theorem kc_Rows (l : Launch) (dC : Nat → ClassId) (dI : Nat → Nat → Nat) (h sz p1 p2 p3 : Nat) : Met l yX7_init wsX7_init ({ frames := 1, cells := 3, slots := 1152, locals := 20 }) (va_Pc [.ref h, .ref p1, .ref p2, .ref p3] (fun U => U.heap.size = sz ∧ va_P (dC, dI) vwCl [(h, .inr (5, [.null, .null, .null, .null, .null, .null, .int 0]))] U.heap ∧ va_K (dC, dI) vwCl [] U ∧ va_D (fun _ => True) [(h, .inr (5, [.null, .null, .null, .null, .null, .null, .int 0]))])) (va_Qv (fun _ : Unit => True) (fun _ t => ∃ (q1 q2 q3 : Nat) (c1 c2 c3 : ClassId), va_P (dC, dI) vwCl [(h, .inr (5, [.ref p1, .ref p2, .ref p3, .ref q1, .ref q2, .ref q3, .int (0 : Int32)])), (q1, .inl (c1, 1024, .inr (.inl (fun _ => 0)))), (q2, .inl (c2, 64, .inl (fun _ => 0))), (q3, .inl (c3, 64, .inl (fun _ => 0)))] t.heap ∧ va_K (dC, dI) vwCl [(c1, .long), (c2, .boolean), (c3, .int)] t ∧ va_D (va_A [(h, .inr (5, [.null, .null, .null, .null, .null, .null, .int 0]))] sz) [(h, .inr (5, [.ref p1, .ref p2, .ref p3, .ref q1, .ref q2, .ref q3, .int (0 : Int32)])), (q1, .inl (c1, 1024, .inr (.inl (fun _ => 0)))), (q2, .inl (c2, 64, .inl (fun _ => 0))), (q3, .inl (c3, 64, .inl (fun _ => 0)))]) (va_A [(h, .inr (5, [.null, .null, .null, .null, .null, .null, .int 0]))] sz)) 3 1152 (va_A [(h, .inr (5, [.null, .null, .null, .null, .null, .null, .int 0]))] sz) := by
  refine Met.ofW (cc := cX7_init) (maxL := 4) (ret := none) (by decide) rfl ?_
  intro p e s m args below meth c s₁ B hml hv
  obtain ⟨rfl, hsz, hP, hK, hD0⟩ := hv
  have hx := B.exec
  have hb := B.bytes
  have hr := B.returns
  have hta := aw_hts (atoms_spec (ws := wsX7_init) B.pre)
  have hown : s.vm.findClass RX7 = some m.cls := findClass_of_methodNamed B.named
  have hlocks := B.notSynchronized
  have hin : meth.name = "<init>" := (name_of_methodNamed B.named B.method).1
  subst hsz
  have hD := hD0.self (sz := s.heap.size)
  generalize hAe : va_A [(h, .inr (5, [.null, .null, .null, .null, .null, .null, .int 0]))] s.heap.size = A at hD ⊢
  have hAz : ∀ q : Nat, s.heap.size ≤ q → A q := fun q h => by rw [← hAe]; exact Or.inr h
  have hS : va_S A s.heap s.heap [] := va_S.rf
  have hP : va_P (dC, dI) vwCl [(h, .inr (5, [.null, .null, .null, .null, .null, .null, .int 0]))] s.heap := hP
  have hl := lv_entry ([.ref h, .ref p1, .ref p2, .ref p3]) (n := 4) (Nat.le_of_ble_eq_true rfl)
  rw [lg_entry_eq]
  generalize (lg_sl ([.ref h, .ref p1, .ref p2, .ref p3]) ++ List.replicate (4 - (lg_sl ([.ref h, .ref p1, .ref p2, .ref p3])).length) Slot.unset).toArray = ls at hl ⊢
  have hl : lv_has ls 4 [(0, .ref h), (1, .ref p1), (2, .ref p2), (3, .ref p3)] := hl
  refine lv_aload_n hx hb dX7_init_0 rfl (lv_at hl 0 rfl) ?_
  refine W.objInit hx hb hown (hta _ mw_161) (hta _ mw_56) (hta _ mw_57) rfl (by rw [hml]; exact hl.1) rfl dX7_init_1 (Nat.le_of_ble_eq_true rfl) (Nat.le_of_ble_eq_true rfl) ?_
  refine W.eq (g2 := F0 m 4 ls []) rfl ?_
  refine lv_aload_n hx hb dX7_init_4 rfl (lv_at hl 0 rfl) ?_
  refine lv_aload_n hx hb dX7_init_5 rfl (lv_at hl 1 rfl) ?_
  refine va_putF (D := (dC, dI)) (ci := 5) (v := .ref p1) (ty := .object "PathSolver$Terms") (C := RX7) (T := TX7) (N := 7) hx hb hta inX7 tyX7 tyX7_ok nmX7 hown hK hP hD hS 0 rfl rfl 0 (by decide) (hta _ mw_162) (fun _ h9 => h9) rfl hin rfl (by decide +kernel) rfl rfl (Nat.le_of_ble_eq_true rfl) dX7_init_6 (fun H locs hP hD hS => ?_)
  have hP : va_P (dC, dI) vwCl [(h, .inr (5, [.ref p1, .null, .null, .null, .null, .null, .int 0]))] H := hP
  have hD : va_D A [(h, .inr (5, [.ref p1, .null, .null, .null, .null, .null, .int 0]))] := hD
  refine lv_aload_n hx hb dX7_init_9 rfl (lv_at hl 0 rfl) ?_
  refine lv_aload_n hx hb dX7_init_10 rfl (lv_at hl 2 rfl) ?_
  refine va_putF (D := (dC, dI)) (ci := 5) (v := .ref p2) (ty := .object "PathSolver$Variables") (C := RX7) (T := TX7) (N := 7) hx hb hta inX7 tyX7 tyX7_ok nmX7 hown hK hP hD hS 0 rfl rfl 1 (by decide) (hta _ mw_163) (fun _ h9 => h9) rfl hin rfl (by decide +kernel) rfl rfl (Nat.le_of_ble_eq_true rfl) dX7_init_11 (fun H locs hP hD hS => ?_)
  have hP : va_P (dC, dI) vwCl [(h, .inr (5, [.ref p1, .ref p2, .null, .null, .null, .null, .int 0]))] H := hP
  have hD : va_D A [(h, .inr (5, [.ref p1, .ref p2, .null, .null, .null, .null, .int 0]))] := hD
  refine lv_aload_n hx hb dX7_init_14 rfl (lv_at hl 0 rfl) ?_
  refine lv_aload_n hx hb dX7_init_15 rfl (lv_at hl 3 rfl) ?_
  refine va_putF (D := (dC, dI)) (ci := 5) (v := .ref p3) (ty := .object "PathSolver$Evaluator") (C := RX7) (T := TX7) (N := 7) hx hb hta inX7 tyX7 tyX7_ok nmX7 hown hK hP hD hS 0 rfl rfl 2 (by decide) (hta _ mw_164) (fun _ h9 => h9) rfl hin rfl (by decide +kernel) rfl rfl (Nat.le_of_ble_eq_true rfl) dX7_init_16 (fun H locs hP hD hS => ?_)
  have hP : va_P (dC, dI) vwCl [(h, .inr (5, [.ref p1, .ref p2, .ref p3, .null, .null, .null, .int 0]))] H := hP
  have hD : va_D A [(h, .inr (5, [.ref p1, .ref p2, .ref p3, .null, .null, .null, .int 0]))] := hD
  refine lv_aload_n hx hb dX7_init_19 rfl (lv_at hl 0 rfl) ?_
  refine lv_sipush (v := (1024 : Int32)) hx hb dX7_init_20 (by decide) ?_
  refine va_newa (atype := .long) (ty := .long) (N' := 1024) (a0 := (1024, .inr (.inl (fun _ => 0)))) hx hb (hta _ mw_92) rfl hK hP hD hS hAz (fun cA => rfl) (by decide) rfl (by decide) (Nat.le_of_ble_eq_true rfl) (Nat.le_of_ble_eq_true rfl) dX7_init_23 (fun q1 c1 H hK hP hD hS => ?_)
  have hP : va_P (dC, dI) vwCl [(h, .inr (5, [.ref p1, .ref p2, .ref p3, .null, .null, .null, .int 0])), (q1, .inl (c1, 1024, .inr (.inl (fun _ => 0))))] H := hP
  have hD : va_D A [(h, .inr (5, [.ref p1, .ref p2, .ref p3, .null, .null, .null, .int 0])), (q1, .inl (c1, 1024, .inr (.inl (fun _ => 0))))] := hD
  have hK : va_K (dC, dI) vwCl [(c1, .long)] s := hK
  refine W.widen (k := 1) (n := 1024) (by omega) (by omega) ?_
  refine va_putF (D := (dC, dI)) (ci := 5) (v := .ref q1) (ty := .array .long) (C := RX7) (T := TX7) (N := 7) hx hb hta inX7 tyX7 tyX7_ok nmX7 hown hK hP hD hS 0 rfl rfl 3 (by decide) (hta _ mw_165) (fun _ h9 => h9) rfl hin rfl (by decide +kernel) rfl rfl (Nat.le_of_ble_eq_true rfl) dX7_init_25 (fun H locs hP hD hS => ?_)
  have hP : va_P (dC, dI) vwCl [(h, .inr (5, [.ref p1, .ref p2, .ref p3, .ref q1, .null, .null, .int 0])), (q1, .inl (c1, 1024, .inr (.inl (fun _ => 0))))] H := hP
  have hD : va_D A [(h, .inr (5, [.ref p1, .ref p2, .ref p3, .ref q1, .null, .null, .int 0])), (q1, .inl (c1, 1024, .inr (.inl (fun _ => 0))))] := hD
  refine lv_aload_n hx hb dX7_init_28 rfl (lv_at hl 0 rfl) ?_
  refine lv_bipush (v := (64 : Int32)) hx hb dX7_init_29 (by decide) ?_
  refine va_newa (atype := .boolean) (ty := .boolean) (N' := 64) (a0 := (64, .inl (fun _ => 0))) hx hb (hta _ mw_81) rfl hK hP hD hS hAz (fun cA => rfl) (by decide) rfl (by decide) (Nat.le_of_ble_eq_true rfl) (Nat.le_of_ble_eq_true rfl) dX7_init_31 (fun q2 c2 H hK hP hD hS => ?_)
  have hP : va_P (dC, dI) vwCl [(h, .inr (5, [.ref p1, .ref p2, .ref p3, .ref q1, .null, .null, .int 0])), (q1, .inl (c1, 1024, .inr (.inl (fun _ => 0)))), (q2, .inl (c2, 64, .inl (fun _ => 0)))] H := hP
  have hD : va_D A [(h, .inr (5, [.ref p1, .ref p2, .ref p3, .ref q1, .null, .null, .int 0])), (q1, .inl (c1, 1024, .inr (.inl (fun _ => 0)))), (q2, .inl (c2, 64, .inl (fun _ => 0)))] := hD
  have hK : va_K (dC, dI) vwCl [(c1, .long), (c2, .boolean)] s := hK
  refine W.widen (k := 2) (n := 1088) (by omega) (by omega) ?_
  refine va_putF (D := (dC, dI)) (ci := 5) (v := .ref q2) (ty := .array .boolean) (C := RX7) (T := TX7) (N := 7) hx hb hta inX7 tyX7 tyX7_ok nmX7 hown hK hP hD hS 0 rfl rfl 4 (by decide) (hta _ mw_166) (fun _ h9 => h9) rfl hin rfl (by decide +kernel) rfl rfl (Nat.le_of_ble_eq_true rfl) dX7_init_33 (fun H locs hP hD hS => ?_)
  have hP : va_P (dC, dI) vwCl [(h, .inr (5, [.ref p1, .ref p2, .ref p3, .ref q1, .ref q2, .null, .int 0])), (q1, .inl (c1, 1024, .inr (.inl (fun _ => 0)))), (q2, .inl (c2, 64, .inl (fun _ => 0)))] H := hP
  have hD : va_D A [(h, .inr (5, [.ref p1, .ref p2, .ref p3, .ref q1, .ref q2, .null, .int 0])), (q1, .inl (c1, 1024, .inr (.inl (fun _ => 0)))), (q2, .inl (c2, 64, .inl (fun _ => 0)))] := hD
  refine lv_aload_n hx hb dX7_init_36 rfl (lv_at hl 0 rfl) ?_
  refine lv_bipush (v := (64 : Int32)) hx hb dX7_init_37 (by decide) ?_
  refine va_newa (atype := .int) (ty := .int) (N' := 64) (a0 := (64, .inl (fun _ => 0))) hx hb (hta _ mw_80) rfl hK hP hD hS hAz (fun cA => rfl) (by decide) rfl (by decide) (Nat.le_of_ble_eq_true rfl) (Nat.le_of_ble_eq_true rfl) dX7_init_39 (fun q3 c3 H hK hP hD hS => ?_)
  have hP : va_P (dC, dI) vwCl [(h, .inr (5, [.ref p1, .ref p2, .ref p3, .ref q1, .ref q2, .null, .int 0])), (q1, .inl (c1, 1024, .inr (.inl (fun _ => 0)))), (q2, .inl (c2, 64, .inl (fun _ => 0))), (q3, .inl (c3, 64, .inl (fun _ => 0)))] H := hP
  have hD : va_D A [(h, .inr (5, [.ref p1, .ref p2, .ref p3, .ref q1, .ref q2, .null, .int 0])), (q1, .inl (c1, 1024, .inr (.inl (fun _ => 0)))), (q2, .inl (c2, 64, .inl (fun _ => 0))), (q3, .inl (c3, 64, .inl (fun _ => 0)))] := hD
  have hK : va_K (dC, dI) vwCl [(c1, .long), (c2, .boolean), (c3, .int)] s := hK
  refine W.widen (k := 3) (n := 1152) (by omega) (by omega) ?_
  refine va_putF (D := (dC, dI)) (ci := 5) (v := .ref q3) (ty := .array .int) (C := RX7) (T := TX7) (N := 7) hx hb hta inX7 tyX7 tyX7_ok nmX7 hown hK hP hD hS 0 rfl rfl 5 (by decide) (hta _ mw_167) (fun _ h9 => h9) rfl hin rfl (by decide +kernel) rfl rfl (Nat.le_of_ble_eq_true rfl) dX7_init_41 (fun H locs hP hD hS => ?_)
  have hP : va_P (dC, dI) vwCl [(h, .inr (5, [.ref p1, .ref p2, .ref p3, .ref q1, .ref q2, .ref q3, .int 0])), (q1, .inl (c1, 1024, .inr (.inl (fun _ => 0)))), (q2, .inl (c2, 64, .inl (fun _ => 0))), (q3, .inl (c3, 64, .inl (fun _ => 0)))] H := hP
  have hD : va_D A [(h, .inr (5, [.ref p1, .ref p2, .ref p3, .ref q1, .ref q2, .ref q3, .int 0])), (q1, .inl (c1, 1024, .inr (.inl (fun _ => 0)))), (q2, .inl (c2, 64, .inl (fun _ => 0))), (q3, .inl (c3, 64, .inl (fun _ => 0)))] := hD
  refine lv_aload_n hx hb dX7_init_44 rfl (lv_at hl 0 rfl) ?_
  refine lv_iconst (v := (0 : Int32)) hx hb dX7_init_45 (by decide) ?_
  refine va_put (D := (dC, dI)) (ci := 5) (v := .int (0 : Int32)) (ty := .int) (C := RX7) (T := TX7) (N := 7) hx hb hta inX7 tyX7 tyX7_ok nmX7 hown hK hP hD hS 0 rfl rfl 6 (by decide) (hta _ mw_168) (fun _ h9 => h9) rfl (by decide +kernel) rfl rfl (Nat.le_of_ble_eq_true rfl) dX7_init_46 (fun H locs hP hD hS => ?_)
  have hP : va_P (dC, dI) vwCl [(h, .inr (5, [.ref p1, .ref p2, .ref p3, .ref q1, .ref q2, .ref q3, .int (0 : Int32)])), (q1, .inl (c1, 1024, .inr (.inl (fun _ => 0)))), (q2, .inl (c2, 64, .inl (fun _ => 0))), (q3, .inl (c3, 64, .inl (fun _ => 0)))] H := hP
  have hD : va_D A [(h, .inr (5, [.ref p1, .ref p2, .ref p3, .ref q1, .ref q2, .ref q3, .int (0 : Int32)])), (q1, .inl (c1, 1024, .inr (.inl (fun _ => 0)))), (q2, .inl (c2, 64, .inl (fun _ => 0))), (q3, .inl (c3, 64, .inl (fun _ => 0)))] := hD
  have hP9 := hP.sub (ws' := [(h, .inr (5, [.ref p1, .ref p2, .ref p3, .ref q1, .ref q2, .ref q3, .int (0 : Int32)])), (q1, .inl (c1, 1024, .inr (.inl (fun _ => 0)))), (q2, .inl (c2, 64, .inl (fun _ => 0))), (q3, .inl (c3, 64, .inl (fun _ => 0)))]) [0, 1, 2, 3] rfl
  have hD9 := hD.sub (ws' := [(h, .inr (5, [.ref p1, .ref p2, .ref p3, .ref q1, .ref q2, .ref q3, .int (0 : Int32)])), (q1, .inl (c1, 1024, .inr (.inl (fun _ => 0)))), (q2, .inl (c2, 64, .inl (fun _ => 0))), (q3, .inl (c3, 64, .inl (fun _ => 0)))]) [0, 1, 2, 3] (by decide) rfl
  have hK9 := hK.sub (tys' := [(c1, .long), (c2, .boolean), (c3, .int)]) [0, 1, 2] rfl
  exact W.vret hx hb hr (fun t ht hW => ⟨⟨(), rfl, trivial, q1, q2, q3, c1, c2, c3, by rw [ht]; exact hP9, va_K.moved hW.alike hK9, hD9⟩, hS.F ht⟩) hS.2.2 dX7_init_49

theorem mw_189 : (.methodLink RX8 3 objectInit : Cond) ∈ AW := List.mem_filter.mpr ⟨List.mem_of_getElem? (i := 189) (by decide +kernel), rfl⟩
theorem dX8_init_0 : decode cX8_init 0 = .ok (.aload_n 0, 1) := by decide +kernel
theorem dX8_init_1 : decode cX8_init 1 = .ok (.invokespecial 3, 3) := by decide +kernel
theorem dX8_init_4 : decode cX8_init 4 = .ok (.aload_n 0, 1) := by decide +kernel
theorem dX8_init_5 : decode cX8_init 5 = .ok (.aload_n 1, 1) := by decide +kernel
theorem dX8_init_6 : decode cX8_init 6 = .ok (.putfield 9, 3) := by decide +kernel
theorem dX8_init_9 : decode cX8_init 9 = .ok (.aload_n 0, 1) := by decide +kernel
theorem dX8_init_10 : decode cX8_init 10 = .ok (.bipush 16, 2) := by decide +kernel
theorem dX8_init_12 : decode cX8_init 12 = .ok (.newarray .int, 2) := by decide +kernel
theorem dX8_init_14 : decode cX8_init 14 = .ok (.putfield 15, 3) := by decide +kernel
theorem dX8_init_17 : decode cX8_init 17 = .ok (.aload_n 0, 1) := by decide +kernel
theorem dX8_init_18 : decode cX8_init 18 = .ok (.iconst 0, 1) := by decide +kernel
theorem dX8_init_19 : decode cX8_init 19 = .ok (.putfield 19, 3) := by decide +kernel
theorem dX8_init_22 : decode cX8_init 22 = .ok (.return_, 1) := by decide +kernel
set_option maxHeartbeats 4000000 in
set_option maxRecDepth 100000 in
theorem kc_Path (l : Launch) (dC : Nat → ClassId) (dI : Nat → Nat → Nat) (h sz p1 : Nat) : Met l yX8_init wsX8_init ({ frames := 1, cells := 1, slots := 16, locals := 20 }) (va_Pc [.ref h, .ref p1] (fun U => U.heap.size = sz ∧ va_P (dC, dI) vwCl [(h, .inr (6, [.null, .null, .int 0]))] U.heap ∧ va_K (dC, dI) vwCl [] U ∧ va_D (fun _ => True) [(h, .inr (6, [.null, .null, .int 0]))])) (va_Qv (fun _ : Unit => True) (fun _ t => ∃ (q1 : Nat) (c1 : ClassId), va_P (dC, dI) vwCl [(h, .inr (6, [.ref p1, .ref q1, .int (0 : Int32)])), (q1, .inl (c1, 16, .inl (fun _ => 0)))] t.heap ∧ va_K (dC, dI) vwCl [(c1, .int)] t ∧ va_D (va_A [(h, .inr (6, [.null, .null, .int 0]))] sz) [(h, .inr (6, [.ref p1, .ref q1, .int (0 : Int32)])), (q1, .inl (c1, 16, .inl (fun _ => 0)))]) (va_A [(h, .inr (6, [.null, .null, .int 0]))] sz)) 1 16 (va_A [(h, .inr (6, [.null, .null, .int 0]))] sz) := by
  refine Met.ofW (cc := cX8_init) (maxL := 2) (ret := none) (by decide) rfl ?_
  intro p e s m args below meth c s₁ B hml hv
  obtain ⟨rfl, hsz, hP, hK, hD0⟩ := hv
  have hx := B.exec
  have hb := B.bytes
  have hr := B.returns
  have hta := aw_hts (atoms_spec (ws := wsX8_init) B.pre)
  have hown : s.vm.findClass RX8 = some m.cls := findClass_of_methodNamed B.named
  have hlocks := B.notSynchronized
  have hin : meth.name = "<init>" := (name_of_methodNamed B.named B.method).1
  subst hsz
  have hD := hD0.self (sz := s.heap.size)
  generalize hAe : va_A [(h, .inr (6, [.null, .null, .int 0]))] s.heap.size = A at hD ⊢
  have hAz : ∀ q : Nat, s.heap.size ≤ q → A q := fun q h => by rw [← hAe]; exact Or.inr h
  have hS : va_S A s.heap s.heap [] := va_S.rf
  have hP : va_P (dC, dI) vwCl [(h, .inr (6, [.null, .null, .int 0]))] s.heap := hP
  have hl := lv_entry ([.ref h, .ref p1]) (n := 2) (Nat.le_of_ble_eq_true rfl)
  rw [lg_entry_eq]
  generalize (lg_sl ([.ref h, .ref p1]) ++ List.replicate (2 - (lg_sl ([.ref h, .ref p1])).length) Slot.unset).toArray = ls at hl ⊢
  have hl : lv_has ls 2 [(0, .ref h), (1, .ref p1)] := hl
  refine lv_aload_n hx hb dX8_init_0 rfl (lv_at hl 0 rfl) ?_
  refine W.objInit hx hb hown (hta _ mw_189) (hta _ mw_56) (hta _ mw_57) rfl (by rw [hml]; exact hl.1) rfl dX8_init_1 (Nat.le_of_ble_eq_true rfl) (Nat.le_of_ble_eq_true rfl) ?_
  refine W.eq (g2 := F0 m 4 ls []) rfl ?_
  refine lv_aload_n hx hb dX8_init_4 rfl (lv_at hl 0 rfl) ?_
  refine lv_aload_n hx hb dX8_init_5 rfl (lv_at hl 1 rfl) ?_
  refine va_putF (D := (dC, dI)) (ci := 6) (v := .ref p1) (ty := .object "PathSolver$TruthRows") (C := RX8) (T := TX8) (N := 3) hx hb hta inX8 tyX8 tyX8_ok nmX8 hown hK hP hD hS 0 rfl rfl 0 (by decide) (hta _ mw_190) (fun _ h9 => h9) rfl hin rfl (by decide +kernel) rfl rfl (Nat.le_of_ble_eq_true rfl) dX8_init_6 (fun H locs hP hD hS => ?_)
  have hP : va_P (dC, dI) vwCl [(h, .inr (6, [.ref p1, .null, .int 0]))] H := hP
  have hD : va_D A [(h, .inr (6, [.ref p1, .null, .int 0]))] := hD
  refine lv_aload_n hx hb dX8_init_9 rfl (lv_at hl 0 rfl) ?_
  refine lv_bipush (v := (16 : Int32)) hx hb dX8_init_10 (by decide) ?_
  refine va_newa (atype := .int) (ty := .int) (N' := 16) (a0 := (16, .inl (fun _ => 0))) hx hb (hta _ mw_80) rfl hK hP hD hS hAz (fun cA => rfl) (by decide) rfl (by decide) (Nat.le_of_ble_eq_true rfl) (Nat.le_of_ble_eq_true rfl) dX8_init_12 (fun q1 c1 H hK hP hD hS => ?_)
  have hP : va_P (dC, dI) vwCl [(h, .inr (6, [.ref p1, .null, .int 0])), (q1, .inl (c1, 16, .inl (fun _ => 0)))] H := hP
  have hD : va_D A [(h, .inr (6, [.ref p1, .null, .int 0])), (q1, .inl (c1, 16, .inl (fun _ => 0)))] := hD
  have hK : va_K (dC, dI) vwCl [(c1, .int)] s := hK
  refine W.widen (k := 1) (n := 16) (by omega) (by omega) ?_
  refine va_putF (D := (dC, dI)) (ci := 6) (v := .ref q1) (ty := .array .int) (C := RX8) (T := TX8) (N := 3) hx hb hta inX8 tyX8 tyX8_ok nmX8 hown hK hP hD hS 0 rfl rfl 1 (by decide) (hta _ mw_191) (fun _ h9 => h9) rfl hin rfl (by decide +kernel) rfl rfl (Nat.le_of_ble_eq_true rfl) dX8_init_14 (fun H locs hP hD hS => ?_)
  have hP : va_P (dC, dI) vwCl [(h, .inr (6, [.ref p1, .ref q1, .int 0])), (q1, .inl (c1, 16, .inl (fun _ => 0)))] H := hP
  have hD : va_D A [(h, .inr (6, [.ref p1, .ref q1, .int 0])), (q1, .inl (c1, 16, .inl (fun _ => 0)))] := hD
  refine lv_aload_n hx hb dX8_init_17 rfl (lv_at hl 0 rfl) ?_
  refine lv_iconst (v := (0 : Int32)) hx hb dX8_init_18 (by decide) ?_
  refine va_put (D := (dC, dI)) (ci := 6) (v := .int (0 : Int32)) (ty := .int) (C := RX8) (T := TX8) (N := 3) hx hb hta inX8 tyX8 tyX8_ok nmX8 hown hK hP hD hS 0 rfl rfl 2 (by decide) (hta _ mw_192) (fun _ h9 => h9) rfl (by decide +kernel) rfl rfl (Nat.le_of_ble_eq_true rfl) dX8_init_19 (fun H locs hP hD hS => ?_)
  have hP : va_P (dC, dI) vwCl [(h, .inr (6, [.ref p1, .ref q1, .int (0 : Int32)])), (q1, .inl (c1, 16, .inl (fun _ => 0)))] H := hP
  have hD : va_D A [(h, .inr (6, [.ref p1, .ref q1, .int (0 : Int32)])), (q1, .inl (c1, 16, .inl (fun _ => 0)))] := hD
  have hP9 := hP.sub (ws' := [(h, .inr (6, [.ref p1, .ref q1, .int (0 : Int32)])), (q1, .inl (c1, 16, .inl (fun _ => 0)))]) [0, 1] rfl
  have hD9 := hD.sub (ws' := [(h, .inr (6, [.ref p1, .ref q1, .int (0 : Int32)])), (q1, .inl (c1, 16, .inl (fun _ => 0)))]) [0, 1] (by decide) rfl
  have hK9 := hK.sub (tys' := [(c1, .int)]) [0] rfl
  exact W.vret hx hb hr (fun t ht hW => ⟨⟨(), rfl, trivial, q1, c1, by rw [ht]; exact hP9, va_K.moved hW.alike hK9, hD9⟩, hS.F ht⟩) hS.2.2 dX8_init_22

theorem mw_632 : (.methodLink RX10 1 objectInit : Cond) ∈ AW := List.mem_filter.mpr ⟨List.mem_of_getElem? (i := 632) (by decide +kernel), rfl⟩
theorem dX10_init_0 : decode cX10_init 0 = .ok (.aload_n 0, 1) := by decide +kernel
theorem dX10_init_1 : decode cX10_init 1 = .ok (.invokespecial 1, 3) := by decide +kernel
theorem dX10_init_4 : decode cX10_init 4 = .ok (.aload_n 0, 1) := by decide +kernel
theorem dX10_init_5 : decode cX10_init 5 = .ok (.iconst 0, 1) := by decide +kernel
theorem dX10_init_6 : decode cX10_init 6 = .ok (.putfield 7, 3) := by decide +kernel
theorem dX10_init_9 : decode cX10_init 9 = .ok (.aload_n 0, 1) := by decide +kernel
theorem dX10_init_10 : decode cX10_init 10 = .ok (.iconst 0, 1) := by decide +kernel
theorem dX10_init_11 : decode cX10_init 11 = .ok (.putfield 13, 3) := by decide +kernel
theorem dX10_init_14 : decode cX10_init 14 = .ok (.aload_n 0, 1) := by decide +kernel
theorem dX10_init_15 : decode cX10_init 15 = .ok (.iconst 0, 1) := by decide +kernel
theorem dX10_init_16 : decode cX10_init 16 = .ok (.putfield 16, 3) := by decide +kernel
theorem dX10_init_19 : decode cX10_init 19 = .ok (.aload_n 0, 1) := by decide +kernel
theorem dX10_init_20 : decode cX10_init 20 = .ok (.iconst 0, 1) := by decide +kernel
theorem dX10_init_21 : decode cX10_init 21 = .ok (.putfield 19, 3) := by decide +kernel
theorem dX10_init_24 : decode cX10_init 24 = .ok (.aload_n 0, 1) := by decide +kernel
theorem dX10_init_25 : decode cX10_init 25 = .ok (.iconst 0, 1) := by decide +kernel
theorem dX10_init_26 : decode cX10_init 26 = .ok (.putfield 22, 3) := by decide +kernel
theorem dX10_init_29 : decode cX10_init 29 = .ok (.aload_n 0, 1) := by decide +kernel
theorem dX10_init_30 : decode cX10_init 30 = .ok (.iconst 0, 1) := by decide +kernel
theorem dX10_init_31 : decode cX10_init 31 = .ok (.putfield 25, 3) := by decide +kernel
theorem dX10_init_34 : decode cX10_init 34 = .ok (.aload_n 0, 1) := by decide +kernel
theorem dX10_init_35 : decode cX10_init 35 = .ok (.iconst (-1), 1) := by decide +kernel
theorem dX10_init_36 : decode cX10_init 36 = .ok (.putfield 28, 3) := by decide +kernel
theorem dX10_init_39 : decode cX10_init 39 = .ok (.aload_n 0, 1) := by decide +kernel
theorem dX10_init_40 : decode cX10_init 40 = .ok (.bipush 64, 2) := by decide +kernel
theorem dX10_init_42 : decode cX10_init 42 = .ok (.newarray .int, 2) := by decide +kernel
theorem dX10_init_44 : decode cX10_init 44 = .ok (.putfield 31, 3) := by decide +kernel
theorem dX10_init_47 : decode cX10_init 47 = .ok (.aload_n 0, 1) := by decide +kernel
theorem dX10_init_48 : decode cX10_init 48 = .ok (.bipush 64, 2) := by decide +kernel
theorem dX10_init_50 : decode cX10_init 50 = .ok (.newarray .int, 2) := by decide +kernel
theorem dX10_init_52 : decode cX10_init 52 = .ok (.putfield 35, 3) := by decide +kernel
theorem dX10_init_55 : decode cX10_init 55 = .ok (.aload_n 0, 1) := by decide +kernel
theorem dX10_init_56 : decode cX10_init 56 = .ok (.bipush 64, 2) := by decide +kernel
theorem dX10_init_58 : decode cX10_init 58 = .ok (.newarray .int, 2) := by decide +kernel
theorem dX10_init_60 : decode cX10_init 60 = .ok (.putfield 38, 3) := by decide +kernel
theorem dX10_init_63 : decode cX10_init 63 = .ok (.aload_n 0, 1) := by decide +kernel
theorem dX10_init_64 : decode cX10_init 64 = .ok (.bipush 64, 2) := by decide +kernel
theorem dX10_init_66 : decode cX10_init 66 = .ok (.newarray .int, 2) := by decide +kernel
theorem dX10_init_68 : decode cX10_init 68 = .ok (.putfield 41, 3) := by decide +kernel
theorem dX10_init_71 : decode cX10_init 71 = .ok (.aload_n 0, 1) := by decide +kernel
theorem dX10_init_72 : decode cX10_init 72 = .ok (.bipush 64, 2) := by decide +kernel
theorem dX10_init_74 : decode cX10_init 74 = .ok (.newarray .int, 2) := by decide +kernel
theorem dX10_init_76 : decode cX10_init 76 = .ok (.putfield 44, 3) := by decide +kernel
theorem dX10_init_79 : decode cX10_init 79 = .ok (.aload_n 0, 1) := by decide +kernel
theorem dX10_init_80 : decode cX10_init 80 = .ok (.bipush 64, 2) := by decide +kernel
theorem dX10_init_82 : decode cX10_init 82 = .ok (.newarray .long, 2) := by decide +kernel
theorem dX10_init_84 : decode cX10_init 84 = .ok (.putfield 47, 3) := by decide +kernel
theorem dX10_init_87 : decode cX10_init 87 = .ok (.aload_n 0, 1) := by decide +kernel
theorem dX10_init_88 : decode cX10_init 88 = .ok (.bipush 64, 2) := by decide +kernel
theorem dX10_init_90 : decode cX10_init 90 = .ok (.newarray .long, 2) := by decide +kernel
theorem dX10_init_92 : decode cX10_init 92 = .ok (.putfield 51, 3) := by decide +kernel
theorem dX10_init_95 : decode cX10_init 95 = .ok (.aload_n 0, 1) := by decide +kernel
theorem dX10_init_96 : decode cX10_init 96 = .ok (.iconst 4, 1) := by decide +kernel
theorem dX10_init_97 : decode cX10_init 97 = .ok (.newarray .int, 2) := by decide +kernel
theorem dX10_init_99 : decode cX10_init 99 = .ok (.putfield 54, 3) := by decide +kernel
theorem dX10_init_102 : decode cX10_init 102 = .ok (.aload_n 0, 1) := by decide +kernel
theorem dX10_init_103 : decode cX10_init 103 = .ok (.iconst 4, 1) := by decide +kernel
theorem dX10_init_104 : decode cX10_init 104 = .ok (.newarray .int, 2) := by decide +kernel
theorem dX10_init_106 : decode cX10_init 106 = .ok (.putfield 57, 3) := by decide +kernel
theorem dX10_init_109 : decode cX10_init 109 = .ok (.aload_n 0, 1) := by decide +kernel
theorem dX10_init_110 : decode cX10_init 110 = .ok (.iconst 4, 1) := by decide +kernel
theorem dX10_init_111 : decode cX10_init 111 = .ok (.newarray .int, 2) := by decide +kernel
theorem dX10_init_113 : decode cX10_init 113 = .ok (.putfield 60, 3) := by decide +kernel
theorem dX10_init_116 : decode cX10_init 116 = .ok (.aload_n 0, 1) := by decide +kernel
theorem dX10_init_117 : decode cX10_init 117 = .ok (.iconst 4, 1) := by decide +kernel
theorem dX10_init_118 : decode cX10_init 118 = .ok (.newarray .int, 2) := by decide +kernel
theorem dX10_init_120 : decode cX10_init 120 = .ok (.putfield 63, 3) := by decide +kernel
theorem dX10_init_123 : decode cX10_init 123 = .ok (.aload_n 0, 1) := by decide +kernel
theorem dX10_init_124 : decode cX10_init 124 = .ok (.iconst 4, 1) := by decide +kernel
theorem dX10_init_125 : decode cX10_init 125 = .ok (.newarray .boolean, 2) := by decide +kernel
theorem dX10_init_127 : decode cX10_init 127 = .ok (.putfield 66, 3) := by decide +kernel
theorem dX10_init_130 : decode cX10_init 130 = .ok (.aload_n 0, 1) := by decide +kernel
theorem dX10_init_131 : decode cX10_init 131 = .ok (.bipush 16, 2) := by decide +kernel
theorem dX10_init_133 : decode cX10_init 133 = .ok (.newarray .int, 2) := by decide +kernel
theorem dX10_init_135 : decode cX10_init 135 = .ok (.putfield 70, 3) := by decide +kernel
theorem dX10_init_138 : decode cX10_init 138 = .ok (.aload_n 0, 1) := by decide +kernel
theorem dX10_init_139 : decode cX10_init 139 = .ok (.bipush 16, 2) := by decide +kernel
theorem dX10_init_141 : decode cX10_init 141 = .ok (.newarray .int, 2) := by decide +kernel
theorem dX10_init_143 : decode cX10_init 143 = .ok (.putfield 73, 3) := by decide +kernel
theorem dX10_init_146 : decode cX10_init 146 = .ok (.return_, 1) := by decide +kernel
set_option maxHeartbeats 4000000 in
set_option maxRecDepth 100000 in
theorem kc_Mod (l : Launch) (dC : Nat → ClassId) (dI : Nat → Nat → Nat) (h sz : Nat) : Met l yX10_init wsX10_init ({ frames := 1, cells := 14, slots := 500, locals := 20 }) (va_Pc [.ref h] (fun U => U.heap.size = sz ∧ va_P (dC, dI) vwCl [(h, .inr (8, [.int 0, .int 0, .int 0, .int 0, .int 0, .int 0, .int 0, .null, .null, .null, .null, .null, .null, .null, .null, .null, .null, .null, .null, .null, .null]))] U.heap ∧ va_K (dC, dI) vwCl [] U ∧ va_D (fun _ => True) [(h, .inr (8, [.int 0, .int 0, .int 0, .int 0, .int 0, .int 0, .int 0, .null, .null, .null, .null, .null, .null, .null, .null, .null, .null, .null, .null, .null, .null]))])) (va_Qv (fun _ : Unit => True) (fun _ t => ∃ (q1 q2 q3 q4 q5 q6 q7 q8 q9 q10 q11 q12 q13 q14 : Nat) (c1 c2 c3 c4 c5 c6 c7 c8 c9 c10 c11 c12 c13 c14 : ClassId), va_P (dC, dI) vwCl [(h, .inr (8, [.int (0 : Int32), .int (0 : Int32), .int (0 : Int32), .int (0 : Int32), .int (0 : Int32), .int (0 : Int32), .int (-1 : Int32), .ref q1, .ref q2, .ref q3, .ref q4, .ref q5, .ref q6, .ref q7, .ref q8, .ref q9, .ref q10, .ref q11, .ref q12, .ref q13, .ref q14])), (q1, .inl (c1, 64, .inl (fun _ => 0))), (q2, .inl (c2, 64, .inl (fun _ => 0))), (q3, .inl (c3, 64, .inl (fun _ => 0))), (q4, .inl (c4, 64, .inl (fun _ => 0))), (q5, .inl (c5, 64, .inl (fun _ => 0))), (q6, .inl (c6, 64, .inr (.inl (fun _ => 0)))), (q7, .inl (c7, 64, .inr (.inl (fun _ => 0)))), (q8, .inl (c8, 4, .inl (fun _ => 0))), (q9, .inl (c9, 4, .inl (fun _ => 0))), (q10, .inl (c10, 4, .inl (fun _ => 0))), (q11, .inl (c11, 4, .inl (fun _ => 0))), (q12, .inl (c12, 4, .inl (fun _ => 0))), (q13, .inl (c13, 16, .inl (fun _ => 0))), (q14, .inl (c14, 16, .inl (fun _ => 0)))] t.heap ∧ va_K (dC, dI) vwCl [(c1, .int), (c2, .int), (c3, .int), (c4, .int), (c5, .int), (c6, .long), (c7, .long), (c8, .int), (c9, .int), (c10, .int), (c11, .int), (c12, .boolean), (c13, .int), (c14, .int)] t ∧ va_D (va_A [(h, .inr (8, [.int 0, .int 0, .int 0, .int 0, .int 0, .int 0, .int 0, .null, .null, .null, .null, .null, .null, .null, .null, .null, .null, .null, .null, .null, .null]))] sz) [(h, .inr (8, [.int (0 : Int32), .int (0 : Int32), .int (0 : Int32), .int (0 : Int32), .int (0 : Int32), .int (0 : Int32), .int (-1 : Int32), .ref q1, .ref q2, .ref q3, .ref q4, .ref q5, .ref q6, .ref q7, .ref q8, .ref q9, .ref q10, .ref q11, .ref q12, .ref q13, .ref q14])), (q1, .inl (c1, 64, .inl (fun _ => 0))), (q2, .inl (c2, 64, .inl (fun _ => 0))), (q3, .inl (c3, 64, .inl (fun _ => 0))), (q4, .inl (c4, 64, .inl (fun _ => 0))), (q5, .inl (c5, 64, .inl (fun _ => 0))), (q6, .inl (c6, 64, .inr (.inl (fun _ => 0)))), (q7, .inl (c7, 64, .inr (.inl (fun _ => 0)))), (q8, .inl (c8, 4, .inl (fun _ => 0))), (q9, .inl (c9, 4, .inl (fun _ => 0))), (q10, .inl (c10, 4, .inl (fun _ => 0))), (q11, .inl (c11, 4, .inl (fun _ => 0))), (q12, .inl (c12, 4, .inl (fun _ => 0))), (q13, .inl (c13, 16, .inl (fun _ => 0))), (q14, .inl (c14, 16, .inl (fun _ => 0)))]) (va_A [(h, .inr (8, [.int 0, .int 0, .int 0, .int 0, .int 0, .int 0, .int 0, .null, .null, .null, .null, .null, .null, .null, .null, .null, .null, .null, .null, .null, .null]))] sz)) 14 500 (va_A [(h, .inr (8, [.int 0, .int 0, .int 0, .int 0, .int 0, .int 0, .int 0, .null, .null, .null, .null, .null, .null, .null, .null, .null, .null, .null, .null, .null, .null]))] sz) := by
  refine Met.ofW (cc := cX10_init) (maxL := 1) (ret := none) (by decide) rfl ?_
  intro p e s m args below meth c s₁ B hml hv
  obtain ⟨rfl, hsz, hP, hK, hD0⟩ := hv
  have hx := B.exec
  have hb := B.bytes
  have hr := B.returns
  have hta := aw_hts (atoms_spec (ws := wsX10_init) B.pre)
  have hown : s.vm.findClass RX10 = some m.cls := findClass_of_methodNamed B.named
  have hlocks := B.notSynchronized
  have hin : meth.name = "<init>" := (name_of_methodNamed B.named B.method).1
  subst hsz
  have hD := hD0.self (sz := s.heap.size)
  generalize hAe : va_A [(h, .inr (8, [.int 0, .int 0, .int 0, .int 0, .int 0, .int 0, .int 0, .null, .null, .null, .null, .null, .null, .null, .null, .null, .null, .null, .null, .null, .null]))] s.heap.size = A at hD ⊢
  have hAz : ∀ q : Nat, s.heap.size ≤ q → A q := fun q h => by rw [← hAe]; exact Or.inr h
  have hS : va_S A s.heap s.heap [] := va_S.rf
  have hP : va_P (dC, dI) vwCl [(h, .inr (8, [.int 0, .int 0, .int 0, .int 0, .int 0, .int 0, .int 0, .null, .null, .null, .null, .null, .null, .null, .null, .null, .null, .null, .null, .null, .null]))] s.heap := hP
  have hl := lv_entry ([.ref h]) (n := 1) (Nat.le_of_ble_eq_true rfl)
  rw [lg_entry_eq]
  generalize (lg_sl ([.ref h]) ++ List.replicate (1 - (lg_sl ([.ref h])).length) Slot.unset).toArray = ls at hl ⊢
  have hl : lv_has ls 1 [(0, .ref h)] := hl
  refine lv_aload_n hx hb dX10_init_0 rfl (lv_at hl 0 rfl) ?_
  refine W.objInit hx hb hown (hta _ mw_632) (hta _ mw_56) (hta _ mw_57) rfl (by rw [hml]; exact hl.1) rfl dX10_init_1 (Nat.le_of_ble_eq_true rfl) (Nat.le_of_ble_eq_true rfl) ?_
  refine W.eq (g2 := F0 m 4 ls []) rfl ?_
  refine lv_aload_n hx hb dX10_init_4 rfl (lv_at hl 0 rfl) ?_
  refine lv_iconst (v := (0 : Int32)) hx hb dX10_init_5 (by decide) ?_
  refine va_put (D := (dC, dI)) (ci := 8) (v := .int (0 : Int32)) (ty := .int) (C := RX10) (T := TX10) (N := 21) hx hb hta inX10 tyX10 tyX10_ok nmX10 hown hK hP hD hS 0 rfl rfl 0 (by decide) (hta _ mw_633) (fun _ h9 => h9) rfl (by decide +kernel) rfl rfl (Nat.le_of_ble_eq_true rfl) dX10_init_6 (fun H locs hP hD hS => ?_)
  have hP : va_P (dC, dI) vwCl [(h, .inr (8, [.int (0 : Int32), .int 0, .int 0, .int 0, .int 0, .int 0, .int 0, .null, .null, .null, .null, .null, .null, .null, .null, .null, .null, .null, .null, .null, .null]))] H := hP
  have hD : va_D A [(h, .inr (8, [.int (0 : Int32), .int 0, .int 0, .int 0, .int 0, .int 0, .int 0, .null, .null, .null, .null, .null, .null, .null, .null, .null, .null, .null, .null, .null, .null]))] := hD
  refine lv_aload_n hx hb dX10_init_9 rfl (lv_at hl 0 rfl) ?_
  refine lv_iconst (v := (0 : Int32)) hx hb dX10_init_10 (by decide) ?_
  refine va_put (D := (dC, dI)) (ci := 8) (v := .int (0 : Int32)) (ty := .int) (C := RX10) (T := TX10) (N := 21) hx hb hta inX10 tyX10 tyX10_ok nmX10 hown hK hP hD hS 0 rfl rfl 1 (by decide) (hta _ mw_634) (fun _ h9 => h9) rfl (by decide +kernel) rfl rfl (Nat.le_of_ble_eq_true rfl) dX10_init_11 (fun H locs hP hD hS => ?_)
  have hP : va_P (dC, dI) vwCl [(h, .inr (8, [.int (0 : Int32), .int (0 : Int32), .int 0, .int 0, .int 0, .int 0, .int 0, .null, .null, .null, .null, .null, .null, .null, .null, .null, .null, .null, .null, .null, .null]))] H := hP
  have hD : va_D A [(h, .inr (8, [.int (0 : Int32), .int (0 : Int32), .int 0, .int 0, .int 0, .int 0, .int 0, .null, .null, .null, .null, .null, .null, .null, .null, .null, .null, .null, .null, .null, .null]))] := hD
  refine lv_aload_n hx hb dX10_init_14 rfl (lv_at hl 0 rfl) ?_
  refine lv_iconst (v := (0 : Int32)) hx hb dX10_init_15 (by decide) ?_
  refine va_put (D := (dC, dI)) (ci := 8) (v := .int (0 : Int32)) (ty := .int) (C := RX10) (T := TX10) (N := 21) hx hb hta inX10 tyX10 tyX10_ok nmX10 hown hK hP hD hS 0 rfl rfl 2 (by decide) (hta _ mw_635) (fun _ h9 => h9) rfl (by decide +kernel) rfl rfl (Nat.le_of_ble_eq_true rfl) dX10_init_16 (fun H locs hP hD hS => ?_)
  have hP : va_P (dC, dI) vwCl [(h, .inr (8, [.int (0 : Int32), .int (0 : Int32), .int (0 : Int32), .int 0, .int 0, .int 0, .int 0, .null, .null, .null, .null, .null, .null, .null, .null, .null, .null, .null, .null, .null, .null]))] H := hP
  have hD : va_D A [(h, .inr (8, [.int (0 : Int32), .int (0 : Int32), .int (0 : Int32), .int 0, .int 0, .int 0, .int 0, .null, .null, .null, .null, .null, .null, .null, .null, .null, .null, .null, .null, .null, .null]))] := hD
  refine lv_aload_n hx hb dX10_init_19 rfl (lv_at hl 0 rfl) ?_
  refine lv_iconst (v := (0 : Int32)) hx hb dX10_init_20 (by decide) ?_
  refine va_put (D := (dC, dI)) (ci := 8) (v := .int (0 : Int32)) (ty := .int) (C := RX10) (T := TX10) (N := 21) hx hb hta inX10 tyX10 tyX10_ok nmX10 hown hK hP hD hS 0 rfl rfl 3 (by decide) (hta _ mw_636) (fun _ h9 => h9) rfl (by decide +kernel) rfl rfl (Nat.le_of_ble_eq_true rfl) dX10_init_21 (fun H locs hP hD hS => ?_)
  have hP : va_P (dC, dI) vwCl [(h, .inr (8, [.int (0 : Int32), .int (0 : Int32), .int (0 : Int32), .int (0 : Int32), .int 0, .int 0, .int 0, .null, .null, .null, .null, .null, .null, .null, .null, .null, .null, .null, .null, .null, .null]))] H := hP
  have hD : va_D A [(h, .inr (8, [.int (0 : Int32), .int (0 : Int32), .int (0 : Int32), .int (0 : Int32), .int 0, .int 0, .int 0, .null, .null, .null, .null, .null, .null, .null, .null, .null, .null, .null, .null, .null, .null]))] := hD
  refine lv_aload_n hx hb dX10_init_24 rfl (lv_at hl 0 rfl) ?_
  refine lv_iconst (v := (0 : Int32)) hx hb dX10_init_25 (by decide) ?_
  refine va_put (D := (dC, dI)) (ci := 8) (v := .int (0 : Int32)) (ty := .int) (C := RX10) (T := TX10) (N := 21) hx hb hta inX10 tyX10 tyX10_ok nmX10 hown hK hP hD hS 0 rfl rfl 4 (by decide) (hta _ mw_637) (fun _ h9 => h9) rfl (by decide +kernel) rfl rfl (Nat.le_of_ble_eq_true rfl) dX10_init_26 (fun H locs hP hD hS => ?_)
  have hP : va_P (dC, dI) vwCl [(h, .inr (8, [.int (0 : Int32), .int (0 : Int32), .int (0 : Int32), .int (0 : Int32), .int (0 : Int32), .int 0, .int 0, .null, .null, .null, .null, .null, .null, .null, .null, .null, .null, .null, .null, .null, .null]))] H := hP
  have hD : va_D A [(h, .inr (8, [.int (0 : Int32), .int (0 : Int32), .int (0 : Int32), .int (0 : Int32), .int (0 : Int32), .int 0, .int 0, .null, .null, .null, .null, .null, .null, .null, .null, .null, .null, .null, .null, .null, .null]))] := hD
  refine lv_aload_n hx hb dX10_init_29 rfl (lv_at hl 0 rfl) ?_
  refine lv_iconst (v := (0 : Int32)) hx hb dX10_init_30 (by decide) ?_
  refine va_put (D := (dC, dI)) (ci := 8) (v := .int (0 : Int32)) (ty := .int) (C := RX10) (T := TX10) (N := 21) hx hb hta inX10 tyX10 tyX10_ok nmX10 hown hK hP hD hS 0 rfl rfl 5 (by decide) (hta _ mw_638) (fun _ h9 => h9) rfl (by decide +kernel) rfl rfl (Nat.le_of_ble_eq_true rfl) dX10_init_31 (fun H locs hP hD hS => ?_)
  have hP : va_P (dC, dI) vwCl [(h, .inr (8, [.int (0 : Int32), .int (0 : Int32), .int (0 : Int32), .int (0 : Int32), .int (0 : Int32), .int (0 : Int32), .int 0, .null, .null, .null, .null, .null, .null, .null, .null, .null, .null, .null, .null, .null, .null]))] H := hP
  have hD : va_D A [(h, .inr (8, [.int (0 : Int32), .int (0 : Int32), .int (0 : Int32), .int (0 : Int32), .int (0 : Int32), .int (0 : Int32), .int 0, .null, .null, .null, .null, .null, .null, .null, .null, .null, .null, .null, .null, .null, .null]))] := hD
  refine lv_aload_n hx hb dX10_init_34 rfl (lv_at hl 0 rfl) ?_
  refine lv_iconst (v := (-1 : Int32)) hx hb dX10_init_35 (by decide) ?_
  refine va_put (D := (dC, dI)) (ci := 8) (v := .int (-1 : Int32)) (ty := .int) (C := RX10) (T := TX10) (N := 21) hx hb hta inX10 tyX10 tyX10_ok nmX10 hown hK hP hD hS 0 rfl rfl 6 (by decide) (hta _ mw_639) (fun _ h9 => h9) rfl (by decide +kernel) rfl rfl (Nat.le_of_ble_eq_true rfl) dX10_init_36 (fun H locs hP hD hS => ?_)
  have hP : va_P (dC, dI) vwCl [(h, .inr (8, [.int (0 : Int32), .int (0 : Int32), .int (0 : Int32), .int (0 : Int32), .int (0 : Int32), .int (0 : Int32), .int (-1 : Int32), .null, .null, .null, .null, .null, .null, .null, .null, .null, .null, .null, .null, .null, .null]))] H := hP
  have hD : va_D A [(h, .inr (8, [.int (0 : Int32), .int (0 : Int32), .int (0 : Int32), .int (0 : Int32), .int (0 : Int32), .int (0 : Int32), .int (-1 : Int32), .null, .null, .null, .null, .null, .null, .null, .null, .null, .null, .null, .null, .null, .null]))] := hD
  refine lv_aload_n hx hb dX10_init_39 rfl (lv_at hl 0 rfl) ?_
  refine lv_bipush (v := (64 : Int32)) hx hb dX10_init_40 (by decide) ?_
  refine va_newa (atype := .int) (ty := .int) (N' := 64) (a0 := (64, .inl (fun _ => 0))) hx hb (hta _ mw_80) rfl hK hP hD hS hAz (fun cA => rfl) (by decide) rfl (by decide) (Nat.le_of_ble_eq_true rfl) (Nat.le_of_ble_eq_true rfl) dX10_init_42 (fun q1 c1 H hK hP hD hS => ?_)
  have hP : va_P (dC, dI) vwCl [(h, .inr (8, [.int (0 : Int32), .int (0 : Int32), .int (0 : Int32), .int (0 : Int32), .int (0 : Int32), .int (0 : Int32), .int (-1 : Int32), .null, .null, .null, .null, .null, .null, .null, .null, .null, .null, .null, .null, .null, .null])), (q1, .inl (c1, 64, .inl (fun _ => 0)))] H := hP
  have hD : va_D A [(h, .inr (8, [.int (0 : Int32), .int (0 : Int32), .int (0 : Int32), .int (0 : Int32), .int (0 : Int32), .int (0 : Int32), .int (-1 : Int32), .null, .null, .null, .null, .null, .null, .null, .null, .null, .null, .null, .null, .null, .null])), (q1, .inl (c1, 64, .inl (fun _ => 0)))] := hD
  have hK : va_K (dC, dI) vwCl [(c1, .int)] s := hK
  refine W.widen (k := 1) (n := 64) (by omega) (by omega) ?_
  refine va_putF (D := (dC, dI)) (ci := 8) (v := .ref q1) (ty := .array .int) (C := RX10) (T := TX10) (N := 21) hx hb hta inX10 tyX10 tyX10_ok nmX10 hown hK hP hD hS 0 rfl rfl 7 (by decide) (hta _ mw_640) (fun _ h9 => h9) rfl hin rfl (by decide +kernel) rfl rfl (Nat.le_of_ble_eq_true rfl) dX10_init_44 (fun H locs hP hD hS => ?_)
  have hP : va_P (dC, dI) vwCl [(h, .inr (8, [.int (0 : Int32), .int (0 : Int32), .int (0 : Int32), .int (0 : Int32), .int (0 : Int32), .int (0 : Int32), .int (-1 : Int32), .ref q1, .null, .null, .null, .null, .null, .null, .null, .null, .null, .null, .null, .null, .null])), (q1, .inl (c1, 64, .inl (fun _ => 0)))] H := hP
  have hD : va_D A [(h, .inr (8, [.int (0 : Int32), .int (0 : Int32), .int (0 : Int32), .int (0 : Int32), .int (0 : Int32), .int (0 : Int32), .int (-1 : Int32), .ref q1, .null, .null, .null, .null, .null, .null, .null, .null, .null, .null, .null, .null, .null])), (q1, .inl (c1, 64, .inl (fun _ => 0)))] := hD
  refine lv_aload_n hx hb dX10_init_47 rfl (lv_at hl 0 rfl) ?_
  refine lv_bipush (v := (64 : Int32)) hx hb dX10_init_48 (by decide) ?_
  refine va_newa (atype := .int) (ty := .int) (N' := 64) (a0 := (64, .inl (fun _ => 0))) hx hb (hta _ mw_80) rfl hK hP hD hS hAz (fun cA => rfl) (by decide) rfl (by decide) (Nat.le_of_ble_eq_true rfl) (Nat.le_of_ble_eq_true rfl) dX10_init_50 (fun q2 c2 H hK hP hD hS => ?_)
  have hP : va_P (dC, dI) vwCl [(h, .inr (8, [.int (0 : Int32), .int (0 : Int32), .int (0 : Int32), .int (0 : Int32), .int (0 : Int32), .int (0 : Int32), .int (-1 : Int32), .ref q1, .null, .null, .null, .null, .null, .null, .null, .null, .null, .null, .null, .null, .null])), (q1, .inl (c1, 64, .inl (fun _ => 0))), (q2, .inl (c2, 64, .inl (fun _ => 0)))] H := hP
  have hD : va_D A [(h, .inr (8, [.int (0 : Int32), .int (0 : Int32), .int (0 : Int32), .int (0 : Int32), .int (0 : Int32), .int (0 : Int32), .int (-1 : Int32), .ref q1, .null, .null, .null, .null, .null, .null, .null, .null, .null, .null, .null, .null, .null])), (q1, .inl (c1, 64, .inl (fun _ => 0))), (q2, .inl (c2, 64, .inl (fun _ => 0)))] := hD
  have hK : va_K (dC, dI) vwCl [(c1, .int), (c2, .int)] s := hK
  refine W.widen (k := 2) (n := 128) (by omega) (by omega) ?_
  refine va_putF (D := (dC, dI)) (ci := 8) (v := .ref q2) (ty := .array .int) (C := RX10) (T := TX10) (N := 21) hx hb hta inX10 tyX10 tyX10_ok nmX10 hown hK hP hD hS 0 rfl rfl 8 (by decide) (hta _ mw_641) (fun _ h9 => h9) rfl hin rfl (by decide +kernel) rfl rfl (Nat.le_of_ble_eq_true rfl) dX10_init_52 (fun H locs hP hD hS => ?_)
  have hP : va_P (dC, dI) vwCl [(h, .inr (8, [.int (0 : Int32), .int (0 : Int32), .int (0 : Int32), .int (0 : Int32), .int (0 : Int32), .int (0 : Int32), .int (-1 : Int32), .ref q1, .ref q2, .null, .null, .null, .null, .null, .null, .null, .null, .null, .null, .null, .null])), (q1, .inl (c1, 64, .inl (fun _ => 0))), (q2, .inl (c2, 64, .inl (fun _ => 0)))] H := hP
  have hD : va_D A [(h, .inr (8, [.int (0 : Int32), .int (0 : Int32), .int (0 : Int32), .int (0 : Int32), .int (0 : Int32), .int (0 : Int32), .int (-1 : Int32), .ref q1, .ref q2, .null, .null, .null, .null, .null, .null, .null, .null, .null, .null, .null, .null])), (q1, .inl (c1, 64, .inl (fun _ => 0))), (q2, .inl (c2, 64, .inl (fun _ => 0)))] := hD
  refine lv_aload_n hx hb dX10_init_55 rfl (lv_at hl 0 rfl) ?_
  refine lv_bipush (v := (64 : Int32)) hx hb dX10_init_56 (by decide) ?_
  refine va_newa (atype := .int) (ty := .int) (N' := 64) (a0 := (64, .inl (fun _ => 0))) hx hb (hta _ mw_80) rfl hK hP hD hS hAz (fun cA => rfl) (by decide) rfl (by decide) (Nat.le_of_ble_eq_true rfl) (Nat.le_of_ble_eq_true rfl) dX10_init_58 (fun q3 c3 H hK hP hD hS => ?_)
  have hP : va_P (dC, dI) vwCl [(h, .inr (8, [.int (0 : Int32), .int (0 : Int32), .int (0 : Int32), .int (0 : Int32), .int (0 : Int32), .int (0 : Int32), .int (-1 : Int32), .ref q1, .ref q2, .null, .null, .null, .null, .null, .null, .null, .null, .null, .null, .null, .null])), (q1, .inl (c1, 64, .inl (fun _ => 0))), (q2, .inl (c2, 64, .inl (fun _ => 0))), (q3, .inl (c3, 64, .inl (fun _ => 0)))] H := hP
  have hD : va_D A [(h, .inr (8, [.int (0 : Int32), .int (0 : Int32), .int (0 : Int32), .int (0 : Int32), .int (0 : Int32), .int (0 : Int32), .int (-1 : Int32), .ref q1, .ref q2, .null, .null, .null, .null, .null, .null, .null, .null, .null, .null, .null, .null])), (q1, .inl (c1, 64, .inl (fun _ => 0))), (q2, .inl (c2, 64, .inl (fun _ => 0))), (q3, .inl (c3, 64, .inl (fun _ => 0)))] := hD
  have hK : va_K (dC, dI) vwCl [(c1, .int), (c2, .int), (c3, .int)] s := hK
  refine W.widen (k := 3) (n := 192) (by omega) (by omega) ?_
  refine va_putF (D := (dC, dI)) (ci := 8) (v := .ref q3) (ty := .array .int) (C := RX10) (T := TX10) (N := 21) hx hb hta inX10 tyX10 tyX10_ok nmX10 hown hK hP hD hS 0 rfl rfl 9 (by decide) (hta _ mw_642) (fun _ h9 => h9) rfl hin rfl (by decide +kernel) rfl rfl (Nat.le_of_ble_eq_true rfl) dX10_init_60 (fun H locs hP hD hS => ?_)
  have hP : va_P (dC, dI) vwCl [(h, .inr (8, [.int (0 : Int32), .int (0 : Int32), .int (0 : Int32), .int (0 : Int32), .int (0 : Int32), .int (0 : Int32), .int (-1 : Int32), .ref q1, .ref q2, .ref q3, .null, .null, .null, .null, .null, .null, .null, .null, .null, .null, .null])), (q1, .inl (c1, 64, .inl (fun _ => 0))), (q2, .inl (c2, 64, .inl (fun _ => 0))), (q3, .inl (c3, 64, .inl (fun _ => 0)))] H := hP
  have hD : va_D A [(h, .inr (8, [.int (0 : Int32), .int (0 : Int32), .int (0 : Int32), .int (0 : Int32), .int (0 : Int32), .int (0 : Int32), .int (-1 : Int32), .ref q1, .ref q2, .ref q3, .null, .null, .null, .null, .null, .null, .null, .null, .null, .null, .null])), (q1, .inl (c1, 64, .inl (fun _ => 0))), (q2, .inl (c2, 64, .inl (fun _ => 0))), (q3, .inl (c3, 64, .inl (fun _ => 0)))] := hD
  refine lv_aload_n hx hb dX10_init_63 rfl (lv_at hl 0 rfl) ?_
  refine lv_bipush (v := (64 : Int32)) hx hb dX10_init_64 (by decide) ?_
  refine va_newa (atype := .int) (ty := .int) (N' := 64) (a0 := (64, .inl (fun _ => 0))) hx hb (hta _ mw_80) rfl hK hP hD hS hAz (fun cA => rfl) (by decide) rfl (by decide) (Nat.le_of_ble_eq_true rfl) (Nat.le_of_ble_eq_true rfl) dX10_init_66 (fun q4 c4 H hK hP hD hS => ?_)
  have hP : va_P (dC, dI) vwCl [(h, .inr (8, [.int (0 : Int32), .int (0 : Int32), .int (0 : Int32), .int (0 : Int32), .int (0 : Int32), .int (0 : Int32), .int (-1 : Int32), .ref q1, .ref q2, .ref q3, .null, .null, .null, .null, .null, .null, .null, .null, .null, .null, .null])), (q1, .inl (c1, 64, .inl (fun _ => 0))), (q2, .inl (c2, 64, .inl (fun _ => 0))), (q3, .inl (c3, 64, .inl (fun _ => 0))), (q4, .inl (c4, 64, .inl (fun _ => 0)))] H := hP
  have hD : va_D A [(h, .inr (8, [.int (0 : Int32), .int (0 : Int32), .int (0 : Int32), .int (0 : Int32), .int (0 : Int32), .int (0 : Int32), .int (-1 : Int32), .ref q1, .ref q2, .ref q3, .null, .null, .null, .null, .null, .null, .null, .null, .null, .null, .null])), (q1, .inl (c1, 64, .inl (fun _ => 0))), (q2, .inl (c2, 64, .inl (fun _ => 0))), (q3, .inl (c3, 64, .inl (fun _ => 0))), (q4, .inl (c4, 64, .inl (fun _ => 0)))] := hD
  have hK : va_K (dC, dI) vwCl [(c1, .int), (c2, .int), (c3, .int), (c4, .int)] s := hK
  refine W.widen (k := 4) (n := 256) (by omega) (by omega) ?_
  refine va_putF (D := (dC, dI)) (ci := 8) (v := .ref q4) (ty := .array .int) (C := RX10) (T := TX10) (N := 21) hx hb hta inX10 tyX10 tyX10_ok nmX10 hown hK hP hD hS 0 rfl rfl 10 (by decide) (hta _ mw_643) (fun _ h9 => h9) rfl hin rfl (by decide +kernel) rfl rfl (Nat.le_of_ble_eq_true rfl) dX10_init_68 (fun H locs hP hD hS => ?_)
  have hP : va_P (dC, dI) vwCl [(h, .inr (8, [.int (0 : Int32), .int (0 : Int32), .int (0 : Int32), .int (0 : Int32), .int (0 : Int32), .int (0 : Int32), .int (-1 : Int32), .ref q1, .ref q2, .ref q3, .ref q4, .null, .null, .null, .null, .null, .null, .null, .null, .null, .null])), (q1, .inl (c1, 64, .inl (fun _ => 0))), (q2, .inl (c2, 64, .inl (fun _ => 0))), (q3, .inl (c3, 64, .inl (fun _ => 0))), (q4, .inl (c4, 64, .inl (fun _ => 0)))] H := hP
  have hD : va_D A [(h, .inr (8, [.int (0 : Int32), .int (0 : Int32), .int (0 : Int32), .int (0 : Int32), .int (0 : Int32), .int (0 : Int32), .int (-1 : Int32), .ref q1, .ref q2, .ref q3, .ref q4, .null, .null, .null, .null, .null, .null, .null, .null, .null, .null])), (q1, .inl (c1, 64, .inl (fun _ => 0))), (q2, .inl (c2, 64, .inl (fun _ => 0))), (q3, .inl (c3, 64, .inl (fun _ => 0))), (q4, .inl (c4, 64, .inl (fun _ => 0)))] := hD
  refine lv_aload_n hx hb dX10_init_71 rfl (lv_at hl 0 rfl) ?_
  refine lv_bipush (v := (64 : Int32)) hx hb dX10_init_72 (by decide) ?_
  refine va_newa (atype := .int) (ty := .int) (N' := 64) (a0 := (64, .inl (fun _ => 0))) hx hb (hta _ mw_80) rfl hK hP hD hS hAz (fun cA => rfl) (by decide) rfl (by decide) (Nat.le_of_ble_eq_true rfl) (Nat.le_of_ble_eq_true rfl) dX10_init_74 (fun q5 c5 H hK hP hD hS => ?_)
  have hP : va_P (dC, dI) vwCl [(h, .inr (8, [.int (0 : Int32), .int (0 : Int32), .int (0 : Int32), .int (0 : Int32), .int (0 : Int32), .int (0 : Int32), .int (-1 : Int32), .ref q1, .ref q2, .ref q3, .ref q4, .null, .null, .null, .null, .null, .null, .null, .null, .null, .null])), (q1, .inl (c1, 64, .inl (fun _ => 0))), (q2, .inl (c2, 64, .inl (fun _ => 0))), (q3, .inl (c3, 64, .inl (fun _ => 0))), (q4, .inl (c4, 64, .inl (fun _ => 0))), (q5, .inl (c5, 64, .inl (fun _ => 0)))] H := hP
  have hD : va_D A [(h, .inr (8, [.int (0 : Int32), .int (0 : Int32), .int (0 : Int32), .int (0 : Int32), .int (0 : Int32), .int (0 : Int32), .int (-1 : Int32), .ref q1, .ref q2, .ref q3, .ref q4, .null, .null, .null, .null, .null, .null, .null, .null, .null, .null])), (q1, .inl (c1, 64, .inl (fun _ => 0))), (q2, .inl (c2, 64, .inl (fun _ => 0))), (q3, .inl (c3, 64, .inl (fun _ => 0))), (q4, .inl (c4, 64, .inl (fun _ => 0))), (q5, .inl (c5, 64, .inl (fun _ => 0)))] := hD
  have hK : va_K (dC, dI) vwCl [(c1, .int), (c2, .int), (c3, .int), (c4, .int), (c5, .int)] s := hK
  refine W.widen (k := 5) (n := 320) (by omega) (by omega) ?_
  refine va_putF (D := (dC, dI)) (ci := 8) (v := .ref q5) (ty := .array .int) (C := RX10) (T := TX10) (N := 21) hx hb hta inX10 tyX10 tyX10_ok nmX10 hown hK hP hD hS 0 rfl rfl 11 (by decide) (hta _ mw_644) (fun _ h9 => h9) rfl hin rfl (by decide +kernel) rfl rfl (Nat.le_of_ble_eq_true rfl) dX10_init_76 (fun H locs hP hD hS => ?_)
  have hP : va_P (dC, dI) vwCl [(h, .inr (8, [.int (0 : Int32), .int (0 : Int32), .int (0 : Int32), .int (0 : Int32), .int (0 : Int32), .int (0 : Int32), .int (-1 : Int32), .ref q1, .ref q2, .ref q3, .ref q4, .ref q5, .null, .null, .null, .null, .null, .null, .null, .null, .null])), (q1, .inl (c1, 64, .inl (fun _ => 0))), (q2, .inl (c2, 64, .inl (fun _ => 0))), (q3, .inl (c3, 64, .inl (fun _ => 0))), (q4, .inl (c4, 64, .inl (fun _ => 0))), (q5, .inl (c5, 64, .inl (fun _ => 0)))] H := hP
  have hD : va_D A [(h, .inr (8, [.int (0 : Int32), .int (0 : Int32), .int (0 : Int32), .int (0 : Int32), .int (0 : Int32), .int (0 : Int32), .int (-1 : Int32), .ref q1, .ref q2, .ref q3, .ref q4, .ref q5, .null, .null, .null, .null, .null, .null, .null, .null, .null])), (q1, .inl (c1, 64, .inl (fun _ => 0))), (q2, .inl (c2, 64, .inl (fun _ => 0))), (q3, .inl (c3, 64, .inl (fun _ => 0))), (q4, .inl (c4, 64, .inl (fun _ => 0))), (q5, .inl (c5, 64, .inl (fun _ => 0)))] := hD
  refine lv_aload_n hx hb dX10_init_79 rfl (lv_at hl 0 rfl) ?_
  refine lv_bipush (v := (64 : Int32)) hx hb dX10_init_80 (by decide) ?_
  refine va_newa (atype := .long) (ty := .long) (N' := 64) (a0 := (64, .inr (.inl (fun _ => 0)))) hx hb (hta _ mw_92) rfl hK hP hD hS hAz (fun cA => rfl) (by decide) rfl (by decide) (Nat.le_of_ble_eq_true rfl) (Nat.le_of_ble_eq_true rfl) dX10_init_82 (fun q6 c6 H hK hP hD hS => ?_)
  have hP : va_P (dC, dI) vwCl [(h, .inr (8, [.int (0 : Int32), .int (0 : Int32), .int (0 : Int32), .int (0 : Int32), .int (0 : Int32), .int (0 : Int32), .int (-1 : Int32), .ref q1, .ref q2, .ref q3, .ref q4, .ref q5, .null, .null, .null, .null, .null, .null, .null, .null, .null])), (q1, .inl (c1, 64, .inl (fun _ => 0))), (q2, .inl (c2, 64, .inl (fun _ => 0))), (q3, .inl (c3, 64, .inl (fun _ => 0))), (q4, .inl (c4, 64, .inl (fun _ => 0))), (q5, .inl (c5, 64, .inl (fun _ => 0))), (q6, .inl (c6, 64, .inr (.inl (fun _ => 0))))] H := hP
  have hD : va_D A [(h, .inr (8, [.int (0 : Int32), .int (0 : Int32), .int (0 : Int32), .int (0 : Int32), .int (0 : Int32), .int (0 : Int32), .int (-1 : Int32), .ref q1, .ref q2, .ref q3, .ref q4, .ref q5, .null, .null, .null, .null, .null, .null, .null, .null, .null])), (q1, .inl (c1, 64, .inl (fun _ => 0))), (q2, .inl (c2, 64, .inl (fun _ => 0))), (q3, .inl (c3, 64, .inl (fun _ => 0))), (q4, .inl (c4, 64, .inl (fun _ => 0))), (q5, .inl (c5, 64, .inl (fun _ => 0))), (q6, .inl (c6, 64, .inr (.inl (fun _ => 0))))] := hD
  have hK : va_K (dC, dI) vwCl [(c1, .int), (c2, .int), (c3, .int), (c4, .int), (c5, .int), (c6, .long)] s := hK
  refine W.widen (k := 6) (n := 384) (by omega) (by omega) ?_
  refine va_putF (D := (dC, dI)) (ci := 8) (v := .ref q6) (ty := .array .long) (C := RX10) (T := TX10) (N := 21) hx hb hta inX10 tyX10 tyX10_ok nmX10 hown hK hP hD hS 0 rfl rfl 12 (by decide) (hta _ mw_645) (fun _ h9 => h9) rfl hin rfl (by decide +kernel) rfl rfl (Nat.le_of_ble_eq_true rfl) dX10_init_84 (fun H locs hP hD hS => ?_)
  have hP : va_P (dC, dI) vwCl [(h, .inr (8, [.int (0 : Int32), .int (0 : Int32), .int (0 : Int32), .int (0 : Int32), .int (0 : Int32), .int (0 : Int32), .int (-1 : Int32), .ref q1, .ref q2, .ref q3, .ref q4, .ref q5, .ref q6, .null, .null, .null, .null, .null, .null, .null, .null])), (q1, .inl (c1, 64, .inl (fun _ => 0))), (q2, .inl (c2, 64, .inl (fun _ => 0))), (q3, .inl (c3, 64, .inl (fun _ => 0))), (q4, .inl (c4, 64, .inl (fun _ => 0))), (q5, .inl (c5, 64, .inl (fun _ => 0))), (q6, .inl (c6, 64, .inr (.inl (fun _ => 0))))] H := hP
  have hD : va_D A [(h, .inr (8, [.int (0 : Int32), .int (0 : Int32), .int (0 : Int32), .int (0 : Int32), .int (0 : Int32), .int (0 : Int32), .int (-1 : Int32), .ref q1, .ref q2, .ref q3, .ref q4, .ref q5, .ref q6, .null, .null, .null, .null, .null, .null, .null, .null])), (q1, .inl (c1, 64, .inl (fun _ => 0))), (q2, .inl (c2, 64, .inl (fun _ => 0))), (q3, .inl (c3, 64, .inl (fun _ => 0))), (q4, .inl (c4, 64, .inl (fun _ => 0))), (q5, .inl (c5, 64, .inl (fun _ => 0))), (q6, .inl (c6, 64, .inr (.inl (fun _ => 0))))] := hD
  refine lv_aload_n hx hb dX10_init_87 rfl (lv_at hl 0 rfl) ?_
  refine lv_bipush (v := (64 : Int32)) hx hb dX10_init_88 (by decide) ?_
  refine va_newa (atype := .long) (ty := .long) (N' := 64) (a0 := (64, .inr (.inl (fun _ => 0)))) hx hb (hta _ mw_92) rfl hK hP hD hS hAz (fun cA => rfl) (by decide) rfl (by decide) (Nat.le_of_ble_eq_true rfl) (Nat.le_of_ble_eq_true rfl) dX10_init_90 (fun q7 c7 H hK hP hD hS => ?_)
  have hP : va_P (dC, dI) vwCl [(h, .inr (8, [.int (0 : Int32), .int (0 : Int32), .int (0 : Int32), .int (0 : Int32), .int (0 : Int32), .int (0 : Int32), .int (-1 : Int32), .ref q1, .ref q2, .ref q3, .ref q4, .ref q5, .ref q6, .null, .null, .null, .null, .null, .null, .null, .null])), (q1, .inl (c1, 64, .inl (fun _ => 0))), (q2, .inl (c2, 64, .inl (fun _ => 0))), (q3, .inl (c3, 64, .inl (fun _ => 0))), (q4, .inl (c4, 64, .inl (fun _ => 0))), (q5, .inl (c5, 64, .inl (fun _ => 0))), (q6, .inl (c6, 64, .inr (.inl (fun _ => 0)))), (q7, .inl (c7, 64, .inr (.inl (fun _ => 0))))] H := hP
  have hD : va_D A [(h, .inr (8, [.int (0 : Int32), .int (0 : Int32), .int (0 : Int32), .int (0 : Int32), .int (0 : Int32), .int (0 : Int32), .int (-1 : Int32), .ref q1, .ref q2, .ref q3, .ref q4, .ref q5, .ref q6, .null, .null, .null, .null, .null, .null, .null, .null])), (q1, .inl (c1, 64, .inl (fun _ => 0))), (q2, .inl (c2, 64, .inl (fun _ => 0))), (q3, .inl (c3, 64, .inl (fun _ => 0))), (q4, .inl (c4, 64, .inl (fun _ => 0))), (q5, .inl (c5, 64, .inl (fun _ => 0))), (q6, .inl (c6, 64, .inr (.inl (fun _ => 0)))), (q7, .inl (c7, 64, .inr (.inl (fun _ => 0))))] := hD
  have hK : va_K (dC, dI) vwCl [(c1, .int), (c2, .int), (c3, .int), (c4, .int), (c5, .int), (c6, .long), (c7, .long)] s := hK
  refine W.widen (k := 7) (n := 448) (by omega) (by omega) ?_
  refine va_putF (D := (dC, dI)) (ci := 8) (v := .ref q7) (ty := .array .long) (C := RX10) (T := TX10) (N := 21) hx hb hta inX10 tyX10 tyX10_ok nmX10 hown hK hP hD hS 0 rfl rfl 13 (by decide) (hta _ mw_646) (fun _ h9 => h9) rfl hin rfl (by decide +kernel) rfl rfl (Nat.le_of_ble_eq_true rfl) dX10_init_92 (fun H locs hP hD hS => ?_)
  have hP : va_P (dC, dI) vwCl [(h, .inr (8, [.int (0 : Int32), .int (0 : Int32), .int (0 : Int32), .int (0 : Int32), .int (0 : Int32), .int (0 : Int32), .int (-1 : Int32), .ref q1, .ref q2, .ref q3, .ref q4, .ref q5, .ref q6, .ref q7, .null, .null, .null, .null, .null, .null, .null])), (q1, .inl (c1, 64, .inl (fun _ => 0))), (q2, .inl (c2, 64, .inl (fun _ => 0))), (q3, .inl (c3, 64, .inl (fun _ => 0))), (q4, .inl (c4, 64, .inl (fun _ => 0))), (q5, .inl (c5, 64, .inl (fun _ => 0))), (q6, .inl (c6, 64, .inr (.inl (fun _ => 0)))), (q7, .inl (c7, 64, .inr (.inl (fun _ => 0))))] H := hP
  have hD : va_D A [(h, .inr (8, [.int (0 : Int32), .int (0 : Int32), .int (0 : Int32), .int (0 : Int32), .int (0 : Int32), .int (0 : Int32), .int (-1 : Int32), .ref q1, .ref q2, .ref q3, .ref q4, .ref q5, .ref q6, .ref q7, .null, .null, .null, .null, .null, .null, .null])), (q1, .inl (c1, 64, .inl (fun _ => 0))), (q2, .inl (c2, 64, .inl (fun _ => 0))), (q3, .inl (c3, 64, .inl (fun _ => 0))), (q4, .inl (c4, 64, .inl (fun _ => 0))), (q5, .inl (c5, 64, .inl (fun _ => 0))), (q6, .inl (c6, 64, .inr (.inl (fun _ => 0)))), (q7, .inl (c7, 64, .inr (.inl (fun _ => 0))))] := hD
  refine lv_aload_n hx hb dX10_init_95 rfl (lv_at hl 0 rfl) ?_
  refine lv_iconst (v := (4 : Int32)) hx hb dX10_init_96 (by decide) ?_
  refine va_newa (atype := .int) (ty := .int) (N' := 4) (a0 := (4, .inl (fun _ => 0))) hx hb (hta _ mw_80) rfl hK hP hD hS hAz (fun cA => rfl) (by decide) rfl (by decide) (Nat.le_of_ble_eq_true rfl) (Nat.le_of_ble_eq_true rfl) dX10_init_97 (fun q8 c8 H hK hP hD hS => ?_)
  have hP : va_P (dC, dI) vwCl [(h, .inr (8, [.int (0 : Int32), .int (0 : Int32), .int (0 : Int32), .int (0 : Int32), .int (0 : Int32), .int (0 : Int32), .int (-1 : Int32), .ref q1, .ref q2, .ref q3, .ref q4, .ref q5, .ref q6, .ref q7, .null, .null, .null, .null, .null, .null, .null])), (q1, .inl (c1, 64, .inl (fun _ => 0))), (q2, .inl (c2, 64, .inl (fun _ => 0))), (q3, .inl (c3, 64, .inl (fun _ => 0))), (q4, .inl (c4, 64, .inl (fun _ => 0))), (q5, .inl (c5, 64, .inl (fun _ => 0))), (q6, .inl (c6, 64, .inr (.inl (fun _ => 0)))), (q7, .inl (c7, 64, .inr (.inl (fun _ => 0)))), (q8, .inl (c8, 4, .inl (fun _ => 0)))] H := hP
  have hD : va_D A [(h, .inr (8, [.int (0 : Int32), .int (0 : Int32), .int (0 : Int32), .int (0 : Int32), .int (0 : Int32), .int (0 : Int32), .int (-1 : Int32), .ref q1, .ref q2, .ref q3, .ref q4, .ref q5, .ref q6, .ref q7, .null, .null, .null, .null, .null, .null, .null])), (q1, .inl (c1, 64, .inl (fun _ => 0))), (q2, .inl (c2, 64, .inl (fun _ => 0))), (q3, .inl (c3, 64, .inl (fun _ => 0))), (q4, .inl (c4, 64, .inl (fun _ => 0))), (q5, .inl (c5, 64, .inl (fun _ => 0))), (q6, .inl (c6, 64, .inr (.inl (fun _ => 0)))), (q7, .inl (c7, 64, .inr (.inl (fun _ => 0)))), (q8, .inl (c8, 4, .inl (fun _ => 0)))] := hD
  have hK : va_K (dC, dI) vwCl [(c1, .int), (c2, .int), (c3, .int), (c4, .int), (c5, .int), (c6, .long), (c7, .long), (c8, .int)] s := hK
  refine W.widen (k := 8) (n := 452) (by omega) (by omega) ?_
  refine va_putF (D := (dC, dI)) (ci := 8) (v := .ref q8) (ty := .array .int) (C := RX10) (T := TX10) (N := 21) hx hb hta inX10 tyX10 tyX10_ok nmX10 hown hK hP hD hS 0 rfl rfl 14 (by decide) (hta _ mw_647) (fun _ h9 => h9) rfl hin rfl (by decide +kernel) rfl rfl (Nat.le_of_ble_eq_true rfl) dX10_init_99 (fun H locs hP hD hS => ?_)
  have hP : va_P (dC, dI) vwCl [(h, .inr (8, [.int (0 : Int32), .int (0 : Int32), .int (0 : Int32), .int (0 : Int32), .int (0 : Int32), .int (0 : Int32), .int (-1 : Int32), .ref q1, .ref q2, .ref q3, .ref q4, .ref q5, .ref q6, .ref q7, .ref q8, .null, .null, .null, .null, .null, .null])), (q1, .inl (c1, 64, .inl (fun _ => 0))), (q2, .inl (c2, 64, .inl (fun _ => 0))), (q3, .inl (c3, 64, .inl (fun _ => 0))), (q4, .inl (c4, 64, .inl (fun _ => 0))), (q5, .inl (c5, 64, .inl (fun _ => 0))), (q6, .inl (c6, 64, .inr (.inl (fun _ => 0)))), (q7, .inl (c7, 64, .inr (.inl (fun _ => 0)))), (q8, .inl (c8, 4, .inl (fun _ => 0)))] H := hP
  have hD : va_D A [(h, .inr (8, [.int (0 : Int32), .int (0 : Int32), .int (0 : Int32), .int (0 : Int32), .int (0 : Int32), .int (0 : Int32), .int (-1 : Int32), .ref q1, .ref q2, .ref q3, .ref q4, .ref q5, .ref q6, .ref q7, .ref q8, .null, .null, .null, .null, .null, .null])), (q1, .inl (c1, 64, .inl (fun _ => 0))), (q2, .inl (c2, 64, .inl (fun _ => 0))), (q3, .inl (c3, 64, .inl (fun _ => 0))), (q4, .inl (c4, 64, .inl (fun _ => 0))), (q5, .inl (c5, 64, .inl (fun _ => 0))), (q6, .inl (c6, 64, .inr (.inl (fun _ => 0)))), (q7, .inl (c7, 64, .inr (.inl (fun _ => 0)))), (q8, .inl (c8, 4, .inl (fun _ => 0)))] := hD
  refine lv_aload_n hx hb dX10_init_102 rfl (lv_at hl 0 rfl) ?_
  refine lv_iconst (v := (4 : Int32)) hx hb dX10_init_103 (by decide) ?_
  refine va_newa (atype := .int) (ty := .int) (N' := 4) (a0 := (4, .inl (fun _ => 0))) hx hb (hta _ mw_80) rfl hK hP hD hS hAz (fun cA => rfl) (by decide) rfl (by decide) (Nat.le_of_ble_eq_true rfl) (Nat.le_of_ble_eq_true rfl) dX10_init_104 (fun q9 c9 H hK hP hD hS => ?_)
  have hP : va_P (dC, dI) vwCl [(h, .inr (8, [.int (0 : Int32), .int (0 : Int32), .int (0 : Int32), .int (0 : Int32), .int (0 : Int32), .int (0 : Int32), .int (-1 : Int32), .ref q1, .ref q2, .ref q3, .ref q4, .ref q5, .ref q6, .ref q7, .ref q8, .null, .null, .null, .null, .null, .null])), (q1, .inl (c1, 64, .inl (fun _ => 0))), (q2, .inl (c2, 64, .inl (fun _ => 0))), (q3, .inl (c3, 64, .inl (fun _ => 0))), (q4, .inl (c4, 64, .inl (fun _ => 0))), (q5, .inl (c5, 64, .inl (fun _ => 0))), (q6, .inl (c6, 64, .inr (.inl (fun _ => 0)))), (q7, .inl (c7, 64, .inr (.inl (fun _ => 0)))), (q8, .inl (c8, 4, .inl (fun _ => 0))), (q9, .inl (c9, 4, .inl (fun _ => 0)))] H := hP
  have hD : va_D A [(h, .inr (8, [.int (0 : Int32), .int (0 : Int32), .int (0 : Int32), .int (0 : Int32), .int (0 : Int32), .int (0 : Int32), .int (-1 : Int32), .ref q1, .ref q2, .ref q3, .ref q4, .ref q5, .ref q6, .ref q7, .ref q8, .null, .null, .null, .null, .null, .null])), (q1, .inl (c1, 64, .inl (fun _ => 0))), (q2, .inl (c2, 64, .inl (fun _ => 0))), (q3, .inl (c3, 64, .inl (fun _ => 0))), (q4, .inl (c4, 64, .inl (fun _ => 0))), (q5, .inl (c5, 64, .inl (fun _ => 0))), (q6, .inl (c6, 64, .inr (.inl (fun _ => 0)))), (q7, .inl (c7, 64, .inr (.inl (fun _ => 0)))), (q8, .inl (c8, 4, .inl (fun _ => 0))), (q9, .inl (c9, 4, .inl (fun _ => 0)))] := hD
  have hK : va_K (dC, dI) vwCl [(c1, .int), (c2, .int), (c3, .int), (c4, .int), (c5, .int), (c6, .long), (c7, .long), (c8, .int), (c9, .int)] s := hK
  refine W.widen (k := 9) (n := 456) (by omega) (by omega) ?_
  refine va_putF (D := (dC, dI)) (ci := 8) (v := .ref q9) (ty := .array .int) (C := RX10) (T := TX10) (N := 21) hx hb hta inX10 tyX10 tyX10_ok nmX10 hown hK hP hD hS 0 rfl rfl 15 (by decide) (hta _ mw_648) (fun _ h9 => h9) rfl hin rfl (by decide +kernel) rfl rfl (Nat.le_of_ble_eq_true rfl) dX10_init_106 (fun H locs hP hD hS => ?_)
  have hP : va_P (dC, dI) vwCl [(h, .inr (8, [.int (0 : Int32), .int (0 : Int32), .int (0 : Int32), .int (0 : Int32), .int (0 : Int32), .int (0 : Int32), .int (-1 : Int32), .ref q1, .ref q2, .ref q3, .ref q4, .ref q5, .ref q6, .ref q7, .ref q8, .ref q9, .null, .null, .null, .null, .null])), (q1, .inl (c1, 64, .inl (fun _ => 0))), (q2, .inl (c2, 64, .inl (fun _ => 0))), (q3, .inl (c3, 64, .inl (fun _ => 0))), (q4, .inl (c4, 64, .inl (fun _ => 0))), (q5, .inl (c5, 64, .inl (fun _ => 0))), (q6, .inl (c6, 64, .inr (.inl (fun _ => 0)))), (q7, .inl (c7, 64, .inr (.inl (fun _ => 0)))), (q8, .inl (c8, 4, .inl (fun _ => 0))), (q9, .inl (c9, 4, .inl (fun _ => 0)))] H := hP
  have hD : va_D A [(h, .inr (8, [.int (0 : Int32), .int (0 : Int32), .int (0 : Int32), .int (0 : Int32), .int (0 : Int32), .int (0 : Int32), .int (-1 : Int32), .ref q1, .ref q2, .ref q3, .ref q4, .ref q5, .ref q6, .ref q7, .ref q8, .ref q9, .null, .null, .null, .null, .null])), (q1, .inl (c1, 64, .inl (fun _ => 0))), (q2, .inl (c2, 64, .inl (fun _ => 0))), (q3, .inl (c3, 64, .inl (fun _ => 0))), (q4, .inl (c4, 64, .inl (fun _ => 0))), (q5, .inl (c5, 64, .inl (fun _ => 0))), (q6, .inl (c6, 64, .inr (.inl (fun _ => 0)))), (q7, .inl (c7, 64, .inr (.inl (fun _ => 0)))), (q8, .inl (c8, 4, .inl (fun _ => 0))), (q9, .inl (c9, 4, .inl (fun _ => 0)))] := hD
  refine lv_aload_n hx hb dX10_init_109 rfl (lv_at hl 0 rfl) ?_
  refine lv_iconst (v := (4 : Int32)) hx hb dX10_init_110 (by decide) ?_
  refine va_newa (atype := .int) (ty := .int) (N' := 4) (a0 := (4, .inl (fun _ => 0))) hx hb (hta _ mw_80) rfl hK hP hD hS hAz (fun cA => rfl) (by decide) rfl (by decide) (Nat.le_of_ble_eq_true rfl) (Nat.le_of_ble_eq_true rfl) dX10_init_111 (fun q10 c10 H hK hP hD hS => ?_)
  have hP : va_P (dC, dI) vwCl [(h, .inr (8, [.int (0 : Int32), .int (0 : Int32), .int (0 : Int32), .int (0 : Int32), .int (0 : Int32), .int (0 : Int32), .int (-1 : Int32), .ref q1, .ref q2, .ref q3, .ref q4, .ref q5, .ref q6, .ref q7, .ref q8, .ref q9, .null, .null, .null, .null, .null])), (q1, .inl (c1, 64, .inl (fun _ => 0))), (q2, .inl (c2, 64, .inl (fun _ => 0))), (q3, .inl (c3, 64, .inl (fun _ => 0))), (q4, .inl (c4, 64, .inl (fun _ => 0))), (q5, .inl (c5, 64, .inl (fun _ => 0))), (q6, .inl (c6, 64, .inr (.inl (fun _ => 0)))), (q7, .inl (c7, 64, .inr (.inl (fun _ => 0)))), (q8, .inl (c8, 4, .inl (fun _ => 0))), (q9, .inl (c9, 4, .inl (fun _ => 0))), (q10, .inl (c10, 4, .inl (fun _ => 0)))] H := hP
  have hD : va_D A [(h, .inr (8, [.int (0 : Int32), .int (0 : Int32), .int (0 : Int32), .int (0 : Int32), .int (0 : Int32), .int (0 : Int32), .int (-1 : Int32), .ref q1, .ref q2, .ref q3, .ref q4, .ref q5, .ref q6, .ref q7, .ref q8, .ref q9, .null, .null, .null, .null, .null])), (q1, .inl (c1, 64, .inl (fun _ => 0))), (q2, .inl (c2, 64, .inl (fun _ => 0))), (q3, .inl (c3, 64, .inl (fun _ => 0))), (q4, .inl (c4, 64, .inl (fun _ => 0))), (q5, .inl (c5, 64, .inl (fun _ => 0))), (q6, .inl (c6, 64, .inr (.inl (fun _ => 0)))), (q7, .inl (c7, 64, .inr (.inl (fun _ => 0)))), (q8, .inl (c8, 4, .inl (fun _ => 0))), (q9, .inl (c9, 4, .inl (fun _ => 0))), (q10, .inl (c10, 4, .inl (fun _ => 0)))] := hD
  have hK : va_K (dC, dI) vwCl [(c1, .int), (c2, .int), (c3, .int), (c4, .int), (c5, .int), (c6, .long), (c7, .long), (c8, .int), (c9, .int), (c10, .int)] s := hK
  refine W.widen (k := 10) (n := 460) (by omega) (by omega) ?_
  refine va_putF (D := (dC, dI)) (ci := 8) (v := .ref q10) (ty := .array .int) (C := RX10) (T := TX10) (N := 21) hx hb hta inX10 tyX10 tyX10_ok nmX10 hown hK hP hD hS 0 rfl rfl 16 (by decide) (hta _ mw_649) (fun _ h9 => h9) rfl hin rfl (by decide +kernel) rfl rfl (Nat.le_of_ble_eq_true rfl) dX10_init_113 (fun H locs hP hD hS => ?_)
  have hP : va_P (dC, dI) vwCl [(h, .inr (8, [.int (0 : Int32), .int (0 : Int32), .int (0 : Int32), .int (0 : Int32), .int (0 : Int32), .int (0 : Int32), .int (-1 : Int32), .ref q1, .ref q2, .ref q3, .ref q4, .ref q5, .ref q6, .ref q7, .ref q8, .ref q9, .ref q10, .null, .null, .null, .null])), (q1, .inl (c1, 64, .inl (fun _ => 0))), (q2, .inl (c2, 64, .inl (fun _ => 0))), (q3, .inl (c3, 64, .inl (fun _ => 0))), (q4, .inl (c4, 64, .inl (fun _ => 0))), (q5, .inl (c5, 64, .inl (fun _ => 0))), (q6, .inl (c6, 64, .inr (.inl (fun _ => 0)))), (q7, .inl (c7, 64, .inr (.inl (fun _ => 0)))), (q8, .inl (c8, 4, .inl (fun _ => 0))), (q9, .inl (c9, 4, .inl (fun _ => 0))), (q10, .inl (c10, 4, .inl (fun _ => 0)))] H := hP
  have hD : va_D A [(h, .inr (8, [.int (0 : Int32), .int (0 : Int32), .int (0 : Int32), .int (0 : Int32), .int (0 : Int32), .int (0 : Int32), .int (-1 : Int32), .ref q1, .ref q2, .ref q3, .ref q4, .ref q5, .ref q6, .ref q7, .ref q8, .ref q9, .ref q10, .null, .null, .null, .null])), (q1, .inl (c1, 64, .inl (fun _ => 0))), (q2, .inl (c2, 64, .inl (fun _ => 0))), (q3, .inl (c3, 64, .inl (fun _ => 0))), (q4, .inl (c4, 64, .inl (fun _ => 0))), (q5, .inl (c5, 64, .inl (fun _ => 0))), (q6, .inl (c6, 64, .inr (.inl (fun _ => 0)))), (q7, .inl (c7, 64, .inr (.inl (fun _ => 0)))), (q8, .inl (c8, 4, .inl (fun _ => 0))), (q9, .inl (c9, 4, .inl (fun _ => 0))), (q10, .inl (c10, 4, .inl (fun _ => 0)))] := hD
  refine lv_aload_n hx hb dX10_init_116 rfl (lv_at hl 0 rfl) ?_
  refine lv_iconst (v := (4 : Int32)) hx hb dX10_init_117 (by decide) ?_
  refine va_newa (atype := .int) (ty := .int) (N' := 4) (a0 := (4, .inl (fun _ => 0))) hx hb (hta _ mw_80) rfl hK hP hD hS hAz (fun cA => rfl) (by decide) rfl (by decide) (Nat.le_of_ble_eq_true rfl) (Nat.le_of_ble_eq_true rfl) dX10_init_118 (fun q11 c11 H hK hP hD hS => ?_)
  have hP : va_P (dC, dI) vwCl [(h, .inr (8, [.int (0 : Int32), .int (0 : Int32), .int (0 : Int32), .int (0 : Int32), .int (0 : Int32), .int (0 : Int32), .int (-1 : Int32), .ref q1, .ref q2, .ref q3, .ref q4, .ref q5, .ref q6, .ref q7, .ref q8, .ref q9, .ref q10, .null, .null, .null, .null])), (q1, .inl (c1, 64, .inl (fun _ => 0))), (q2, .inl (c2, 64, .inl (fun _ => 0))), (q3, .inl (c3, 64, .inl (fun _ => 0))), (q4, .inl (c4, 64, .inl (fun _ => 0))), (q5, .inl (c5, 64, .inl (fun _ => 0))), (q6, .inl (c6, 64, .inr (.inl (fun _ => 0)))), (q7, .inl (c7, 64, .inr (.inl (fun _ => 0)))), (q8, .inl (c8, 4, .inl (fun _ => 0))), (q9, .inl (c9, 4, .inl (fun _ => 0))), (q10, .inl (c10, 4, .inl (fun _ => 0))), (q11, .inl (c11, 4, .inl (fun _ => 0)))] H := hP
  have hD : va_D A [(h, .inr (8, [.int (0 : Int32), .int (0 : Int32), .int (0 : Int32), .int (0 : Int32), .int (0 : Int32), .int (0 : Int32), .int (-1 : Int32), .ref q1, .ref q2, .ref q3, .ref q4, .ref q5, .ref q6, .ref q7, .ref q8, .ref q9, .ref q10, .null, .null, .null, .null])), (q1, .inl (c1, 64, .inl (fun _ => 0))), (q2, .inl (c2, 64, .inl (fun _ => 0))), (q3, .inl (c3, 64, .inl (fun _ => 0))), (q4, .inl (c4, 64, .inl (fun _ => 0))), (q5, .inl (c5, 64, .inl (fun _ => 0))), (q6, .inl (c6, 64, .inr (.inl (fun _ => 0)))), (q7, .inl (c7, 64, .inr (.inl (fun _ => 0)))), (q8, .inl (c8, 4, .inl (fun _ => 0))), (q9, .inl (c9, 4, .inl (fun _ => 0))), (q10, .inl (c10, 4, .inl (fun _ => 0))), (q11, .inl (c11, 4, .inl (fun _ => 0)))] := hD
  have hK : va_K (dC, dI) vwCl [(c1, .int), (c2, .int), (c3, .int), (c4, .int), (c5, .int), (c6, .long), (c7, .long), (c8, .int), (c9, .int), (c10, .int), (c11, .int)] s := hK
  refine W.widen (k := 11) (n := 464) (by omega) (by omega) ?_
  refine va_putF (D := (dC, dI)) (ci := 8) (v := .ref q11) (ty := .array .int) (C := RX10) (T := TX10) (N := 21) hx hb hta inX10 tyX10 tyX10_ok nmX10 hown hK hP hD hS 0 rfl rfl 17 (by decide) (hta _ mw_650) (fun _ h9 => h9) rfl hin rfl (by decide +kernel) rfl rfl (Nat.le_of_ble_eq_true rfl) dX10_init_120 (fun H locs hP hD hS => ?_)
  have hP : va_P (dC, dI) vwCl [(h, .inr (8, [.int (0 : Int32), .int (0 : Int32), .int (0 : Int32), .int (0 : Int32), .int (0 : Int32), .int (0 : Int32), .int (-1 : Int32), .ref q1, .ref q2, .ref q3, .ref q4, .ref q5, .ref q6, .ref q7, .ref q8, .ref q9, .ref q10, .ref q11, .null, .null, .null])), (q1, .inl (c1, 64, .inl (fun _ => 0))), (q2, .inl (c2, 64, .inl (fun _ => 0))), (q3, .inl (c3, 64, .inl (fun _ => 0))), (q4, .inl (c4, 64, .inl (fun _ => 0))), (q5, .inl (c5, 64, .inl (fun _ => 0))), (q6, .inl (c6, 64, .inr (.inl (fun _ => 0)))), (q7, .inl (c7, 64, .inr (.inl (fun _ => 0)))), (q8, .inl (c8, 4, .inl (fun _ => 0))), (q9, .inl (c9, 4, .inl (fun _ => 0))), (q10, .inl (c10, 4, .inl (fun _ => 0))), (q11, .inl (c11, 4, .inl (fun _ => 0)))] H := hP
  have hD : va_D A [(h, .inr (8, [.int (0 : Int32), .int (0 : Int32), .int (0 : Int32), .int (0 : Int32), .int (0 : Int32), .int (0 : Int32), .int (-1 : Int32), .ref q1, .ref q2, .ref q3, .ref q4, .ref q5, .ref q6, .ref q7, .ref q8, .ref q9, .ref q10, .ref q11, .null, .null, .null])), (q1, .inl (c1, 64, .inl (fun _ => 0))), (q2, .inl (c2, 64, .inl (fun _ => 0))), (q3, .inl (c3, 64, .inl (fun _ => 0))), (q4, .inl (c4, 64, .inl (fun _ => 0))), (q5, .inl (c5, 64, .inl (fun _ => 0))), (q6, .inl (c6, 64, .inr (.inl (fun _ => 0)))), (q7, .inl (c7, 64, .inr (.inl (fun _ => 0)))), (q8, .inl (c8, 4, .inl (fun _ => 0))), (q9, .inl (c9, 4, .inl (fun _ => 0))), (q10, .inl (c10, 4, .inl (fun _ => 0))), (q11, .inl (c11, 4, .inl (fun _ => 0)))] := hD
  refine lv_aload_n hx hb dX10_init_123 rfl (lv_at hl 0 rfl) ?_
  refine lv_iconst (v := (4 : Int32)) hx hb dX10_init_124 (by decide) ?_
  refine va_newa (atype := .boolean) (ty := .boolean) (N' := 4) (a0 := (4, .inl (fun _ => 0))) hx hb (hta _ mw_81) rfl hK hP hD hS hAz (fun cA => rfl) (by decide) rfl (by decide) (Nat.le_of_ble_eq_true rfl) (Nat.le_of_ble_eq_true rfl) dX10_init_125 (fun q12 c12 H hK hP hD hS => ?_)
  have hP : va_P (dC, dI) vwCl [(h, .inr (8, [.int (0 : Int32), .int (0 : Int32), .int (0 : Int32), .int (0 : Int32), .int (0 : Int32), .int (0 : Int32), .int (-1 : Int32), .ref q1, .ref q2, .ref q3, .ref q4, .ref q5, .ref q6, .ref q7, .ref q8, .ref q9, .ref q10, .ref q11, .null, .null, .null])), (q1, .inl (c1, 64, .inl (fun _ => 0))), (q2, .inl (c2, 64, .inl (fun _ => 0))), (q3, .inl (c3, 64, .inl (fun _ => 0))), (q4, .inl (c4, 64, .inl (fun _ => 0))), (q5, .inl (c5, 64, .inl (fun _ => 0))), (q6, .inl (c6, 64, .inr (.inl (fun _ => 0)))), (q7, .inl (c7, 64, .inr (.inl (fun _ => 0)))), (q8, .inl (c8, 4, .inl (fun _ => 0))), (q9, .inl (c9, 4, .inl (fun _ => 0))), (q10, .inl (c10, 4, .inl (fun _ => 0))), (q11, .inl (c11, 4, .inl (fun _ => 0))), (q12, .inl (c12, 4, .inl (fun _ => 0)))] H := hP
  have hD : va_D A [(h, .inr (8, [.int (0 : Int32), .int (0 : Int32), .int (0 : Int32), .int (0 : Int32), .int (0 : Int32), .int (0 : Int32), .int (-1 : Int32), .ref q1, .ref q2, .ref q3, .ref q4, .ref q5, .ref q6, .ref q7, .ref q8, .ref q9, .ref q10, .ref q11, .null, .null, .null])), (q1, .inl (c1, 64, .inl (fun _ => 0))), (q2, .inl (c2, 64, .inl (fun _ => 0))), (q3, .inl (c3, 64, .inl (fun _ => 0))), (q4, .inl (c4, 64, .inl (fun _ => 0))), (q5, .inl (c5, 64, .inl (fun _ => 0))), (q6, .inl (c6, 64, .inr (.inl (fun _ => 0)))), (q7, .inl (c7, 64, .inr (.inl (fun _ => 0)))), (q8, .inl (c8, 4, .inl (fun _ => 0))), (q9, .inl (c9, 4, .inl (fun _ => 0))), (q10, .inl (c10, 4, .inl (fun _ => 0))), (q11, .inl (c11, 4, .inl (fun _ => 0))), (q12, .inl (c12, 4, .inl (fun _ => 0)))] := hD
  have hK : va_K (dC, dI) vwCl [(c1, .int), (c2, .int), (c3, .int), (c4, .int), (c5, .int), (c6, .long), (c7, .long), (c8, .int), (c9, .int), (c10, .int), (c11, .int), (c12, .boolean)] s := hK
  refine W.widen (k := 12) (n := 468) (by omega) (by omega) ?_
  refine va_putF (D := (dC, dI)) (ci := 8) (v := .ref q12) (ty := .array .boolean) (C := RX10) (T := TX10) (N := 21) hx hb hta inX10 tyX10 tyX10_ok nmX10 hown hK hP hD hS 0 rfl rfl 18 (by decide) (hta _ mw_651) (fun _ h9 => h9) rfl hin rfl (by decide +kernel) rfl rfl (Nat.le_of_ble_eq_true rfl) dX10_init_127 (fun H locs hP hD hS => ?_)
  have hP : va_P (dC, dI) vwCl [(h, .inr (8, [.int (0 : Int32), .int (0 : Int32), .int (0 : Int32), .int (0 : Int32), .int (0 : Int32), .int (0 : Int32), .int (-1 : Int32), .ref q1, .ref q2, .ref q3, .ref q4, .ref q5, .ref q6, .ref q7, .ref q8, .ref q9, .ref q10, .ref q11, .ref q12, .null, .null])), (q1, .inl (c1, 64, .inl (fun _ => 0))), (q2, .inl (c2, 64, .inl (fun _ => 0))), (q3, .inl (c3, 64, .inl (fun _ => 0))), (q4, .inl (c4, 64, .inl (fun _ => 0))), (q5, .inl (c5, 64, .inl (fun _ => 0))), (q6, .inl (c6, 64, .inr (.inl (fun _ => 0)))), (q7, .inl (c7, 64, .inr (.inl (fun _ => 0)))), (q8, .inl (c8, 4, .inl (fun _ => 0))), (q9, .inl (c9, 4, .inl (fun _ => 0))), (q10, .inl (c10, 4, .inl (fun _ => 0))), (q11, .inl (c11, 4, .inl (fun _ => 0))), (q12, .inl (c12, 4, .inl (fun _ => 0)))] H := hP
  have hD : va_D A [(h, .inr (8, [.int (0 : Int32), .int (0 : Int32), .int (0 : Int32), .int (0 : Int32), .int (0 : Int32), .int (0 : Int32), .int (-1 : Int32), .ref q1, .ref q2, .ref q3, .ref q4, .ref q5, .ref q6, .ref q7, .ref q8, .ref q9, .ref q10, .ref q11, .ref q12, .null, .null])), (q1, .inl (c1, 64, .inl (fun _ => 0))), (q2, .inl (c2, 64, .inl (fun _ => 0))), (q3, .inl (c3, 64, .inl (fun _ => 0))), (q4, .inl (c4, 64, .inl (fun _ => 0))), (q5, .inl (c5, 64, .inl (fun _ => 0))), (q6, .inl (c6, 64, .inr (.inl (fun _ => 0)))), (q7, .inl (c7, 64, .inr (.inl (fun _ => 0)))), (q8, .inl (c8, 4, .inl (fun _ => 0))), (q9, .inl (c9, 4, .inl (fun _ => 0))), (q10, .inl (c10, 4, .inl (fun _ => 0))), (q11, .inl (c11, 4, .inl (fun _ => 0))), (q12, .inl (c12, 4, .inl (fun _ => 0)))] := hD
  refine lv_aload_n hx hb dX10_init_130 rfl (lv_at hl 0 rfl) ?_
  refine lv_bipush (v := (16 : Int32)) hx hb dX10_init_131 (by decide) ?_
  refine va_newa (atype := .int) (ty := .int) (N' := 16) (a0 := (16, .inl (fun _ => 0))) hx hb (hta _ mw_80) rfl hK hP hD hS hAz (fun cA => rfl) (by decide) rfl (by decide) (Nat.le_of_ble_eq_true rfl) (Nat.le_of_ble_eq_true rfl) dX10_init_133 (fun q13 c13 H hK hP hD hS => ?_)
  have hP : va_P (dC, dI) vwCl [(h, .inr (8, [.int (0 : Int32), .int (0 : Int32), .int (0 : Int32), .int (0 : Int32), .int (0 : Int32), .int (0 : Int32), .int (-1 : Int32), .ref q1, .ref q2, .ref q3, .ref q4, .ref q5, .ref q6, .ref q7, .ref q8, .ref q9, .ref q10, .ref q11, .ref q12, .null, .null])), (q1, .inl (c1, 64, .inl (fun _ => 0))), (q2, .inl (c2, 64, .inl (fun _ => 0))), (q3, .inl (c3, 64, .inl (fun _ => 0))), (q4, .inl (c4, 64, .inl (fun _ => 0))), (q5, .inl (c5, 64, .inl (fun _ => 0))), (q6, .inl (c6, 64, .inr (.inl (fun _ => 0)))), (q7, .inl (c7, 64, .inr (.inl (fun _ => 0)))), (q8, .inl (c8, 4, .inl (fun _ => 0))), (q9, .inl (c9, 4, .inl (fun _ => 0))), (q10, .inl (c10, 4, .inl (fun _ => 0))), (q11, .inl (c11, 4, .inl (fun _ => 0))), (q12, .inl (c12, 4, .inl (fun _ => 0))), (q13, .inl (c13, 16, .inl (fun _ => 0)))] H := hP
  have hD : va_D A [(h, .inr (8, [.int (0 : Int32), .int (0 : Int32), .int (0 : Int32), .int (0 : Int32), .int (0 : Int32), .int (0 : Int32), .int (-1 : Int32), .ref q1, .ref q2, .ref q3, .ref q4, .ref q5, .ref q6, .ref q7, .ref q8, .ref q9, .ref q10, .ref q11, .ref q12, .null, .null])), (q1, .inl (c1, 64, .inl (fun _ => 0))), (q2, .inl (c2, 64, .inl (fun _ => 0))), (q3, .inl (c3, 64, .inl (fun _ => 0))), (q4, .inl (c4, 64, .inl (fun _ => 0))), (q5, .inl (c5, 64, .inl (fun _ => 0))), (q6, .inl (c6, 64, .inr (.inl (fun _ => 0)))), (q7, .inl (c7, 64, .inr (.inl (fun _ => 0)))), (q8, .inl (c8, 4, .inl (fun _ => 0))), (q9, .inl (c9, 4, .inl (fun _ => 0))), (q10, .inl (c10, 4, .inl (fun _ => 0))), (q11, .inl (c11, 4, .inl (fun _ => 0))), (q12, .inl (c12, 4, .inl (fun _ => 0))), (q13, .inl (c13, 16, .inl (fun _ => 0)))] := hD
  have hK : va_K (dC, dI) vwCl [(c1, .int), (c2, .int), (c3, .int), (c4, .int), (c5, .int), (c6, .long), (c7, .long), (c8, .int), (c9, .int), (c10, .int), (c11, .int), (c12, .boolean), (c13, .int)] s := hK
  refine W.widen (k := 13) (n := 484) (by omega) (by omega) ?_
  refine va_putF (D := (dC, dI)) (ci := 8) (v := .ref q13) (ty := .array .int) (C := RX10) (T := TX10) (N := 21) hx hb hta inX10 tyX10 tyX10_ok nmX10 hown hK hP hD hS 0 rfl rfl 19 (by decide) (hta _ mw_652) (fun _ h9 => h9) rfl hin rfl (by decide +kernel) rfl rfl (Nat.le_of_ble_eq_true rfl) dX10_init_135 (fun H locs hP hD hS => ?_)
  have hP : va_P (dC, dI) vwCl [(h, .inr (8, [.int (0 : Int32), .int (0 : Int32), .int (0 : Int32), .int (0 : Int32), .int (0 : Int32), .int (0 : Int32), .int (-1 : Int32), .ref q1, .ref q2, .ref q3, .ref q4, .ref q5, .ref q6, .ref q7, .ref q8, .ref q9, .ref q10, .ref q11, .ref q12, .ref q13, .null])), (q1, .inl (c1, 64, .inl (fun _ => 0))), (q2, .inl (c2, 64, .inl (fun _ => 0))), (q3, .inl (c3, 64, .inl (fun _ => 0))), (q4, .inl (c4, 64, .inl (fun _ => 0))), (q5, .inl (c5, 64, .inl (fun _ => 0))), (q6, .inl (c6, 64, .inr (.inl (fun _ => 0)))), (q7, .inl (c7, 64, .inr (.inl (fun _ => 0)))), (q8, .inl (c8, 4, .inl (fun _ => 0))), (q9, .inl (c9, 4, .inl (fun _ => 0))), (q10, .inl (c10, 4, .inl (fun _ => 0))), (q11, .inl (c11, 4, .inl (fun _ => 0))), (q12, .inl (c12, 4, .inl (fun _ => 0))), (q13, .inl (c13, 16, .inl (fun _ => 0)))] H := hP
  have hD : va_D A [(h, .inr (8, [.int (0 : Int32), .int (0 : Int32), .int (0 : Int32), .int (0 : Int32), .int (0 : Int32), .int (0 : Int32), .int (-1 : Int32), .ref q1, .ref q2, .ref q3, .ref q4, .ref q5, .ref q6, .ref q7, .ref q8, .ref q9, .ref q10, .ref q11, .ref q12, .ref q13, .null])), (q1, .inl (c1, 64, .inl (fun _ => 0))), (q2, .inl (c2, 64, .inl (fun _ => 0))), (q3, .inl (c3, 64, .inl (fun _ => 0))), (q4, .inl (c4, 64, .inl (fun _ => 0))), (q5, .inl (c5, 64, .inl (fun _ => 0))), (q6, .inl (c6, 64, .inr (.inl (fun _ => 0)))), (q7, .inl (c7, 64, .inr (.inl (fun _ => 0)))), (q8, .inl (c8, 4, .inl (fun _ => 0))), (q9, .inl (c9, 4, .inl (fun _ => 0))), (q10, .inl (c10, 4, .inl (fun _ => 0))), (q11, .inl (c11, 4, .inl (fun _ => 0))), (q12, .inl (c12, 4, .inl (fun _ => 0))), (q13, .inl (c13, 16, .inl (fun _ => 0)))] := hD
  refine lv_aload_n hx hb dX10_init_138 rfl (lv_at hl 0 rfl) ?_
  refine lv_bipush (v := (16 : Int32)) hx hb dX10_init_139 (by decide) ?_
  refine va_newa (atype := .int) (ty := .int) (N' := 16) (a0 := (16, .inl (fun _ => 0))) hx hb (hta _ mw_80) rfl hK hP hD hS hAz (fun cA => rfl) (by decide) rfl (by decide) (Nat.le_of_ble_eq_true rfl) (Nat.le_of_ble_eq_true rfl) dX10_init_141 (fun q14 c14 H hK hP hD hS => ?_)
  have hP : va_P (dC, dI) vwCl [(h, .inr (8, [.int (0 : Int32), .int (0 : Int32), .int (0 : Int32), .int (0 : Int32), .int (0 : Int32), .int (0 : Int32), .int (-1 : Int32), .ref q1, .ref q2, .ref q3, .ref q4, .ref q5, .ref q6, .ref q7, .ref q8, .ref q9, .ref q10, .ref q11, .ref q12, .ref q13, .null])), (q1, .inl (c1, 64, .inl (fun _ => 0))), (q2, .inl (c2, 64, .inl (fun _ => 0))), (q3, .inl (c3, 64, .inl (fun _ => 0))), (q4, .inl (c4, 64, .inl (fun _ => 0))), (q5, .inl (c5, 64, .inl (fun _ => 0))), (q6, .inl (c6, 64, .inr (.inl (fun _ => 0)))), (q7, .inl (c7, 64, .inr (.inl (fun _ => 0)))), (q8, .inl (c8, 4, .inl (fun _ => 0))), (q9, .inl (c9, 4, .inl (fun _ => 0))), (q10, .inl (c10, 4, .inl (fun _ => 0))), (q11, .inl (c11, 4, .inl (fun _ => 0))), (q12, .inl (c12, 4, .inl (fun _ => 0))), (q13, .inl (c13, 16, .inl (fun _ => 0))), (q14, .inl (c14, 16, .inl (fun _ => 0)))] H := hP
  have hD : va_D A [(h, .inr (8, [.int (0 : Int32), .int (0 : Int32), .int (0 : Int32), .int (0 : Int32), .int (0 : Int32), .int (0 : Int32), .int (-1 : Int32), .ref q1, .ref q2, .ref q3, .ref q4, .ref q5, .ref q6, .ref q7, .ref q8, .ref q9, .ref q10, .ref q11, .ref q12, .ref q13, .null])), (q1, .inl (c1, 64, .inl (fun _ => 0))), (q2, .inl (c2, 64, .inl (fun _ => 0))), (q3, .inl (c3, 64, .inl (fun _ => 0))), (q4, .inl (c4, 64, .inl (fun _ => 0))), (q5, .inl (c5, 64, .inl (fun _ => 0))), (q6, .inl (c6, 64, .inr (.inl (fun _ => 0)))), (q7, .inl (c7, 64, .inr (.inl (fun _ => 0)))), (q8, .inl (c8, 4, .inl (fun _ => 0))), (q9, .inl (c9, 4, .inl (fun _ => 0))), (q10, .inl (c10, 4, .inl (fun _ => 0))), (q11, .inl (c11, 4, .inl (fun _ => 0))), (q12, .inl (c12, 4, .inl (fun _ => 0))), (q13, .inl (c13, 16, .inl (fun _ => 0))), (q14, .inl (c14, 16, .inl (fun _ => 0)))] := hD
  have hK : va_K (dC, dI) vwCl [(c1, .int), (c2, .int), (c3, .int), (c4, .int), (c5, .int), (c6, .long), (c7, .long), (c8, .int), (c9, .int), (c10, .int), (c11, .int), (c12, .boolean), (c13, .int), (c14, .int)] s := hK
  refine W.widen (k := 14) (n := 500) (by omega) (by omega) ?_
  refine va_putF (D := (dC, dI)) (ci := 8) (v := .ref q14) (ty := .array .int) (C := RX10) (T := TX10) (N := 21) hx hb hta inX10 tyX10 tyX10_ok nmX10 hown hK hP hD hS 0 rfl rfl 20 (by decide) (hta _ mw_653) (fun _ h9 => h9) rfl hin rfl (by decide +kernel) rfl rfl (Nat.le_of_ble_eq_true rfl) dX10_init_143 (fun H locs hP hD hS => ?_)
  have hP : va_P (dC, dI) vwCl [(h, .inr (8, [.int (0 : Int32), .int (0 : Int32), .int (0 : Int32), .int (0 : Int32), .int (0 : Int32), .int (0 : Int32), .int (-1 : Int32), .ref q1, .ref q2, .ref q3, .ref q4, .ref q5, .ref q6, .ref q7, .ref q8, .ref q9, .ref q10, .ref q11, .ref q12, .ref q13, .ref q14])), (q1, .inl (c1, 64, .inl (fun _ => 0))), (q2, .inl (c2, 64, .inl (fun _ => 0))), (q3, .inl (c3, 64, .inl (fun _ => 0))), (q4, .inl (c4, 64, .inl (fun _ => 0))), (q5, .inl (c5, 64, .inl (fun _ => 0))), (q6, .inl (c6, 64, .inr (.inl (fun _ => 0)))), (q7, .inl (c7, 64, .inr (.inl (fun _ => 0)))), (q8, .inl (c8, 4, .inl (fun _ => 0))), (q9, .inl (c9, 4, .inl (fun _ => 0))), (q10, .inl (c10, 4, .inl (fun _ => 0))), (q11, .inl (c11, 4, .inl (fun _ => 0))), (q12, .inl (c12, 4, .inl (fun _ => 0))), (q13, .inl (c13, 16, .inl (fun _ => 0))), (q14, .inl (c14, 16, .inl (fun _ => 0)))] H := hP
  have hD : va_D A [(h, .inr (8, [.int (0 : Int32), .int (0 : Int32), .int (0 : Int32), .int (0 : Int32), .int (0 : Int32), .int (0 : Int32), .int (-1 : Int32), .ref q1, .ref q2, .ref q3, .ref q4, .ref q5, .ref q6, .ref q7, .ref q8, .ref q9, .ref q10, .ref q11, .ref q12, .ref q13, .ref q14])), (q1, .inl (c1, 64, .inl (fun _ => 0))), (q2, .inl (c2, 64, .inl (fun _ => 0))), (q3, .inl (c3, 64, .inl (fun _ => 0))), (q4, .inl (c4, 64, .inl (fun _ => 0))), (q5, .inl (c5, 64, .inl (fun _ => 0))), (q6, .inl (c6, 64, .inr (.inl (fun _ => 0)))), (q7, .inl (c7, 64, .inr (.inl (fun _ => 0)))), (q8, .inl (c8, 4, .inl (fun _ => 0))), (q9, .inl (c9, 4, .inl (fun _ => 0))), (q10, .inl (c10, 4, .inl (fun _ => 0))), (q11, .inl (c11, 4, .inl (fun _ => 0))), (q12, .inl (c12, 4, .inl (fun _ => 0))), (q13, .inl (c13, 16, .inl (fun _ => 0))), (q14, .inl (c14, 16, .inl (fun _ => 0)))] := hD
  have hP9 := hP.sub (ws' := [(h, .inr (8, [.int (0 : Int32), .int (0 : Int32), .int (0 : Int32), .int (0 : Int32), .int (0 : Int32), .int (0 : Int32), .int (-1 : Int32), .ref q1, .ref q2, .ref q3, .ref q4, .ref q5, .ref q6, .ref q7, .ref q8, .ref q9, .ref q10, .ref q11, .ref q12, .ref q13, .ref q14])), (q1, .inl (c1, 64, .inl (fun _ => 0))), (q2, .inl (c2, 64, .inl (fun _ => 0))), (q3, .inl (c3, 64, .inl (fun _ => 0))), (q4, .inl (c4, 64, .inl (fun _ => 0))), (q5, .inl (c5, 64, .inl (fun _ => 0))), (q6, .inl (c6, 64, .inr (.inl (fun _ => 0)))), (q7, .inl (c7, 64, .inr (.inl (fun _ => 0)))), (q8, .inl (c8, 4, .inl (fun _ => 0))), (q9, .inl (c9, 4, .inl (fun _ => 0))), (q10, .inl (c10, 4, .inl (fun _ => 0))), (q11, .inl (c11, 4, .inl (fun _ => 0))), (q12, .inl (c12, 4, .inl (fun _ => 0))), (q13, .inl (c13, 16, .inl (fun _ => 0))), (q14, .inl (c14, 16, .inl (fun _ => 0)))]) [0, 1, 2, 3, 4, 5, 6, 7, 8, 9, 10, 11, 12, 13, 14] rfl
  have hD9 := hD.sub (ws' := [(h, .inr (8, [.int (0 : Int32), .int (0 : Int32), .int (0 : Int32), .int (0 : Int32), .int (0 : Int32), .int (0 : Int32), .int (-1 : Int32), .ref q1, .ref q2, .ref q3, .ref q4, .ref q5, .ref q6, .ref q7, .ref q8, .ref q9, .ref q10, .ref q11, .ref q12, .ref q13, .ref q14])), (q1, .inl (c1, 64, .inl (fun _ => 0))), (q2, .inl (c2, 64, .inl (fun _ => 0))), (q3, .inl (c3, 64, .inl (fun _ => 0))), (q4, .inl (c4, 64, .inl (fun _ => 0))), (q5, .inl (c5, 64, .inl (fun _ => 0))), (q6, .inl (c6, 64, .inr (.inl (fun _ => 0)))), (q7, .inl (c7, 64, .inr (.inl (fun _ => 0)))), (q8, .inl (c8, 4, .inl (fun _ => 0))), (q9, .inl (c9, 4, .inl (fun _ => 0))), (q10, .inl (c10, 4, .inl (fun _ => 0))), (q11, .inl (c11, 4, .inl (fun _ => 0))), (q12, .inl (c12, 4, .inl (fun _ => 0))), (q13, .inl (c13, 16, .inl (fun _ => 0))), (q14, .inl (c14, 16, .inl (fun _ => 0)))]) [0, 1, 2, 3, 4, 5, 6, 7, 8, 9, 10, 11, 12, 13, 14] (by decide) rfl
  have hK9 := hK.sub (tys' := [(c1, .int), (c2, .int), (c3, .int), (c4, .int), (c5, .int), (c6, .long), (c7, .long), (c8, .int), (c9, .int), (c10, .int), (c11, .int), (c12, .boolean), (c13, .int), (c14, .int)]) [0, 1, 2, 3, 4, 5, 6, 7, 8, 9, 10, 11, 12, 13] rfl
  exact W.vret hx hb hr (fun t ht hW => ⟨⟨(), rfl, trivial, q1, q2, q3, q4, q5, q6, q7, q8, q9, q10, q11, q12, q13, q14, c1, c2, c3, c4, c5, c6, c7, c8, c9, c10, c11, c12, c13, c14, by rw [ht]; exact hP9, va_K.moved hW.alike hK9, hD9⟩, hS.F ht⟩) hS.2.2 dX10_init_146
