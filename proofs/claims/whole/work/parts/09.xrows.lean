theorem mw_165 : (.fieldLink RX7 25 RX7 "rows" "[J" : Cond) ∈ AW := List.mem_filter.mpr ⟨List.mem_of_getElem? (i := 165) (by decide +kernel), rfl⟩
theorem dX7_wordOf_0 : decode cX7_wordOf 0 = .ok (.aload_n 0, 1) := by decide +kernel
theorem dX7_wordOf_1 : decode cX7_wordOf 1 = .ok (.getfield 25, 3) := by decide +kernel
theorem dX7_wordOf_4 : decode cX7_wordOf 4 = .ok (.iload_n 1, 1) := by decide +kernel
theorem dX7_wordOf_5 : decode cX7_wordOf 5 = .ok (.bipush 16, 2) := by decide +kernel
theorem dX7_wordOf_7 : decode cX7_wordOf 7 = .ok (.imul, 1) := by decide +kernel
theorem dX7_wordOf_8 : decode cX7_wordOf 8 = .ok (.iload_n 2, 1) := by decide +kernel
theorem dX7_wordOf_9 : decode cX7_wordOf 9 = .ok (.iadd, 1) := by decide +kernel
theorem dX7_wordOf_10 : decode cX7_wordOf 10 = .ok (.laload, 1) := by decide +kernel
theorem dX7_wordOf_11 : decode cX7_wordOf 11 = .ok (.lreturn, 1) := by decide +kernel
def fx_Rows_wordOf (st : XS) (t : Int32) (j : Int32) : Int64 := fL st 3 ((t * (16 : Int32)) + j).toNatClampNeg
set_option maxHeartbeats 4000000 in
set_option maxRecDepth 100000 in
theorem kx_Rows_wordOf (l : Launch) (dC : Nat → ClassId) (dI : Nat → Nat → Nat) (a : Nat → Nat) (k : Nat → ClassId) (st : XS) (t : Int32) (j : Int32) (hi : vp_in (t * (16 : Int32) + j) 1024) : Met l yX7_wordOf wsX7_wordOf ({ frames := 0, cells := 0, slots := 0, locals := 0 }) (va_Pc [.ref (a 17), .int t, .int j] (wl_prR (dC, dI) vwCl (xt k) (xw a k st))) (vp_Sl (fun r9 => r9 = fx_Rows_wordOf st t j)) 0 0 (fun _ => False) := by
  refine Met.ofW (cc := cX7_wordOf) (maxL := 3) (ret := (some .long)) (by decide) rfl ?_
  intro p e s m args below meth c s₁ B hml hv
  obtain ⟨rfl, hP, hK⟩ := hv
  have hx := B.exec
  have hb := B.bytes
  have hr := B.returns
  have hta := aw_hts (atoms_spec (ws := wsX7_wordOf) B.pre)
  have hown : s.vm.findClass RX7 = some m.cls := findClass_of_methodNamed B.named
  have hlocks := B.notSynchronized
  have hf25 := hta _ mw_165
  have hl := lv_entry ([.ref (a 17), .int t, .int j]) (n := 3) (Nat.le_of_ble_eq_true rfl)
  rw [lg_entry_eq]
  generalize (lg_sl ([.ref (a 17), .int t, .int j]) ++ List.replicate (3 - (lg_sl ([.ref (a 17), .int t, .int j])).length) Slot.unset).toArray = ls at hl ⊢
  have hl : lv_has ls 3 [(0, .ref (a 17)), (1, .int t), (2, .int j)] := hl
  generalize hR : fx_Rows_wordOf st t j = R
  rw [fx_Rows_wordOf] at hR
  refine lv_aload_n hx hb dX7_wordOf_0 rfl (lv_at hl 0 rfl) ?_
  refine va_get (D := (dC, dI)) (ci := 5) (v := .ref (a 18)) (C := RX7) (T := TX7) (N := 7) hx hb hta inX7 hown hK hP 17 (xr_17 a k st) rfl 3 (by decide) hf25 (fun _ h9 => h9) rfl dX7_wordOf_1 ?_
  refine lv_iload_n hx hb dX7_wordOf_4 rfl (lv_at hl 1 rfl) ?_
  refine lv_bipush (v := (16 : Int32)) hx hb dX7_wordOf_5 (by decide) ?_
  refine lv_imul hx hb dX7_wordOf_7 ?_
  refine lv_iload_n hx hb dX7_wordOf_8 rfl (lv_at hl 2 rfl) ?_
  refine lv_iadd hx hb dX7_wordOf_9 ?_
  refine va_lald hx hb hK hP 18 11 (xr_18 a k st) rfl hi dX7_wordOf_10 ?_
  exact W.lret (v := fL st 3 ((t * (16 : Int32)) + j).toNatClampNeg) hx hb hr (fun t ht hW => ⟨_, rfl, hR, ht⟩) (fun q h => by cases h) dX7_wordOf_11

theorem mw_162 : (.fieldLink RX7 9 RX7 "terms" "LPathSolver$Terms;" : Cond) ∈ AW := List.mem_filter.mpr ⟨List.mem_of_getElem? (i := 162) (by decide +kernel), rfl⟩
theorem mw_300 : (.methodLink RX7 41 yX4_size : Cond) ∈ AW := List.mem_filter.mpr ⟨List.mem_of_getElem? (i := 300) (by decide +kernel), rfl⟩
theorem mw_307 : (.code yX4_readsTable cX4_readsTable 3 (some .boolean) : Cond) ∈ AW := List.mem_filter.mpr ⟨List.mem_of_getElem? (i := 307) (by decide +kernel), rfl⟩
theorem mw_304 : (.methodLink RX7 45 yX4_readsTable : Cond) ∈ AW := List.mem_filter.mpr ⟨List.mem_of_getElem? (i := 304) (by decide +kernel), rfl⟩
theorem mw_305 : (.instanceMethod yX4_readsTable : Cond) ∈ AW := List.mem_filter.mpr ⟨List.mem_of_getElem? (i := 305) (by decide +kernel), rfl⟩
theorem mw_306 : (.selects RX4 yX4_readsTable yX4_readsTable : Cond) ∈ AW := List.mem_filter.mpr ⟨List.mem_of_getElem? (i := 306) (by decide +kernel), rfl⟩
theorem mw_166 : (.fieldLink RX7 29 RX7 "known" "[Z" : Cond) ∈ AW := List.mem_filter.mpr ⟨List.mem_of_getElem? (i := 166) (by decide +kernel), rfl⟩
theorem gX7_41 : GoodIn AW (wsV RX7 41 RX4 yX4_size wsX4_size) := aw_V mw_300 mw_301 mw_302 mw_41 mw_303
theorem gX7_45 : GoodIn AW (wsV RX7 45 RX4 yX4_readsTable wsX4_readsTable) := aw_V mw_304 mw_305 mw_306 mw_41 mw_307
theorem dX7_forgetReadersOf_0 : decode cX7_forgetReadersOf 0 = .ok (.aload_n 0, 1) := by decide +kernel
theorem dX7_forgetReadersOf_1 : decode cX7_forgetReadersOf 1 = .ok (.getfield 9, 3) := by decide +kernel
theorem dX7_forgetReadersOf_4 : decode cX7_forgetReadersOf 4 = .ok (.invokevirtual 41, 3) := by decide +kernel
theorem dX7_forgetReadersOf_7 : decode cX7_forgetReadersOf 7 = .ok (.istore_n 2, 1) := by decide +kernel
theorem dX7_forgetReadersOf_8 : decode cX7_forgetReadersOf 8 = .ok (.iconst 0, 1) := by decide +kernel
theorem dX7_forgetReadersOf_9 : decode cX7_forgetReadersOf 9 = .ok (.istore_n 3, 1) := by decide +kernel
theorem dX7_forgetReadersOf_10 : decode cX7_forgetReadersOf 10 = .ok (.iload_n 3, 1) := by decide +kernel
theorem dX7_forgetReadersOf_11 : decode cX7_forgetReadersOf 11 = .ok (.iload_n 2, 1) := by decide +kernel
theorem dX7_forgetReadersOf_12 : decode cX7_forgetReadersOf 12 = .ok (.if_icmp .ge 28, 3) := by decide +kernel
theorem dX7_forgetReadersOf_15 : decode cX7_forgetReadersOf 15 = .ok (.aload_n 0, 1) := by decide +kernel
theorem dX7_forgetReadersOf_16 : decode cX7_forgetReadersOf 16 = .ok (.getfield 9, 3) := by decide +kernel
theorem dX7_forgetReadersOf_19 : decode cX7_forgetReadersOf 19 = .ok (.iload_n 3, 1) := by decide +kernel
theorem dX7_forgetReadersOf_20 : decode cX7_forgetReadersOf 20 = .ok (.iload_n 1, 1) := by decide +kernel
theorem dX7_forgetReadersOf_21 : decode cX7_forgetReadersOf 21 = .ok (.invokevirtual 45, 3) := by decide +kernel
theorem dX7_forgetReadersOf_24 : decode cX7_forgetReadersOf 24 = .ok (.ifCond .eq 10, 3) := by decide +kernel
theorem dX7_forgetReadersOf_27 : decode cX7_forgetReadersOf 27 = .ok (.aload_n 0, 1) := by decide +kernel
theorem dX7_forgetReadersOf_28 : decode cX7_forgetReadersOf 28 = .ok (.getfield 29, 3) := by decide +kernel
theorem dX7_forgetReadersOf_31 : decode cX7_forgetReadersOf 31 = .ok (.iload_n 3, 1) := by decide +kernel
theorem dX7_forgetReadersOf_32 : decode cX7_forgetReadersOf 32 = .ok (.iconst 0, 1) := by decide +kernel
theorem dX7_forgetReadersOf_33 : decode cX7_forgetReadersOf 33 = .ok (.bastore, 1) := by decide +kernel
theorem dX7_forgetReadersOf_34 : decode cX7_forgetReadersOf 34 = .ok (.iinc 3 1, 3) := by decide +kernel
theorem dX7_forgetReadersOf_37 : decode cX7_forgetReadersOf 37 = .ok (.goto (-27), 3) := by decide +kernel
theorem dX7_forgetReadersOf_40 : decode cX7_forgetReadersOf 40 = .ok (.return_, 1) := by decide +kernel
def fx_Rows_forgetReadersOf_L10 (st : XS) (tb : Int32) : Nat → Nat → XS → XS
  | 0, i, S1 => S1
  | n + 1, i, S1 => 
    if fx_Terms_size st ≤ nI i then S1
    else 
      if fx_Terms_readsTable S1 (nI i) tb = (0 : Int32) then fx_Rows_forgetReadersOf_L10 st tb n (i + 1) S1
      else fx_Rows_forgetReadersOf_L10 st tb n (i + 1) (wA S1 8 ((nI i).toNatClampNeg) (vp_nar .boolean (0 : Int32)))
def fx_Rows_forgetReadersOf (st : XS) (tb : Int32) : XS := fx_Rows_forgetReadersOf_L10 st tb 65 0 st
theorem fr_Rows_forgetReadersOf_L10 {S0 : XS} (st : XS) (tb : Int32) : ∀ (n : Nat) (i : Nat) (S1 : XS), XF [] [8] [] S0 S1 → XF [] [8] [] S0 (fx_Rows_forgetReadersOf_L10 st tb n i S1) := by
  intro n
  induction n with
  | zero => intro i S1 h; exact h
  | succ n ih =>
    intro i S1 h
    rw [fx_Rows_forgetReadersOf_L10]
    exact (wl_ite (P := fun (q : XS) => XF [] [8] [] _ (q)) h (wl_ite (P := fun (q : XS) => XF [] [8] [] _ (q)) (ih _ _ h) (ih _ _ (XF.wA (by decide) h))))
theorem ff_Rows_forgetReadersOf (st : XS) (tb : Int32) : XF [] [8] [] st (fx_Rows_forgetReadersOf st tb) := by
  rw [fx_Rows_forgetReadersOf]
  exact (fr_Rows_forgetReadersOf_L10 _ _ _ _ _ XF.rf)
set_option maxHeartbeats 4000000 in
set_option maxRecDepth 100000 in
theorem kx_Rows_forgetReadersOf (l : Launch) (dC : Nat → ClassId) (dI : Nat → Nat → Nat) (a : Nat → Nat) (k : Nat → ClassId) (st : XS) (tb : Int32) (sz : Nat) (N : Nat) (hN : gI st 6 = nI N) (h64 : N ≤ 64) : Met l yX7_forgetReadersOf wsX7_forgetReadersOf ({ frames := 1, cells := 0, slots := 0, locals := 22 }) (va_Pc [.ref (a 17), .int tb] (wl_pre (dC, dI) vwCl (xt k) (xw a k) st sz)) (va_Qv (fun u9 => u9 = fx_Rows_forgetReadersOf st tb) (wl_at (dC, dI) vwCl (xt k) (xw a k) (va_A (xw a k st) sz)) (va_A (xw a k st) sz)) 0 0 (va_A (xw a k st) sz) := by
  refine Met.ofW (cc := cX7_forgetReadersOf) (maxL := 4) (ret := none) (by decide) rfl ?_
  intro p e s m args below meth c s₁ B hml hv
  obtain ⟨rfl, hsz, hP, hK, hD0⟩ := hv
  have hx := B.exec
  have hb := B.bytes
  have hr := B.returns
  have hta := aw_hts (atoms_spec (ws := wsX7_forgetReadersOf) B.pre)
  have hown : s.vm.findClass RX7 = some m.cls := findClass_of_methodNamed B.named
  have hlocks := B.notSynchronized
  have hf9 := hta _ mw_162
  have hf29 := hta _ mw_166
  subst hsz
  have hD := hD0.self (sz := s.heap.size)
  generalize hAe : va_A (xw a k st) s.heap.size = A at hD ⊢
  have hAz : ∀ q : Nat, s.heap.size ≤ q → A q := fun q h => by rw [← hAe]; exact Or.inr h
  have hS : va_S A s.heap s.heap [] := va_S.rf
  have hl := lv_entry ([.ref (a 17), .int tb]) (n := 4) (Nat.le_of_ble_eq_true rfl)
  rw [lg_entry_eq]
  generalize (lg_sl ([.ref (a 17), .int tb]) ++ List.replicate (4 - (lg_sl ([.ref (a 17), .int tb])).length) Slot.unset).toArray = ls at hl ⊢
  have hl : lv_has ls 4 [(0, .ref (a 17)), (1, .int tb)] := hl
  generalize hR : fx_Rows_forgetReadersOf st tb = R
  rw [fx_Rows_forgetReadersOf] at hR
  refine lv_aload_n hx hb dX7_forgetReadersOf_0 rfl (lv_at hl 0 rfl) ?_
  refine va_get (D := (dC, dI)) (ci := 5) (v := .ref (a 7)) (C := RX7) (T := TX7) (N := 7) hx hb hta inX7 hown hK hP 17 (xr_17 a k st) rfl 0 (by decide) hf9 (fun _ h9 => h9) rfl dX7_forgetReadersOf_1 ?_
  refine wl_ci (va_runV (As := []) (rest := []) ⟨hx, hb, hml, hown, hta⟩ (kx_Terms_size l dC dI a k st) (cwV 0 hta gX7_41 rfl rfl rfl (by decide +kernel) ⟨Nat.le_of_ble_eq_true rfl, Nat.le_of_ble_eq_true rfl⟩) (wl_pR (C := RX4) (ci := 2) (q0 := 7) hK hP rfl (xr_7 a k st)) rfl rfl hl.1 rfl (lv_room (Nat.le_of_ble_eq_true rfl)) dX7_forgetReadersOf_4 ⟨Nat.zero_le _, Nat.zero_le _⟩) ?_
  refine lv_istore_n (lv' := [(2, .int (fx_Terms_size st)), (0, .ref (a 17)), (1, .int tb)]) hx hb dX7_forgetReadersOf_7 rfl hl (by decide) rfl (fun ls hl => ?_)
  refine lv_iconst (v := (0 : Int32)) hx hb dX7_forgetReadersOf_8 (by decide) ?_
  refine lv_istore_n (lv' := [(3, .int (0 : Int32)), (2, .int (fx_Terms_size st)), (0, .ref (a 17)), (1, .int tb)]) hx hb dX7_forgetReadersOf_9 rfl hl (by decide) rfl (fun ls hl => ?_)
  have L10 : ∀ (n : Nat) (i : Nat) (S1 : XS) (H : Heap) (locs : List Loc) (ls : Array Slot), fx_Rows_forgetReadersOf_L10 st tb n i S1 = R → (i ≤ N) → (XF [] [8] [] st S1) → N - i < n → va_P (dC, dI) vwCl (xw a k S1) H → va_D A (xw a k S1) → va_S A s.heap H locs → lv_has ls 4 [(3, .int (nI i)), (2, .int (fx_Terms_size st)), (0, .ref (a 17)), (1, .int tb)] → W p l e (headSpec wsX7_forgetReadersOf ({ frames := 1, cells := 0, slots := 0, locals := 22 })).room s m ([.ref (a 17), .int tb] : List Value).toArray below meth c H locs 0 0 (MQ below (va_Qv (fun u9 => u9 = R) (wl_at (dC, dI) vwCl (xt k) (xw a k) A) A) ([.ref (a 17), .int tb] : List Value).toArray s 0 0 A) (F0 m 10 ls []) := by
    intro n
    induction n with
    | zero =>
      intro i S1 H locs ls hR hi hE hm hP hD hS hl
      exact absurd hm (Nat.not_lt_zero _)
    | succ n ih =>
      intro i S1 H locs ls hR hi hE hm hP hD hS hl
      rw [fx_Rows_forgetReadersOf_L10] at hR
      refine lv_iload_n hx hb dX7_forgetReadersOf_10 rfl (lv_at hl 0 rfl) ?_
      refine lv_iload_n hx hb dX7_forgetReadersOf_11 rfl (lv_at hl 1 rfl) ?_
      refine lv_icmp_ge (tgt := 40) hx hb dX7_forgetReadersOf_12 (by decide) (fun c12 => ?_) (fun c12 => ?_)
      · skip
        rw [if_pos c12] at hR
        exact W.vret hx hb hr (fun t ht hW => ⟨⟨_, rfl, hR, by rw [ht]; exact hP, va_K.moved hW.alike hK, hD⟩, hS.F ht⟩) hS.2.2 dX7_forgetReadersOf_40
      · skip
        rw [if_neg c12] at hR
        have hlt : i < N := wl_lt (by rw [← hN]; exact c12) (by omega)
        refine lv_aload_n hx hb dX7_forgetReadersOf_15 rfl (lv_at hl 2 rfl) ?_
        refine va_get (D := (dC, dI)) (ci := 5) (v := .ref (a 7)) (C := RX7) (T := TX7) (N := 7) hx hb hta inX7 hown hK hP 17 (xr_17 a k S1) rfl 0 (by decide) hf9 (fun _ h9 => h9) rfl dX7_forgetReadersOf_16 ?_
        refine lv_iload_n hx hb dX7_forgetReadersOf_19 rfl (lv_at hl 0 rfl) ?_
        refine lv_iload_n hx hb dX7_forgetReadersOf_20 rfl (lv_at hl 3 rfl) ?_
        refine wl_ci (va_runV (As := [.int (nI i), .int tb]) (rest := []) ⟨hx, hb, hml, hown, hta⟩ (kx_Terms_readsTable l dC dI a k S1 (nI i) tb (wl_in (by omega) (by decide))) (cwV 2 hta gX7_45 rfl rfl rfl (by decide +kernel) ⟨Nat.le_of_ble_eq_true rfl, Nat.le_of_ble_eq_true rfl⟩) (wl_pR (C := RX4) (ci := 2) (q0 := 7) hK hP rfl (xr_7 a k S1)) rfl rfl hl.1 rfl (lv_room (Nat.le_of_ble_eq_true rfl)) dX7_forgetReadersOf_21 ⟨Nat.zero_le _, Nat.zero_le _⟩) ?_
        refine lv_if_eq (tgt := 34) hx hb dX7_forgetReadersOf_24 (by decide) (fun c24 => ?_) (fun c24 => ?_)
        · skip
          rw [if_pos c24] at hR
          refine lv_iinc (v := nI (i + 1)) (lv' := [(3, .int (nI (i + 1))), (2, .int (fx_Terms_size st)), (0, .ref (a 17)), (1, .int tb)]) hx hb dX7_forgetReadersOf_34 hl (k := 0) rfl (nI_1 _) (by decide) rfl (fun ls hl => ?_)
          refine lv_goto (tgt := 10) hx hb dX7_forgetReadersOf_37 (by decide) ?_
          exact ih (i + 1) S1 _ _ ls hR (by omega) hE (by omega) hP hD hS (lv_sub hl [0, 1, 2, 3] rfl)
        · skip
          rw [if_neg c24] at hR
          refine lv_aload_n hx hb dX7_forgetReadersOf_27 rfl (lv_at hl 2 rfl) ?_
          refine va_get (D := (dC, dI)) (ci := 5) (v := .ref (a 19)) (C := RX7) (T := TX7) (N := 7) hx hb hta inX7 hown hK hP 17 (xr_17 a k S1) rfl 4 (by decide) hf29 (fun _ h9 => h9) rfl dX7_forgetReadersOf_28 ?_
          refine lv_iload_n hx hb dX7_forgetReadersOf_31 rfl (lv_at hl 0 rfl) ?_
          refine lv_iconst (v := (0 : Int32)) hx hb dX7_forgetReadersOf_32 (by decide) ?_
          refine va_zast hx hb hK hP hD hS 19 12 (xr_19 a k S1) rfl (wl_in (by omega) (by decide)) dX7_forgetReadersOf_33 (fun H locs hP hD hS => ?_)
          have hP := xp_A8 hP
          have hD := xd_A8 hD
          refine lv_iinc (v := nI (i + 1)) (lv' := [(3, .int (nI (i + 1))), (2, .int (fx_Terms_size st)), (0, .ref (a 17)), (1, .int tb)]) hx hb dX7_forgetReadersOf_34 hl (k := 0) rfl (nI_1 _) (by decide) rfl (fun ls hl => ?_)
          refine lv_goto (tgt := 10) hx hb dX7_forgetReadersOf_37 (by decide) ?_
          exact ih (i + 1) (wA S1 8 ((nI i).toNatClampNeg) (vp_nar .boolean (0 : Int32))) _ _ ls hR (by omega) (XF.wA (by decide) hE) (by omega) hP hD hS (lv_sub hl [0, 1, 2, 3] rfl)
  exact L10 65 0 st _ _ ls hR (Nat.zero_le _) XF.rf (by omega) hP hD hS (lv_sub hl [0, 1, 2, 3] rfl)

theorem dX7_clearRow_0 : decode cX7_clearRow 0 = .ok (.iconst 0, 1) := by decide +kernel
theorem dX7_clearRow_1 : decode cX7_clearRow 1 = .ok (.istore_n 2, 1) := by decide +kernel
theorem dX7_clearRow_2 : decode cX7_clearRow 2 = .ok (.iload_n 2, 1) := by decide +kernel
theorem dX7_clearRow_3 : decode cX7_clearRow 3 = .ok (.bipush 16, 2) := by decide +kernel
theorem dX7_clearRow_5 : decode cX7_clearRow 5 = .ok (.if_icmp .ge 21, 3) := by decide +kernel
theorem dX7_clearRow_8 : decode cX7_clearRow 8 = .ok (.aload_n 0, 1) := by decide +kernel
theorem dX7_clearRow_9 : decode cX7_clearRow 9 = .ok (.getfield 25, 3) := by decide +kernel
theorem dX7_clearRow_12 : decode cX7_clearRow 12 = .ok (.iload_n 1, 1) := by decide +kernel
theorem dX7_clearRow_13 : decode cX7_clearRow 13 = .ok (.bipush 16, 2) := by decide +kernel
theorem dX7_clearRow_15 : decode cX7_clearRow 15 = .ok (.imul, 1) := by decide +kernel
theorem dX7_clearRow_16 : decode cX7_clearRow 16 = .ok (.iload_n 2, 1) := by decide +kernel
theorem dX7_clearRow_17 : decode cX7_clearRow 17 = .ok (.iadd, 1) := by decide +kernel
theorem dX7_clearRow_18 : decode cX7_clearRow 18 = .ok (.lconst 0, 1) := by decide +kernel
theorem dX7_clearRow_19 : decode cX7_clearRow 19 = .ok (.lastore, 1) := by decide +kernel
theorem dX7_clearRow_20 : decode cX7_clearRow 20 = .ok (.iinc 2 1, 3) := by decide +kernel
theorem dX7_clearRow_23 : decode cX7_clearRow 23 = .ok (.goto (-21), 3) := by decide +kernel
theorem dX7_clearRow_26 : decode cX7_clearRow 26 = .ok (.return_, 1) := by decide +kernel
def fx_Rows_clearRow_L2 (st : XS) (t : Int32) : Nat → Nat → XS → XS
  | 0, i, S1 => S1
  | n + 1, i, S1 => 
    if (16 : Int32) ≤ nI i then S1
    else fx_Rows_clearRow_L2 st t n (i + 1) (wL S1 3 (((t * (16 : Int32)) + (nI i)).toNatClampNeg) (0 : Int64))
def fx_Rows_clearRow (st : XS) (t : Int32) : XS := fx_Rows_clearRow_L2 st t 17 0 st
theorem fr_Rows_clearRow_L2 {S0 : XS} (st : XS) (t : Int32) : ∀ (n : Nat) (i : Nat) (S1 : XS), XF [] [] [3] S0 S1 → XF [] [] [3] S0 (fx_Rows_clearRow_L2 st t n i S1) := by
  intro n
  induction n with
  | zero => intro i S1 h; exact h
  | succ n ih =>
    intro i S1 h
    rw [fx_Rows_clearRow_L2]
    exact (wl_ite (P := fun (q : XS) => XF [] [] [3] _ (q)) h (ih _ _ (XF.wL (by decide) h)))
theorem ff_Rows_clearRow (st : XS) (t : Int32) : XF [] [] [3] st (fx_Rows_clearRow st t) := by
  rw [fx_Rows_clearRow]
  exact (fr_Rows_clearRow_L2 _ _ _ _ _ XF.rf)
set_option maxHeartbeats 4000000 in
set_option maxRecDepth 100000 in
theorem kx_Rows_clearRow (l : Launch) (dC : Nat → ClassId) (dI : Nat → Nat → Nat) (a : Nat → Nat) (k : Nat → ClassId) (st : XS) (t : Int32) (sz : Nat) (hT : vp_in t 64) : Met l yX7_clearRow wsX7_clearRow ({ frames := 0, cells := 0, slots := 0, locals := 0 }) (va_Pc [.ref (a 17), .int t] (wl_pre (dC, dI) vwCl (xt k) (xw a k) st sz)) (va_Qv (fun u9 => u9 = fx_Rows_clearRow st t) (wl_at (dC, dI) vwCl (xt k) (xw a k) (va_A (xw a k st) sz)) (va_A (xw a k st) sz)) 0 0 (va_A (xw a k st) sz) := by
  refine Met.ofW (cc := cX7_clearRow) (maxL := 3) (ret := none) (by decide) rfl ?_
  intro p e s m args below meth c s₁ B hml hv
  obtain ⟨rfl, hsz, hP, hK, hD0⟩ := hv
  have hx := B.exec
  have hb := B.bytes
  have hr := B.returns
  have hta := aw_hts (atoms_spec (ws := wsX7_clearRow) B.pre)
  have hown : s.vm.findClass RX7 = some m.cls := findClass_of_methodNamed B.named
  have hlocks := B.notSynchronized
  have hf25 := hta _ mw_165
  subst hsz
  have hD := hD0.self (sz := s.heap.size)
  generalize hAe : va_A (xw a k st) s.heap.size = A at hD ⊢
  have hAz : ∀ q : Nat, s.heap.size ≤ q → A q := fun q h => by rw [← hAe]; exact Or.inr h
  have hS : va_S A s.heap s.heap [] := va_S.rf
  have hl := lv_entry ([.ref (a 17), .int t]) (n := 3) (Nat.le_of_ble_eq_true rfl)
  rw [lg_entry_eq]
  generalize (lg_sl ([.ref (a 17), .int t]) ++ List.replicate (3 - (lg_sl ([.ref (a 17), .int t])).length) Slot.unset).toArray = ls at hl ⊢
  have hl : lv_has ls 3 [(0, .ref (a 17)), (1, .int t)] := hl
  generalize hR : fx_Rows_clearRow st t = R
  rw [fx_Rows_clearRow] at hR
  refine lv_iconst (v := (0 : Int32)) hx hb dX7_clearRow_0 (by decide) ?_
  refine lv_istore_n (lv' := [(2, .int (0 : Int32)), (0, .ref (a 17)), (1, .int t)]) hx hb dX7_clearRow_1 rfl hl (by decide) rfl (fun ls hl => ?_)
  have L2 : ∀ (n : Nat) (i : Nat) (S1 : XS) (H : Heap) (locs : List Loc) (ls : Array Slot), fx_Rows_clearRow_L2 st t n i S1 = R → (i ≤ 16) → 16 - i < n → va_P (dC, dI) vwCl (xw a k S1) H → va_D A (xw a k S1) → va_S A s.heap H locs → lv_has ls 3 [(2, .int (nI i)), (0, .ref (a 17)), (1, .int t)] → W p l e (headSpec wsX7_clearRow ({ frames := 0, cells := 0, slots := 0, locals := 0 })).room s m ([.ref (a 17), .int t] : List Value).toArray below meth c H locs 0 0 (MQ below (va_Qv (fun u9 => u9 = R) (wl_at (dC, dI) vwCl (xt k) (xw a k) A) A) ([.ref (a 17), .int t] : List Value).toArray s 0 0 A) (F0 m 2 ls []) := by
    intro n
    induction n with
    | zero =>
      intro i S1 H locs ls hR hi hm hP hD hS hl
      exact absurd hm (Nat.not_lt_zero _)
    | succ n ih =>
      intro i S1 H locs ls hR hi hm hP hD hS hl
      rw [fx_Rows_clearRow_L2] at hR
      refine lv_iload_n hx hb dX7_clearRow_2 rfl (lv_at hl 0 rfl) ?_
      refine lv_bipush (v := (16 : Int32)) hx hb dX7_clearRow_3 (by decide) ?_
      refine lv_icmp_ge (tgt := 26) hx hb dX7_clearRow_5 (by decide) (fun c5 => ?_) (fun c5 => ?_)
      · skip
        rw [if_pos c5] at hR
        exact W.vret hx hb hr (fun t ht hW => ⟨⟨_, rfl, hR, by rw [ht]; exact hP, va_K.moved hW.alike hK, hD⟩, hS.F ht⟩) hS.2.2 dX7_clearRow_26
      · skip
        rw [if_neg c5] at hR
        have hlt : i < 16 := wl_lt (N := 16) c5 (by omega)
        refine lv_aload_n hx hb dX7_clearRow_8 rfl (lv_at hl 1 rfl) ?_
        refine va_get (D := (dC, dI)) (ci := 5) (v := .ref (a 18)) (C := RX7) (T := TX7) (N := 7) hx hb hta inX7 hown hK hP 17 (xr_17 a k S1) rfl 3 (by decide) hf25 (fun _ h9 => h9) rfl dX7_clearRow_9 ?_
        refine lv_iload_n hx hb dX7_clearRow_12 rfl (lv_at hl 2 rfl) ?_
        refine lv_bipush (v := (16 : Int32)) hx hb dX7_clearRow_13 (by decide) ?_
        refine lv_imul hx hb dX7_clearRow_15 ?_
        refine lv_iload_n hx hb dX7_clearRow_16 rfl (lv_at hl 0 rfl) ?_
        refine lv_iadd hx hb dX7_clearRow_17 ?_
        refine lv_lconst (v := (0 : Int64)) hx hb dX7_clearRow_18 (by decide) ?_
        refine va_last hx hb hK hP hD hS 18 11 (xr_18 a k S1) rfl (wl_i16 hT hlt) dX7_clearRow_19 (fun H locs hP hD hS => ?_)
        have hP := xp_L3 hP
        have hD := xd_L3 hD
        refine lv_iinc (v := nI (i + 1)) (lv' := [(2, .int (nI (i + 1))), (0, .ref (a 17)), (1, .int t)]) hx hb dX7_clearRow_20 hl (k := 0) rfl (nI_1 _) (by decide) rfl (fun ls hl => ?_)
        refine lv_goto (tgt := 2) hx hb dX7_clearRow_23 (by decide) ?_
        exact ih (i + 1) (wL S1 3 (((t * (16 : Int32)) + (nI i)).toNatClampNeg) (0 : Int64)) _ _ ls hR (by omega) (by omega) hP hD hS (lv_sub hl [0, 1, 2] rfl)
  exact L2 17 0 st _ _ ls hR (Nat.zero_le _) (by omega) hP hD hS (lv_sub hl [0, 1, 2] rfl)

theorem dX7_setBits_0 : decode cX7_setBits 0 = .ok (.iload_n 2, 1) := by decide +kernel
theorem dX7_setBits_1 : decode cX7_setBits 1 = .ok (.istore 4, 2) := by decide +kernel
theorem dX7_setBits_3 : decode cX7_setBits 3 = .ok (.iload 4, 2) := by decide +kernel
theorem dX7_setBits_5 : decode cX7_setBits 5 = .ok (.iload_n 2, 1) := by decide +kernel
theorem dX7_setBits_6 : decode cX7_setBits 6 = .ok (.iload_n 3, 1) := by decide +kernel
theorem dX7_setBits_7 : decode cX7_setBits 7 = .ok (.iadd, 1) := by decide +kernel
theorem dX7_setBits_8 : decode cX7_setBits 8 = .ok (.if_icmp .ge 34, 3) := by decide +kernel
theorem dX7_setBits_11 : decode cX7_setBits 11 = .ok (.aload_n 0, 1) := by decide +kernel
theorem dX7_setBits_12 : decode cX7_setBits 12 = .ok (.getfield 25, 3) := by decide +kernel
theorem dX7_setBits_15 : decode cX7_setBits 15 = .ok (.iload_n 1, 1) := by decide +kernel
theorem dX7_setBits_16 : decode cX7_setBits 16 = .ok (.bipush 16, 2) := by decide +kernel
theorem dX7_setBits_18 : decode cX7_setBits 18 = .ok (.imul, 1) := by decide +kernel
theorem dX7_setBits_19 : decode cX7_setBits 19 = .ok (.iload 4, 2) := by decide +kernel
theorem dX7_setBits_21 : decode cX7_setBits 21 = .ok (.bipush 64, 2) := by decide +kernel
theorem dX7_setBits_23 : decode cX7_setBits 23 = .ok (.idiv, 1) := by decide +kernel
theorem dX7_setBits_24 : decode cX7_setBits 24 = .ok (.iadd, 1) := by decide +kernel
theorem dX7_setBits_25 : decode cX7_setBits 25 = .ok (.dup2, 1) := by decide +kernel
theorem dX7_setBits_26 : decode cX7_setBits 26 = .ok (.laload, 1) := by decide +kernel
theorem dX7_setBits_27 : decode cX7_setBits 27 = .ok (.lconst 1, 1) := by decide +kernel
theorem dX7_setBits_28 : decode cX7_setBits 28 = .ok (.iload 4, 2) := by decide +kernel
theorem dX7_setBits_30 : decode cX7_setBits 30 = .ok (.bipush 64, 2) := by decide +kernel
theorem dX7_setBits_32 : decode cX7_setBits 32 = .ok (.irem, 1) := by decide +kernel
theorem dX7_setBits_33 : decode cX7_setBits 33 = .ok (.lshl, 1) := by decide +kernel
theorem dX7_setBits_34 : decode cX7_setBits 34 = .ok (.lor, 1) := by decide +kernel
theorem dX7_setBits_35 : decode cX7_setBits 35 = .ok (.lastore, 1) := by decide +kernel
theorem dX7_setBits_36 : decode cX7_setBits 36 = .ok (.iinc 4 1, 3) := by decide +kernel
theorem dX7_setBits_39 : decode cX7_setBits 39 = .ok (.goto (-36), 3) := by decide +kernel
theorem dX7_setBits_42 : decode cX7_setBits 42 = .ok (.return_, 1) := by decide +kernel
def fx_Rows_setBits_L3 (st : XS) (t : Int32) (fr : Int32) (rn : Int32) : Nat → Nat → XS → XS
  | 0, i, S1 => S1
  | n + 1, i, S1 => 
    if (fr) + (rn) ≤ nI i then S1
    else fx_Rows_setBits_L3 st t fr rn n (i + 1) (wL S1 3 (((t * (16 : Int32)) + ((nI i) / (64 : Int32))).toNatClampNeg) ((fL S1 3 ((t * (16 : Int32)) + ((nI i) / (64 : Int32))).toNatClampNeg) ||| ((1 : Int64) <<< (((nI i) - (nI i) / (64 : Int32) * (64 : Int32)).toInt64 &&& 63))))
def fx_Rows_setBits (st : XS) (t : Int32) (fr : Int32) (rn : Int32) : XS := fx_Rows_setBits_L3 st t fr rn 1025 fr.toNatClampNeg st
theorem fr_Rows_setBits_L3 {S0 : XS} (st : XS) (t : Int32) (fr : Int32) (rn : Int32) : ∀ (n : Nat) (i : Nat) (S1 : XS), XF [] [] [3] S0 S1 → XF [] [] [3] S0 (fx_Rows_setBits_L3 st t fr rn n i S1) := by
  intro n
  induction n with
  | zero => intro i S1 h; exact h
  | succ n ih =>
    intro i S1 h
    rw [fx_Rows_setBits_L3]
    exact (wl_ite (P := fun (q : XS) => XF [] [] [3] _ (q)) h (ih _ _ (XF.wL (by decide) h)))
theorem ff_Rows_setBits (st : XS) (t : Int32) (fr : Int32) (rn : Int32) : XF [] [] [3] st (fx_Rows_setBits st t fr rn) := by
  rw [fx_Rows_setBits]
  exact (fr_Rows_setBits_L3 _ _ _ _ _ _ _ XF.rf)
set_option maxHeartbeats 4000000 in
set_option maxRecDepth 100000 in
theorem kx_Rows_setBits (l : Launch) (dC : Nat → ClassId) (dI : Nat → Nat → Nat) (a : Nat → Nat) (k : Nat → ClassId) (st : XS) (t : Int32) (F : Nat) (G : Nat) (sz : Nat) (hT : vp_in t 64) (hFG : F + G ≤ 1024) : Met l yX7_setBits wsX7_setBits ({ frames := 0, cells := 0, slots := 0, locals := 0 }) (va_Pc [.ref (a 17), .int t, .int (nI F), .int (nI G)] (wl_pre (dC, dI) vwCl (xt k) (xw a k) st sz)) (va_Qv (fun u9 => u9 = fx_Rows_setBits st t (nI F) (nI G)) (wl_at (dC, dI) vwCl (xt k) (xw a k) (va_A (xw a k st) sz)) (va_A (xw a k st) sz)) 0 0 (va_A (xw a k st) sz) := by
  refine Met.ofW (cc := cX7_setBits) (maxL := 5) (ret := none) (by decide) rfl ?_
  intro p e s m args below meth c s₁ B hml hv
  obtain ⟨rfl, hsz, hP, hK, hD0⟩ := hv
  have hx := B.exec
  have hb := B.bytes
  have hr := B.returns
  have hta := aw_hts (atoms_spec (ws := wsX7_setBits) B.pre)
  have hown : s.vm.findClass RX7 = some m.cls := findClass_of_methodNamed B.named
  have hlocks := B.notSynchronized
  have hf25 := hta _ mw_165
  subst hsz
  have hD := hD0.self (sz := s.heap.size)
  generalize hAe : va_A (xw a k st) s.heap.size = A at hD ⊢
  have hAz : ∀ q : Nat, s.heap.size ≤ q → A q := fun q h => by rw [← hAe]; exact Or.inr h
  have hS : va_S A s.heap s.heap [] := va_S.rf
  have hl := lv_entry ([.ref (a 17), .int t, .int (nI F), .int (nI G)]) (n := 5) (Nat.le_of_ble_eq_true rfl)
  rw [lg_entry_eq]
  generalize (lg_sl ([.ref (a 17), .int t, .int (nI F), .int (nI G)]) ++ List.replicate (5 - (lg_sl ([.ref (a 17), .int t, .int (nI F), .int (nI G)])).length) Slot.unset).toArray = ls at hl ⊢
  have hl : lv_has ls 5 [(0, .ref (a 17)), (1, .int t), (2, .int ((nI F))), (3, .int ((nI G)))] := hl
  generalize hR : fx_Rows_setBits st t (nI F) (nI G) = R
  rw [fx_Rows_setBits] at hR
  rw [nI_clamp (by omega)] at hR
  refine lv_iload_n hx hb dX7_setBits_0 rfl (lv_at hl 2 rfl) ?_
  refine lv_istore (lv' := [(4, .int ((nI F))), (0, .ref (a 17)), (1, .int t), (2, .int ((nI F))), (3, .int ((nI G)))]) hx hb dX7_setBits_1 hl (by decide) rfl (fun ls hl => ?_)
  have L3 : ∀ (n : Nat) (i : Nat) (S1 : XS) (H : Heap) (locs : List Loc) (ls : Array Slot), fx_Rows_setBits_L3 st t (nI F) (nI G) n i S1 = R → (F ≤ i ∧ i ≤ F + G) → F + G - i < n → va_P (dC, dI) vwCl (xw a k S1) H → va_D A (xw a k S1) → va_S A s.heap H locs → lv_has ls 5 [(4, .int (nI i)), (0, .ref (a 17)), (1, .int t), (2, .int ((nI F))), (3, .int ((nI G)))] → W p l e (headSpec wsX7_setBits ({ frames := 0, cells := 0, slots := 0, locals := 0 })).room s m ([.ref (a 17), .int t, .int (nI F), .int (nI G)] : List Value).toArray below meth c H locs 0 0 (MQ below (va_Qv (fun u9 => u9 = R) (wl_at (dC, dI) vwCl (xt k) (xw a k) A) A) ([.ref (a 17), .int t, .int (nI F), .int (nI G)] : List Value).toArray s 0 0 A) (F0 m 3 ls []) := by
    intro n
    induction n with
    | zero =>
      intro i S1 H locs ls hR hi hm hP hD hS hl
      exact absurd hm (Nat.not_lt_zero _)
    | succ n ih =>
      intro i S1 H locs ls hR hi hm hP hD hS hl
      rw [fx_Rows_setBits_L3] at hR
      refine lv_iload hx hb dX7_setBits_3 (lv_at hl 0 rfl) ?_
      refine lv_iload_n hx hb dX7_setBits_5 rfl (lv_at hl 3 rfl) ?_
      refine lv_iload_n hx hb dX7_setBits_6 rfl (lv_at hl 4 rfl) ?_
      refine lv_iadd hx hb dX7_setBits_7 ?_
      refine lv_icmp_ge (tgt := 42) hx hb dX7_setBits_8 (by decide) (fun c8 => ?_) (fun c8 => ?_)
      · skip
        rw [if_pos c8] at hR
        exact W.vret hx hb hr (fun t ht hW => ⟨⟨_, rfl, hR, by rw [ht]; exact hP, va_K.moved hW.alike hK, hD⟩, hS.F ht⟩) hS.2.2 dX7_setBits_42
      · skip
        rw [if_neg c8] at hR
        have hlt : i < F + G := wl_lt (by rw [← nI_add]; exact c8) (by omega)
        refine lv_aload_n hx hb dX7_setBits_11 rfl (lv_at hl 1 rfl) ?_
        refine va_get (D := (dC, dI)) (ci := 5) (v := .ref (a 18)) (C := RX7) (T := TX7) (N := 7) hx hb hta inX7 hown hK hP 17 (xr_17 a k S1) rfl 3 (by decide) hf25 (fun _ h9 => h9) rfl dX7_setBits_12 ?_
        refine lv_iload_n hx hb dX7_setBits_15 rfl (lv_at hl 2 rfl) ?_
        refine lv_bipush (v := (16 : Int32)) hx hb dX7_setBits_16 (by decide) ?_
        refine lv_imul hx hb dX7_setBits_18 ?_
        refine lv_iload hx hb dX7_setBits_19 (lv_at hl 0 rfl) ?_
        refine lv_bipush (v := (64 : Int32)) hx hb dX7_setBits_21 (by decide) ?_
        refine lv_idiv hx hb dX7_setBits_23 (by decide) ?_
        refine lv_iadd hx hb dX7_setBits_24 ?_
        refine lv_dup2_11 hx hb dX7_setBits_25 rfl rfl ?_
        refine va_lald hx hb hK hP 18 11 (xr_18 a k S1) rfl (wl_sb hT (by omega)) dX7_setBits_26 ?_
        refine lv_lconst (v := (1 : Int64)) hx hb dX7_setBits_27 (by decide) ?_
        refine lv_iload hx hb dX7_setBits_28 (lv_at hl 0 rfl) ?_
        refine lv_bipush (v := (64 : Int32)) hx hb dX7_setBits_30 (by decide) ?_
        refine lv_irem hx hb dX7_setBits_32 (by decide) ?_
        refine lv_lshl (v := (1 : Int64) <<< (((nI i) - (nI i) / (64 : Int32) * (64 : Int32)).toInt64 &&& 63)) hx hb dX7_setBits_33 rfl ?_
        refine lv_lor hx hb dX7_setBits_34 ?_
        refine va_last hx hb hK hP hD hS 18 11 (xr_18 a k S1) rfl (wl_sb hT (by omega)) dX7_setBits_35 (fun H locs hP hD hS => ?_)
        have hP := xp_L3 hP
        have hD := xd_L3 hD
        refine lv_iinc (v := nI (i + 1)) (lv' := [(4, .int (nI (i + 1))), (0, .ref (a 17)), (1, .int t), (2, .int ((nI F))), (3, .int ((nI G)))]) hx hb dX7_setBits_36 hl (k := 0) rfl (nI_1 _) (by decide) rfl (fun ls hl => ?_)
        refine lv_goto (tgt := 3) hx hb dX7_setBits_39 (by decide) ?_
        exact ih (i + 1) (wL S1 3 (((t * (16 : Int32)) + ((nI i) / (64 : Int32))).toNatClampNeg) ((fL S1 3 ((t * (16 : Int32)) + ((nI i) / (64 : Int32))).toNatClampNeg) ||| ((1 : Int64) <<< (((nI i) - (nI i) / (64 : Int32) * (64 : Int32)).toInt64 &&& 63)))) _ _ ls hR ⟨by omega, by omega⟩ (by omega) hP hD hS (lv_sub hl [0, 1, 2, 3, 4] rfl)
  exact L3 1025 F st _ _ ls hR ⟨Nat.le_refl _, by omega⟩ (by omega) hP hD hS (lv_sub hl [0, 1, 2, 3, 4] rfl)

theorem mw_168 : (.fieldLink RX7 37 RX7 "askedSize" "I" : Cond) ∈ AW := List.mem_filter.mpr ⟨List.mem_of_getElem? (i := 168) (by decide +kernel), rfl⟩
theorem mw_164 : (.fieldLink RX7 19 RX7 "evaluator" "LPathSolver$Evaluator;" : Cond) ∈ AW := List.mem_filter.mpr ⟨List.mem_of_getElem? (i := 164) (by decide +kernel), rfl⟩
theorem mw_167 : (.fieldLink RX7 33 RX7 "asked" "[I" : Cond) ∈ AW := List.mem_filter.mpr ⟨List.mem_of_getElem? (i := 167) (by decide +kernel), rfl⟩
theorem mw_532 : (.code yX5_resultAt cX5_resultAt 2 (some .long) : Cond) ∈ AW := List.mem_filter.mpr ⟨List.mem_of_getElem? (i := 532) (by decide +kernel), rfl⟩
theorem mw_529 : (.methodLink RX7 78 yX5_resultAt : Cond) ∈ AW := List.mem_filter.mpr ⟨List.mem_of_getElem? (i := 529) (by decide +kernel), rfl⟩
theorem mw_530 : (.instanceMethod yX5_resultAt : Cond) ∈ AW := List.mem_filter.mpr ⟨List.mem_of_getElem? (i := 530) (by decide +kernel), rfl⟩
theorem mw_531 : (.selects RX5 yX5_resultAt yX5_resultAt : Cond) ∈ AW := List.mem_filter.mpr ⟨List.mem_of_getElem? (i := 531) (by decide +kernel), rfl⟩
theorem mw_536 : (.code yX7_setBits cX7_setBits 5 none : Cond) ∈ AW := List.mem_filter.mpr ⟨List.mem_of_getElem? (i := 536) (by decide +kernel), rfl⟩
theorem mw_533 : (.methodLink RX7 82 yX7_setBits : Cond) ∈ AW := List.mem_filter.mpr ⟨List.mem_of_getElem? (i := 533) (by decide +kernel), rfl⟩
theorem mw_44 : (.initialized RX7 : Cond) ∈ AW := List.mem_filter.mpr ⟨List.mem_of_getElem? (i := 44) (by decide +kernel), rfl⟩
theorem mw_535 : (.instanceMethod yX7_setBits : Cond) ∈ AW := List.mem_filter.mpr ⟨List.mem_of_getElem? (i := 535) (by decide +kernel), rfl⟩
theorem mw_13 : (.selects RX7 yX7_setBits yX7_setBits : Cond) ∈ AW := List.mem_filter.mpr ⟨List.mem_of_getElem? (i := 13) (by decide +kernel), rfl⟩
theorem gX7_78 : GoodIn AW (wsV RX7 78 RX5 yX5_resultAt wsX5_resultAt) := aw_V mw_529 mw_530 mw_531 mw_42 mw_532
theorem gX7_82 : GoodIn AW (wsV RX7 82 RX7 yX7_setBits wsX7_setBits) := aw_V mw_533 mw_535 mw_13 mw_44 mw_536
theorem dX7_noteAsked_0 : decode cX7_noteAsked 0 = .ok (.iconst 0, 1) := by decide +kernel
theorem dX7_noteAsked_1 : decode cX7_noteAsked 1 = .ok (.istore_n 3, 1) := by decide +kernel
theorem dX7_noteAsked_2 : decode cX7_noteAsked 2 = .ok (.iload_n 3, 1) := by decide +kernel
theorem dX7_noteAsked_3 : decode cX7_noteAsked 3 = .ok (.aload_n 0, 1) := by decide +kernel
theorem dX7_noteAsked_4 : decode cX7_noteAsked 4 = .ok (.getfield 37, 3) := by decide +kernel
theorem dX7_noteAsked_7 : decode cX7_noteAsked 7 = .ok (.if_icmp .ge 39, 3) := by decide +kernel
theorem dX7_noteAsked_10 : decode cX7_noteAsked 10 = .ok (.aload_n 0, 1) := by decide +kernel
theorem dX7_noteAsked_11 : decode cX7_noteAsked 11 = .ok (.getfield 19, 3) := by decide +kernel
theorem dX7_noteAsked_14 : decode cX7_noteAsked 14 = .ok (.aload_n 0, 1) := by decide +kernel
theorem dX7_noteAsked_15 : decode cX7_noteAsked 15 = .ok (.getfield 33, 3) := by decide +kernel
theorem dX7_noteAsked_18 : decode cX7_noteAsked 18 = .ok (.iload_n 3, 1) := by decide +kernel
theorem dX7_noteAsked_19 : decode cX7_noteAsked 19 = .ok (.iaload, 1) := by decide +kernel
theorem dX7_noteAsked_20 : decode cX7_noteAsked 20 = .ok (.invokevirtual 78, 3) := by decide +kernel
theorem dX7_noteAsked_23 : decode cX7_noteAsked 23 = .ok (.lconst 0, 1) := by decide +kernel
theorem dX7_noteAsked_24 : decode cX7_noteAsked 24 = .ok (.lcmp, 1) := by decide +kernel
theorem dX7_noteAsked_25 : decode cX7_noteAsked 25 = .ok (.ifCond .eq 15, 3) := by decide +kernel
theorem dX7_noteAsked_28 : decode cX7_noteAsked 28 = .ok (.aload_n 0, 1) := by decide +kernel
theorem dX7_noteAsked_29 : decode cX7_noteAsked 29 = .ok (.aload_n 0, 1) := by decide +kernel
theorem dX7_noteAsked_30 : decode cX7_noteAsked 30 = .ok (.getfield 33, 3) := by decide +kernel
theorem dX7_noteAsked_33 : decode cX7_noteAsked 33 = .ok (.iload_n 3, 1) := by decide +kernel
theorem dX7_noteAsked_34 : decode cX7_noteAsked 34 = .ok (.iaload, 1) := by decide +kernel
theorem dX7_noteAsked_35 : decode cX7_noteAsked 35 = .ok (.iload_n 1, 1) := by decide +kernel
theorem dX7_noteAsked_36 : decode cX7_noteAsked 36 = .ok (.iload_n 2, 1) := by decide +kernel
theorem dX7_noteAsked_37 : decode cX7_noteAsked 37 = .ok (.invokevirtual 82, 3) := by decide +kernel
theorem dX7_noteAsked_40 : decode cX7_noteAsked 40 = .ok (.iinc 3 1, 3) := by decide +kernel
theorem dX7_noteAsked_43 : decode cX7_noteAsked 43 = .ok (.goto (-41), 3) := by decide +kernel
theorem dX7_noteAsked_46 : decode cX7_noteAsked 46 = .ok (.return_, 1) := by decide +kernel
def fx_Rows_noteAsked_L2 (st : XS) (fr : Int32) (rn : Int32) : Nat → Nat → XS → XS
  | 0, i, S1 => S1
  | n + 1, i, S1 => 
    if gI S1 8 ≤ nI i then S1
    else 
      if lg_cmp (fx_Eval_resultAt S1 ((fA S1 9 (nI i).toNatClampNeg))) (0 : Int64) = (0 : Int32) then fx_Rows_noteAsked_L2 st fr rn n (i + 1) S1
      else fx_Rows_noteAsked_L2 st fr rn n (i + 1) ((fx_Rows_setBits S1 ((fA S1 9 (nI i).toNatClampNeg)) (fr) (rn)))
def fx_Rows_noteAsked (st : XS) (fr : Int32) (rn : Int32) : XS := fx_Rows_noteAsked_L2 st fr rn 65 0 st
theorem fr_Rows_noteAsked_L2 {S0 : XS} (st : XS) (fr : Int32) (rn : Int32) : ∀ (n : Nat) (i : Nat) (S1 : XS), XF [] [] [3] S0 S1 → XF [] [] [3] S0 (fx_Rows_noteAsked_L2 st fr rn n i S1) := by
  intro n
  induction n with
  | zero => intro i S1 h; exact h
  | succ n ih =>
    intro i S1 h
    rw [fx_Rows_noteAsked_L2]
    exact (wl_ite (P := fun (q : XS) => XF [] [] [3] _ (q)) h (wl_ite (P := fun (q : XS) => XF [] [] [3] _ (q)) (ih _ _ h) (ih _ _ (XF.tr h (XF.mono (ff_Rows_setBits _ _ _ _) (by decide) (by decide) (by decide))))))
theorem ff_Rows_noteAsked (st : XS) (fr : Int32) (rn : Int32) : XF [] [] [3] st (fx_Rows_noteAsked st fr rn) := by
  rw [fx_Rows_noteAsked]
  exact (fr_Rows_noteAsked_L2 _ _ _ _ _ _ XF.rf)
set_option maxHeartbeats 4000000 in
set_option maxRecDepth 100000 in
theorem kx_Rows_noteAsked (l : Launch) (dC : Nat → ClassId) (dI : Nat → Nat → Nat) (a : Nat → Nat) (k : Nat → ClassId) (st : XS) (F : Nat) (G : Nat) (sz : Nat) (Q : Nat) (hQ : gI st 8 = nI Q) (hQ64 : Q ≤ 64) (hak : ∀ j : Nat, j < Q → vp_in (fA st 9 j) 64) (hFG : F + G ≤ 1024) : Met l yX7_noteAsked wsX7_noteAsked ({ frames := 1, cells := 0, slots := 0, locals := 24 }) (va_Pc [.ref (a 17), .int (nI F), .int (nI G)] (wl_pre (dC, dI) vwCl (xt k) (xw a k) st sz)) (va_Qv (fun u9 => u9 = fx_Rows_noteAsked st (nI F) (nI G)) (wl_at (dC, dI) vwCl (xt k) (xw a k) (va_A (xw a k st) sz)) (va_A (xw a k st) sz)) 0 0 (va_A (xw a k st) sz) := by
  refine Met.ofW (cc := cX7_noteAsked) (maxL := 4) (ret := none) (by decide) rfl ?_
  intro p e s m args below meth c s₁ B hml hv
  obtain ⟨rfl, hsz, hP, hK, hD0⟩ := hv
  have hx := B.exec
  have hb := B.bytes
  have hr := B.returns
  have hta := aw_hts (atoms_spec (ws := wsX7_noteAsked) B.pre)
  have hown : s.vm.findClass RX7 = some m.cls := findClass_of_methodNamed B.named
  have hlocks := B.notSynchronized
  have hf37 := hta _ mw_168
  have hf19 := hta _ mw_164
  have hf33 := hta _ mw_167
  subst hsz
  have hD := hD0.self (sz := s.heap.size)
  generalize hAe : va_A (xw a k st) s.heap.size = A at hD ⊢
  have hAz : ∀ q : Nat, s.heap.size ≤ q → A q := fun q h => by rw [← hAe]; exact Or.inr h
  have hS : va_S A s.heap s.heap [] := va_S.rf
  have hl := lv_entry ([.ref (a 17), .int (nI F), .int (nI G)]) (n := 4) (Nat.le_of_ble_eq_true rfl)
  rw [lg_entry_eq]
  generalize (lg_sl ([.ref (a 17), .int (nI F), .int (nI G)]) ++ List.replicate (4 - (lg_sl ([.ref (a 17), .int (nI F), .int (nI G)])).length) Slot.unset).toArray = ls at hl ⊢
  have hl : lv_has ls 4 [(0, .ref (a 17)), (1, .int ((nI F))), (2, .int ((nI G)))] := hl
  generalize hR : fx_Rows_noteAsked st (nI F) (nI G) = R
  rw [fx_Rows_noteAsked] at hR
  refine lv_iconst (v := (0 : Int32)) hx hb dX7_noteAsked_0 (by decide) ?_
  refine lv_istore_n (lv' := [(3, .int (0 : Int32)), (0, .ref (a 17)), (1, .int ((nI F))), (2, .int ((nI G)))]) hx hb dX7_noteAsked_1 rfl hl (by decide) rfl (fun ls hl => ?_)
  have L2 : ∀ (n : Nat) (i : Nat) (S1 : XS) (H : Heap) (locs : List Loc) (ls : Array Slot), fx_Rows_noteAsked_L2 st (nI F) (nI G) n i S1 = R → (i ≤ Q) → (XF [] [] [3] st S1) → Q - i < n → va_P (dC, dI) vwCl (xw a k S1) H → va_D A (xw a k S1) → va_S A s.heap H locs → lv_has ls 4 [(3, .int (nI i)), (0, .ref (a 17)), (1, .int ((nI F))), (2, .int ((nI G)))] → W p l e (headSpec wsX7_noteAsked ({ frames := 1, cells := 0, slots := 0, locals := 24 })).room s m ([.ref (a 17), .int (nI F), .int (nI G)] : List Value).toArray below meth c H locs 0 0 (MQ below (va_Qv (fun u9 => u9 = R) (wl_at (dC, dI) vwCl (xt k) (xw a k) A) A) ([.ref (a 17), .int (nI F), .int (nI G)] : List Value).toArray s 0 0 A) (F0 m 2 ls []) := by
    intro n
    induction n with
    | zero =>
      intro i S1 H locs ls hR hi hE hm hP hD hS hl
      exact absurd hm (Nat.not_lt_zero _)
    | succ n ih =>
      intro i S1 H locs ls hR hi hE hm hP hD hS hl
      rw [fx_Rows_noteAsked_L2] at hR
      refine lv_iload_n hx hb dX7_noteAsked_2 rfl (lv_at hl 0 rfl) ?_
      refine lv_aload_n hx hb dX7_noteAsked_3 rfl (lv_at hl 1 rfl) ?_
      refine va_get (D := (dC, dI)) (ci := 5) (v := .int (gI S1 8)) (C := RX7) (T := TX7) (N := 7) hx hb hta inX7 hown hK hP 17 (xr_17 a k S1) rfl 6 (by decide) hf37 (fun _ h9 => h9) rfl dX7_noteAsked_4 ?_
      refine lv_icmp_ge (tgt := 46) hx hb dX7_noteAsked_7 (by decide) (fun c7 => ?_) (fun c7 => ?_)
      · skip
        rw [if_pos c7] at hR
        exact W.vret hx hb hr (fun t ht hW => ⟨⟨_, rfl, hR, by rw [ht]; exact hP, va_K.moved hW.alike hK, hD⟩, hS.F ht⟩) hS.2.2 dX7_noteAsked_46
      · skip
        rw [if_neg c7] at hR
        have hlt : i < Q := wl_lt (by rw [← hQ, ← hE.I 8 (by decide)]; exact c7) (by omega)
        refine lv_aload_n hx hb dX7_noteAsked_10 rfl (lv_at hl 1 rfl) ?_
        refine va_get (D := (dC, dI)) (ci := 5) (v := .ref (a 13)) (C := RX7) (T := TX7) (N := 7) hx hb hta inX7 hown hK hP 17 (xr_17 a k S1) rfl 2 (by decide) hf19 (fun _ h9 => h9) rfl dX7_noteAsked_11 ?_
        refine lv_aload_n hx hb dX7_noteAsked_14 rfl (lv_at hl 1 rfl) ?_
        refine va_get (D := (dC, dI)) (ci := 5) (v := .ref (a 20)) (C := RX7) (T := TX7) (N := 7) hx hb hta inX7 hown hK hP 17 (xr_17 a k S1) rfl 5 (by decide) hf33 (fun _ h9 => h9) rfl dX7_noteAsked_15 ?_
        refine lv_iload_n hx hb dX7_noteAsked_18 rfl (lv_at hl 0 rfl) ?_
        refine va_iald hx hb hK hP 20 13 (xr_20 a k S1) rfl (wl_in (by omega) (by decide)) dX7_noteAsked_19 ?_
        have e19 : (fA S1 9 (nI i).toNatClampNeg) = fA st 9 i := (by rw [hE.A 9 (by decide), nI_clamp (by omega)])
        rw [e19]
        try rw [e19] at hR
        refine wl_cl (va_runV (As := [.int ((fA st 9 i))]) (rest := []) ⟨hx, hb, hml, hown, hta⟩ (kx_Eval_resultAt l dC dI a k S1 ((fA st 9 i)) (hak i hlt)) (cwV 1 hta gX7_78 rfl rfl rfl (by decide +kernel) ⟨Nat.le_of_ble_eq_true rfl, Nat.le_of_ble_eq_true rfl⟩) (wl_pR (C := RX5) (ci := 3) (q0 := 13) hK hP rfl (xr_13 a k S1)) rfl rfl hl.1 rfl (lv_room (Nat.le_of_ble_eq_true rfl)) dX7_noteAsked_20 ⟨Nat.zero_le _, Nat.zero_le _⟩) ?_
        refine lv_lconst (v := (0 : Int64)) hx hb dX7_noteAsked_23 (by decide) ?_
        refine W.lcmp hx hb dX7_noteAsked_24 ?_
        refine lv_if_eq (tgt := 40) hx hb dX7_noteAsked_25 (by decide) (fun c25 => ?_) (fun c25 => ?_)
        · skip
          rw [if_pos c25] at hR
          refine lv_iinc (v := nI (i + 1)) (lv' := [(3, .int (nI (i + 1))), (0, .ref (a 17)), (1, .int ((nI F))), (2, .int ((nI G)))]) hx hb dX7_noteAsked_40 hl (k := 0) rfl (nI_1 _) (by decide) rfl (fun ls hl => ?_)
          refine lv_goto (tgt := 2) hx hb dX7_noteAsked_43 (by decide) ?_
          exact ih (i + 1) S1 _ _ ls hR (by omega) hE (by omega) hP hD hS (lv_sub hl [0, 1, 2, 3] rfl)
        · skip
          rw [if_neg c25] at hR
          refine lv_aload_n hx hb dX7_noteAsked_28 rfl (lv_at hl 1 rfl) ?_
          refine lv_aload_n hx hb dX7_noteAsked_29 rfl (lv_at hl 1 rfl) ?_
          refine va_get (D := (dC, dI)) (ci := 5) (v := .ref (a 20)) (C := RX7) (T := TX7) (N := 7) hx hb hta inX7 hown hK hP 17 (xr_17 a k S1) rfl 5 (by decide) hf33 (fun _ h9 => h9) rfl dX7_noteAsked_30 ?_
          refine lv_iload_n hx hb dX7_noteAsked_33 rfl (lv_at hl 0 rfl) ?_
          refine va_iald hx hb hK hP 20 13 (xr_20 a k S1) rfl (wl_in (by omega) (by decide)) dX7_noteAsked_34 ?_
          have e34 : (fA S1 9 (nI i).toNatClampNeg) = fA st 9 i := (by rw [hE.A 9 (by decide), nI_clamp (by omega)])
          rw [e34]
          try rw [e34] at hR
          refine lv_iload_n hx hb dX7_noteAsked_35 rfl (lv_at hl 2 rfl) ?_
          refine lv_iload_n hx hb dX7_noteAsked_36 rfl (lv_at hl 3 rfl) ?_
          refine wl_mv (va_runV (As := [.int ((fA st 9 i)), .int ((nI F)), .int ((nI G))]) (rest := []) ⟨hx, hb, hml, hown, hta⟩ (kx_Rows_setBits l dC dI a k S1 ((fA st 9 i)) F G _ (hak i hlt) hFG) (cwV 3 hta gX7_82 rfl rfl rfl (by decide +kernel) ⟨Nat.le_of_ble_eq_true rfl, Nat.le_of_ble_eq_true rfl⟩) (wl_pM (C := RX7) (ci := 5) (q0 := 17) hK hP hD rfl (xr_17 a k S1)) rfl rfl hl.1 rfl (lv_room (Nat.le_of_ble_eq_true rfl)) dX7_noteAsked_37 ⟨Nat.zero_le _, Nat.zero_le _⟩) hP hD hS hAz (fun u37 H locs hw37 hP hD hS => ?_)
          have w37 : fx_Rows_setBits S1 ((fA st 9 i)) ((nI F)) ((nI G)) = u37 := hw37.symm
          have hf37 : XF [] [] [3] S1 u37 := by rw [← w37]; exact ff_Rows_setBits S1 ((fA st 9 i)) ((nI F)) ((nI G))
          try rw [w37] at hR
          refine lv_iinc (v := nI (i + 1)) (lv' := [(3, .int (nI (i + 1))), (0, .ref (a 17)), (1, .int ((nI F))), (2, .int ((nI G)))]) hx hb dX7_noteAsked_40 hl (k := 0) rfl (nI_1 _) (by decide) rfl (fun ls hl => ?_)
          refine lv_goto (tgt := 2) hx hb dX7_noteAsked_43 (by decide) ?_
          exact ih (i + 1) (u37) _ _ ls hR (by omega) (XF.tr hE hf37) (by omega) hP hD hS (lv_sub hl [0, 1, 2, 3] rfl)
  exact L2 65 0 st _ _ ls hR (Nat.zero_le _) XF.rf (by omega) hP hD hS (lv_sub hl [0, 1, 2, 3] rfl)

theorem mw_491 : (.methodLink RX7 69 yX5_needNothing : Cond) ∈ AW := List.mem_filter.mpr ⟨List.mem_of_getElem? (i := 491) (by decide +kernel), rfl⟩
theorem mw_498 : (.code yX7_clearRow cX7_clearRow 3 none : Cond) ∈ AW := List.mem_filter.mpr ⟨List.mem_of_getElem? (i := 498) (by decide +kernel), rfl⟩
theorem mw_495 : (.methodLink RX7 72 yX7_clearRow : Cond) ∈ AW := List.mem_filter.mpr ⟨List.mem_of_getElem? (i := 495) (by decide +kernel), rfl⟩
theorem mw_497 : (.instanceMethod yX7_clearRow : Cond) ∈ AW := List.mem_filter.mpr ⟨List.mem_of_getElem? (i := 497) (by decide +kernel), rfl⟩
theorem mw_11 : (.selects RX7 yX7_clearRow yX7_clearRow : Cond) ∈ AW := List.mem_filter.mpr ⟨List.mem_of_getElem? (i := 11) (by decide +kernel), rfl⟩
theorem mw_499 : (.methodLink RX7 75 yX5_need : Cond) ∈ AW := List.mem_filter.mpr ⟨List.mem_of_getElem? (i := 499) (by decide +kernel), rfl⟩
theorem gX7_69 : GoodIn AW (wsV RX7 69 RX5 yX5_needNothing wsX5_needNothing) := aw_V mw_491 mw_492 mw_493 mw_42 mw_494
theorem gX7_72 : GoodIn AW (wsV RX7 72 RX7 yX7_clearRow wsX7_clearRow) := aw_V mw_495 mw_497 mw_11 mw_44 mw_498
theorem gX7_75 : GoodIn AW (wsV RX7 75 RX5 yX5_need wsX5_need) := aw_V mw_499 mw_500 mw_501 mw_42 mw_502
theorem dX7_ask_0 : decode cX7_ask 0 = .ok (.aload_n 0, 1) := by decide +kernel
theorem dX7_ask_1 : decode cX7_ask 1 = .ok (.iconst 0, 1) := by decide +kernel
theorem dX7_ask_2 : decode cX7_ask 2 = .ok (.putfield 37, 3) := by decide +kernel
theorem dX7_ask_5 : decode cX7_ask 5 = .ok (.aload_n 0, 1) := by decide +kernel
theorem dX7_ask_6 : decode cX7_ask 6 = .ok (.getfield 19, 3) := by decide +kernel
theorem dX7_ask_9 : decode cX7_ask 9 = .ok (.invokevirtual 69, 3) := by decide +kernel
theorem dX7_ask_12 : decode cX7_ask 12 = .ok (.iconst 0, 1) := by decide +kernel
theorem dX7_ask_13 : decode cX7_ask 13 = .ok (.istore_n 3, 1) := by decide +kernel
theorem dX7_ask_14 : decode cX7_ask 14 = .ok (.iload_n 3, 1) := by decide +kernel
theorem dX7_ask_15 : decode cX7_ask 15 = .ok (.iload_n 2, 1) := by decide +kernel
theorem dX7_ask_16 : decode cX7_ask 16 = .ok (.if_icmp .ge 68, 3) := by decide +kernel
theorem dX7_ask_19 : decode cX7_ask 19 = .ok (.aload_n 1, 1) := by decide +kernel
theorem dX7_ask_20 : decode cX7_ask 20 = .ok (.iload_n 3, 1) := by decide +kernel
theorem dX7_ask_21 : decode cX7_ask 21 = .ok (.iaload, 1) := by decide +kernel
theorem dX7_ask_22 : decode cX7_ask 22 = .ok (.istore 4, 2) := by decide +kernel
theorem dX7_ask_24 : decode cX7_ask 24 = .ok (.aload_n 0, 1) := by decide +kernel
theorem dX7_ask_25 : decode cX7_ask 25 = .ok (.getfield 29, 3) := by decide +kernel
theorem dX7_ask_28 : decode cX7_ask 28 = .ok (.iload 4, 2) := by decide +kernel
theorem dX7_ask_30 : decode cX7_ask 30 = .ok (.baload, 1) := by decide +kernel
theorem dX7_ask_31 : decode cX7_ask 31 = .ok (.ifCond .ne 47, 3) := by decide +kernel
theorem dX7_ask_34 : decode cX7_ask 34 = .ok (.aload_n 0, 1) := by decide +kernel
theorem dX7_ask_35 : decode cX7_ask 35 = .ok (.getfield 29, 3) := by decide +kernel
theorem dX7_ask_38 : decode cX7_ask 38 = .ok (.iload 4, 2) := by decide +kernel
theorem dX7_ask_40 : decode cX7_ask 40 = .ok (.iconst 1, 1) := by decide +kernel
theorem dX7_ask_41 : decode cX7_ask 41 = .ok (.bastore, 1) := by decide +kernel
theorem dX7_ask_42 : decode cX7_ask 42 = .ok (.aload_n 0, 1) := by decide +kernel
theorem dX7_ask_43 : decode cX7_ask 43 = .ok (.iload 4, 2) := by decide +kernel
theorem dX7_ask_45 : decode cX7_ask 45 = .ok (.invokevirtual 72, 3) := by decide +kernel
theorem dX7_ask_48 : decode cX7_ask 48 = .ok (.aload_n 0, 1) := by decide +kernel
theorem dX7_ask_49 : decode cX7_ask 49 = .ok (.getfield 19, 3) := by decide +kernel
theorem dX7_ask_52 : decode cX7_ask 52 = .ok (.iload 4, 2) := by decide +kernel
theorem dX7_ask_54 : decode cX7_ask 54 = .ok (.invokevirtual 75, 3) := by decide +kernel
theorem dX7_ask_57 : decode cX7_ask 57 = .ok (.aload_n 0, 1) := by decide +kernel
theorem dX7_ask_58 : decode cX7_ask 58 = .ok (.getfield 33, 3) := by decide +kernel
theorem dX7_ask_61 : decode cX7_ask 61 = .ok (.aload_n 0, 1) := by decide +kernel
theorem dX7_ask_62 : decode cX7_ask 62 = .ok (.getfield 37, 3) := by decide +kernel
theorem dX7_ask_65 : decode cX7_ask 65 = .ok (.iload 4, 2) := by decide +kernel
theorem dX7_ask_67 : decode cX7_ask 67 = .ok (.iastore, 1) := by decide +kernel
theorem dX7_ask_68 : decode cX7_ask 68 = .ok (.aload_n 0, 1) := by decide +kernel
theorem dX7_ask_69 : decode cX7_ask 69 = .ok (.dup, 1) := by decide +kernel
theorem dX7_ask_70 : decode cX7_ask 70 = .ok (.getfield 37, 3) := by decide +kernel
theorem dX7_ask_73 : decode cX7_ask 73 = .ok (.iconst 1, 1) := by decide +kernel
theorem dX7_ask_74 : decode cX7_ask 74 = .ok (.iadd, 1) := by decide +kernel
theorem dX7_ask_75 : decode cX7_ask 75 = .ok (.putfield 37, 3) := by decide +kernel
theorem dX7_ask_78 : decode cX7_ask 78 = .ok (.iinc 3 1, 3) := by decide +kernel
theorem dX7_ask_81 : decode cX7_ask 81 = .ok (.goto (-67), 3) := by decide +kernel
theorem dX7_ask_84 : decode cX7_ask 84 = .ok (.return_, 1) := by decide +kernel
def fx_Rows_ask_L14 (st : XS) (len : Int32) : Nat → Nat → XS → XS
  | 0, i, S1 => S1
  | n + 1, i, S1 => 
    if len ≤ nI i then S1
    else 
      if fA S1 8 ((fA S1 10 (nI i).toNatClampNeg)).toNatClampNeg = (0 : Int32) then fx_Rows_ask_L14 st len n (i + 1) (wI (wA ((fx_Eval_need ((fx_Rows_clearRow (wA S1 8 (((fA S1 10 (nI i).toNatClampNeg)).toNatClampNeg) (vp_nar .boolean (1 : Int32))) ((fA S1 10 (nI i).toNatClampNeg)))) ((fA S1 10 (nI i).toNatClampNeg)))) 9 ((gI ((fx_Eval_need ((fx_Rows_clearRow (wA S1 8 (((fA S1 10 (nI i).toNatClampNeg)).toNatClampNeg) (vp_nar .boolean (1 : Int32))) ((fA S1 10 (nI i).toNatClampNeg)))) ((fA S1 10 (nI i).toNatClampNeg)))) 8).toNatClampNeg) ((fA S1 10 (nI i).toNatClampNeg))) 8 ((gI ((fx_Eval_need ((fx_Rows_clearRow (wA S1 8 (((fA S1 10 (nI i).toNatClampNeg)).toNatClampNeg) (vp_nar .boolean (1 : Int32))) ((fA S1 10 (nI i).toNatClampNeg)))) ((fA S1 10 (nI i).toNatClampNeg)))) 8) + (1 : Int32)))
      else fx_Rows_ask_L14 st len n (i + 1) S1
def fx_Rows_ask (st : XS) (len : Int32) : XS := fx_Rows_ask_L14 st len 17 0 ((fx_Eval_needNothing (wI st 8 (0 : Int32))))
theorem fr_Rows_ask_L14 {S0 : XS} (st : XS) (len : Int32) : ∀ (n : Nat) (i : Nat) (S1 : XS), XF [8] [7, 8, 9] [3] S0 S1 → XF [8] [7, 8, 9] [3] S0 (fx_Rows_ask_L14 st len n i S1) := by
  intro n
  induction n with
  | zero => intro i S1 h; exact h
  | succ n ih =>
    intro i S1 h
    rw [fx_Rows_ask_L14]
    exact (wl_ite (P := fun (q : XS) => XF [8] [7, 8, 9] [3] _ (q)) h (wl_ite (P := fun (q : XS) => XF [8] [7, 8, 9] [3] _ (q)) (ih _ _ (XF.wI (by decide) (XF.wA (by decide) (XF.tr (XF.tr (XF.wA (by decide) h) (XF.mono (ff_Rows_clearRow _ _) (by decide) (by decide) (by decide))) (XF.mono (ff_Eval_need _ _) (by decide) (by decide) (by decide)))))) (ih _ _ h)))
theorem ff_Rows_ask (st : XS) (len : Int32) : XF [8] [7, 8, 9] [3] st (fx_Rows_ask st len) := by
  rw [fx_Rows_ask]
  exact (fr_Rows_ask_L14 _ _ _ _ _ (XF.tr (XF.wI (by decide) XF.rf) (XF.mono (ff_Eval_needNothing _) (by decide) (by decide) (by decide))))
set_option maxHeartbeats 4000000 in
set_option maxRecDepth 100000 in
theorem kx_Rows_ask (l : Launch) (dC : Nat → ClassId) (dI : Nat → Nat → Nat) (a : Nat → Nat) (k : Nat → ClassId) (st : XS) (E : Nat) (sz : Nat) (hE16 : E ≤ 16) (hcd : ∀ j : Nat, j < E → vp_in (fA st 10 j) 64) : Met l yX7_ask wsX7_ask ({ frames := 1, cells := 0, slots := 0, locals := 22 }) (va_Pc [.ref (a 17), .ref (a 22), .int (nI E)] (wl_pre (dC, dI) vwCl (xt k) (xw a k) st sz)) (va_Qv (fun u9 => u9 = fx_Rows_ask st (nI E)) (wl_at (dC, dI) vwCl (xt k) (xw a k) (va_A (xw a k st) sz)) (va_A (xw a k st) sz)) 0 0 (va_A (xw a k st) sz) := by
  refine Met.ofW (cc := cX7_ask) (maxL := 5) (ret := none) (by decide) rfl ?_
  intro p e s m args below meth c s₁ B hml hv
  obtain ⟨rfl, hsz, hP, hK, hD0⟩ := hv
  have hx := B.exec
  have hb := B.bytes
  have hr := B.returns
  have hta := aw_hts (atoms_spec (ws := wsX7_ask) B.pre)
  have hown : s.vm.findClass RX7 = some m.cls := findClass_of_methodNamed B.named
  have hlocks := B.notSynchronized
  have hf37 := hta _ mw_168
  have hf19 := hta _ mw_164
  have hf29 := hta _ mw_166
  have hf33 := hta _ mw_167
  subst hsz
  have hD := hD0.self (sz := s.heap.size)
  generalize hAe : va_A (xw a k st) s.heap.size = A at hD ⊢
  have hAz : ∀ q : Nat, s.heap.size ≤ q → A q := fun q h => by rw [← hAe]; exact Or.inr h
  have hS : va_S A s.heap s.heap [] := va_S.rf
  have hl := lv_entry ([.ref (a 17), .ref (a 22), .int (nI E)]) (n := 5) (Nat.le_of_ble_eq_true rfl)
  rw [lg_entry_eq]
  generalize (lg_sl ([.ref (a 17), .ref (a 22), .int (nI E)]) ++ List.replicate (5 - (lg_sl ([.ref (a 17), .ref (a 22), .int (nI E)])).length) Slot.unset).toArray = ls at hl ⊢
  have hl : lv_has ls 5 [(0, .ref (a 17)), (1, .ref (a 22)), (2, .int ((nI E)))] := hl
  generalize hR : fx_Rows_ask st (nI E) = R
  rw [fx_Rows_ask] at hR
  refine lv_aload_n hx hb dX7_ask_0 rfl (lv_at hl 0 rfl) ?_
  refine lv_iconst (v := (0 : Int32)) hx hb dX7_ask_1 (by decide) ?_
  refine va_put (D := (dC, dI)) (ci := 5) (v := .int (0 : Int32)) (ty := .int) (C := RX7) (T := TX7) (N := 7) hx hb hta inX7 tyX7 tyX7_ok nmX7 hown hK hP hD hS 17 (xr_17 a k st) rfl 6 (by decide) hf37 (fun _ h9 => h9) rfl (by decide +kernel) rfl rfl (Nat.le_of_ble_eq_true rfl) dX7_ask_2 (fun H locs hP hD hS => ?_)
  have hP := xp_I8 hP
  have hD := xd_I8 hD
  refine lv_aload_n hx hb dX7_ask_5 rfl (lv_at hl 0 rfl) ?_
  refine va_get (D := (dC, dI)) (ci := 5) (v := .ref (a 13)) (C := RX7) (T := TX7) (N := 7) hx hb hta inX7 hown hK hP 17 (xr_17 a k (wI st 8 (0 : Int32))) rfl 2 (by decide) hf19 (fun _ h9 => h9) rfl dX7_ask_6 ?_
  refine wl_mv (va_runV (As := []) (rest := []) ⟨hx, hb, hml, hown, hta⟩ (kx_Eval_needNothing l dC dI a k (wI st 8 (0 : Int32)) _) (cwV 0 hta gX7_69 rfl rfl rfl (by decide +kernel) ⟨Nat.le_of_ble_eq_true rfl, Nat.le_of_ble_eq_true rfl⟩) (wl_pM (C := RX5) (ci := 3) (q0 := 13) hK hP hD rfl (xr_13 a k (wI st 8 (0 : Int32)))) rfl rfl hl.1 rfl (lv_room (Nat.le_of_ble_eq_true rfl)) dX7_ask_9 ⟨Nat.zero_le _, Nat.zero_le _⟩) hP hD hS hAz (fun u9 H locs hw9 hP hD hS => ?_)
  have w9 : fx_Eval_needNothing (wI st 8 (0 : Int32)) = u9 := hw9.symm
  have hf9 : XF [] [7] [] (wI st 8 (0 : Int32)) u9 := by rw [← w9]; exact ff_Eval_needNothing (wI st 8 (0 : Int32))
  try rw [w9] at hR
  refine lv_iconst (v := (0 : Int32)) hx hb dX7_ask_12 (by decide) ?_
  refine lv_istore_n (lv' := [(3, .int (0 : Int32)), (0, .ref (a 17)), (1, .ref (a 22)), (2, .int ((nI E)))]) hx hb dX7_ask_13 rfl hl (by decide) rfl (fun ls hl => ?_)
  have L14 : ∀ (n : Nat) (i : Nat) (S1 : XS) (H : Heap) (locs : List Loc) (ls : Array Slot), fx_Rows_ask_L14 st (nI E) n i S1 = R → (i ≤ E) → (XF [8] [7, 8, 9] [3] st S1) → (∃ Q : Nat, gI S1 8 = nI Q ∧ Q ≤ i) → E - i < n → va_P (dC, dI) vwCl (xw a k S1) H → va_D A (xw a k S1) → va_S A s.heap H locs → lv_has ls 5 [(3, .int (nI i)), (0, .ref (a 17)), (1, .ref (a 22)), (2, .int ((nI E)))] → W p l e (headSpec wsX7_ask ({ frames := 1, cells := 0, slots := 0, locals := 22 })).room s m ([.ref (a 17), .ref (a 22), .int (nI E)] : List Value).toArray below meth c H locs 0 0 (MQ below (va_Qv (fun u9 => u9 = R) (wl_at (dC, dI) vwCl (xt k) (xw a k) A) A) ([.ref (a 17), .ref (a 22), .int (nI E)] : List Value).toArray s 0 0 A) (F0 m 14 ls []) := by
    intro n
    induction n with
    | zero =>
      intro i S1 H locs ls hR hi hF hq hm hP hD hS hl
      exact absurd hm (Nat.not_lt_zero _)
    | succ n ih =>
      intro i S1 H locs ls hR hi hF hq hm hP hD hS hl
      rw [fx_Rows_ask_L14] at hR
      try rw [w9] at hR
      refine lv_iload_n hx hb dX7_ask_14 rfl (lv_at hl 0 rfl) ?_
      refine lv_iload_n hx hb dX7_ask_15 rfl (lv_at hl 3 rfl) ?_
      refine lv_icmp_ge (tgt := 84) hx hb dX7_ask_16 (by decide) (fun c16 => ?_) (fun c16 => ?_)
      · skip
        rw [if_pos c16] at hR
        exact W.vret hx hb hr (fun t ht hW => ⟨⟨_, rfl, hR, by rw [ht]; exact hP, va_K.moved hW.alike hK, hD⟩, hS.F ht⟩) hS.2.2 dX7_ask_84
      · skip
        rw [if_neg c16] at hR
        have hlt : i < E := wl_lt c16 (by omega)
        obtain ⟨Q, hQ, hQi⟩ := hq
        refine lv_aload_n hx hb dX7_ask_19 rfl (lv_at hl 2 rfl) ?_
        refine lv_iload_n hx hb dX7_ask_20 rfl (lv_at hl 0 rfl) ?_
        refine va_iald hx hb hK hP 22 14 (xr_22 a k S1) rfl (wl_in (by omega) (by decide)) dX7_ask_21 ?_
        have e21 : (fA S1 10 (nI i).toNatClampNeg) = fA st 10 i := (by rw [hF.A 10 (by decide), nI_clamp (by omega)])
        rw [e21]
        try rw [e21] at hR
        refine lv_istore (lv' := [(4, .int ((fA st 10 i))), (3, .int (nI i)), (0, .ref (a 17)), (1, .ref (a 22)), (2, .int ((nI E)))]) hx hb dX7_ask_22 hl (by decide) rfl (fun ls hl => ?_)
        refine lv_aload_n hx hb dX7_ask_24 rfl (lv_at hl 2 rfl) ?_
        refine va_get (D := (dC, dI)) (ci := 5) (v := .ref (a 19)) (C := RX7) (T := TX7) (N := 7) hx hb hta inX7 hown hK hP 17 (xr_17 a k S1) rfl 4 (by decide) hf29 (fun _ h9 => h9) rfl dX7_ask_25 ?_
        refine lv_iload hx hb dX7_ask_28 (lv_at hl 0 rfl) ?_
        refine va_zald hx hb hK hP 19 12 (xr_19 a k S1) rfl (hcd i hlt) dX7_ask_30 ?_
        refine lv_if_ne (tgt := 78) hx hb dX7_ask_31 (by decide) (fun c31 => ?_) (fun c31 => ?_)
        · skip
          rw [if_neg c31] at hR
          refine lv_iinc (v := nI (i + 1)) (lv' := [(3, .int (nI (i + 1))), (4, .int ((fA st 10 i))), (0, .ref (a 17)), (1, .ref (a 22)), (2, .int ((nI E)))]) hx hb dX7_ask_78 hl (k := 1) rfl (nI_1 _) (by decide) rfl (fun ls hl => ?_)
          refine lv_goto (tgt := 14) hx hb dX7_ask_81 (by decide) ?_
          exact ih (i + 1) S1 _ _ ls hR (by omega) hF ⟨Q, hQ, by omega⟩ (by omega) hP hD hS (lv_sub hl [0, 2, 3, 4] rfl)
        · skip
          rw [if_pos c31] at hR
          refine lv_aload_n hx hb dX7_ask_34 rfl (lv_at hl 2 rfl) ?_
          refine va_get (D := (dC, dI)) (ci := 5) (v := .ref (a 19)) (C := RX7) (T := TX7) (N := 7) hx hb hta inX7 hown hK hP 17 (xr_17 a k S1) rfl 4 (by decide) hf29 (fun _ h9 => h9) rfl dX7_ask_35 ?_
          refine lv_iload hx hb dX7_ask_38 (lv_at hl 0 rfl) ?_
          refine lv_iconst (v := (1 : Int32)) hx hb dX7_ask_40 (by decide) ?_
          refine va_zast hx hb hK hP hD hS 19 12 (xr_19 a k S1) rfl (hcd i hlt) dX7_ask_41 (fun H locs hP hD hS => ?_)
          have hP := xp_A8 hP
          have hD := xd_A8 hD
          refine lv_aload_n hx hb dX7_ask_42 rfl (lv_at hl 2 rfl) ?_
          refine lv_iload hx hb dX7_ask_43 (lv_at hl 0 rfl) ?_
          refine wl_mv (va_runV (As := [.int ((fA st 10 i))]) (rest := []) ⟨hx, hb, hml, hown, hta⟩ (kx_Rows_clearRow l dC dI a k (wA S1 8 (((fA st 10 i)).toNatClampNeg) (vp_nar .boolean (1 : Int32))) ((fA st 10 i)) _ (hcd i hlt)) (cwV 1 hta gX7_72 rfl rfl rfl (by decide +kernel) ⟨Nat.le_of_ble_eq_true rfl, Nat.le_of_ble_eq_true rfl⟩) (wl_pM (C := RX7) (ci := 5) (q0 := 17) hK hP hD rfl (xr_17 a k (wA S1 8 (((fA st 10 i)).toNatClampNeg) (vp_nar .boolean (1 : Int32))))) rfl rfl hl.1 rfl (lv_room (Nat.le_of_ble_eq_true rfl)) dX7_ask_45 ⟨Nat.zero_le _, Nat.zero_le _⟩) hP hD hS hAz (fun u45 H locs hw45 hP hD hS => ?_)
          have w45 : fx_Rows_clearRow (wA S1 8 (((fA st 10 i)).toNatClampNeg) (vp_nar .boolean (1 : Int32))) ((fA st 10 i)) = u45 := hw45.symm
          have hf45 : XF [] [] [3] (wA S1 8 (((fA st 10 i)).toNatClampNeg) (vp_nar .boolean (1 : Int32))) u45 := by rw [← w45]; exact ff_Rows_clearRow (wA S1 8 (((fA st 10 i)).toNatClampNeg) (vp_nar .boolean (1 : Int32))) ((fA st 10 i))
          try rw [w45] at hR
          refine lv_aload_n hx hb dX7_ask_48 rfl (lv_at hl 2 rfl) ?_
          refine va_get (D := (dC, dI)) (ci := 5) (v := .ref (a 13)) (C := RX7) (T := TX7) (N := 7) hx hb hta inX7 hown hK hP 17 (xr_17 a k (u45)) rfl 2 (by decide) hf19 (fun _ h9 => h9) rfl dX7_ask_49 ?_
          refine lv_iload hx hb dX7_ask_52 (lv_at hl 0 rfl) ?_
          refine wl_mv (va_runV (As := [.int ((fA st 10 i))]) (rest := []) ⟨hx, hb, hml, hown, hta⟩ (kx_Eval_need l dC dI a k (u45) ((fA st 10 i)) _ (hcd i hlt)) (cwV 1 hta gX7_75 rfl rfl rfl (by decide +kernel) ⟨Nat.le_of_ble_eq_true rfl, Nat.le_of_ble_eq_true rfl⟩) (wl_pM (C := RX5) (ci := 3) (q0 := 13) hK hP hD rfl (xr_13 a k (u45))) rfl rfl hl.1 rfl (lv_room (Nat.le_of_ble_eq_true rfl)) dX7_ask_54 ⟨Nat.zero_le _, Nat.zero_le _⟩) hP hD hS hAz (fun u54 H locs hw54 hP hD hS => ?_)
          have w54 : fx_Eval_need (u45) ((fA st 10 i)) = u54 := hw54.symm
          have hf54 : XF [] [7] [] (u45) u54 := by rw [← w54]; exact ff_Eval_need (u45) ((fA st 10 i))
          try rw [w54] at hR
          have hc8 : gI u54 8 = gI S1 8 := (hf54.I 8 (by decide)).trans (hf45.I 8 (by decide))
          refine lv_aload_n hx hb dX7_ask_57 rfl (lv_at hl 2 rfl) ?_
          refine va_get (D := (dC, dI)) (ci := 5) (v := .ref (a 20)) (C := RX7) (T := TX7) (N := 7) hx hb hta inX7 hown hK hP 17 (xr_17 a k (u54)) rfl 5 (by decide) hf33 (fun _ h9 => h9) rfl dX7_ask_58 ?_
          refine lv_aload_n hx hb dX7_ask_61 rfl (lv_at hl 2 rfl) ?_
          refine va_get (D := (dC, dI)) (ci := 5) (v := .int (gI (u54) 8)) (C := RX7) (T := TX7) (N := 7) hx hb hta inX7 hown hK hP 17 (xr_17 a k (u54)) rfl 6 (by decide) hf37 (fun _ h9 => h9) rfl dX7_ask_62 ?_
          refine lv_iload hx hb dX7_ask_65 (lv_at hl 0 rfl) ?_
          refine va_iast hx hb hK hP hD hS 20 13 (xr_20 a k (u54)) rfl (by rw [hc8, hQ]; exact wl_in (by omega) (by decide)) dX7_ask_67 (fun H locs hP hD hS => ?_)
          have hP := xp_A9 hP
          have hD := xd_A9 hD
          refine lv_aload_n hx hb dX7_ask_68 rfl (lv_at hl 2 rfl) ?_
          refine lv_dup hx hb dX7_ask_69 rfl ?_
          refine va_get (D := (dC, dI)) (ci := 5) (v := .int (gI (u54) 8)) (C := RX7) (T := TX7) (N := 7) hx hb hta inX7 hown hK hP 17 (xr_17 a k (wA (u54) 9 ((gI (u54) 8).toNatClampNeg) ((fA st 10 i)))) rfl 6 (by decide) hf37 (fun _ h9 => h9) rfl dX7_ask_70 ?_
          refine lv_iconst (v := (1 : Int32)) hx hb dX7_ask_73 (by decide) ?_
          refine lv_iadd hx hb dX7_ask_74 ?_
          refine va_put (D := (dC, dI)) (ci := 5) (v := .int ((gI (u54) 8) + (1 : Int32))) (ty := .int) (C := RX7) (T := TX7) (N := 7) hx hb hta inX7 tyX7 tyX7_ok nmX7 hown hK hP hD hS 17 (xr_17 a k (wA (u54) 9 ((gI (u54) 8).toNatClampNeg) ((fA st 10 i)))) rfl 6 (by decide) hf37 (fun _ h9 => h9) rfl (by decide +kernel) rfl rfl (Nat.le_of_ble_eq_true rfl) dX7_ask_75 (fun H locs hP hD hS => ?_)
          have hP := xp_I8 hP
          have hD := xd_I8 hD
          refine lv_iinc (v := nI (i + 1)) (lv' := [(3, .int (nI (i + 1))), (4, .int ((fA st 10 i))), (0, .ref (a 17)), (1, .ref (a 22)), (2, .int ((nI E)))]) hx hb dX7_ask_78 hl (k := 1) rfl (nI_1 _) (by decide) rfl (fun ls hl => ?_)
          refine lv_goto (tgt := 14) hx hb dX7_ask_81 (by decide) ?_
          exact ih (i + 1) (wI (wA (u54) 9 ((gI (u54) 8).toNatClampNeg) ((fA st 10 i))) 8 ((gI (u54) 8) + (1 : Int32))) _ _ ls hR (by omega) (XF.wI (by decide) (XF.wA (by decide) (XF.tr (XF.tr (XF.wA (by decide) hF) (XF.mono hf45 (by decide) (by decide) (by decide))) (XF.mono hf54 (by decide) (by decide) (by decide))))) ⟨Q + 1, (congrArg (· + (1 : Int32)) (hc8.trans hQ)).trans (nI_1 Q), by omega⟩ (by omega) hP hD hS (lv_sub hl [0, 2, 3, 4] rfl)
  exact L14 17 0 (u9) _ _ ls hR (Nat.zero_le _) (XF.tr (XF.wI (by decide) XF.rf) (XF.mono hf9 (by decide) (by decide) (by decide))) ⟨0, hf9.I 8 (by decide), Nat.le_refl _⟩ (by omega) hP hD hS (lv_sub hl [0, 1, 2, 3] rfl)

theorem wl_askL {st : XS} {E : Nat} (hE16 : E ≤ 16) (hcd : ∀ j : Nat, j < E → vp_in (fA st 10 j) 64) : ∀ (n i : Nat) (S1 : XS), i ≤ E → fA S1 10 = fA st 10 → (∃ Q : Nat, gI S1 8 = nI Q ∧ Q ≤ i ∧ ∀ j : Nat, j < Q → vp_in (fA S1 9 j) 64) → ∃ Q : Nat, gI (fx_Rows_ask_L14 st (nI E) n i S1) 8 = nI Q ∧ Q ≤ 16 ∧ ∀ j : Nat, j < Q → vp_in (fA (fx_Rows_ask_L14 st (nI E) n i S1) 9 j) 64 := by
  intro n
  induction n with
  | zero => intro i S1 hi _ h; obtain ⟨Q, h1, h2, h3⟩ := h; exact ⟨Q, h1, by omega, h3⟩
  | succ n ih =>
    intro i S1 hi h10 h
    obtain ⟨Q, h1, h2, h3⟩ := h
    rw [fx_Rows_ask_L14]
    by_cases c16 : nI E ≤ nI i
    · rw [if_pos c16]; exact ⟨Q, h1, by omega, h3⟩
    · rw [if_neg c16]
      have hlt : i < E := wl_lt c16 (by omega)
      by_cases c31 : fA S1 8 (fA S1 10 (nI i).toNatClampNeg).toNatClampNeg = (0 : Int32)
      · rw [if_pos c31]
        obtain ⟨B, hB⟩ : ∃ B, fx_Eval_need (fx_Rows_clearRow (wA S1 8 (fA S1 10 (nI i).toNatClampNeg).toNatClampNeg (vp_nar .boolean (1 : Int32))) (fA S1 10 (nI i).toNatClampNeg)) (fA S1 10 (nI i).toNatClampNeg) = B := ⟨_, rfl⟩
        have f1 := ff_Rows_clearRow (wA S1 8 (fA S1 10 (nI i).toNatClampNeg).toNatClampNeg (vp_nar .boolean (1 : Int32))) (fA S1 10 (nI i).toNatClampNeg)
        have f2 := ff_Eval_need (fx_Rows_clearRow (wA S1 8 (fA S1 10 (nI i).toNatClampNeg).toNatClampNeg (vp_nar .boolean (1 : Int32))) (fA S1 10 (nI i).toNatClampNeg)) (fA S1 10 (nI i).toNatClampNeg)
        rw [hB] at f2
        rw [hB]
        have b8 : gI B 8 = gI S1 8 := (f2.I 8 (by decide)).trans (f1.I 8 (by decide))
        have b9 : fA B 9 = fA S1 9 := (f2.A 9 (by decide)).trans (f1.A 9 (by decide))
        have b10 : fA B 10 = fA S1 10 := (f2.A 10 (by decide)).trans (f1.A 10 (by decide))
        rw [b8, h1, nI_clamp (by omega), nI_clamp (by omega)]
        refine ih _ _ (by omega) (b10.trans h10) ⟨Q + 1, nI_1 Q, by omega, fun j hj => ?_⟩
        show vp_in (upd (fA B 9) Q (fA S1 10 i) j) 64
        by_cases e : j = Q
        · rw [e, pk_us, h10]; exact hcd i hlt
        · rw [pk_un e, b9]; exact h3 j (by omega)
      · rw [if_neg c31]; exact ih _ _ (by omega) h10 ⟨Q, h1, by omega, h3⟩
theorem wl_askQ {st : XS} {E : Nat} (hE16 : E ≤ 16) (hcd : ∀ j : Nat, j < E → vp_in (fA st 10 j) 64) : ∃ Q : Nat, gI (fx_Rows_ask st (nI E)) 8 = nI Q ∧ Q ≤ 16 ∧ ∀ j : Nat, j < Q → vp_in (fA (fx_Rows_ask st (nI E)) 9 j) 64 := by
  rw [fx_Rows_ask]
  have f := ff_Eval_needNothing (wI st 8 (0 : Int32))
  exact wl_askL hE16 hcd 17 0 _ (Nat.zero_le _) (f.A 10 (by decide)) ⟨0, f.I 8 (by decide), Nat.le_refl _, fun j hj => absurd hj (Nat.not_lt_zero _)⟩
theorem wl_free {S : XS} {B : Nat} (hB : B ≤ 10) (h : gI S 5 = nI B) : fx_Vars_freeBits S = nI (10 - B) := by
  rw [fx_Vars_freeBits, h]; exact pk_sub (a := 10) hB
theorem wl_diff0 : ∀ B, B < 11 → (1 : Int32) <<< (((10 : Int32) - nI (10 - B)) &&& 31) = nI (2 ^ B) := by decide +kernel
theorem wl_diff {B : Nat} (hB : B ≤ 10) : (1 : Int32) <<< (((10 : Int32) - nI (10 - B)) &&& 31) = nI (2 ^ B) := wl_diff0 B (by omega)
theorem wl_sm0 : ∀ B, B < 11 → ((nI B &&& 31).toBitVec.smod 32).toNat = B := by decide +kernel
theorem wl_p2 {B : Nat} (hB : B ≤ 10) : 2 ^ B * 2 ^ (10 - B) = 1024 := by rw [← Nat.pow_add, show B + (10 - B) = 10 by omega]
theorem wl_p2le {B : Nat} (hB : B ≤ 10) : 2 ^ B ≤ 1024 := Nat.pow_le_pow_right (by decide) hB
theorem wl_p2pos (B : Nat) : 0 < 2 ^ B := Nat.pow_pos (by decide)
theorem wl_fg {B i : Nat} (hB : B ≤ 10) (hi : i < 2 ^ B) : i * 2 ^ (10 - B) + 2 ^ (10 - B) ≤ 1024 := by
  rw [← wl_p2 hB, ← Nat.succ_mul]
  exact Nat.mul_le_mul_right _ hi
theorem wl_shl {B i : Nat} (hB : B ≤ 10) (hi : i < 2 ^ B) : nI i <<< (nI (10 - B) &&& 31) = nI (i * 2 ^ (10 - B)) := by
  have h := wl_fg hB hi
  have h2 := wl_p2pos (10 - B)
  exact pk_shlN _ (10 - B) (wl_sm0 _ (by omega)) (by omega)
theorem wl_sh1 {B : Nat} (hB : B ≤ 10) : (1 : Int32) <<< (nI (10 - B) &&& 31) = nI (2 ^ (10 - B)) := by
  have q := wl_p2le (B := 10 - B) (by omega)
  have r := pk_shlN (n := 1) (nI (10 - B) &&& 31) (10 - B) (wl_sm0 _ (by omega)) (by omega)
  rw [Nat.one_mul] at r
  exact r
theorem wl_plt {B i : Nat} (hB : B ≤ 10) (hi : i ≤ 2 ^ B) : i < 2147483648 := by
  have := wl_p2le hB; omega
theorem wl_p1025 {B : Nat} (hB : B ≤ 10) : 2 ^ B - 0 < 1025 := by
  have := wl_p2le hB; omega

theorem mw_490 : (.code yX7_ask cX7_ask 5 none : Cond) ∈ AW := List.mem_filter.mpr ⟨List.mem_of_getElem? (i := 490) (by decide +kernel), rfl⟩
theorem mw_487 : (.methodLink RX7 49 yX7_ask : Cond) ∈ AW := List.mem_filter.mpr ⟨List.mem_of_getElem? (i := 487) (by decide +kernel), rfl⟩
theorem mw_489 : (.instanceMethod yX7_ask : Cond) ∈ AW := List.mem_filter.mpr ⟨List.mem_of_getElem? (i := 489) (by decide +kernel), rfl⟩
theorem mw_10 : (.selects RX7 yX7_ask yX7_ask : Cond) ∈ AW := List.mem_filter.mpr ⟨List.mem_of_getElem? (i := 10) (by decide +kernel), rfl⟩
theorem mw_503 : (.methodLink RX7 53 yX5_needOperands : Cond) ∈ AW := List.mem_filter.mpr ⟨List.mem_of_getElem? (i := 503) (by decide +kernel), rfl⟩
theorem mw_163 : (.fieldLink RX7 15 RX7 "variables" "LPathSolver$Variables;" : Cond) ∈ AW := List.mem_filter.mpr ⟨List.mem_of_getElem? (i := 163) (by decide +kernel), rfl⟩
theorem mw_511 : (.methodLink RX7 58 yX2_freeBits : Cond) ∈ AW := List.mem_filter.mpr ⟨List.mem_of_getElem? (i := 511) (by decide +kernel), rfl⟩
theorem mw_515 : (.code yX5_evaluateNeeded cX5_evaluateNeeded 7 none : Cond) ∈ AW := List.mem_filter.mpr ⟨List.mem_of_getElem? (i := 515) (by decide +kernel), rfl⟩
theorem mw_512 : (.methodLink RX7 61 yX5_evaluateNeeded : Cond) ∈ AW := List.mem_filter.mpr ⟨List.mem_of_getElem? (i := 512) (by decide +kernel), rfl⟩
theorem mw_513 : (.instanceMethod yX5_evaluateNeeded : Cond) ∈ AW := List.mem_filter.mpr ⟨List.mem_of_getElem? (i := 513) (by decide +kernel), rfl⟩
theorem mw_514 : (.selects RX5 yX5_evaluateNeeded yX5_evaluateNeeded : Cond) ∈ AW := List.mem_filter.mpr ⟨List.mem_of_getElem? (i := 514) (by decide +kernel), rfl⟩
theorem mw_528 : (.code yX7_noteAsked cX7_noteAsked 4 none : Cond) ∈ AW := List.mem_filter.mpr ⟨List.mem_of_getElem? (i := 528) (by decide +kernel), rfl⟩
theorem mw_525 : (.methodLink RX7 65 yX7_noteAsked : Cond) ∈ AW := List.mem_filter.mpr ⟨List.mem_of_getElem? (i := 525) (by decide +kernel), rfl⟩
theorem mw_527 : (.instanceMethod yX7_noteAsked : Cond) ∈ AW := List.mem_filter.mpr ⟨List.mem_of_getElem? (i := 527) (by decide +kernel), rfl⟩
theorem mw_12 : (.selects RX7 yX7_noteAsked yX7_noteAsked : Cond) ∈ AW := List.mem_filter.mpr ⟨List.mem_of_getElem? (i := 12) (by decide +kernel), rfl⟩
theorem gX7_49 : GoodIn AW (wsV RX7 49 RX7 yX7_ask wsX7_ask) := aw_V mw_487 mw_489 mw_10 mw_44 mw_490
theorem gX7_53 : GoodIn AW (wsV RX7 53 RX5 yX5_needOperands wsX5_needOperands) := aw_V mw_503 mw_504 mw_505 mw_42 mw_506
theorem gX7_58 : GoodIn AW (wsV RX7 58 RX2 yX2_freeBits wsX2_freeBits) := aw_V mw_511 mw_251 mw_252 mw_39 mw_253
theorem gX7_61 : GoodIn AW (wsV RX7 61 RX5 yX5_evaluateNeeded wsX5_evaluateNeeded) := aw_V mw_512 mw_513 mw_514 mw_42 mw_515
theorem gX7_65 : GoodIn AW (wsV RX7 65 RX7 yX7_noteAsked wsX7_noteAsked) := aw_V mw_525 mw_527 mw_12 mw_44 mw_528
theorem dX7_learn_0 : decode cX7_learn 0 = .ok (.aload_n 0, 1) := by decide +kernel
theorem dX7_learn_1 : decode cX7_learn 1 = .ok (.aload_n 1, 1) := by decide +kernel
theorem dX7_learn_2 : decode cX7_learn 2 = .ok (.iload_n 2, 1) := by decide +kernel
theorem dX7_learn_3 : decode cX7_learn 3 = .ok (.invokevirtual 49, 3) := by decide +kernel
theorem dX7_learn_6 : decode cX7_learn 6 = .ok (.aload_n 0, 1) := by decide +kernel
theorem dX7_learn_7 : decode cX7_learn 7 = .ok (.getfield 37, 3) := by decide +kernel
theorem dX7_learn_10 : decode cX7_learn 10 = .ok (.ifCond .ne 4, 3) := by decide +kernel
theorem dX7_learn_13 : decode cX7_learn 13 = .ok (.return_, 1) := by decide +kernel
theorem dX7_learn_14 : decode cX7_learn 14 = .ok (.aload_n 0, 1) := by decide +kernel
theorem dX7_learn_15 : decode cX7_learn 15 = .ok (.getfield 19, 3) := by decide +kernel
theorem dX7_learn_18 : decode cX7_learn 18 = .ok (.invokevirtual 53, 3) := by decide +kernel
theorem dX7_learn_21 : decode cX7_learn 21 = .ok (.aload_n 0, 1) := by decide +kernel
theorem dX7_learn_22 : decode cX7_learn 22 = .ok (.getfield 15, 3) := by decide +kernel
theorem dX7_learn_25 : decode cX7_learn 25 = .ok (.invokevirtual 58, 3) := by decide +kernel
theorem dX7_learn_28 : decode cX7_learn 28 = .ok (.istore_n 3, 1) := by decide +kernel
theorem dX7_learn_29 : decode cX7_learn 29 = .ok (.iconst 1, 1) := by decide +kernel
theorem dX7_learn_30 : decode cX7_learn 30 = .ok (.bipush 10, 2) := by decide +kernel
theorem dX7_learn_32 : decode cX7_learn 32 = .ok (.iload_n 3, 1) := by decide +kernel
theorem dX7_learn_33 : decode cX7_learn 33 = .ok (.isub, 1) := by decide +kernel
theorem dX7_learn_34 : decode cX7_learn 34 = .ok (.ishl, 1) := by decide +kernel
theorem dX7_learn_35 : decode cX7_learn 35 = .ok (.istore 4, 2) := by decide +kernel
theorem dX7_learn_37 : decode cX7_learn 37 = .ok (.iconst 0, 1) := by decide +kernel
theorem dX7_learn_38 : decode cX7_learn 38 = .ok (.istore 5, 2) := by decide +kernel
theorem dX7_learn_40 : decode cX7_learn 40 = .ok (.iload 5, 2) := by decide +kernel
theorem dX7_learn_42 : decode cX7_learn 42 = .ok (.iload 4, 2) := by decide +kernel
theorem dX7_learn_44 : decode cX7_learn 44 = .ok (.if_icmp .ge 31, 3) := by decide +kernel
theorem dX7_learn_47 : decode cX7_learn 47 = .ok (.aload_n 0, 1) := by decide +kernel
theorem dX7_learn_48 : decode cX7_learn 48 = .ok (.getfield 19, 3) := by decide +kernel
theorem dX7_learn_51 : decode cX7_learn 51 = .ok (.iload 5, 2) := by decide +kernel
theorem dX7_learn_53 : decode cX7_learn 53 = .ok (.iload_n 3, 1) := by decide +kernel
theorem dX7_learn_54 : decode cX7_learn 54 = .ok (.ishl, 1) := by decide +kernel
theorem dX7_learn_55 : decode cX7_learn 55 = .ok (.invokevirtual 61, 3) := by decide +kernel
theorem dX7_learn_58 : decode cX7_learn 58 = .ok (.aload_n 0, 1) := by decide +kernel
theorem dX7_learn_59 : decode cX7_learn 59 = .ok (.iload 5, 2) := by decide +kernel
theorem dX7_learn_61 : decode cX7_learn 61 = .ok (.iload_n 3, 1) := by decide +kernel
theorem dX7_learn_62 : decode cX7_learn 62 = .ok (.ishl, 1) := by decide +kernel
theorem dX7_learn_63 : decode cX7_learn 63 = .ok (.iconst 1, 1) := by decide +kernel
theorem dX7_learn_64 : decode cX7_learn 64 = .ok (.iload_n 3, 1) := by decide +kernel
theorem dX7_learn_65 : decode cX7_learn 65 = .ok (.ishl, 1) := by decide +kernel
theorem dX7_learn_66 : decode cX7_learn 66 = .ok (.invokevirtual 65, 3) := by decide +kernel
theorem dX7_learn_69 : decode cX7_learn 69 = .ok (.iinc 5 1, 3) := by decide +kernel
theorem dX7_learn_72 : decode cX7_learn 72 = .ok (.goto (-32), 3) := by decide +kernel
theorem dX7_learn_75 : decode cX7_learn 75 = .ok (.return_, 1) := by decide +kernel
def fx_Rows_learn_L40 (st : XS) (len : Int32) : Nat → Nat → XS → XS
  | 0, i, S1 => S1
  | n + 1, i, S1 => 
    if ((1 : Int32) <<< (((10 : Int32) - ((fx_Vars_freeBits ((fx_Eval_needOperands ((fx_Rows_ask st (len)))))))) &&& 31)) ≤ nI i then S1
    else fx_Rows_learn_L40 st len n (i + 1) ((fx_Rows_noteAsked ((fx_Eval_evaluateNeeded S1 (((nI i) <<< (((fx_Vars_freeBits ((fx_Eval_needOperands ((fx_Rows_ask st (len))))))) &&& 31))))) (((nI i) <<< (((fx_Vars_freeBits ((fx_Eval_needOperands ((fx_Rows_ask st (len))))))) &&& 31))) (((1 : Int32) <<< (((fx_Vars_freeBits ((fx_Eval_needOperands ((fx_Rows_ask st (len))))))) &&& 31)))))
def fx_Rows_learn (st : XS) (len : Int32) : XS := 
  if gI ((fx_Rows_ask st (len))) 8 = (0 : Int32) then (fx_Rows_ask st (len))
  else fx_Rows_learn_L40 st len 1025 0 ((fx_Eval_needOperands ((fx_Rows_ask st (len)))))
theorem fr_Rows_learn_L40 {S0 : XS} (st : XS) (len : Int32) : ∀ (n : Nat) (i : Nat) (S1 : XS), XF [8] [7, 8, 9] [2, 3] S0 S1 → XF [8] [7, 8, 9] [2, 3] S0 (fx_Rows_learn_L40 st len n i S1) := by
  intro n
  induction n with
  | zero => intro i S1 h; exact h
  | succ n ih =>
    intro i S1 h
    rw [fx_Rows_learn_L40]
    exact (wl_ite (P := fun (q : XS) => XF [8] [7, 8, 9] [2, 3] _ (q)) h (ih _ _ (XF.tr (XF.tr h (XF.mono (ff_Eval_evaluateNeeded _ _) (by decide) (by decide) (by decide))) (XF.mono (ff_Rows_noteAsked _ _ _) (by decide) (by decide) (by decide)))))
theorem ff_Rows_learn (st : XS) (len : Int32) : XF [8] [7, 8, 9] [2, 3] st (fx_Rows_learn st len) := by
  rw [fx_Rows_learn]
  exact (wl_ite (P := fun (q : XS) => XF [8] [7, 8, 9] [2, 3] _ (q)) (XF.tr XF.rf (XF.mono (ff_Rows_ask _ _) (by decide) (by decide) (by decide))) (fr_Rows_learn_L40 _ _ _ _ _ (XF.tr (XF.tr XF.rf (XF.mono (ff_Rows_ask _ _) (by decide) (by decide) (by decide))) (XF.mono (ff_Eval_needOperands _) (by decide) (by decide) (by decide)))))
set_option maxHeartbeats 4000000 in
set_option maxRecDepth 100000 in
theorem kx_Rows_learn (l : Launch) (dC : Nat → ClassId) (dI : Nat → Nat → Nat) (a : Nat → Nat) (k : Nat → ClassId) (st : XS) (E : Nat) (sz : Nat) (hE16 : E ≤ 16) (hcd : ∀ j : Nat, j < E → vp_in (fA st 10 j) 64) (N : Nat) (hN : gI st 6 = nI N) (h64 : N ≤ 64) (V : Nat) (hV4 : V ≤ 4) (hX : XT st V N) (hM0 : XM st N) (Bt : Nat) (hBt : gI st 5 = nI Bt) (hBt10 : Bt ≤ 10) : Met l yX7_learn wsX7_learn ({ frames := 4, cells := 0, slots := 0, locals := 106 }) (va_Pc [.ref (a 17), .ref (a 22), .int (nI E)] (wl_pre (dC, dI) vwCl (xt k) (xw a k) st sz)) (va_Qv (fun u9 => u9 = fx_Rows_learn st (nI E)) (wl_at (dC, dI) vwCl (xt k) (xw a k) (va_A (xw a k st) sz)) (va_A (xw a k st) sz)) 0 0 (va_A (xw a k st) sz) := by
  refine Met.ofW (cc := cX7_learn) (maxL := 6) (ret := none) (by decide) rfl ?_
  intro p e s m args below meth c s₁ B hml hv
  obtain ⟨rfl, hsz, hP, hK, hD0⟩ := hv
  have hx := B.exec
  have hb := B.bytes
  have hr := B.returns
  have hta := aw_hts (atoms_spec (ws := wsX7_learn) B.pre)
  have hown : s.vm.findClass RX7 = some m.cls := findClass_of_methodNamed B.named
  have hlocks := B.notSynchronized
  have hf37 := hta _ mw_168
  have hf19 := hta _ mw_164
  have hf15 := hta _ mw_163
  subst hsz
  have hD := hD0.self (sz := s.heap.size)
  generalize hAe : va_A (xw a k st) s.heap.size = A at hD ⊢
  have hAz : ∀ q : Nat, s.heap.size ≤ q → A q := fun q h => by rw [← hAe]; exact Or.inr h
  have hS : va_S A s.heap s.heap [] := va_S.rf
  have hl := lv_entry ([.ref (a 17), .ref (a 22), .int (nI E)]) (n := 6) (Nat.le_of_ble_eq_true rfl)
  rw [lg_entry_eq]
  generalize (lg_sl ([.ref (a 17), .ref (a 22), .int (nI E)]) ++ List.replicate (6 - (lg_sl ([.ref (a 17), .ref (a 22), .int (nI E)])).length) Slot.unset).toArray = ls at hl ⊢
  have hl : lv_has ls 6 [(0, .ref (a 17)), (1, .ref (a 22)), (2, .int ((nI E)))] := hl
  generalize hR : fx_Rows_learn st (nI E) = R
  rw [fx_Rows_learn] at hR
  refine lv_aload_n hx hb dX7_learn_0 rfl (lv_at hl 0 rfl) ?_
  refine lv_aload_n hx hb dX7_learn_1 rfl (lv_at hl 1 rfl) ?_
  refine lv_iload_n hx hb dX7_learn_2 rfl (lv_at hl 2 rfl) ?_
  refine wl_mv (va_runV (As := [.ref (a 22), .int ((nI E))]) (rest := []) ⟨hx, hb, hml, hown, hta⟩ (kx_Rows_ask l dC dI a k st E _ hE16 hcd) (cwV 2 hta gX7_49 rfl rfl rfl (by decide +kernel) ⟨Nat.le_of_ble_eq_true rfl, Nat.le_of_ble_eq_true rfl⟩) (wl_pM (C := RX7) (ci := 5) (q0 := 17) hK hP hD rfl (xr_17 a k st)) rfl rfl hl.1 rfl (lv_room (Nat.le_of_ble_eq_true rfl)) dX7_learn_3 ⟨Nat.zero_le _, Nat.zero_le _⟩) hP hD hS hAz (fun u3 H locs hw3 hP hD hS => ?_)
  have w3 : fx_Rows_ask st ((nI E)) = u3 := hw3.symm
  have hf3 : XF [8] [7, 8, 9] [3] st u3 := by rw [← w3]; exact ff_Rows_ask st ((nI E))
  try rw [w3] at hR
  obtain ⟨Q, hQ, hQ16, hak⟩ := wl_askQ hE16 hcd
  rw [w3] at hQ
  rw [w3] at hak
  refine lv_aload_n hx hb dX7_learn_6 rfl (lv_at hl 0 rfl) ?_
  refine va_get (D := (dC, dI)) (ci := 5) (v := .int (gI (u3) 8)) (C := RX7) (T := TX7) (N := 7) hx hb hta inX7 hown hK hP 17 (xr_17 a k (u3)) rfl 6 (by decide) hf37 (fun _ h9 => h9) rfl dX7_learn_7 ?_
  refine lv_if_ne (tgt := 14) hx hb dX7_learn_10 (by decide) (fun c10 => ?_) (fun c10 => ?_)
  · skip
    rw [if_neg c10] at hR
    refine lv_aload_n hx hb dX7_learn_14 rfl (lv_at hl 0 rfl) ?_
    refine va_get (D := (dC, dI)) (ci := 5) (v := .ref (a 13)) (C := RX7) (T := TX7) (N := 7) hx hb hta inX7 hown hK hP 17 (xr_17 a k (u3)) rfl 2 (by decide) hf19 (fun _ h9 => h9) rfl dX7_learn_15 ?_
    refine wl_mv (va_runV (As := []) (rest := []) ⟨hx, hb, hml, hown, hta⟩ (kx_Eval_needOperands l dC dI a k (u3) _ N ((hf3.I 6 (by decide)).trans hN) h64 (wl_opsX (hX.fr hf3 (by decide) (by decide)) h64)) (cwV 0 hta gX7_53 rfl rfl rfl (by decide +kernel) ⟨Nat.le_of_ble_eq_true rfl, Nat.le_of_ble_eq_true rfl⟩) (wl_pM (C := RX5) (ci := 3) (q0 := 13) hK hP hD rfl (xr_13 a k (u3))) rfl rfl hl.1 rfl (lv_room (Nat.le_of_ble_eq_true rfl)) dX7_learn_18 ⟨Nat.zero_le _, Nat.zero_le _⟩) hP hD hS hAz (fun u18 H locs hw18 hP hD hS => ?_)
    have w18 : fx_Eval_needOperands (u3) = u18 := hw18.symm
    have hf18 : XF [] [7] [] (u3) u18 := by rw [← w18]; exact ff_Eval_needOperands (u3)
    try rw [w18] at hR
    refine lv_aload_n hx hb dX7_learn_21 rfl (lv_at hl 0 rfl) ?_
    refine va_get (D := (dC, dI)) (ci := 5) (v := .ref (a 1)) (C := RX7) (T := TX7) (N := 7) hx hb hta inX7 hown hK hP 17 (xr_17 a k (u18)) rfl 1 (by decide) hf15 (fun _ h9 => h9) rfl dX7_learn_22 ?_
    refine wl_ci (va_runV (As := []) (rest := []) ⟨hx, hb, hml, hown, hta⟩ (kx_Vars_freeBits l dC dI a k (u18)) (cwV 0 hta gX7_58 rfl rfl rfl (by decide +kernel) ⟨Nat.le_of_ble_eq_true rfl, Nat.le_of_ble_eq_true rfl⟩) (wl_pR (C := RX2) (ci := 0) (q0 := 1) hK hP rfl (xr_1 a k (u18))) rfl rfl hl.1 rfl (lv_room (Nat.le_of_ble_eq_true rfl)) dX7_learn_25 ⟨Nat.zero_le _, Nat.zero_le _⟩) ?_
    have e25 : (fx_Vars_freeBits (u18)) = nI (10 - Bt) := (wl_free hBt10 ((hf18.I 5 (by decide)).trans ((hf3.I 5 (by decide)).trans hBt)))
    rw [e25]
    try rw [e25] at hR
    refine lv_istore_n (lv' := [(3, .int ((nI (10 - Bt)))), (0, .ref (a 17)), (1, .ref (a 22)), (2, .int ((nI E)))]) hx hb dX7_learn_28 rfl hl (by decide) rfl (fun ls hl => ?_)
    refine lv_iconst (v := (1 : Int32)) hx hb dX7_learn_29 (by decide) ?_
    refine lv_bipush (v := (10 : Int32)) hx hb dX7_learn_30 (by decide) ?_
    refine lv_iload_n hx hb dX7_learn_32 rfl (lv_at hl 0 rfl) ?_
    refine lv_isub hx hb dX7_learn_33 ?_
    refine lv_ishl hx hb dX7_learn_34 ?_
    have e34 : ((1 : Int32) <<< (((10 : Int32) - ((nI (10 - Bt)))) &&& 31)) = nI (2 ^ Bt) := (wl_diff hBt10)
    rw [e34]
    try rw [e34] at hR
    refine lv_istore (lv' := [(4, .int ((nI (2 ^ Bt)))), (3, .int ((nI (10 - Bt)))), (0, .ref (a 17)), (1, .ref (a 22)), (2, .int ((nI E)))]) hx hb dX7_learn_35 hl (by decide) rfl (fun ls hl => ?_)
    refine lv_iconst (v := (0 : Int32)) hx hb dX7_learn_37 (by decide) ?_
    refine lv_istore (lv' := [(5, .int (0 : Int32)), (4, .int ((nI (2 ^ Bt)))), (3, .int ((nI (10 - Bt)))), (0, .ref (a 17)), (1, .ref (a 22)), (2, .int ((nI E)))]) hx hb dX7_learn_38 hl (by decide) rfl (fun ls hl => ?_)
    have L40 : ∀ (n : Nat) (i : Nat) (S1 : XS) (H : Heap) (locs : List Loc) (ls : Array Slot), fx_Rows_learn_L40 st (nI E) n i S1 = R → (i ≤ 2 ^ Bt) → (XF [8] [7, 8, 9] [2, 3] st S1) → (XF [] [7] [2, 3] u3 S1) → (XM S1 N) → 2 ^ Bt - i < n → va_P (dC, dI) vwCl (xw a k S1) H → va_D A (xw a k S1) → va_S A s.heap H locs → lv_has ls 6 [(5, .int (nI i)), (4, .int ((nI (2 ^ Bt)))), (3, .int ((nI (10 - Bt)))), (0, .ref (a 17))] → W p l e (headSpec wsX7_learn ({ frames := 4, cells := 0, slots := 0, locals := 106 })).room s m ([.ref (a 17), .ref (a 22), .int (nI E)] : List Value).toArray below meth c H locs 0 0 (MQ below (va_Qv (fun u9 => u9 = R) (wl_at (dC, dI) vwCl (xt k) (xw a k) A) A) ([.ref (a 17), .ref (a 22), .int (nI E)] : List Value).toArray s 0 0 A) (F0 m 40 ls []) := by
      intro n
      induction n with
      | zero =>
        intro i S1 H locs ls hR hi hF hG hM hm hP hD hS hl
        exact absurd hm (Nat.not_lt_zero _)
      | succ n ih =>
        intro i S1 H locs ls hR hi hF hG hM hm hP hD hS hl
        rw [fx_Rows_learn_L40] at hR
        try rw [w3] at hR
        try rw [w18] at hR
        try rw [e25] at hR
        try rw [e34] at hR
        refine lv_iload hx hb dX7_learn_40 (lv_at hl 0 rfl) ?_
        refine lv_iload hx hb dX7_learn_42 (lv_at hl 1 rfl) ?_
        refine lv_icmp_ge (tgt := 75) hx hb dX7_learn_44 (by decide) (fun c44 => ?_) (fun c44 => ?_)
        · skip
          rw [if_pos c44] at hR
          exact W.vret hx hb hr (fun t ht hW => ⟨⟨_, rfl, hR, by rw [ht]; exact hP, va_K.moved hW.alike hK, hD⟩, hS.F ht⟩) hS.2.2 dX7_learn_75
        · skip
          rw [if_neg c44] at hR
          have hlt : i < 2 ^ Bt := wl_lt c44 (wl_plt hBt10 hi)
          refine lv_aload_n hx hb dX7_learn_47 rfl (lv_at hl 3 rfl) ?_
          refine va_get (D := (dC, dI)) (ci := 5) (v := .ref (a 13)) (C := RX7) (T := TX7) (N := 7) hx hb hta inX7 hown hK hP 17 (xr_17 a k S1) rfl 2 (by decide) hf19 (fun _ h9 => h9) rfl dX7_learn_48 ?_
          refine lv_iload hx hb dX7_learn_51 (lv_at hl 0 rfl) ?_
          refine lv_iload_n hx hb dX7_learn_53 rfl (lv_at hl 2 rfl) ?_
          refine lv_ishl hx hb dX7_learn_54 ?_
          have e54 : ((nI i) <<< (((nI (10 - Bt))) &&& 31)) = nI (i * 2 ^ (10 - Bt)) := (wl_shl hBt10 hlt)
          rw [e54]
          try rw [e54] at hR
          refine wl_mv (va_runV (As := [.int ((nI (i * 2 ^ (10 - Bt))))]) (rest := []) ⟨hx, hb, hml, hown, hta⟩ (kx_Eval_evaluateNeeded l dC dI a k S1 ((nI (i * 2 ^ (10 - Bt)))) _ N ((hF.I 6 (by decide)).trans hN) h64 V hV4 (hX.fr hF (by decide) (by decide)) hM) (cwV 1 hta gX7_61 rfl rfl rfl (by decide +kernel) ⟨Nat.le_of_ble_eq_true rfl, Nat.le_of_ble_eq_true rfl⟩) (wl_pM (C := RX5) (ci := 3) (q0 := 13) hK hP hD rfl (xr_13 a k S1)) rfl rfl hl.1 rfl (lv_room (Nat.le_of_ble_eq_true rfl)) dX7_learn_55 ⟨Nat.zero_le _, Nat.zero_le _⟩) hP hD hS hAz (fun u55 H locs hw55 hP hD hS => ?_)
          have w55 : fx_Eval_evaluateNeeded S1 ((nI (i * 2 ^ (10 - Bt)))) = u55 := hw55.symm
          have hf55 : XF [] [] [2] S1 u55 := by rw [← w55]; exact ff_Eval_evaluateNeeded S1 ((nI (i * 2 ^ (10 - Bt))))
          try rw [w55] at hR
          refine lv_aload_n hx hb dX7_learn_58 rfl (lv_at hl 3 rfl) ?_
          refine lv_iload hx hb dX7_learn_59 (lv_at hl 0 rfl) ?_
          refine lv_iload_n hx hb dX7_learn_61 rfl (lv_at hl 2 rfl) ?_
          refine lv_ishl hx hb dX7_learn_62 ?_
          have e62 : ((nI i) <<< (((nI (10 - Bt))) &&& 31)) = nI (i * 2 ^ (10 - Bt)) := (wl_shl hBt10 hlt)
          rw [e62]
          try rw [e62] at hR
          refine lv_iconst (v := (1 : Int32)) hx hb dX7_learn_63 (by decide) ?_
          refine lv_iload_n hx hb dX7_learn_64 rfl (lv_at hl 2 rfl) ?_
          refine lv_ishl hx hb dX7_learn_65 ?_
          have e65 : ((1 : Int32) <<< (((nI (10 - Bt))) &&& 31)) = nI (2 ^ (10 - Bt)) := (wl_sh1 hBt10)
          rw [e65]
          try rw [e65] at hR
          refine wl_mv (va_runV (As := [.int ((nI (i * 2 ^ (10 - Bt)))), .int ((nI (2 ^ (10 - Bt))))]) (rest := []) ⟨hx, hb, hml, hown, hta⟩ (kx_Rows_noteAsked l dC dI a k (u55) (i * 2 ^ (10 - Bt)) (2 ^ (10 - Bt)) _ Q ((hf55.I 8 (by decide)).trans ((hG.I 8 (by decide)).trans hQ)) (by omega) (fun j hj => by rw [hf55.A 9 (by decide), hG.A 9 (by decide)]; exact hak j hj) (wl_fg hBt10 hlt)) (cwV 2 hta gX7_65 rfl rfl rfl (by decide +kernel) ⟨Nat.le_of_ble_eq_true rfl, Nat.le_of_ble_eq_true rfl⟩) (wl_pM (C := RX7) (ci := 5) (q0 := 17) hK hP hD rfl (xr_17 a k (u55))) rfl rfl hl.1 rfl (lv_room (Nat.le_of_ble_eq_true rfl)) dX7_learn_66 ⟨Nat.zero_le _, Nat.zero_le _⟩) hP hD hS hAz (fun u66 H locs hw66 hP hD hS => ?_)
          have w66 : fx_Rows_noteAsked (u55) ((nI (i * 2 ^ (10 - Bt)))) ((nI (2 ^ (10 - Bt)))) = u66 := hw66.symm
          have hf66 : XF [] [] [3] (u55) u66 := by rw [← w66]; exact ff_Rows_noteAsked (u55) ((nI (i * 2 ^ (10 - Bt)))) ((nI (2 ^ (10 - Bt))))
          try rw [w66] at hR
          refine lv_iinc (v := nI (i + 1)) (lv' := [(5, .int (nI (i + 1))), (4, .int ((nI (2 ^ Bt)))), (3, .int ((nI (10 - Bt)))), (0, .ref (a 17))]) hx hb dX7_learn_69 hl (k := 0) rfl (nI_1 _) (by decide) rfl (fun ls hl => ?_)
          refine lv_goto (tgt := 40) hx hb dX7_learn_72 (by decide) ?_
          exact ih (i + 1) (u66) _ _ ls hR (by omega) (XF.tr (XF.tr hF (hf55.mono (by decide) (by decide) (by decide))) (hf66.mono (by decide) (by decide) (by decide))) (XF.tr (XF.tr hG (hf55.mono (by decide) (by decide) (by decide))) (hf66.mono (by decide) (by decide) (by decide))) ((show XM u55 N from by rw [← w55]; exact wl_evM ((hF.I 6 (by decide)).trans hN) h64 hV4 (hX.fr hF (by decide) (by decide)) hM).fr hf66 (by decide) (by decide)) (by omega) hP hD hS (lv_sub hl [0, 1, 2, 3] rfl)
    exact L40 1025 0 (u18) _ _ ls hR (Nat.zero_le _) (XF.tr (hf3.mono (by decide) (by decide) (by decide)) (hf18.mono (by decide) (by decide) (by decide))) (hf18.mono (by decide) (by decide) (by decide)) ((hM0.fr hf3 (by decide) (by decide)).fr hf18 (by decide) (by decide)) (wl_p1025 hBt10) hP hD hS (lv_sub hl [0, 1, 2, 3] rfl)
  · skip
    rw [if_pos c10] at hR
    exact W.vret hx hb hr (fun t ht hW => ⟨⟨_, rfl, hR, by rw [ht]; exact hP, va_K.moved hW.alike hK, hD⟩, hS.F ht⟩) hS.2.2 dX7_learn_13
