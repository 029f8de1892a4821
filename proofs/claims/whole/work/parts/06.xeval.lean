theorem wl_m1 (t : Nat) : nI t + (-1 : Int32) = nI t - (1 : Int32) := (Int32.sub_eq_add_neg _ _).symm
theorem wl_m1p1 (t : Nat) : nI t - (1 : Int32) + (1 : Int32) = nI t := Int32.sub_add_cancel _ _
theorem wl_mA {t : Nat} (h : t < 2147483648) : (nI t + (-1 : Int32) + (1 : Int32)).toNatClampNeg = t := by
  rw [wl_m1, wl_m1p1, nI_clamp h]
theorem wl_mB {t : Nat} (h : t + 1 < 2147483648) : (nI t + (1 : Int32)).toNatClampNeg = t + 1 := by
  rw [nI_1, nI_clamp h]
theorem wl_desc {x : Int32} {N : Nat} (hN : N < 2147483648) (h : ∃ i : Nat, i ≤ N ∧ x = nI i - (1 : Int32)) (c : ¬ x < (0 : Int32)) : ∃ t : Nat, t < N ∧ x = nI t := by
  obtain ⟨i, hi, e⟩ := h
  cases i with
  | zero => exact absurd (by rw [e]; decide) c
  | succ i => exact ⟨i, by omega, by rw [e]; exact nI_pred i⟩
theorem wl_opin {st S : XS} {t j : Nat} (hE : XF [] [7] [] st S) (ht : t < 64) (hj : j < 3) (h : vp_in (fA st 5 (3 * t + j)) 64) : vp_in (fx_Terms_operandOf S (nI t) (nI j)) 64 := by
  rw [wl_opn ht hj, hE.A 5 (by decide)]; exact h
theorem wl_hop {st S : XS} {N t : Nat} (ht64 : t < 64) (hE : XF [] [7] [] st S) (ht : t < N) (hops : ∀ t j : Nat, t < N → j < 3 → nI j < fx_Op_namedTerms (fA st 3 t) → vp_in (fA st 5 (3 * t + j)) 64) : ∀ j : Nat, j < 3 → nI j < fx_Op_namedTerms (fx_Terms_operationOf S (nI t)) → vp_in (fA st 5 (3 * t + j)) 64 := by
  intro j hj h
  rw [fx_Terms_operationOf, nI_clamp (by omega), hE.A 3 (by decide)] at h
  exact hops t j ht hj h
theorem wl_nlt0 {j : Nat} (hj : j < 3) : ¬ nI j < (0 : Int32) := nI_pos (by omega)
theorem wl_ops {st S : XS} {N : Nat} (h3 : fA S 3 = fA st 3) (h5 : fA S 5 = fA st 5) (hops : ∀ t j : Nat, t < N → j < 3 → nI j < fx_Op_namedTerms (fA st 3 t) → vp_in (fA st 5 (3 * t + j)) 64) : ∀ t j : Nat, t < N → j < 3 → nI j < fx_Op_namedTerms (fA S 3 t) → vp_in (fA S 5 (3 * t + j)) 64 := by
  rw [h3, h5]; exact hops

theorem mw_130 : (.fieldLink RX5 23 RX5 "results" "[J" : Cond) ∈ AW := List.mem_filter.mpr ⟨List.mem_of_getElem? (i := 130) (by decide +kernel), rfl⟩
theorem dX5_resultAt_0 : decode cX5_resultAt 0 = .ok (.aload_n 0, 1) := by decide +kernel
theorem dX5_resultAt_1 : decode cX5_resultAt 1 = .ok (.getfield 23, 3) := by decide +kernel
theorem dX5_resultAt_4 : decode cX5_resultAt 4 = .ok (.iload_n 1, 1) := by decide +kernel
theorem dX5_resultAt_5 : decode cX5_resultAt 5 = .ok (.laload, 1) := by decide +kernel
theorem dX5_resultAt_6 : decode cX5_resultAt 6 = .ok (.lreturn, 1) := by decide +kernel
def fx_Eval_resultAt (st : XS) (t : Int32) : Int64 := fL st 2 t.toNatClampNeg
set_option maxHeartbeats 4000000 in
set_option maxRecDepth 100000 in
theorem kx_Eval_resultAt (l : Launch) (dC : Nat → ClassId) (dI : Nat → Nat → Nat) (a : Nat → Nat) (k : Nat → ClassId) (st : XS) (t : Int32) (hi : vp_in t 64) : Met l yX5_resultAt wsX5_resultAt ({ frames := 0, cells := 0, slots := 0, locals := 0 }) (va_Pc [.ref (a 13), .int t] (wl_prR (dC, dI) vwCl (xt k) (xw a k st))) (vp_Sl (fun r9 => r9 = fx_Eval_resultAt st t)) 0 0 (fun _ => False) := by
  refine Met.ofW (cc := cX5_resultAt) (maxL := 2) (ret := (some .long)) (by decide) rfl ?_
  intro p e s m args below meth c s₁ B hml hv
  obtain ⟨rfl, hP, hK⟩ := hv
  have hx := B.exec
  have hb := B.bytes
  have hr := B.returns
  have hta := aw_hts (atoms_spec (ws := wsX5_resultAt) B.pre)
  have hown : s.vm.findClass RX5 = some m.cls := findClass_of_methodNamed B.named
  have hlocks := B.notSynchronized
  have hf23 := hta _ mw_130
  have hl := lv_entry ([.ref (a 13), .int t]) (n := 2) (Nat.le_of_ble_eq_true rfl)
  rw [lg_entry_eq]
  generalize (lg_sl ([.ref (a 13), .int t]) ++ List.replicate (2 - (lg_sl ([.ref (a 13), .int t])).length) Slot.unset).toArray = ls at hl ⊢
  have hl : lv_has ls 2 [(0, .ref (a 13)), (1, .int t)] := hl
  generalize hR : fx_Eval_resultAt st t = R
  rw [fx_Eval_resultAt] at hR
  refine lv_aload_n hx hb dX5_resultAt_0 rfl (lv_at hl 0 rfl) ?_
  refine va_get (D := (dC, dI)) (ci := 3) (v := .ref (a 14)) (C := RX5) (T := TX5) (N := 5) hx hb hta inX5 hown hK hP 13 (xr_13 a k st) rfl 3 (by decide) hf23 (fun _ h9 => h9) rfl dX5_resultAt_1 ?_
  refine lv_iload_n hx hb dX5_resultAt_4 rfl (lv_at hl 1 rfl) ?_
  refine va_lald hx hb hK hP 14 9 (xr_14 a k st) rfl hi dX5_resultAt_5 ?_
  exact W.lret (v := fL st 2 t.toNatClampNeg) hx hb hr (fun t ht hW => ⟨_, rfl, hR, ht⟩) (fun q h => by cases h) dX5_resultAt_6

theorem mw_131 : (.fieldLink RX5 27 RX5 "needed" "[Z" : Cond) ∈ AW := List.mem_filter.mpr ⟨List.mem_of_getElem? (i := 131) (by decide +kernel), rfl⟩
theorem dX5_need_0 : decode cX5_need 0 = .ok (.aload_n 0, 1) := by decide +kernel
theorem dX5_need_1 : decode cX5_need 1 = .ok (.getfield 27, 3) := by decide +kernel
theorem dX5_need_4 : decode cX5_need 4 = .ok (.iload_n 1, 1) := by decide +kernel
theorem dX5_need_5 : decode cX5_need 5 = .ok (.iconst 1, 1) := by decide +kernel
theorem dX5_need_6 : decode cX5_need 6 = .ok (.bastore, 1) := by decide +kernel
theorem dX5_need_7 : decode cX5_need 7 = .ok (.return_, 1) := by decide +kernel
def fx_Eval_need (st : XS) (t : Int32) : XS := wA st 7 t.toNatClampNeg (vp_nar .boolean (1 : Int32))
theorem ff_Eval_need (st : XS) (t : Int32) : XF [] [7] [] st (fx_Eval_need st t) := by
  rw [fx_Eval_need]
  exact (XF.wA (by decide) XF.rf)
set_option maxHeartbeats 4000000 in
set_option maxRecDepth 100000 in
theorem kx_Eval_need (l : Launch) (dC : Nat → ClassId) (dI : Nat → Nat → Nat) (a : Nat → Nat) (k : Nat → ClassId) (st : XS) (t : Int32) (sz : Nat) (hi : vp_in t 64) : Met l yX5_need wsX5_need ({ frames := 0, cells := 0, slots := 0, locals := 0 }) (va_Pc [.ref (a 13), .int t] (wl_pre (dC, dI) vwCl (xt k) (xw a k) st sz)) (va_Qv (fun u9 => u9 = fx_Eval_need st t) (wl_at (dC, dI) vwCl (xt k) (xw a k) (va_A (xw a k st) sz)) (va_A (xw a k st) sz)) 0 0 (va_A (xw a k st) sz) := by
  refine Met.ofW (cc := cX5_need) (maxL := 2) (ret := none) (by decide) rfl ?_
  intro p e s m args below meth c s₁ B hml hv
  obtain ⟨rfl, hsz, hP, hK, hD0⟩ := hv
  have hx := B.exec
  have hb := B.bytes
  have hr := B.returns
  have hta := aw_hts (atoms_spec (ws := wsX5_need) B.pre)
  have hown : s.vm.findClass RX5 = some m.cls := findClass_of_methodNamed B.named
  have hlocks := B.notSynchronized
  have hf27 := hta _ mw_131
  subst hsz
  have hD := hD0.self (sz := s.heap.size)
  generalize hAe : va_A (xw a k st) s.heap.size = A at hD ⊢
  have hAz : ∀ q : Nat, s.heap.size ≤ q → A q := fun q h => by rw [← hAe]; exact Or.inr h
  have hS : va_S A s.heap s.heap [] := va_S.rf
  have hl := lv_entry ([.ref (a 13), .int t]) (n := 2) (Nat.le_of_ble_eq_true rfl)
  rw [lg_entry_eq]
  generalize (lg_sl ([.ref (a 13), .int t]) ++ List.replicate (2 - (lg_sl ([.ref (a 13), .int t])).length) Slot.unset).toArray = ls at hl ⊢
  have hl : lv_has ls 2 [(0, .ref (a 13)), (1, .int t)] := hl
  generalize hR : fx_Eval_need st t = R
  rw [fx_Eval_need] at hR
  refine lv_aload_n hx hb dX5_need_0 rfl (lv_at hl 0 rfl) ?_
  refine va_get (D := (dC, dI)) (ci := 3) (v := .ref (a 15)) (C := RX5) (T := TX5) (N := 5) hx hb hta inX5 hown hK hP 13 (xr_13 a k st) rfl 4 (by decide) hf27 (fun _ h9 => h9) rfl dX5_need_1 ?_
  refine lv_iload_n hx hb dX5_need_4 rfl (lv_at hl 1 rfl) ?_
  refine lv_iconst (v := (1 : Int32)) hx hb dX5_need_5 (by decide) ?_
  refine va_zast hx hb hK hP hD hS 15 10 (xr_15 a k st) rfl hi dX5_need_6 (fun H locs hP hD hS => ?_)
  have hP := xp_A7 hP
  have hD := xd_A7 hD
  exact W.vret hx hb hr (fun t ht hW => ⟨⟨_, rfl, hR, by rw [ht]; exact hP, va_K.moved hW.alike hK, hD⟩, hS.F ht⟩) hS.2.2 dX5_need_7

theorem dX5_needNothing_0 : decode cX5_needNothing 0 = .ok (.iconst 0, 1) := by decide +kernel
theorem dX5_needNothing_1 : decode cX5_needNothing 1 = .ok (.istore_n 1, 1) := by decide +kernel
theorem dX5_needNothing_2 : decode cX5_needNothing 2 = .ok (.iload_n 1, 1) := by decide +kernel
theorem dX5_needNothing_3 : decode cX5_needNothing 3 = .ok (.bipush 64, 2) := by decide +kernel
theorem dX5_needNothing_5 : decode cX5_needNothing 5 = .ok (.if_icmp .ge 16, 3) := by decide +kernel
theorem dX5_needNothing_8 : decode cX5_needNothing 8 = .ok (.aload_n 0, 1) := by decide +kernel
theorem dX5_needNothing_9 : decode cX5_needNothing 9 = .ok (.getfield 27, 3) := by decide +kernel
theorem dX5_needNothing_12 : decode cX5_needNothing 12 = .ok (.iload_n 1, 1) := by decide +kernel
theorem dX5_needNothing_13 : decode cX5_needNothing 13 = .ok (.iconst 0, 1) := by decide +kernel
theorem dX5_needNothing_14 : decode cX5_needNothing 14 = .ok (.bastore, 1) := by decide +kernel
theorem dX5_needNothing_15 : decode cX5_needNothing 15 = .ok (.iinc 1 1, 3) := by decide +kernel
theorem dX5_needNothing_18 : decode cX5_needNothing 18 = .ok (.goto (-16), 3) := by decide +kernel
theorem dX5_needNothing_21 : decode cX5_needNothing 21 = .ok (.return_, 1) := by decide +kernel
def fx_Eval_needNothing_L2 (st : XS) : Nat → Nat → XS → XS
  | 0, i, S1 => S1
  | n + 1, i, S1 => 
    if (64 : Int32) ≤ nI i then S1
    else fx_Eval_needNothing_L2 st n (i + 1) (wA S1 7 ((nI i).toNatClampNeg) (vp_nar .boolean (0 : Int32)))
def fx_Eval_needNothing (st : XS) : XS := fx_Eval_needNothing_L2 st 65 0 st
theorem fr_Eval_needNothing_L2 {S0 : XS} (st : XS) : ∀ (n : Nat) (i : Nat) (S1 : XS), XF [] [7] [] S0 S1 → XF [] [7] [] S0 (fx_Eval_needNothing_L2 st n i S1) := by
  intro n
  induction n with
  | zero => intro i S1 h; exact h
  | succ n ih =>
    intro i S1 h
    rw [fx_Eval_needNothing_L2]
    exact (wl_ite (P := fun (q : XS) => XF [] [7] [] _ (q)) h (ih _ _ (XF.wA (by decide) h)))
theorem ff_Eval_needNothing (st : XS) : XF [] [7] [] st (fx_Eval_needNothing st) := by
  rw [fx_Eval_needNothing]
  exact (fr_Eval_needNothing_L2 _ _ _ _ XF.rf)
set_option maxHeartbeats 4000000 in
set_option maxRecDepth 100000 in
theorem kx_Eval_needNothing (l : Launch) (dC : Nat → ClassId) (dI : Nat → Nat → Nat) (a : Nat → Nat) (k : Nat → ClassId) (st : XS) (sz : Nat) : Met l yX5_needNothing wsX5_needNothing ({ frames := 0, cells := 0, slots := 0, locals := 0 }) (va_Pc [.ref (a 13)] (wl_pre (dC, dI) vwCl (xt k) (xw a k) st sz)) (va_Qv (fun u9 => u9 = fx_Eval_needNothing st) (wl_at (dC, dI) vwCl (xt k) (xw a k) (va_A (xw a k st) sz)) (va_A (xw a k st) sz)) 0 0 (va_A (xw a k st) sz) := by
  refine Met.ofW (cc := cX5_needNothing) (maxL := 2) (ret := none) (by decide) rfl ?_
  intro p e s m args below meth c s₁ B hml hv
  obtain ⟨rfl, hsz, hP, hK, hD0⟩ := hv
  have hx := B.exec
  have hb := B.bytes
  have hr := B.returns
  have hta := aw_hts (atoms_spec (ws := wsX5_needNothing) B.pre)
  have hown : s.vm.findClass RX5 = some m.cls := findClass_of_methodNamed B.named
  have hlocks := B.notSynchronized
  have hf27 := hta _ mw_131
  subst hsz
  have hD := hD0.self (sz := s.heap.size)
  generalize hAe : va_A (xw a k st) s.heap.size = A at hD ⊢
  have hAz : ∀ q : Nat, s.heap.size ≤ q → A q := fun q h => by rw [← hAe]; exact Or.inr h
  have hS : va_S A s.heap s.heap [] := va_S.rf
  have hl := lv_entry ([.ref (a 13)]) (n := 2) (Nat.le_of_ble_eq_true rfl)
  rw [lg_entry_eq]
  generalize (lg_sl ([.ref (a 13)]) ++ List.replicate (2 - (lg_sl ([.ref (a 13)])).length) Slot.unset).toArray = ls at hl ⊢
  have hl : lv_has ls 2 [(0, .ref (a 13))] := hl
  generalize hR : fx_Eval_needNothing st = R
  rw [fx_Eval_needNothing] at hR
  refine lv_iconst (v := (0 : Int32)) hx hb dX5_needNothing_0 (by decide) ?_
  refine lv_istore_n (lv' := [(1, .int (0 : Int32)), (0, .ref (a 13))]) hx hb dX5_needNothing_1 rfl hl (by decide) rfl (fun ls hl => ?_)
  have L2 : ∀ (n : Nat) (i : Nat) (S1 : XS) (H : Heap) (locs : List Loc) (ls : Array Slot), fx_Eval_needNothing_L2 st n i S1 = R → (i ≤ 64) → 64 - i < n → va_P (dC, dI) vwCl (xw a k S1) H → va_D A (xw a k S1) → va_S A s.heap H locs → lv_has ls 2 [(1, .int (nI i)), (0, .ref (a 13))] → W p l e (headSpec wsX5_needNothing ({ frames := 0, cells := 0, slots := 0, locals := 0 })).room s m ([.ref (a 13)] : List Value).toArray below meth c H locs 0 0 (MQ below (va_Qv (fun u9 => u9 = R) (wl_at (dC, dI) vwCl (xt k) (xw a k) A) A) ([.ref (a 13)] : List Value).toArray s 0 0 A) (F0 m 2 ls []) := by
    intro n
    induction n with
    | zero =>
      intro i S1 H locs ls hR hi hm hP hD hS hl
      exact absurd hm (Nat.not_lt_zero _)
    | succ n ih =>
      intro i S1 H locs ls hR hi hm hP hD hS hl
      rw [fx_Eval_needNothing_L2] at hR
      refine lv_iload_n hx hb dX5_needNothing_2 rfl (lv_at hl 0 rfl) ?_
      refine lv_bipush (v := (64 : Int32)) hx hb dX5_needNothing_3 (by decide) ?_
      refine lv_icmp_ge (tgt := 21) hx hb dX5_needNothing_5 (by decide) (fun c5 => ?_) (fun c5 => ?_)
      · skip
        rw [if_pos c5] at hR
        exact W.vret hx hb hr (fun t ht hW => ⟨⟨_, rfl, hR, by rw [ht]; exact hP, va_K.moved hW.alike hK, hD⟩, hS.F ht⟩) hS.2.2 dX5_needNothing_21
      · skip
        rw [if_neg c5] at hR
        have hlt : i < 64 := wl_lt (N := 64) c5 (by omega)
        refine lv_aload_n hx hb dX5_needNothing_8 rfl (lv_at hl 1 rfl) ?_
        refine va_get (D := (dC, dI)) (ci := 3) (v := .ref (a 15)) (C := RX5) (T := TX5) (N := 5) hx hb hta inX5 hown hK hP 13 (xr_13 a k S1) rfl 4 (by decide) hf27 (fun _ h9 => h9) rfl dX5_needNothing_9 ?_
        refine lv_iload_n hx hb dX5_needNothing_12 rfl (lv_at hl 0 rfl) ?_
        refine lv_iconst (v := (0 : Int32)) hx hb dX5_needNothing_13 (by decide) ?_
        refine va_zast hx hb hK hP hD hS 15 10 (xr_15 a k S1) rfl (wl_in hlt (by decide)) dX5_needNothing_14 (fun H locs hP hD hS => ?_)
        have hP := xp_A7 hP
        have hD := xd_A7 hD
        refine lv_iinc (v := nI (i + 1)) (lv' := [(1, .int (nI (i + 1))), (0, .ref (a 13))]) hx hb dX5_needNothing_15 hl (k := 0) rfl (nI_1 _) (by decide) rfl (fun ls hl => ?_)
        refine lv_goto (tgt := 2) hx hb dX5_needNothing_18 (by decide) ?_
        exact ih (i + 1) (wA S1 7 ((nI i).toNatClampNeg) (vp_nar .boolean (0 : Int32))) _ _ ls hR (by omega) (by omega) hP hD hS (lv_sub hl [0, 1] rfl)
  exact L2 65 0 st _ _ ls hR (Nat.zero_le _) (by omega) hP hD hS (lv_sub hl [0, 1] rfl)

theorem mw_127 : (.fieldLink RX5 7 RX5 "terms" "LPathSolver$Terms;" : Cond) ∈ AW := List.mem_filter.mpr ⟨List.mem_of_getElem? (i := 127) (by decide +kernel), rfl⟩
theorem mw_303 : (.code yX4_size cX4_size 1 (some .int) : Cond) ∈ AW := List.mem_filter.mpr ⟨List.mem_of_getElem? (i := 303) (by decide +kernel), rfl⟩
theorem mw_507 : (.methodLink RX5 41 yX4_size : Cond) ∈ AW := List.mem_filter.mpr ⟨List.mem_of_getElem? (i := 507) (by decide +kernel), rfl⟩
theorem mw_301 : (.instanceMethod yX4_size : Cond) ∈ AW := List.mem_filter.mpr ⟨List.mem_of_getElem? (i := 301) (by decide +kernel), rfl⟩
theorem mw_302 : (.selects RX4 yX4_size yX4_size : Cond) ∈ AW := List.mem_filter.mpr ⟨List.mem_of_getElem? (i := 302) (by decide +kernel), rfl⟩
theorem mw_510 : (.methodLink RX5 54 yX4_operandOf : Cond) ∈ AW := List.mem_filter.mpr ⟨List.mem_of_getElem? (i := 510) (by decide +kernel), rfl⟩
theorem mw_426 : (.code yX4_operationOf cX4_operationOf 2 (some .int) : Cond) ∈ AW := List.mem_filter.mpr ⟨List.mem_of_getElem? (i := 426) (by decide +kernel), rfl⟩
theorem mw_508 : (.methodLink RX5 45 yX4_operationOf : Cond) ∈ AW := List.mem_filter.mpr ⟨List.mem_of_getElem? (i := 508) (by decide +kernel), rfl⟩
theorem mw_424 : (.instanceMethod yX4_operationOf : Cond) ∈ AW := List.mem_filter.mpr ⟨List.mem_of_getElem? (i := 424) (by decide +kernel), rfl⟩
theorem mw_425 : (.selects RX4 yX4_operationOf yX4_operationOf : Cond) ∈ AW := List.mem_filter.mpr ⟨List.mem_of_getElem? (i := 425) (by decide +kernel), rfl⟩
theorem mw_509 : (.methodLink RX5 49 yX1_namedTerms : Cond) ∈ AW := List.mem_filter.mpr ⟨List.mem_of_getElem? (i := 509) (by decide +kernel), rfl⟩
theorem gX5_41 : GoodIn AW (wsV RX5 41 RX4 yX4_size wsX4_size) := aw_V mw_507 mw_301 mw_302 mw_41 mw_303
theorem gX5_54 : GoodIn AW (wsV RX5 54 RX4 yX4_operandOf wsX4_operandOf) := aw_V mw_510 mw_428 mw_429 mw_41 mw_430
theorem gX5_45 : GoodIn AW (wsV RX5 45 RX4 yX4_operationOf wsX4_operationOf) := aw_V mw_508 mw_424 mw_425 mw_41 mw_426
theorem gX5_49 : GoodIn AW (va_wsS RX5 49 yX1_namedTerms wsX1_namedTerms) := aw_S mw_509 mw_341 mw_48 mw_342
theorem dX5_needOperands_0 : decode cX5_needOperands 0 = .ok (.aload_n 0, 1) := by decide +kernel
theorem dX5_needOperands_1 : decode cX5_needOperands 1 = .ok (.getfield 7, 3) := by decide +kernel
theorem dX5_needOperands_4 : decode cX5_needOperands 4 = .ok (.invokevirtual 41, 3) := by decide +kernel
theorem dX5_needOperands_7 : decode cX5_needOperands 7 = .ok (.iconst 1, 1) := by decide +kernel
theorem dX5_needOperands_8 : decode cX5_needOperands 8 = .ok (.isub, 1) := by decide +kernel
theorem dX5_needOperands_9 : decode cX5_needOperands 9 = .ok (.istore_n 1, 1) := by decide +kernel
theorem dX5_needOperands_10 : decode cX5_needOperands 10 = .ok (.iload_n 1, 1) := by decide +kernel
theorem dX5_needOperands_11 : decode cX5_needOperands 11 = .ok (.ifCond .lt 62, 3) := by decide +kernel
theorem dX5_needOperands_14 : decode cX5_needOperands 14 = .ok (.aload_n 0, 1) := by decide +kernel
theorem dX5_needOperands_15 : decode cX5_needOperands 15 = .ok (.getfield 27, 3) := by decide +kernel
theorem dX5_needOperands_18 : decode cX5_needOperands 18 = .ok (.iload_n 1, 1) := by decide +kernel
theorem dX5_needOperands_19 : decode cX5_needOperands 19 = .ok (.baload, 1) := by decide +kernel
theorem dX5_needOperands_20 : decode cX5_needOperands 20 = .ok (.ifCond .eq 17, 3) := by decide +kernel
theorem dX5_needOperands_23 : decode cX5_needOperands 23 = .ok (.aload_n 0, 1) := by decide +kernel
theorem dX5_needOperands_24 : decode cX5_needOperands 24 = .ok (.getfield 7, 3) := by decide +kernel
theorem dX5_needOperands_27 : decode cX5_needOperands 27 = .ok (.iload_n 1, 1) := by decide +kernel
theorem dX5_needOperands_28 : decode cX5_needOperands 28 = .ok (.invokevirtual 45, 3) := by decide +kernel
theorem dX5_needOperands_31 : decode cX5_needOperands 31 = .ok (.invokestatic 49, 3) := by decide +kernel
theorem dX5_needOperands_34 : decode cX5_needOperands 34 = .ok (.goto 4, 3) := by decide +kernel
theorem dX5_needOperands_37 : decode cX5_needOperands 37 = .ok (.iconst 0, 1) := by decide +kernel
theorem dX5_needOperands_38 : decode cX5_needOperands 38 = .ok (.istore_n 2, 1) := by decide +kernel
theorem dX5_needOperands_39 : decode cX5_needOperands 39 = .ok (.iconst 0, 1) := by decide +kernel
theorem dX5_needOperands_40 : decode cX5_needOperands 40 = .ok (.istore_n 3, 1) := by decide +kernel
theorem dX5_needOperands_41 : decode cX5_needOperands 41 = .ok (.iload_n 3, 1) := by decide +kernel
theorem dX5_needOperands_42 : decode cX5_needOperands 42 = .ok (.iload_n 2, 1) := by decide +kernel
theorem dX5_needOperands_43 : decode cX5_needOperands 43 = .ok (.if_icmp .ge 24, 3) := by decide +kernel
theorem dX5_needOperands_46 : decode cX5_needOperands 46 = .ok (.aload_n 0, 1) := by decide +kernel
theorem dX5_needOperands_47 : decode cX5_needOperands 47 = .ok (.getfield 27, 3) := by decide +kernel
theorem dX5_needOperands_50 : decode cX5_needOperands 50 = .ok (.aload_n 0, 1) := by decide +kernel
theorem dX5_needOperands_51 : decode cX5_needOperands 51 = .ok (.getfield 7, 3) := by decide +kernel
theorem dX5_needOperands_54 : decode cX5_needOperands 54 = .ok (.iload_n 1, 1) := by decide +kernel
theorem dX5_needOperands_55 : decode cX5_needOperands 55 = .ok (.iload_n 3, 1) := by decide +kernel
theorem dX5_needOperands_56 : decode cX5_needOperands 56 = .ok (.invokevirtual 54, 3) := by decide +kernel
theorem dX5_needOperands_59 : decode cX5_needOperands 59 = .ok (.iconst 1, 1) := by decide +kernel
theorem dX5_needOperands_60 : decode cX5_needOperands 60 = .ok (.bastore, 1) := by decide +kernel
theorem dX5_needOperands_61 : decode cX5_needOperands 61 = .ok (.iinc 3 1, 3) := by decide +kernel
theorem dX5_needOperands_64 : decode cX5_needOperands 64 = .ok (.goto (-23), 3) := by decide +kernel
theorem dX5_needOperands_67 : decode cX5_needOperands 67 = .ok (.iinc 1 (-1), 3) := by decide +kernel
theorem dX5_needOperands_70 : decode cX5_needOperands 70 = .ok (.goto (-60), 3) := by decide +kernel
theorem dX5_needOperands_73 : decode cX5_needOperands 73 = .ok (.return_, 1) := by decide +kernel
def fx_Eval_needOperands_L41 (st : XS) (x : Int32) (S1 : XS) : Nat → Int32 → Nat → XS → Int32 × Nat × XS
  | 0, nm, j, S2 => (nm, j, S2)
  | n + 1, nm, j, S2 => 
    if nm ≤ nI j then (nm, j, S2)
    else fx_Eval_needOperands_L41 st x S1 n nm (j + 1) (wA S2 7 ((fx_Terms_operandOf S2 (x) (nI j)).toNatClampNeg) (vp_nar .boolean (1 : Int32)))
def fx_Eval_needOperands_L10 (st : XS) : Nat → Int32 → XS → XS
  | 0, x, S1 => S1
  | n + 1, x, S1 => 
    if x < (0 : Int32) then S1
    else 
      if fA S1 7 (x).toNatClampNeg = (0 : Int32) then fx_Eval_needOperands_L10 st n ((x) + (-1 : Int32)) (((fx_Eval_needOperands_L41 st x S1 4 (0 : Int32) 0 S1).2.2))
      else fx_Eval_needOperands_L10 st n ((x) + (-1 : Int32)) (((fx_Eval_needOperands_L41 st x S1 4 (fx_Op_namedTerms (fx_Terms_operationOf S1 (x))) 0 S1).2.2))
def fx_Eval_needOperands (st : XS) : XS := fx_Eval_needOperands_L10 st 65 ((fx_Terms_size st) - (1 : Int32)) st
theorem fr_Eval_needOperands_L41 {S0 : XS} (st : XS) (x : Int32) (S1 : XS) : ∀ (n : Nat) (nm : Int32) (j : Nat) (S2 : XS), XF [] [7] [] S0 S2 → XF [] [7] [] S0 (fx_Eval_needOperands_L41 st x S1 n nm j S2).2.2 := by
  intro n
  induction n with
  | zero => intro nm j S2 h; exact h
  | succ n ih =>
    intro nm j S2 h
    rw [fx_Eval_needOperands_L41]
    exact (wl_ite (P := fun (q : Int32 × Nat × XS) => XF [] [7] [] _ (q.2.2)) h (ih _ _ _ (XF.wA (by decide) h)))
theorem fr_Eval_needOperands_L10 {S0 : XS} (st : XS) : ∀ (n : Nat) (x : Int32) (S1 : XS), XF [] [7] [] S0 S1 → XF [] [7] [] S0 (fx_Eval_needOperands_L10 st n x S1) := by
  intro n
  induction n with
  | zero => intro x S1 h; exact h
  | succ n ih =>
    intro x S1 h
    rw [fx_Eval_needOperands_L10]
    exact (wl_ite (P := fun (q : XS) => XF [] [7] [] _ (q)) h (wl_ite (P := fun (q : XS) => XF [] [7] [] _ (q)) (ih _ _ (fr_Eval_needOperands_L41 _ _ _ _ _ _ _ h)) (ih _ _ (fr_Eval_needOperands_L41 _ _ _ _ _ _ _ h))))
theorem ff_Eval_needOperands (st : XS) : XF [] [7] [] st (fx_Eval_needOperands st) := by
  rw [fx_Eval_needOperands]
  exact (fr_Eval_needOperands_L10 _ _ _ _ XF.rf)
set_option maxHeartbeats 4000000 in
set_option maxRecDepth 100000 in
theorem kx_Eval_needOperands (l : Launch) (dC : Nat → ClassId) (dI : Nat → Nat → Nat) (a : Nat → Nat) (k : Nat → ClassId) (st : XS) (sz : Nat) (N : Nat) (hN : gI st 6 = nI N) (h64 : N ≤ 64) (hops : ∀ t j : Nat, t < N → j < 3 → nI j < fx_Op_namedTerms (fA st 3 t) → vp_in (fA st 5 (3 * t + j)) 64) : Met l yX5_needOperands wsX5_needOperands ({ frames := 2, cells := 0, slots := 0, locals := 40 }) (va_Pc [.ref (a 13)] (wl_pre (dC, dI) vwCl (xt k) (xw a k) st sz)) (va_Qv (fun u9 => u9 = fx_Eval_needOperands st) (wl_at (dC, dI) vwCl (xt k) (xw a k) (va_A (xw a k st) sz)) (va_A (xw a k st) sz)) 0 0 (va_A (xw a k st) sz) := by
  refine Met.ofW (cc := cX5_needOperands) (maxL := 4) (ret := none) (by decide) rfl ?_
  intro p e s m args below meth c s₁ B hml hv
  obtain ⟨rfl, hsz, hP, hK, hD0⟩ := hv
  have hx := B.exec
  have hb := B.bytes
  have hr := B.returns
  have hta := aw_hts (atoms_spec (ws := wsX5_needOperands) B.pre)
  have hown : s.vm.findClass RX5 = some m.cls := findClass_of_methodNamed B.named
  have hlocks := B.notSynchronized
  have hf7 := hta _ mw_127
  have hf27 := hta _ mw_131
  subst hsz
  have hD := hD0.self (sz := s.heap.size)
  generalize hAe : va_A (xw a k st) s.heap.size = A at hD ⊢
  have hAz : ∀ q : Nat, s.heap.size ≤ q → A q := fun q h => by rw [← hAe]; exact Or.inr h
  have hS : va_S A s.heap s.heap [] := va_S.rf
  have hl := lv_entry ([.ref (a 13)]) (n := 4) (Nat.le_of_ble_eq_true rfl)
  rw [lg_entry_eq]
  generalize (lg_sl ([.ref (a 13)]) ++ List.replicate (4 - (lg_sl ([.ref (a 13)])).length) Slot.unset).toArray = ls at hl ⊢
  have hl : lv_has ls 4 [(0, .ref (a 13))] := hl
  generalize hR : fx_Eval_needOperands st = R
  rw [fx_Eval_needOperands] at hR
  refine lv_aload_n hx hb dX5_needOperands_0 rfl (lv_at hl 0 rfl) ?_
  refine va_get (D := (dC, dI)) (ci := 3) (v := .ref (a 7)) (C := RX5) (T := TX5) (N := 5) hx hb hta inX5 hown hK hP 13 (xr_13 a k st) rfl 0 (by decide) hf7 (fun _ h9 => h9) rfl dX5_needOperands_1 ?_
  refine wl_ci (va_runV (As := []) (rest := []) ⟨hx, hb, hml, hown, hta⟩ (kx_Terms_size l dC dI a k st) (cwV 0 hta gX5_41 rfl rfl rfl (by decide +kernel) ⟨Nat.le_of_ble_eq_true rfl, Nat.le_of_ble_eq_true rfl⟩) (wl_pR (C := RX4) (ci := 2) (q0 := 7) hK hP rfl (xr_7 a k st)) rfl rfl hl.1 rfl (lv_room (Nat.le_of_ble_eq_true rfl)) dX5_needOperands_4 ⟨Nat.zero_le _, Nat.zero_le _⟩) ?_
  refine lv_iconst (v := (1 : Int32)) hx hb dX5_needOperands_7 (by decide) ?_
  refine lv_isub hx hb dX5_needOperands_8 ?_
  refine lv_istore_n (lv' := [(1, .int ((fx_Terms_size st) - (1 : Int32))), (0, .ref (a 13))]) hx hb dX5_needOperands_9 rfl hl (by decide) rfl (fun ls hl => ?_)
  have L10 : ∀ (n : Nat) (x : Int32) (S1 : XS) (H : Heap) (locs : List Loc) (ls : Array Slot), fx_Eval_needOperands_L10 st n x S1 = R → (∃ i : Nat, i ≤ N ∧ x = nI i - (1 : Int32)) → (XF [] [7] [] st S1) → (x + (1 : Int32)).toNatClampNeg < n → va_P (dC, dI) vwCl (xw a k S1) H → va_D A (xw a k S1) → va_S A s.heap H locs → lv_has ls 4 [(1, .int x), (0, .ref (a 13))] → W p l e (headSpec wsX5_needOperands ({ frames := 2, cells := 0, slots := 0, locals := 40 })).room s m ([.ref (a 13)] : List Value).toArray below meth c H locs 0 0 (MQ below (va_Qv (fun u9 => u9 = R) (wl_at (dC, dI) vwCl (xt k) (xw a k) A) A) ([.ref (a 13)] : List Value).toArray s 0 0 A) (F0 m 10 ls []) := by
    intro n
    induction n with
    | zero =>
      intro x S1 H locs ls hR hxi hE hm hP hD hS hl
      exact absurd hm (Nat.not_lt_zero _)
    | succ n ih =>
      intro x S1 H locs ls hR hxi hE hm hP hD hS hl
      rw [fx_Eval_needOperands_L10] at hR
      refine lv_iload_n hx hb dX5_needOperands_10 rfl (lv_at hl 0 rfl) ?_
      refine lv_if_lt (tgt := 73) hx hb dX5_needOperands_11 (by decide) (fun c11 => ?_) (fun c11 => ?_)
      · skip
        rw [if_pos c11] at hR
        exact W.vret hx hb hr (fun t ht hW => ⟨⟨_, rfl, hR, by rw [ht]; exact hP, va_K.moved hW.alike hK, hD⟩, hS.F ht⟩) hS.2.2 dX5_needOperands_73
      · skip
        rw [if_neg c11] at hR
        obtain ⟨t, ht, rfl⟩ := wl_desc (by omega) hxi c11
        refine lv_aload_n hx hb dX5_needOperands_14 rfl (lv_at hl 1 rfl) ?_
        refine va_get (D := (dC, dI)) (ci := 3) (v := .ref (a 15)) (C := RX5) (T := TX5) (N := 5) hx hb hta inX5 hown hK hP 13 (xr_13 a k S1) rfl 4 (by decide) hf27 (fun _ h9 => h9) rfl dX5_needOperands_15 ?_
        refine lv_iload_n hx hb dX5_needOperands_18 rfl (lv_at hl 0 rfl) ?_
        refine va_zald hx hb hK hP 15 10 (xr_15 a k S1) rfl (wl_in (by omega) (by decide)) dX5_needOperands_19 ?_
        refine lv_if_eq (tgt := 37) hx hb dX5_needOperands_20 (by decide) (fun c20 => ?_) (fun c20 => ?_)
        · skip
          rw [if_pos c20] at hR
          have hnm0 : (0 : Int32) ≤ (3 : Int32) := by decide
          have hop0 : ∀ j : Nat, j < 3 → nI j < (0 : Int32) → vp_in (fA st 5 (3 * t + j)) 64 := fun j hj h => absurd h (wl_nlt0 hj)
          refine lv_iconst (v := (0 : Int32)) hx hb dX5_needOperands_37 (by decide) ?_
          refine lv_istore_n (lv' := [(2, .int (0 : Int32)), (1, .int ((nI t))), (0, .ref (a 13))]) hx hb dX5_needOperands_38 rfl hl (by decide) rfl (fun ls hl => ?_)
          refine lv_iconst (v := (0 : Int32)) hx hb dX5_needOperands_39 (by decide) ?_
          refine lv_istore_n (lv' := [(3, .int (0 : Int32)), (2, .int (0 : Int32)), (1, .int ((nI t))), (0, .ref (a 13))]) hx hb dX5_needOperands_40 rfl hl (by decide) rfl (fun ls hl => ?_)
          have L41 : ∀ (n : Nat) (nm : Int32) (j : Nat) (S2 : XS) (H : Heap) (locs : List Loc) (ls : Array Slot) (RR : Int32 × Nat × XS), fx_Eval_needOperands_L41 st (nI t) S1 n nm j S2 = RR → (j ≤ 3) → (nm ≤ (3 : Int32)) → (∀ j : Nat, j < 3 → nI j < nm → vp_in (fA st 5 (3 * t + j)) 64) → (XF [] [7] [] st S2) → 3 - j < n → va_P (dC, dI) vwCl (xw a k S2) H → va_D A (xw a k S2) → va_S A s.heap H locs → lv_has ls 4 [(3, .int (nI j)), (2, .int nm), (1, .int ((nI t))), (0, .ref (a 13))] → (∀ (H : Heap) (locs : List Loc) (ls : Array Slot), va_P (dC, dI) vwCl (xw a k RR.2.2) H → va_D A (xw a k RR.2.2) → va_S A s.heap H locs → lv_has ls 4 [(3, .int (nI RR.2.1)), (2, .int RR.1), (1, .int ((nI t))), (0, .ref (a 13))] → W p l e (headSpec wsX5_needOperands ({ frames := 2, cells := 0, slots := 0, locals := 40 })).room s m ([.ref (a 13)] : List Value).toArray below meth c H locs 0 0 (MQ below (va_Qv (fun u9 => u9 = R) (wl_at (dC, dI) vwCl (xt k) (xw a k) A) A) ([.ref (a 13)] : List Value).toArray s 0 0 A) (F0 m 67 ls [])) → W p l e (headSpec wsX5_needOperands ({ frames := 2, cells := 0, slots := 0, locals := 40 })).room s m ([.ref (a 13)] : List Value).toArray below meth c H locs 0 0 (MQ below (va_Qv (fun u9 => u9 = R) (wl_at (dC, dI) vwCl (xt k) (xw a k) A) A) ([.ref (a 13)] : List Value).toArray s 0 0 A) (F0 m 41 ls []) := by
            intro n
            induction n with
            | zero =>
              intro nm j S2 H locs ls RR hR hj hnm hop hE2 hm hP hD hS hl kk
              exact absurd hm (Nat.not_lt_zero _)
            | succ n ih =>
              intro nm j S2 H locs ls RR hR hj hnm hop hE2 hm hP hD hS hl kk
              rw [fx_Eval_needOperands_L41] at hR
              refine lv_iload_n hx hb dX5_needOperands_41 rfl (lv_at hl 0 rfl) ?_
              refine lv_iload_n hx hb dX5_needOperands_42 rfl (lv_at hl 1 rfl) ?_
              refine lv_icmp_ge (tgt := 67) hx hb dX5_needOperands_43 (by decide) (fun c43 => ?_) (fun c43 => ?_)
              · skip
                rw [if_pos c43] at hR
                subst hR
                exact kk _ _ ls hP hD hS (lv_sub hl [0, 1, 2, 3] rfl)
              · skip
                rw [if_neg c43] at hR
                have hj3 : j < 3 := wl_lt3 hj hnm c43
                refine lv_aload_n hx hb dX5_needOperands_46 rfl (lv_at hl 3 rfl) ?_
                refine va_get (D := (dC, dI)) (ci := 3) (v := .ref (a 15)) (C := RX5) (T := TX5) (N := 5) hx hb hta inX5 hown hK hP 13 (xr_13 a k S2) rfl 4 (by decide) hf27 (fun _ h9 => h9) rfl dX5_needOperands_47 ?_
                refine lv_aload_n hx hb dX5_needOperands_50 rfl (lv_at hl 3 rfl) ?_
                refine va_get (D := (dC, dI)) (ci := 3) (v := .ref (a 7)) (C := RX5) (T := TX5) (N := 5) hx hb hta inX5 hown hK hP 13 (xr_13 a k S2) rfl 0 (by decide) hf7 (fun _ h9 => h9) rfl dX5_needOperands_51 ?_
                refine lv_iload_n hx hb dX5_needOperands_54 rfl (lv_at hl 2 rfl) ?_
                refine lv_iload_n hx hb dX5_needOperands_55 rfl (lv_at hl 0 rfl) ?_
                refine wl_ci (va_runV (As := [.int ((nI t)), .int (nI j)]) (rest := [.ref (a 15)]) ⟨hx, hb, hml, hown, hta⟩ (kx_Terms_operandOf l dC dI a k S2 ((nI t)) (nI j) (wl_i3 j (by omega) hj3)) (cwV 2 hta gX5_54 rfl rfl rfl (by decide +kernel) ⟨Nat.le_of_ble_eq_true rfl, Nat.le_of_ble_eq_true rfl⟩) (wl_pR (C := RX4) (ci := 2) (q0 := 7) hK hP rfl (xr_7 a k S2)) rfl rfl hl.1 rfl (lv_room (Nat.le_of_ble_eq_true rfl)) dX5_needOperands_56 ⟨Nat.zero_le _, Nat.zero_le _⟩) ?_
                refine lv_iconst (v := (1 : Int32)) hx hb dX5_needOperands_59 (by decide) ?_
                refine va_zast hx hb hK hP hD hS 15 10 (xr_15 a k S2) rfl (wl_opin hE2 (by omega) hj3 (hop j hj3 (wl_nle c43))) dX5_needOperands_60 (fun H locs hP hD hS => ?_)
                have hP := xp_A7 hP
                have hD := xd_A7 hD
                refine lv_iinc (v := nI (j + 1)) (lv' := [(3, .int (nI (j + 1))), (2, .int nm), (1, .int ((nI t))), (0, .ref (a 13))]) hx hb dX5_needOperands_61 hl (k := 0) rfl (nI_1 _) (by decide) rfl (fun ls hl => ?_)
                refine lv_goto (tgt := 41) hx hb dX5_needOperands_64 (by decide) ?_
                exact ih nm (j + 1) (wA S2 7 ((fx_Terms_operandOf S2 ((nI t)) (nI j)).toNatClampNeg) (vp_nar .boolean (1 : Int32))) _ _ ls RR hR (by omega) hnm hop (XF.wA (by decide) hE2) (by omega) hP hD hS (lv_sub hl [0, 1, 2, 3] rfl) kk
          obtain ⟨q41, e41⟩ : ∃ z, (fx_Eval_needOperands_L41 st (nI t) S1 4 (0 : Int32) 0 S1) = z := ⟨_, rfl⟩
          try rw [e41] at hR
          refine L41 4 (0 : Int32) 0 S1 _ _ ls q41 e41 (Nat.zero_le _) hnm0 hop0 hE (by omega) hP hD hS (lv_sub hl [0, 1, 2, 3] rfl) (fun H locs ls hP hD hS hl => ?_)
          refine lv_iinc (v := ((nI t)) + (-1 : Int32)) (lv' := [(1, .int (((nI t)) + (-1 : Int32))), (3, .int ((nI q41.2.1))), (2, .int (q41.1)), (0, .ref (a 13))]) hx hb dX5_needOperands_67 hl (k := 2) rfl rfl (by decide) rfl (fun ls hl => ?_)
          refine lv_goto (tgt := 10) hx hb dX5_needOperands_70 (by decide) ?_
          exact ih (((nI t)) + (-1 : Int32)) (q41.2.2) _ _ ls hR ⟨t, by omega, wl_m1 t⟩ (by rw [← e41]; exact fr_Eval_needOperands_L41 _ _ _ _ _ _ _ hE) (by rw [wl_mA (by omega)]; rw [wl_mB (by omega)] at hm; omega) hP hD hS (lv_sub hl [0, 3] rfl)
        · skip
          rw [if_neg c20] at hR
          have hnm0 : fx_Op_namedTerms (fx_Terms_operationOf S1 (nI t)) ≤ (3 : Int32) := wl_nmle _
          have hop0 : ∀ j : Nat, j < 3 → nI j < fx_Op_namedTerms (fx_Terms_operationOf S1 (nI t)) → vp_in (fA st 5 (3 * t + j)) 64 := wl_hop (by omega) hE ht hops
          refine lv_aload_n hx hb dX5_needOperands_23 rfl (lv_at hl 1 rfl) ?_
          refine va_get (D := (dC, dI)) (ci := 3) (v := .ref (a 7)) (C := RX5) (T := TX5) (N := 5) hx hb hta inX5 hown hK hP 13 (xr_13 a k S1) rfl 0 (by decide) hf7 (fun _ h9 => h9) rfl dX5_needOperands_24 ?_
          refine lv_iload_n hx hb dX5_needOperands_27 rfl (lv_at hl 0 rfl) ?_
          refine wl_ci (va_runV (As := [.int ((nI t))]) (rest := []) ⟨hx, hb, hml, hown, hta⟩ (kx_Terms_operationOf l dC dI a k S1 ((nI t)) (wl_in (by omega) (by decide))) (cwV 1 hta gX5_45 rfl rfl rfl (by decide +kernel) ⟨Nat.le_of_ble_eq_true rfl, Nat.le_of_ble_eq_true rfl⟩) (wl_pR (C := RX4) (ci := 2) (q0 := 7) hK hP rfl (xr_7 a k S1)) rfl rfl hl.1 rfl (lv_room (Nat.le_of_ble_eq_true rfl)) dX5_needOperands_28 ⟨Nat.zero_le _, Nat.zero_le _⟩) ?_
          refine wl_ci (va_runS (As := [.int (fx_Terms_operationOf S1 ((nI t)))]) (rest := []) ⟨hx, hb, hml, hown, hta⟩ (kx_Op_namedTerms l (fx_Terms_operationOf S1 ((nI t)))) (va_cwS 1 hta gX5_49 rfl rfl rfl (by decide +kernel) ⟨Nat.le_of_ble_eq_true rfl, Nat.le_of_ble_eq_true rfl⟩) preEq rfl rfl hl.1 rfl (lv_room (Nat.le_of_ble_eq_true rfl)) dX5_needOperands_31 ⟨Nat.zero_le _, Nat.zero_le _⟩) ?_
          refine lv_goto (tgt := 38) hx hb dX5_needOperands_34 (by decide) ?_
          refine lv_istore_n (lv' := [(2, .int (fx_Op_namedTerms (fx_Terms_operationOf S1 ((nI t))))), (1, .int ((nI t))), (0, .ref (a 13))]) hx hb dX5_needOperands_38 rfl hl (by decide) rfl (fun ls hl => ?_)
          refine lv_iconst (v := (0 : Int32)) hx hb dX5_needOperands_39 (by decide) ?_
          refine lv_istore_n (lv' := [(3, .int (0 : Int32)), (2, .int (fx_Op_namedTerms (fx_Terms_operationOf S1 ((nI t))))), (1, .int ((nI t))), (0, .ref (a 13))]) hx hb dX5_needOperands_40 rfl hl (by decide) rfl (fun ls hl => ?_)
          have L41 : ∀ (n : Nat) (nm : Int32) (j : Nat) (S2 : XS) (H : Heap) (locs : List Loc) (ls : Array Slot) (RR : Int32 × Nat × XS), fx_Eval_needOperands_L41 st (nI t) S1 n nm j S2 = RR → (j ≤ 3) → (nm ≤ (3 : Int32)) → (∀ j : Nat, j < 3 → nI j < nm → vp_in (fA st 5 (3 * t + j)) 64) → (XF [] [7] [] st S2) → 3 - j < n → va_P (dC, dI) vwCl (xw a k S2) H → va_D A (xw a k S2) → va_S A s.heap H locs → lv_has ls 4 [(3, .int (nI j)), (2, .int nm), (1, .int ((nI t))), (0, .ref (a 13))] → (∀ (H : Heap) (locs : List Loc) (ls : Array Slot), va_P (dC, dI) vwCl (xw a k RR.2.2) H → va_D A (xw a k RR.2.2) → va_S A s.heap H locs → lv_has ls 4 [(3, .int (nI RR.2.1)), (2, .int RR.1), (1, .int ((nI t))), (0, .ref (a 13))] → W p l e (headSpec wsX5_needOperands ({ frames := 2, cells := 0, slots := 0, locals := 40 })).room s m ([.ref (a 13)] : List Value).toArray below meth c H locs 0 0 (MQ below (va_Qv (fun u9 => u9 = R) (wl_at (dC, dI) vwCl (xt k) (xw a k) A) A) ([.ref (a 13)] : List Value).toArray s 0 0 A) (F0 m 67 ls [])) → W p l e (headSpec wsX5_needOperands ({ frames := 2, cells := 0, slots := 0, locals := 40 })).room s m ([.ref (a 13)] : List Value).toArray below meth c H locs 0 0 (MQ below (va_Qv (fun u9 => u9 = R) (wl_at (dC, dI) vwCl (xt k) (xw a k) A) A) ([.ref (a 13)] : List Value).toArray s 0 0 A) (F0 m 41 ls []) := by
            intro n
            induction n with
            | zero =>
              intro nm j S2 H locs ls RR hR hj hnm hop hE2 hm hP hD hS hl kk
              exact absurd hm (Nat.not_lt_zero _)
            | succ n ih =>
              intro nm j S2 H locs ls RR hR hj hnm hop hE2 hm hP hD hS hl kk
              rw [fx_Eval_needOperands_L41] at hR
              refine lv_iload_n hx hb dX5_needOperands_41 rfl (lv_at hl 0 rfl) ?_
              refine lv_iload_n hx hb dX5_needOperands_42 rfl (lv_at hl 1 rfl) ?_
              refine lv_icmp_ge (tgt := 67) hx hb dX5_needOperands_43 (by decide) (fun c43 => ?_) (fun c43 => ?_)
              · skip
                rw [if_pos c43] at hR
                subst hR
                exact kk _ _ ls hP hD hS (lv_sub hl [0, 1, 2, 3] rfl)
              · skip
                rw [if_neg c43] at hR
                have hj3 : j < 3 := wl_lt3 hj hnm c43
                refine lv_aload_n hx hb dX5_needOperands_46 rfl (lv_at hl 3 rfl) ?_
                refine va_get (D := (dC, dI)) (ci := 3) (v := .ref (a 15)) (C := RX5) (T := TX5) (N := 5) hx hb hta inX5 hown hK hP 13 (xr_13 a k S2) rfl 4 (by decide) hf27 (fun _ h9 => h9) rfl dX5_needOperands_47 ?_
                refine lv_aload_n hx hb dX5_needOperands_50 rfl (lv_at hl 3 rfl) ?_
                refine va_get (D := (dC, dI)) (ci := 3) (v := .ref (a 7)) (C := RX5) (T := TX5) (N := 5) hx hb hta inX5 hown hK hP 13 (xr_13 a k S2) rfl 0 (by decide) hf7 (fun _ h9 => h9) rfl dX5_needOperands_51 ?_
                refine lv_iload_n hx hb dX5_needOperands_54 rfl (lv_at hl 2 rfl) ?_
                refine lv_iload_n hx hb dX5_needOperands_55 rfl (lv_at hl 0 rfl) ?_
                refine wl_ci (va_runV (As := [.int ((nI t)), .int (nI j)]) (rest := [.ref (a 15)]) ⟨hx, hb, hml, hown, hta⟩ (kx_Terms_operandOf l dC dI a k S2 ((nI t)) (nI j) (wl_i3 j (by omega) hj3)) (cwV 2 hta gX5_54 rfl rfl rfl (by decide +kernel) ⟨Nat.le_of_ble_eq_true rfl, Nat.le_of_ble_eq_true rfl⟩) (wl_pR (C := RX4) (ci := 2) (q0 := 7) hK hP rfl (xr_7 a k S2)) rfl rfl hl.1 rfl (lv_room (Nat.le_of_ble_eq_true rfl)) dX5_needOperands_56 ⟨Nat.zero_le _, Nat.zero_le _⟩) ?_
                refine lv_iconst (v := (1 : Int32)) hx hb dX5_needOperands_59 (by decide) ?_
                refine va_zast hx hb hK hP hD hS 15 10 (xr_15 a k S2) rfl (wl_opin hE2 (by omega) hj3 (hop j hj3 (wl_nle c43))) dX5_needOperands_60 (fun H locs hP hD hS => ?_)
                have hP := xp_A7 hP
                have hD := xd_A7 hD
                refine lv_iinc (v := nI (j + 1)) (lv' := [(3, .int (nI (j + 1))), (2, .int nm), (1, .int ((nI t))), (0, .ref (a 13))]) hx hb dX5_needOperands_61 hl (k := 0) rfl (nI_1 _) (by decide) rfl (fun ls hl => ?_)
                refine lv_goto (tgt := 41) hx hb dX5_needOperands_64 (by decide) ?_
                exact ih nm (j + 1) (wA S2 7 ((fx_Terms_operandOf S2 ((nI t)) (nI j)).toNatClampNeg) (vp_nar .boolean (1 : Int32))) _ _ ls RR hR (by omega) hnm hop (XF.wA (by decide) hE2) (by omega) hP hD hS (lv_sub hl [0, 1, 2, 3] rfl) kk
          obtain ⟨q41, e41⟩ : ∃ z, (fx_Eval_needOperands_L41 st (nI t) S1 4 (fx_Op_namedTerms (fx_Terms_operationOf S1 ((nI t)))) 0 S1) = z := ⟨_, rfl⟩
          try rw [e41] at hR
          refine L41 4 (fx_Op_namedTerms (fx_Terms_operationOf S1 ((nI t)))) 0 S1 _ _ ls q41 e41 (Nat.zero_le _) hnm0 hop0 hE (by omega) hP hD hS (lv_sub hl [0, 1, 2, 3] rfl) (fun H locs ls hP hD hS hl => ?_)
          refine lv_iinc (v := ((nI t)) + (-1 : Int32)) (lv' := [(1, .int (((nI t)) + (-1 : Int32))), (3, .int ((nI q41.2.1))), (2, .int (q41.1)), (0, .ref (a 13))]) hx hb dX5_needOperands_67 hl (k := 2) rfl rfl (by decide) rfl (fun ls hl => ?_)
          refine lv_goto (tgt := 10) hx hb dX5_needOperands_70 (by decide) ?_
          exact ih (((nI t)) + (-1 : Int32)) (q41.2.2) _ _ ls hR ⟨t, by omega, wl_m1 t⟩ (by rw [← e41]; exact fr_Eval_needOperands_L41 _ _ _ _ _ _ _ hE) (by rw [wl_mA (by omega)]; rw [wl_mB (by omega)] at hm; omega) hP hD hS (lv_sub hl [0, 3] rfl)
  exact L10 65 ((fx_Terms_size st) - (1 : Int32)) st _ _ ls hR ⟨N, Nat.le_refl _, by show gI st 6 - _ = _; rw [hN]⟩ XF.rf (by show (gI st 6 - (1 : Int32) + (1 : Int32)).toNatClampNeg < 65; rw [hN, wl_m1p1, nI_clamp (by omega)]; omega) hP hD hS (lv_sub hl [0, 1] rfl)

theorem mw_494 : (.code yX5_needNothing cX5_needNothing 2 none : Cond) ∈ AW := List.mem_filter.mpr ⟨List.mem_of_getElem? (i := 494) (by decide +kernel), rfl⟩
theorem mw_589 : (.methodLink RX5 31 yX5_needNothing : Cond) ∈ AW := List.mem_filter.mpr ⟨List.mem_of_getElem? (i := 589) (by decide +kernel), rfl⟩
theorem mw_42 : (.initialized RX5 : Cond) ∈ AW := List.mem_filter.mpr ⟨List.mem_of_getElem? (i := 42) (by decide +kernel), rfl⟩
theorem mw_492 : (.instanceMethod yX5_needNothing : Cond) ∈ AW := List.mem_filter.mpr ⟨List.mem_of_getElem? (i := 492) (by decide +kernel), rfl⟩
theorem mw_493 : (.selects RX5 yX5_needNothing yX5_needNothing : Cond) ∈ AW := List.mem_filter.mpr ⟨List.mem_of_getElem? (i := 493) (by decide +kernel), rfl⟩
theorem mw_502 : (.code yX5_need cX5_need 2 none : Cond) ∈ AW := List.mem_filter.mpr ⟨List.mem_of_getElem? (i := 502) (by decide +kernel), rfl⟩
theorem mw_590 : (.methodLink RX5 34 yX5_need : Cond) ∈ AW := List.mem_filter.mpr ⟨List.mem_of_getElem? (i := 590) (by decide +kernel), rfl⟩
theorem mw_500 : (.instanceMethod yX5_need : Cond) ∈ AW := List.mem_filter.mpr ⟨List.mem_of_getElem? (i := 500) (by decide +kernel), rfl⟩
theorem mw_501 : (.selects RX5 yX5_need yX5_need : Cond) ∈ AW := List.mem_filter.mpr ⟨List.mem_of_getElem? (i := 501) (by decide +kernel), rfl⟩
theorem mw_506 : (.code yX5_needOperands cX5_needOperands 4 none : Cond) ∈ AW := List.mem_filter.mpr ⟨List.mem_of_getElem? (i := 506) (by decide +kernel), rfl⟩
theorem mw_591 : (.methodLink RX5 38 yX5_needOperands : Cond) ∈ AW := List.mem_filter.mpr ⟨List.mem_of_getElem? (i := 591) (by decide +kernel), rfl⟩
theorem mw_504 : (.instanceMethod yX5_needOperands : Cond) ∈ AW := List.mem_filter.mpr ⟨List.mem_of_getElem? (i := 504) (by decide +kernel), rfl⟩
theorem mw_505 : (.selects RX5 yX5_needOperands yX5_needOperands : Cond) ∈ AW := List.mem_filter.mpr ⟨List.mem_of_getElem? (i := 505) (by decide +kernel), rfl⟩
theorem gX5_31 : GoodIn AW (wsV RX5 31 RX5 yX5_needNothing wsX5_needNothing) := aw_V mw_589 mw_492 mw_493 mw_42 mw_494
theorem gX5_34 : GoodIn AW (wsV RX5 34 RX5 yX5_need wsX5_need) := aw_V mw_590 mw_500 mw_501 mw_42 mw_502
theorem gX5_38 : GoodIn AW (wsV RX5 38 RX5 yX5_needOperands wsX5_needOperands) := aw_V mw_591 mw_504 mw_505 mw_42 mw_506
theorem dX5_needOnly_0 : decode cX5_needOnly 0 = .ok (.aload_n 0, 1) := by decide +kernel
theorem dX5_needOnly_1 : decode cX5_needOnly 1 = .ok (.invokevirtual 31, 3) := by decide +kernel
theorem dX5_needOnly_4 : decode cX5_needOnly 4 = .ok (.aload_n 0, 1) := by decide +kernel
theorem dX5_needOnly_5 : decode cX5_needOnly 5 = .ok (.iload_n 1, 1) := by decide +kernel
theorem dX5_needOnly_6 : decode cX5_needOnly 6 = .ok (.invokevirtual 34, 3) := by decide +kernel
theorem dX5_needOnly_9 : decode cX5_needOnly 9 = .ok (.aload_n 0, 1) := by decide +kernel
theorem dX5_needOnly_10 : decode cX5_needOnly 10 = .ok (.invokevirtual 38, 3) := by decide +kernel
theorem dX5_needOnly_13 : decode cX5_needOnly 13 = .ok (.return_, 1) := by decide +kernel
def fx_Eval_needOnly (st : XS) (t : Int32) : XS := (fx_Eval_needOperands ((fx_Eval_need ((fx_Eval_needNothing st)) t)))
theorem ff_Eval_needOnly (st : XS) (t : Int32) : XF [] [7] [] st (fx_Eval_needOnly st t) := by
  rw [fx_Eval_needOnly]
  exact (XF.tr (XF.tr (XF.tr XF.rf (XF.mono (ff_Eval_needNothing _) (by decide) (by decide) (by decide))) (XF.mono (ff_Eval_need _ _) (by decide) (by decide) (by decide))) (XF.mono (ff_Eval_needOperands _) (by decide) (by decide) (by decide)))
set_option maxHeartbeats 4000000 in
set_option maxRecDepth 100000 in
theorem kx_Eval_needOnly (l : Launch) (dC : Nat → ClassId) (dI : Nat → Nat → Nat) (a : Nat → Nat) (k : Nat → ClassId) (st : XS) (t : Int32) (sz : Nat) (N : Nat) (hN : gI st 6 = nI N) (h64 : N ≤ 64) (hi : vp_in t 64) (hops : ∀ t j : Nat, t < N → j < 3 → nI j < fx_Op_namedTerms (fA st 3 t) → vp_in (fA st 5 (3 * t + j)) 64) : Met l yX5_needOnly wsX5_needOnly ({ frames := 3, cells := 0, slots := 0, locals := 63 }) (va_Pc [.ref (a 13), .int t] (wl_pre (dC, dI) vwCl (xt k) (xw a k) st sz)) (va_Qv (fun u9 => u9 = fx_Eval_needOnly st t) (wl_at (dC, dI) vwCl (xt k) (xw a k) (va_A (xw a k st) sz)) (va_A (xw a k st) sz)) 0 0 (va_A (xw a k st) sz) := by
  refine Met.ofW (cc := cX5_needOnly) (maxL := 2) (ret := none) (by decide) rfl ?_
  intro p e s m args below meth c s₁ B hml hv
  obtain ⟨rfl, hsz, hP, hK, hD0⟩ := hv
  have hx := B.exec
  have hb := B.bytes
  have hr := B.returns
  have hta := aw_hts (atoms_spec (ws := wsX5_needOnly) B.pre)
  have hown : s.vm.findClass RX5 = some m.cls := findClass_of_methodNamed B.named
  have hlocks := B.notSynchronized
  subst hsz
  have hD := hD0.self (sz := s.heap.size)
  generalize hAe : va_A (xw a k st) s.heap.size = A at hD ⊢
  have hAz : ∀ q : Nat, s.heap.size ≤ q → A q := fun q h => by rw [← hAe]; exact Or.inr h
  have hS : va_S A s.heap s.heap [] := va_S.rf
  have hl := lv_entry ([.ref (a 13), .int t]) (n := 2) (Nat.le_of_ble_eq_true rfl)
  rw [lg_entry_eq]
  generalize (lg_sl ([.ref (a 13), .int t]) ++ List.replicate (2 - (lg_sl ([.ref (a 13), .int t])).length) Slot.unset).toArray = ls at hl ⊢
  have hl : lv_has ls 2 [(0, .ref (a 13)), (1, .int t)] := hl
  generalize hR : fx_Eval_needOnly st t = R
  rw [fx_Eval_needOnly] at hR
  refine lv_aload_n hx hb dX5_needOnly_0 rfl (lv_at hl 0 rfl) ?_
  refine wl_mv (va_runV (As := []) (rest := []) ⟨hx, hb, hml, hown, hta⟩ (kx_Eval_needNothing l dC dI a k st _) (cwV 0 hta gX5_31 rfl rfl rfl (by decide +kernel) ⟨Nat.le_of_ble_eq_true rfl, Nat.le_of_ble_eq_true rfl⟩) (wl_pM (C := RX5) (ci := 3) (q0 := 13) hK hP hD rfl (xr_13 a k st)) rfl rfl hl.1 rfl (lv_room (Nat.le_of_ble_eq_true rfl)) dX5_needOnly_1 ⟨Nat.zero_le _, Nat.zero_le _⟩) hP hD hS hAz (fun u1 H locs hw1 hP hD hS => ?_)
  have w1 : fx_Eval_needNothing st = u1 := hw1.symm
  have hf1 : XF [] [7] [] st u1 := by rw [← w1]; exact ff_Eval_needNothing st
  try rw [w1] at hR
  refine lv_aload_n hx hb dX5_needOnly_4 rfl (lv_at hl 0 rfl) ?_
  refine lv_iload_n hx hb dX5_needOnly_5 rfl (lv_at hl 1 rfl) ?_
  refine wl_mv (va_runV (As := [.int t]) (rest := []) ⟨hx, hb, hml, hown, hta⟩ (kx_Eval_need l dC dI a k (u1) t _ hi) (cwV 1 hta gX5_34 rfl rfl rfl (by decide +kernel) ⟨Nat.le_of_ble_eq_true rfl, Nat.le_of_ble_eq_true rfl⟩) (wl_pM (C := RX5) (ci := 3) (q0 := 13) hK hP hD rfl (xr_13 a k (u1))) rfl rfl hl.1 rfl (lv_room (Nat.le_of_ble_eq_true rfl)) dX5_needOnly_6 ⟨Nat.zero_le _, Nat.zero_le _⟩) hP hD hS hAz (fun u6 H locs hw6 hP hD hS => ?_)
  have w6 : fx_Eval_need (u1) t = u6 := hw6.symm
  have hf6 : XF [] [7] [] (u1) u6 := by rw [← w6]; exact ff_Eval_need (u1) t
  try rw [w6] at hR
  refine lv_aload_n hx hb dX5_needOnly_9 rfl (lv_at hl 0 rfl) ?_
  refine wl_mv (va_runV (As := []) (rest := []) ⟨hx, hb, hml, hown, hta⟩ (kx_Eval_needOperands l dC dI a k (u6) _ N ((hf6.I 6 (by decide)).trans ((hf1.I 6 (by decide)).trans hN)) h64 (wl_ops ((hf6.A 3 (by decide)).trans (hf1.A 3 (by decide))) ((hf6.A 5 (by decide)).trans (hf1.A 5 (by decide))) hops)) (cwV 0 hta gX5_38 rfl rfl rfl (by decide +kernel) ⟨Nat.le_of_ble_eq_true rfl, Nat.le_of_ble_eq_true rfl⟩) (wl_pM (C := RX5) (ci := 3) (q0 := 13) hK hP hD rfl (xr_13 a k (u6))) rfl rfl hl.1 rfl (lv_room (Nat.le_of_ble_eq_true rfl)) dX5_needOnly_10 ⟨Nat.zero_le _, Nat.zero_le _⟩) hP hD hS hAz (fun u10 H locs hw10 hP hD hS => ?_)
  have w10 : fx_Eval_needOperands (u6) = u10 := hw10.symm
  have hf10 : XF [] [7] [] (u6) u10 := by rw [← w10]; exact ff_Eval_needOperands (u6)
  try rw [w10] at hR
  exact W.vret hx hb hr (fun t ht hW => ⟨⟨_, rfl, hR, by rw [ht]; exact hP, va_K.moved hW.alike hK, hD⟩, hS.F ht⟩) hS.2.2 dX5_needOnly_13

theorem mw_323 : (.code yX4_widthOf cX4_widthOf 2 (some .int) : Cond) ∈ AW := List.mem_filter.mpr ⟨List.mem_of_getElem? (i := 323) (by decide +kernel), rfl⟩
theorem mw_365 : (.methodLink RX5 72 yX4_widthOf : Cond) ∈ AW := List.mem_filter.mpr ⟨List.mem_of_getElem? (i := 365) (by decide +kernel), rfl⟩
theorem mw_321 : (.instanceMethod yX4_widthOf : Cond) ∈ AW := List.mem_filter.mpr ⟨List.mem_of_getElem? (i := 321) (by decide +kernel), rfl⟩
theorem mw_322 : (.selects RX4 yX4_widthOf yX4_widthOf : Cond) ∈ AW := List.mem_filter.mpr ⟨List.mem_of_getElem? (i := 322) (by decide +kernel), rfl⟩
theorem mw_368 : (.code yX1_ofOne cX1_ofOne 4 (some .long) : Cond) ∈ AW := List.mem_filter.mpr ⟨List.mem_of_getElem? (i := 368) (by decide +kernel), rfl⟩
theorem mw_366 : (.methodLink RX5 75 yX1_ofOne : Cond) ∈ AW := List.mem_filter.mpr ⟨List.mem_of_getElem? (i := 366) (by decide +kernel), rfl⟩
theorem mw_367 : (.static yX1_ofOne : Cond) ∈ AW := List.mem_filter.mpr ⟨List.mem_of_getElem? (i := 367) (by decide +kernel), rfl⟩
theorem mw_384 : (.code yX1_divided cX1_divided 12 (some .long) : Cond) ∈ AW := List.mem_filter.mpr ⟨List.mem_of_getElem? (i := 384) (by decide +kernel), rfl⟩
theorem mw_382 : (.methodLink RX5 89 yX1_divided : Cond) ∈ AW := List.mem_filter.mpr ⟨List.mem_of_getElem? (i := 382) (by decide +kernel), rfl⟩
theorem mw_383 : (.static yX1_divided : Cond) ∈ AW := List.mem_filter.mpr ⟨List.mem_of_getElem? (i := 383) (by decide +kernel), rfl⟩
theorem mw_387 : (.code yX1_moved cX1_moved 7 (some .long) : Cond) ∈ AW := List.mem_filter.mpr ⟨List.mem_of_getElem? (i := 387) (by decide +kernel), rfl⟩
theorem mw_385 : (.methodLink RX5 93 yX1_moved : Cond) ∈ AW := List.mem_filter.mpr ⟨List.mem_of_getElem? (i := 385) (by decide +kernel), rfl⟩
theorem mw_386 : (.static yX1_moved : Cond) ∈ AW := List.mem_filter.mpr ⟨List.mem_of_getElem? (i := 386) (by decide +kernel), rfl⟩
theorem mw_373 : (.code yX1_resized cX1_resized 5 (some .long) : Cond) ∈ AW := List.mem_filter.mpr ⟨List.mem_of_getElem? (i := 373) (by decide +kernel), rfl⟩
theorem mw_371 : (.methodLink RX5 79 yX1_resized : Cond) ∈ AW := List.mem_filter.mpr ⟨List.mem_of_getElem? (i := 371) (by decide +kernel), rfl⟩
theorem mw_372 : (.static yX1_resized : Cond) ∈ AW := List.mem_filter.mpr ⟨List.mem_of_getElem? (i := 372) (by decide +kernel), rfl⟩
theorem mw_129 : (.fieldLink RX5 17 RX5 "tables" "LPathSolver$Tables;" : Cond) ∈ AW := List.mem_filter.mpr ⟨List.mem_of_getElem? (i := 129) (by decide +kernel), rfl⟩
theorem mw_380 : (.code yX3_lookUp cX3_lookUp 4 (some .long) : Cond) ∈ AW := List.mem_filter.mpr ⟨List.mem_of_getElem? (i := 380) (by decide +kernel), rfl⟩
theorem mw_377 : (.methodLink RX5 83 yX3_lookUp : Cond) ∈ AW := List.mem_filter.mpr ⟨List.mem_of_getElem? (i := 377) (by decide +kernel), rfl⟩
theorem mw_40 : (.initialized RX3 : Cond) ∈ AW := List.mem_filter.mpr ⟨List.mem_of_getElem? (i := 40) (by decide +kernel), rfl⟩
theorem mw_378 : (.instanceMethod yX3_lookUp : Cond) ∈ AW := List.mem_filter.mpr ⟨List.mem_of_getElem? (i := 378) (by decide +kernel), rfl⟩
theorem mw_379 : (.selects RX3 yX3_lookUp yX3_lookUp : Cond) ∈ AW := List.mem_filter.mpr ⟨List.mem_of_getElem? (i := 379) (by decide +kernel), rfl⟩
theorem mw_390 : (.code yX1_ofTwo cX1_ofTwo 6 (some .long) : Cond) ∈ AW := List.mem_filter.mpr ⟨List.mem_of_getElem? (i := 390) (by decide +kernel), rfl⟩
theorem mw_388 : (.methodLink RX5 96 yX1_ofTwo : Cond) ∈ AW := List.mem_filter.mpr ⟨List.mem_of_getElem? (i := 388) (by decide +kernel), rfl⟩
theorem mw_389 : (.static yX1_ofTwo : Cond) ∈ AW := List.mem_filter.mpr ⟨List.mem_of_getElem? (i := 389) (by decide +kernel), rfl⟩
theorem gX5_72 : GoodIn AW (wsV RX5 72 RX4 yX4_widthOf wsX4_widthOf) := aw_V mw_365 mw_321 mw_322 mw_41 mw_323
theorem gX5_75 : GoodIn AW (va_wsS RX5 75 yX1_ofOne wsX1_ofOne) := aw_S mw_366 mw_367 mw_48 mw_368
theorem gX5_89 : GoodIn AW (va_wsS RX5 89 yX1_divided wsX1_divided) := aw_S mw_382 mw_383 mw_48 mw_384
theorem gX5_93 : GoodIn AW (va_wsS RX5 93 yX1_moved wsX1_moved) := aw_S mw_385 mw_386 mw_48 mw_387
theorem gX5_79 : GoodIn AW (va_wsS RX5 79 yX1_resized wsX1_resized) := aw_S mw_371 mw_372 mw_48 mw_373
theorem gX5_83 : GoodIn AW (wsV RX5 83 RX3 yX3_lookUp wsX3_lookUp) := aw_V mw_377 mw_378 mw_379 mw_40 mw_380
theorem gX5_96 : GoodIn AW (va_wsS RX5 96 yX1_ofTwo wsX1_ofTwo) := aw_S mw_388 mw_389 mw_48 mw_390
theorem dX5_apply_0 : decode cX5_apply 0 = .ok (.aload_n 0, 1) := by decide +kernel
theorem dX5_apply_1 : decode cX5_apply 1 = .ok (.getfield 7, 3) := by decide +kernel
theorem dX5_apply_4 : decode cX5_apply 4 = .ok (.iload_n 2, 1) := by decide +kernel
theorem dX5_apply_5 : decode cX5_apply 5 = .ok (.invokevirtual 72, 3) := by decide +kernel
theorem dX5_apply_8 : decode cX5_apply 8 = .ok (.istore 6, 2) := by decide +kernel
theorem dX5_apply_10 : decode cX5_apply 10 = .ok (.iload_n 1, 1) := by decide +kernel
theorem dX5_apply_11 : decode cX5_apply 11 = .ok (.tableswitch 185 0 20 #[97, 97, 185, 185, 185, 185, 185, 185, 155, 155, 170, 170, 170, 185, 185, 185, 108, 130, 130, 130, 142], 97) := by decide +kernel
theorem dX5_apply_108 : decode cX5_apply 108 = .ok (.iload_n 1, 1) := by decide +kernel
theorem dX5_apply_109 : decode cX5_apply 109 = .ok (.iload 6, 2) := by decide +kernel
theorem dX5_apply_111 : decode cX5_apply 111 = .ok (.aload 5, 2) := by decide +kernel
theorem dX5_apply_113 : decode cX5_apply 113 = .ok (.iload_n 2, 1) := by decide +kernel
theorem dX5_apply_114 : decode cX5_apply 114 = .ok (.laload, 1) := by decide +kernel
theorem dX5_apply_115 : decode cX5_apply 115 = .ok (.invokestatic 75, 3) := by decide +kernel
theorem dX5_apply_118 : decode cX5_apply 118 = .ok (.lreturn, 1) := by decide +kernel
theorem dX5_apply_119 : decode cX5_apply 119 = .ok (.aload 5, 2) := by decide +kernel
theorem dX5_apply_121 : decode cX5_apply 121 = .ok (.iload_n 2, 1) := by decide +kernel
theorem dX5_apply_122 : decode cX5_apply 122 = .ok (.laload, 1) := by decide +kernel
theorem dX5_apply_123 : decode cX5_apply 123 = .ok (.lconst 0, 1) := by decide +kernel
theorem dX5_apply_124 : decode cX5_apply 124 = .ok (.lcmp, 1) := by decide +kernel
theorem dX5_apply_125 : decode cX5_apply 125 = .ok (.ifCond .eq 10, 3) := by decide +kernel
theorem dX5_apply_128 : decode cX5_apply 128 = .ok (.aload 5, 2) := by decide +kernel
theorem dX5_apply_130 : decode cX5_apply 130 = .ok (.iload_n 3, 1) := by decide +kernel
theorem dX5_apply_131 : decode cX5_apply 131 = .ok (.laload, 1) := by decide +kernel
theorem dX5_apply_132 : decode cX5_apply 132 = .ok (.goto 8, 3) := by decide +kernel
theorem dX5_apply_135 : decode cX5_apply 135 = .ok (.aload 5, 2) := by decide +kernel
theorem dX5_apply_137 : decode cX5_apply 137 = .ok (.iload 4, 2) := by decide +kernel
theorem dX5_apply_139 : decode cX5_apply 139 = .ok (.laload, 1) := by decide +kernel
theorem dX5_apply_140 : decode cX5_apply 140 = .ok (.lreturn, 1) := by decide +kernel
theorem dX5_apply_141 : decode cX5_apply 141 = .ok (.iload_n 1, 1) := by decide +kernel
theorem dX5_apply_142 : decode cX5_apply 142 = .ok (.iload 6, 2) := by decide +kernel
theorem dX5_apply_144 : decode cX5_apply 144 = .ok (.iload_n 3, 1) := by decide +kernel
theorem dX5_apply_145 : decode cX5_apply 145 = .ok (.aload 5, 2) := by decide +kernel
theorem dX5_apply_147 : decode cX5_apply 147 = .ok (.iload_n 2, 1) := by decide +kernel
theorem dX5_apply_148 : decode cX5_apply 148 = .ok (.laload, 1) := by decide +kernel
theorem dX5_apply_149 : decode cX5_apply 149 = .ok (.invokestatic 79, 3) := by decide +kernel
theorem dX5_apply_152 : decode cX5_apply 152 = .ok (.lreturn, 1) := by decide +kernel
theorem dX5_apply_153 : decode cX5_apply 153 = .ok (.aload_n 0, 1) := by decide +kernel
theorem dX5_apply_154 : decode cX5_apply 154 = .ok (.getfield 17, 3) := by decide +kernel
theorem dX5_apply_157 : decode cX5_apply 157 = .ok (.iload_n 3, 1) := by decide +kernel
theorem dX5_apply_158 : decode cX5_apply 158 = .ok (.aload 5, 2) := by decide +kernel
theorem dX5_apply_160 : decode cX5_apply 160 = .ok (.iload_n 2, 1) := by decide +kernel
theorem dX5_apply_161 : decode cX5_apply 161 = .ok (.laload, 1) := by decide +kernel
theorem dX5_apply_162 : decode cX5_apply 162 = .ok (.invokevirtual 83, 3) := by decide +kernel
theorem dX5_apply_165 : decode cX5_apply 165 = .ok (.lreturn, 1) := by decide +kernel
theorem dX5_apply_166 : decode cX5_apply 166 = .ok (.iload_n 1, 1) := by decide +kernel
theorem dX5_apply_167 : decode cX5_apply 167 = .ok (.iload 6, 2) := by decide +kernel
theorem dX5_apply_169 : decode cX5_apply 169 = .ok (.aload 5, 2) := by decide +kernel
theorem dX5_apply_171 : decode cX5_apply 171 = .ok (.iload_n 2, 1) := by decide +kernel
theorem dX5_apply_172 : decode cX5_apply 172 = .ok (.laload, 1) := by decide +kernel
theorem dX5_apply_173 : decode cX5_apply 173 = .ok (.aload 5, 2) := by decide +kernel
theorem dX5_apply_175 : decode cX5_apply 175 = .ok (.iload_n 3, 1) := by decide +kernel
theorem dX5_apply_176 : decode cX5_apply 176 = .ok (.laload, 1) := by decide +kernel
theorem dX5_apply_177 : decode cX5_apply 177 = .ok (.invokestatic 89, 3) := by decide +kernel
theorem dX5_apply_180 : decode cX5_apply 180 = .ok (.lreturn, 1) := by decide +kernel
theorem dX5_apply_181 : decode cX5_apply 181 = .ok (.iload_n 1, 1) := by decide +kernel
theorem dX5_apply_182 : decode cX5_apply 182 = .ok (.iload 6, 2) := by decide +kernel
theorem dX5_apply_184 : decode cX5_apply 184 = .ok (.aload 5, 2) := by decide +kernel
theorem dX5_apply_186 : decode cX5_apply 186 = .ok (.iload_n 2, 1) := by decide +kernel
theorem dX5_apply_187 : decode cX5_apply 187 = .ok (.laload, 1) := by decide +kernel
theorem dX5_apply_188 : decode cX5_apply 188 = .ok (.aload 5, 2) := by decide +kernel
theorem dX5_apply_190 : decode cX5_apply 190 = .ok (.iload_n 3, 1) := by decide +kernel
theorem dX5_apply_191 : decode cX5_apply 191 = .ok (.laload, 1) := by decide +kernel
theorem dX5_apply_192 : decode cX5_apply 192 = .ok (.invokestatic 93, 3) := by decide +kernel
theorem dX5_apply_195 : decode cX5_apply 195 = .ok (.lreturn, 1) := by decide +kernel
theorem dX5_apply_196 : decode cX5_apply 196 = .ok (.iload_n 1, 1) := by decide +kernel
theorem dX5_apply_197 : decode cX5_apply 197 = .ok (.iload 6, 2) := by decide +kernel
theorem dX5_apply_199 : decode cX5_apply 199 = .ok (.aload 5, 2) := by decide +kernel
theorem dX5_apply_201 : decode cX5_apply 201 = .ok (.iload_n 2, 1) := by decide +kernel
theorem dX5_apply_202 : decode cX5_apply 202 = .ok (.laload, 1) := by decide +kernel
theorem dX5_apply_203 : decode cX5_apply 203 = .ok (.aload 5, 2) := by decide +kernel
theorem dX5_apply_205 : decode cX5_apply 205 = .ok (.iload_n 3, 1) := by decide +kernel
theorem dX5_apply_206 : decode cX5_apply 206 = .ok (.laload, 1) := by decide +kernel
theorem dX5_apply_207 : decode cX5_apply 207 = .ok (.invokestatic 96, 3) := by decide +kernel
theorem dX5_apply_210 : decode cX5_apply 210 = .ok (.lreturn, 1) := by decide +kernel
def fx_Eval_apply_r (st : XS) (o : Int32) (a1 : Int32) (b1 : Int32) (c1 : Int32) : Int64 := 
  if o = (0 : Int32) then fx_Op_ofOne o (fx_Terms_widthOf st a1) (fL st 2 a1.toNatClampNeg)
  else 
    if o = (1 : Int32) then fx_Op_ofOne o (fx_Terms_widthOf st a1) (fL st 2 a1.toNatClampNeg)
    else 
      if o = (8 : Int32) then fx_Op_divided o (fx_Terms_widthOf st a1) (fL st 2 a1.toNatClampNeg) (fL st 2 b1.toNatClampNeg)
      else 
        if o = (9 : Int32) then fx_Op_divided o (fx_Terms_widthOf st a1) (fL st 2 a1.toNatClampNeg) (fL st 2 b1.toNatClampNeg)
        else 
          if o = (10 : Int32) then fx_Op_moved o (fx_Terms_widthOf st a1) (fL st 2 a1.toNatClampNeg) (fL st 2 b1.toNatClampNeg)
          else 
            if o = (11 : Int32) then fx_Op_moved o (fx_Terms_widthOf st a1) (fL st 2 a1.toNatClampNeg) (fL st 2 b1.toNatClampNeg)
            else 
              if o = (12 : Int32) then fx_Op_moved o (fx_Terms_widthOf st a1) (fL st 2 a1.toNatClampNeg) (fL st 2 b1.toNatClampNeg)
              else 
                if o = (16 : Int32) then 
                  if lg_cmp (fL st 2 a1.toNatClampNeg) (0 : Int64) = (0 : Int32) then fL st 2 c1.toNatClampNeg
                  else fL st 2 b1.toNatClampNeg
                else 
                  if o = (17 : Int32) then fx_Op_resized o (fx_Terms_widthOf st a1) b1 (fL st 2 a1.toNatClampNeg)
                  else 
                    if o = (18 : Int32) then fx_Op_resized o (fx_Terms_widthOf st a1) b1 (fL st 2 a1.toNatClampNeg)
                    else 
                      if o = (19 : Int32) then fx_Op_resized o (fx_Terms_widthOf st a1) b1 (fL st 2 a1.toNatClampNeg)
                      else 
                        if o = (20 : Int32) then fx_Tabs_lookUp st b1 (fL st 2 a1.toNatClampNeg)
                        else fx_Op_ofTwo o (fx_Terms_widthOf st a1) (fL st 2 a1.toNatClampNeg) (fL st 2 b1.toNatClampNeg)
set_option maxHeartbeats 4000000 in
set_option maxRecDepth 100000 in
theorem kx_Eval_apply_r (l : Launch) (dC : Nat → ClassId) (dI : Nat → Nat → Nat) (a : Nat → Nat) (k : Nat → ClassId) (st : XS) (o : Int32) (a1 : Int32) (b1 : Int32) (c1 : Int32) (hA : vp_in a1 64) (hB : ¬ (o = 0 ∨ o = 1 ∨ o = 17 ∨ o = 18 ∨ o = 19 ∨ o = 20) → vp_in b1 64) (hC : o = 16 → vp_in c1 64) (hT : o = 20 → vp_in b1 2) (hV : o = 8 ∨ o = 9 → ¬ fL st 2 b1.toNatClampNeg = 0 → ¬ fx_Width_readPlain (fx_Terms_widthOf st a1) (fL st 2 b1.toNatClampNeg) = 0) : Met l yX5_apply wsX5_apply ({ frames := 2, cells := 0, slots := 0, locals := 54 }) (va_Pc [.ref (a 13), .int o, .int a1, .int b1, .int c1, .ref (a 14)] (wl_prR (dC, dI) vwCl (xt k) (xw a k st))) (vp_Sl (fun r9 => r9 = fx_Eval_apply_r st o a1 b1 c1)) 0 0 (fun _ => False) := by
  refine Met.ofW (cc := cX5_apply) (maxL := 7) (ret := (some .long)) (by decide) rfl ?_
  intro p e s m args below meth c s₁ B hml hv
  obtain ⟨rfl, hP, hK⟩ := hv
  have hx := B.exec
  have hb := B.bytes
  have hr := B.returns
  have hta := aw_hts (atoms_spec (ws := wsX5_apply) B.pre)
  have hown : s.vm.findClass RX5 = some m.cls := findClass_of_methodNamed B.named
  have hlocks := B.notSynchronized
  have hf7 := hta _ mw_127
  have hf17 := hta _ mw_129
  have hl := lv_entry ([.ref (a 13), .int o, .int a1, .int b1, .int c1, .ref (a 14)]) (n := 7) (Nat.le_of_ble_eq_true rfl)
  rw [lg_entry_eq]
  generalize (lg_sl ([.ref (a 13), .int o, .int a1, .int b1, .int c1, .ref (a 14)]) ++ List.replicate (7 - (lg_sl ([.ref (a 13), .int o, .int a1, .int b1, .int c1, .ref (a 14)])).length) Slot.unset).toArray = ls at hl ⊢
  have hl : lv_has ls 7 [(0, .ref (a 13)), (1, .int o), (2, .int a1), (3, .int b1), (4, .int c1), (5, .ref (a 14))] := hl
  generalize hR : fx_Eval_apply_r st o a1 b1 c1 = R
  rw [fx_Eval_apply_r] at hR
  refine lv_aload_n hx hb dX5_apply_0 rfl (lv_at hl 0 rfl) ?_
  refine va_get (D := (dC, dI)) (ci := 3) (v := .ref (a 7)) (C := RX5) (T := TX5) (N := 5) hx hb hta inX5 hown hK hP 13 (xr_13 a k st) rfl 0 (by decide) hf7 (fun _ h9 => h9) rfl dX5_apply_1 ?_
  refine lv_iload_n hx hb dX5_apply_4 rfl (lv_at hl 2 rfl) ?_
  refine wl_ci (va_runV (As := [.int a1]) (rest := []) ⟨hx, hb, hml, hown, hta⟩ (kx_Terms_widthOf l dC dI a k st a1 hA) (cwV 1 hta gX5_72 rfl rfl rfl (by decide +kernel) ⟨Nat.le_of_ble_eq_true rfl, Nat.le_of_ble_eq_true rfl⟩) (wl_pR (C := RX4) (ci := 2) (q0 := 7) hK hP rfl (xr_7 a k st)) rfl rfl hl.1 rfl (lv_room (Nat.le_of_ble_eq_true rfl)) dX5_apply_5 ⟨Nat.zero_le _, Nat.zero_le _⟩) ?_
  refine lv_istore (lv' := [(6, .int (fx_Terms_widthOf st a1)), (0, .ref (a 13)), (1, .int o), (2, .int a1), (3, .int b1), (4, .int c1), (5, .ref (a 14))]) hx hb dX5_apply_8 hl (by decide) rfl (fun ls hl => ?_)
  refine lv_iload_n hx hb dX5_apply_10 rfl (lv_at hl 2 rfl) ?_
  by_cases c11_0 : o = (0 : Int32)
  · skip
    rw [if_pos c11_0] at hR
    refine lv_tableIn (tgt := 108) hx hb dX5_apply_11 (by rw [c11_0]; decide) (by rw [c11_0]; decide) (by rw [c11_0] <;> rfl) (by decide) ?_
    refine lv_iload_n hx hb dX5_apply_108 rfl (lv_at hl 2 rfl) ?_
    refine lv_iload hx hb dX5_apply_109 (lv_at hl 0 rfl) ?_
    refine lv_aload hx hb dX5_apply_111 (lv_at hl 6 rfl) ?_
    refine lv_iload_n hx hb dX5_apply_113 rfl (lv_at hl 3 rfl) ?_
    refine va_lald hx hb hK hP 14 9 (xr_14 a k st) rfl hA dX5_apply_114 ?_
    refine wl_cl (va_runS (As := [.int o, .int (fx_Terms_widthOf st a1), .long (fL st 2 a1.toNatClampNeg)]) (rest := []) ⟨hx, hb, hml, hown, hta⟩ (kx_Op_ofOne l o (fx_Terms_widthOf st a1) (fL st 2 a1.toNatClampNeg)) (va_cwS 3 hta gX5_75 rfl rfl rfl (by decide +kernel) ⟨Nat.le_of_ble_eq_true rfl, Nat.le_of_ble_eq_true rfl⟩) preEq rfl rfl hl.1 rfl (lv_room (Nat.le_of_ble_eq_true rfl)) dX5_apply_115 ⟨Nat.zero_le _, Nat.zero_le _⟩) ?_
    exact W.lret (v := fx_Op_ofOne o (fx_Terms_widthOf st a1) (fL st 2 a1.toNatClampNeg)) hx hb hr (fun t ht hW => ⟨_, rfl, hR, ht⟩) (fun q h => by cases h) dX5_apply_118
  · skip
    rw [if_neg c11_0] at hR
    by_cases c11_1 : o = (1 : Int32)
    · skip
      rw [if_pos c11_1] at hR
      refine lv_tableIn (tgt := 108) hx hb dX5_apply_11 (by rw [c11_1]; decide) (by rw [c11_1]; decide) (by rw [c11_1] <;> rfl) (by decide) ?_
      refine lv_iload_n hx hb dX5_apply_108 rfl (lv_at hl 2 rfl) ?_
      refine lv_iload hx hb dX5_apply_109 (lv_at hl 0 rfl) ?_
      refine lv_aload hx hb dX5_apply_111 (lv_at hl 6 rfl) ?_
      refine lv_iload_n hx hb dX5_apply_113 rfl (lv_at hl 3 rfl) ?_
      refine va_lald hx hb hK hP 14 9 (xr_14 a k st) rfl hA dX5_apply_114 ?_
      refine wl_cl (va_runS (As := [.int o, .int (fx_Terms_widthOf st a1), .long (fL st 2 a1.toNatClampNeg)]) (rest := []) ⟨hx, hb, hml, hown, hta⟩ (kx_Op_ofOne l o (fx_Terms_widthOf st a1) (fL st 2 a1.toNatClampNeg)) (va_cwS 3 hta gX5_75 rfl rfl rfl (by decide +kernel) ⟨Nat.le_of_ble_eq_true rfl, Nat.le_of_ble_eq_true rfl⟩) preEq rfl rfl hl.1 rfl (lv_room (Nat.le_of_ble_eq_true rfl)) dX5_apply_115 ⟨Nat.zero_le _, Nat.zero_le _⟩) ?_
      exact W.lret (v := fx_Op_ofOne o (fx_Terms_widthOf st a1) (fL st 2 a1.toNatClampNeg)) hx hb hr (fun t ht hW => ⟨_, rfl, hR, ht⟩) (fun q h => by cases h) dX5_apply_118
    · skip
      rw [if_neg c11_1] at hR
      by_cases c11_8 : o = (8 : Int32)
      · skip
        rw [if_pos c11_8] at hR
        refine lv_tableIn (tgt := 166) hx hb dX5_apply_11 (by rw [c11_8]; decide) (by rw [c11_8]; decide) (by rw [c11_8] <;> rfl) (by decide) ?_
        refine lv_iload_n hx hb dX5_apply_166 rfl (lv_at hl 2 rfl) ?_
        refine lv_iload hx hb dX5_apply_167 (lv_at hl 0 rfl) ?_
        refine lv_aload hx hb dX5_apply_169 (lv_at hl 6 rfl) ?_
        refine lv_iload_n hx hb dX5_apply_171 rfl (lv_at hl 3 rfl) ?_
        refine va_lald hx hb hK hP 14 9 (xr_14 a k st) rfl hA dX5_apply_172 ?_
        refine lv_aload hx hb dX5_apply_173 (lv_at hl 6 rfl) ?_
        refine lv_iload_n hx hb dX5_apply_175 rfl (lv_at hl 4 rfl) ?_
        refine va_lald hx hb hK hP 14 9 (xr_14 a k st) rfl (hB (by first | (rw [c11_8]; decide) | (rw [c11_9]; decide))) dX5_apply_176 ?_
        refine wl_cl (va_runS (As := [.int o, .int (fx_Terms_widthOf st a1), .long (fL st 2 a1.toNatClampNeg), .long (fL st 2 b1.toNatClampNeg)]) (rest := []) ⟨hx, hb, hml, hown, hta⟩ (kx_Op_divided l o (fx_Terms_widthOf st a1) (fL st 2 a1.toNatClampNeg) (fL st 2 b1.toNatClampNeg) (hV (by first | exact Or.inl c11_8 | exact Or.inr c11_9))) (va_cwS 4 hta gX5_89 rfl rfl rfl (by decide +kernel) ⟨Nat.le_of_ble_eq_true rfl, Nat.le_of_ble_eq_true rfl⟩) preEq rfl rfl hl.1 rfl (lv_room (Nat.le_of_ble_eq_true rfl)) dX5_apply_177 ⟨Nat.zero_le _, Nat.zero_le _⟩) ?_
        exact W.lret (v := fx_Op_divided o (fx_Terms_widthOf st a1) (fL st 2 a1.toNatClampNeg) (fL st 2 b1.toNatClampNeg)) hx hb hr (fun t ht hW => ⟨_, rfl, hR, ht⟩) (fun q h => by cases h) dX5_apply_180
      · skip
        rw [if_neg c11_8] at hR
        by_cases c11_9 : o = (9 : Int32)
        · skip
          rw [if_pos c11_9] at hR
          refine lv_tableIn (tgt := 166) hx hb dX5_apply_11 (by rw [c11_9]; decide) (by rw [c11_9]; decide) (by rw [c11_9] <;> rfl) (by decide) ?_
          refine lv_iload_n hx hb dX5_apply_166 rfl (lv_at hl 2 rfl) ?_
          refine lv_iload hx hb dX5_apply_167 (lv_at hl 0 rfl) ?_
          refine lv_aload hx hb dX5_apply_169 (lv_at hl 6 rfl) ?_
          refine lv_iload_n hx hb dX5_apply_171 rfl (lv_at hl 3 rfl) ?_
          refine va_lald hx hb hK hP 14 9 (xr_14 a k st) rfl hA dX5_apply_172 ?_
          refine lv_aload hx hb dX5_apply_173 (lv_at hl 6 rfl) ?_
          refine lv_iload_n hx hb dX5_apply_175 rfl (lv_at hl 4 rfl) ?_
          refine va_lald hx hb hK hP 14 9 (xr_14 a k st) rfl (hB (by first | (rw [c11_8]; decide) | (rw [c11_9]; decide))) dX5_apply_176 ?_
          refine wl_cl (va_runS (As := [.int o, .int (fx_Terms_widthOf st a1), .long (fL st 2 a1.toNatClampNeg), .long (fL st 2 b1.toNatClampNeg)]) (rest := []) ⟨hx, hb, hml, hown, hta⟩ (kx_Op_divided l o (fx_Terms_widthOf st a1) (fL st 2 a1.toNatClampNeg) (fL st 2 b1.toNatClampNeg) (hV (by first | exact Or.inl c11_8 | exact Or.inr c11_9))) (va_cwS 4 hta gX5_89 rfl rfl rfl (by decide +kernel) ⟨Nat.le_of_ble_eq_true rfl, Nat.le_of_ble_eq_true rfl⟩) preEq rfl rfl hl.1 rfl (lv_room (Nat.le_of_ble_eq_true rfl)) dX5_apply_177 ⟨Nat.zero_le _, Nat.zero_le _⟩) ?_
          exact W.lret (v := fx_Op_divided o (fx_Terms_widthOf st a1) (fL st 2 a1.toNatClampNeg) (fL st 2 b1.toNatClampNeg)) hx hb hr (fun t ht hW => ⟨_, rfl, hR, ht⟩) (fun q h => by cases h) dX5_apply_180
        · skip
          rw [if_neg c11_9] at hR
          by_cases c11_10 : o = (10 : Int32)
          · skip
            rw [if_pos c11_10] at hR
            refine lv_tableIn (tgt := 181) hx hb dX5_apply_11 (by rw [c11_10]; decide) (by rw [c11_10]; decide) (by rw [c11_10] <;> rfl) (by decide) ?_
            refine lv_iload_n hx hb dX5_apply_181 rfl (lv_at hl 2 rfl) ?_
            refine lv_iload hx hb dX5_apply_182 (lv_at hl 0 rfl) ?_
            refine lv_aload hx hb dX5_apply_184 (lv_at hl 6 rfl) ?_
            refine lv_iload_n hx hb dX5_apply_186 rfl (lv_at hl 3 rfl) ?_
            refine va_lald hx hb hK hP 14 9 (xr_14 a k st) rfl hA dX5_apply_187 ?_
            refine lv_aload hx hb dX5_apply_188 (lv_at hl 6 rfl) ?_
            refine lv_iload_n hx hb dX5_apply_190 rfl (lv_at hl 4 rfl) ?_
            refine va_lald hx hb hK hP 14 9 (xr_14 a k st) rfl (hB (by first | (rw [c11_10]; decide) | (rw [c11_11]; decide) | (rw [c11_12]; decide))) dX5_apply_191 ?_
            refine wl_cl (va_runS (As := [.int o, .int (fx_Terms_widthOf st a1), .long (fL st 2 a1.toNatClampNeg), .long (fL st 2 b1.toNatClampNeg)]) (rest := []) ⟨hx, hb, hml, hown, hta⟩ (kx_Op_moved l o (fx_Terms_widthOf st a1) (fL st 2 a1.toNatClampNeg) (fL st 2 b1.toNatClampNeg)) (va_cwS 4 hta gX5_93 rfl rfl rfl (by decide +kernel) ⟨Nat.le_of_ble_eq_true rfl, Nat.le_of_ble_eq_true rfl⟩) preEq rfl rfl hl.1 rfl (lv_room (Nat.le_of_ble_eq_true rfl)) dX5_apply_192 ⟨Nat.zero_le _, Nat.zero_le _⟩) ?_
            exact W.lret (v := fx_Op_moved o (fx_Terms_widthOf st a1) (fL st 2 a1.toNatClampNeg) (fL st 2 b1.toNatClampNeg)) hx hb hr (fun t ht hW => ⟨_, rfl, hR, ht⟩) (fun q h => by cases h) dX5_apply_195
          · skip
            rw [if_neg c11_10] at hR
            by_cases c11_11 : o = (11 : Int32)
            · skip
              rw [if_pos c11_11] at hR
              refine lv_tableIn (tgt := 181) hx hb dX5_apply_11 (by rw [c11_11]; decide) (by rw [c11_11]; decide) (by rw [c11_11] <;> rfl) (by decide) ?_
              refine lv_iload_n hx hb dX5_apply_181 rfl (lv_at hl 2 rfl) ?_
              refine lv_iload hx hb dX5_apply_182 (lv_at hl 0 rfl) ?_
              refine lv_aload hx hb dX5_apply_184 (lv_at hl 6 rfl) ?_
              refine lv_iload_n hx hb dX5_apply_186 rfl (lv_at hl 3 rfl) ?_
              refine va_lald hx hb hK hP 14 9 (xr_14 a k st) rfl hA dX5_apply_187 ?_
              refine lv_aload hx hb dX5_apply_188 (lv_at hl 6 rfl) ?_
              refine lv_iload_n hx hb dX5_apply_190 rfl (lv_at hl 4 rfl) ?_
              refine va_lald hx hb hK hP 14 9 (xr_14 a k st) rfl (hB (by first | (rw [c11_10]; decide) | (rw [c11_11]; decide) | (rw [c11_12]; decide))) dX5_apply_191 ?_
              refine wl_cl (va_runS (As := [.int o, .int (fx_Terms_widthOf st a1), .long (fL st 2 a1.toNatClampNeg), .long (fL st 2 b1.toNatClampNeg)]) (rest := []) ⟨hx, hb, hml, hown, hta⟩ (kx_Op_moved l o (fx_Terms_widthOf st a1) (fL st 2 a1.toNatClampNeg) (fL st 2 b1.toNatClampNeg)) (va_cwS 4 hta gX5_93 rfl rfl rfl (by decide +kernel) ⟨Nat.le_of_ble_eq_true rfl, Nat.le_of_ble_eq_true rfl⟩) preEq rfl rfl hl.1 rfl (lv_room (Nat.le_of_ble_eq_true rfl)) dX5_apply_192 ⟨Nat.zero_le _, Nat.zero_le _⟩) ?_
              exact W.lret (v := fx_Op_moved o (fx_Terms_widthOf st a1) (fL st 2 a1.toNatClampNeg) (fL st 2 b1.toNatClampNeg)) hx hb hr (fun t ht hW => ⟨_, rfl, hR, ht⟩) (fun q h => by cases h) dX5_apply_195
            · skip
              rw [if_neg c11_11] at hR
              by_cases c11_12 : o = (12 : Int32)
              · skip
                rw [if_pos c11_12] at hR
                refine lv_tableIn (tgt := 181) hx hb dX5_apply_11 (by rw [c11_12]; decide) (by rw [c11_12]; decide) (by rw [c11_12] <;> rfl) (by decide) ?_
                refine lv_iload_n hx hb dX5_apply_181 rfl (lv_at hl 2 rfl) ?_
                refine lv_iload hx hb dX5_apply_182 (lv_at hl 0 rfl) ?_
                refine lv_aload hx hb dX5_apply_184 (lv_at hl 6 rfl) ?_
                refine lv_iload_n hx hb dX5_apply_186 rfl (lv_at hl 3 rfl) ?_
                refine va_lald hx hb hK hP 14 9 (xr_14 a k st) rfl hA dX5_apply_187 ?_
                refine lv_aload hx hb dX5_apply_188 (lv_at hl 6 rfl) ?_
                refine lv_iload_n hx hb dX5_apply_190 rfl (lv_at hl 4 rfl) ?_
                refine va_lald hx hb hK hP 14 9 (xr_14 a k st) rfl (hB (by first | (rw [c11_10]; decide) | (rw [c11_11]; decide) | (rw [c11_12]; decide))) dX5_apply_191 ?_
                refine wl_cl (va_runS (As := [.int o, .int (fx_Terms_widthOf st a1), .long (fL st 2 a1.toNatClampNeg), .long (fL st 2 b1.toNatClampNeg)]) (rest := []) ⟨hx, hb, hml, hown, hta⟩ (kx_Op_moved l o (fx_Terms_widthOf st a1) (fL st 2 a1.toNatClampNeg) (fL st 2 b1.toNatClampNeg)) (va_cwS 4 hta gX5_93 rfl rfl rfl (by decide +kernel) ⟨Nat.le_of_ble_eq_true rfl, Nat.le_of_ble_eq_true rfl⟩) preEq rfl rfl hl.1 rfl (lv_room (Nat.le_of_ble_eq_true rfl)) dX5_apply_192 ⟨Nat.zero_le _, Nat.zero_le _⟩) ?_
                exact W.lret (v := fx_Op_moved o (fx_Terms_widthOf st a1) (fL st 2 a1.toNatClampNeg) (fL st 2 b1.toNatClampNeg)) hx hb hr (fun t ht hW => ⟨_, rfl, hR, ht⟩) (fun q h => by cases h) dX5_apply_195
              · skip
                rw [if_neg c11_12] at hR
                by_cases c11_16 : o = (16 : Int32)
                · skip
                  rw [if_pos c11_16] at hR
                  refine lv_tableIn (tgt := 119) hx hb dX5_apply_11 (by rw [c11_16]; decide) (by rw [c11_16]; decide) (by rw [c11_16] <;> rfl) (by decide) ?_
                  refine lv_aload hx hb dX5_apply_119 (lv_at hl 6 rfl) ?_
                  refine lv_iload_n hx hb dX5_apply_121 rfl (lv_at hl 3 rfl) ?_
                  refine va_lald hx hb hK hP 14 9 (xr_14 a k st) rfl hA dX5_apply_122 ?_
                  refine lv_lconst (v := (0 : Int64)) hx hb dX5_apply_123 (by decide) ?_
                  refine W.lcmp hx hb dX5_apply_124 ?_
                  refine lv_if_eq (tgt := 135) hx hb dX5_apply_125 (by decide) (fun c125 => ?_) (fun c125 => ?_)
                  · skip
                    rw [if_pos c125] at hR
                    refine lv_aload hx hb dX5_apply_135 (lv_at hl 6 rfl) ?_
                    refine lv_iload hx hb dX5_apply_137 (lv_at hl 5 rfl) ?_
                    refine va_lald hx hb hK hP 14 9 (xr_14 a k st) rfl (hC c11_16) dX5_apply_139 ?_
                    exact W.lret (v := fL st 2 c1.toNatClampNeg) hx hb hr (fun t ht hW => ⟨_, rfl, hR, ht⟩) (fun q h => by cases h) dX5_apply_140
                  · skip
                    rw [if_neg c125] at hR
                    refine lv_aload hx hb dX5_apply_128 (lv_at hl 6 rfl) ?_
                    refine lv_iload_n hx hb dX5_apply_130 rfl (lv_at hl 4 rfl) ?_
                    refine va_lald hx hb hK hP 14 9 (xr_14 a k st) rfl (hB (by rw [c11_16]; decide)) dX5_apply_131 ?_
                    refine lv_goto (tgt := 140) hx hb dX5_apply_132 (by decide) ?_
                    exact W.lret (v := fL st 2 b1.toNatClampNeg) hx hb hr (fun t ht hW => ⟨_, rfl, hR, ht⟩) (fun q h => by cases h) dX5_apply_140
                · skip
                  rw [if_neg c11_16] at hR
                  by_cases c11_17 : o = (17 : Int32)
                  · skip
                    rw [if_pos c11_17] at hR
                    refine lv_tableIn (tgt := 141) hx hb dX5_apply_11 (by rw [c11_17]; decide) (by rw [c11_17]; decide) (by rw [c11_17] <;> rfl) (by decide) ?_
                    refine lv_iload_n hx hb dX5_apply_141 rfl (lv_at hl 2 rfl) ?_
                    refine lv_iload hx hb dX5_apply_142 (lv_at hl 0 rfl) ?_
                    refine lv_iload_n hx hb dX5_apply_144 rfl (lv_at hl 4 rfl) ?_
                    refine lv_aload hx hb dX5_apply_145 (lv_at hl 6 rfl) ?_
                    refine lv_iload_n hx hb dX5_apply_147 rfl (lv_at hl 3 rfl) ?_
                    refine va_lald hx hb hK hP 14 9 (xr_14 a k st) rfl hA dX5_apply_148 ?_
                    refine wl_cl (va_runS (As := [.int o, .int (fx_Terms_widthOf st a1), .int b1, .long (fL st 2 a1.toNatClampNeg)]) (rest := []) ⟨hx, hb, hml, hown, hta⟩ (kx_Op_resized l o (fx_Terms_widthOf st a1) b1 (fL st 2 a1.toNatClampNeg)) (va_cwS 4 hta gX5_79 rfl rfl rfl (by decide +kernel) ⟨Nat.le_of_ble_eq_true rfl, Nat.le_of_ble_eq_true rfl⟩) preEq rfl rfl hl.1 rfl (lv_room (Nat.le_of_ble_eq_true rfl)) dX5_apply_149 ⟨Nat.zero_le _, Nat.zero_le _⟩) ?_
                    exact W.lret (v := fx_Op_resized o (fx_Terms_widthOf st a1) b1 (fL st 2 a1.toNatClampNeg)) hx hb hr (fun t ht hW => ⟨_, rfl, hR, ht⟩) (fun q h => by cases h) dX5_apply_152
                  · skip
                    rw [if_neg c11_17] at hR
                    by_cases c11_18 : o = (18 : Int32)
                    · skip
                      rw [if_pos c11_18] at hR
                      refine lv_tableIn (tgt := 141) hx hb dX5_apply_11 (by rw [c11_18]; decide) (by rw [c11_18]; decide) (by rw [c11_18] <;> rfl) (by decide) ?_
                      refine lv_iload_n hx hb dX5_apply_141 rfl (lv_at hl 2 rfl) ?_
                      refine lv_iload hx hb dX5_apply_142 (lv_at hl 0 rfl) ?_
                      refine lv_iload_n hx hb dX5_apply_144 rfl (lv_at hl 4 rfl) ?_
                      refine lv_aload hx hb dX5_apply_145 (lv_at hl 6 rfl) ?_
                      refine lv_iload_n hx hb dX5_apply_147 rfl (lv_at hl 3 rfl) ?_
                      refine va_lald hx hb hK hP 14 9 (xr_14 a k st) rfl hA dX5_apply_148 ?_
                      refine wl_cl (va_runS (As := [.int o, .int (fx_Terms_widthOf st a1), .int b1, .long (fL st 2 a1.toNatClampNeg)]) (rest := []) ⟨hx, hb, hml, hown, hta⟩ (kx_Op_resized l o (fx_Terms_widthOf st a1) b1 (fL st 2 a1.toNatClampNeg)) (va_cwS 4 hta gX5_79 rfl rfl rfl (by decide +kernel) ⟨Nat.le_of_ble_eq_true rfl, Nat.le_of_ble_eq_true rfl⟩) preEq rfl rfl hl.1 rfl (lv_room (Nat.le_of_ble_eq_true rfl)) dX5_apply_149 ⟨Nat.zero_le _, Nat.zero_le _⟩) ?_
                      exact W.lret (v := fx_Op_resized o (fx_Terms_widthOf st a1) b1 (fL st 2 a1.toNatClampNeg)) hx hb hr (fun t ht hW => ⟨_, rfl, hR, ht⟩) (fun q h => by cases h) dX5_apply_152
                    · skip
                      rw [if_neg c11_18] at hR
                      by_cases c11_19 : o = (19 : Int32)
                      · skip
                        rw [if_pos c11_19] at hR
                        refine lv_tableIn (tgt := 141) hx hb dX5_apply_11 (by rw [c11_19]; decide) (by rw [c11_19]; decide) (by rw [c11_19] <;> rfl) (by decide) ?_
                        refine lv_iload_n hx hb dX5_apply_141 rfl (lv_at hl 2 rfl) ?_
                        refine lv_iload hx hb dX5_apply_142 (lv_at hl 0 rfl) ?_
                        refine lv_iload_n hx hb dX5_apply_144 rfl (lv_at hl 4 rfl) ?_
                        refine lv_aload hx hb dX5_apply_145 (lv_at hl 6 rfl) ?_
                        refine lv_iload_n hx hb dX5_apply_147 rfl (lv_at hl 3 rfl) ?_
                        refine va_lald hx hb hK hP 14 9 (xr_14 a k st) rfl hA dX5_apply_148 ?_
                        refine wl_cl (va_runS (As := [.int o, .int (fx_Terms_widthOf st a1), .int b1, .long (fL st 2 a1.toNatClampNeg)]) (rest := []) ⟨hx, hb, hml, hown, hta⟩ (kx_Op_resized l o (fx_Terms_widthOf st a1) b1 (fL st 2 a1.toNatClampNeg)) (va_cwS 4 hta gX5_79 rfl rfl rfl (by decide +kernel) ⟨Nat.le_of_ble_eq_true rfl, Nat.le_of_ble_eq_true rfl⟩) preEq rfl rfl hl.1 rfl (lv_room (Nat.le_of_ble_eq_true rfl)) dX5_apply_149 ⟨Nat.zero_le _, Nat.zero_le _⟩) ?_
                        exact W.lret (v := fx_Op_resized o (fx_Terms_widthOf st a1) b1 (fL st 2 a1.toNatClampNeg)) hx hb hr (fun t ht hW => ⟨_, rfl, hR, ht⟩) (fun q h => by cases h) dX5_apply_152
                      · skip
                        rw [if_neg c11_19] at hR
                        by_cases c11_20 : o = (20 : Int32)
                        · skip
                          rw [if_pos c11_20] at hR
                          refine lv_tableIn (tgt := 153) hx hb dX5_apply_11 (by rw [c11_20]; decide) (by rw [c11_20]; decide) (by rw [c11_20] <;> rfl) (by decide) ?_
                          refine lv_aload_n hx hb dX5_apply_153 rfl (lv_at hl 1 rfl) ?_
                          refine va_get (D := (dC, dI)) (ci := 3) (v := .ref (a 5)) (C := RX5) (T := TX5) (N := 5) hx hb hta inX5 hown hK hP 13 (xr_13 a k st) rfl 2 (by decide) hf17 (fun _ h9 => h9) rfl dX5_apply_154 ?_
                          refine lv_iload_n hx hb dX5_apply_157 rfl (lv_at hl 4 rfl) ?_
                          refine lv_aload hx hb dX5_apply_158 (lv_at hl 6 rfl) ?_
                          refine lv_iload_n hx hb dX5_apply_160 rfl (lv_at hl 3 rfl) ?_
                          refine va_lald hx hb hK hP 14 9 (xr_14 a k st) rfl hA dX5_apply_161 ?_
                          refine wl_cl (va_runV (As := [.int b1, .long (fL st 2 a1.toNatClampNeg)]) (rest := []) ⟨hx, hb, hml, hown, hta⟩ (kx_Tabs_lookUp l dC dI a k st b1 (fL st 2 a1.toNatClampNeg) (wl_lk (hT c11_20) _)) (cwV 2 hta gX5_83 rfl rfl rfl (by decide +kernel) ⟨Nat.le_of_ble_eq_true rfl, Nat.le_of_ble_eq_true rfl⟩) (wl_pR (C := RX3) (ci := 1) (q0 := 5) hK hP rfl (xr_5 a k st)) rfl rfl hl.1 rfl (lv_room (Nat.le_of_ble_eq_true rfl)) dX5_apply_162 ⟨Nat.zero_le _, Nat.zero_le _⟩) ?_
                          exact W.lret (v := fx_Tabs_lookUp st b1 (fL st 2 a1.toNatClampNeg)) hx hb hr (fun t ht hW => ⟨_, rfl, hR, ht⟩) (fun q h => by cases h) dX5_apply_165
                        · skip
                          rw [if_neg c11_20] at hR
                          have t11_0 := lv_neT (a := 0) c11_0 (by decide)
                          have t11_1 := lv_neT (a := 1) c11_1 (by decide)
                          have t11_8 := lv_neT (a := 8) c11_8 (by decide)
                          have t11_9 := lv_neT (a := 9) c11_9 (by decide)
                          have t11_10 := lv_neT (a := 10) c11_10 (by decide)
                          have t11_11 := lv_neT (a := 11) c11_11 (by decide)
                          have t11_12 := lv_neT (a := 12) c11_12 (by decide)
                          have t11_16 := lv_neT (a := 16) c11_16 (by decide)
                          have t11_17 := lv_neT (a := 17) c11_17 (by decide)
                          have t11_18 := lv_neT (a := 18) c11_18 (by decide)
                          have t11_19 := lv_neT (a := 19) c11_19 (by decide)
                          have t11_20 := lv_neT (a := 20) c11_20 (by decide)
                          refine wl_tabD (tgt := 196) (ks := [0, 1, 8, 9, 10, 11, 12, 16, 17, 18, 19, 20]) hx hb dX5_apply_11 (by decide) (by decide +kernel) (by intro k hk; simp only [List.mem_cons, List.not_mem_nil, or_false] at hk; rcases hk with rfl | rfl | rfl | rfl | rfl | rfl | rfl | rfl | rfl | rfl | rfl | rfl <;> assumption) (by decide) ?_
                          refine lv_iload_n hx hb dX5_apply_196 rfl (lv_at hl 2 rfl) ?_
                          refine lv_iload hx hb dX5_apply_197 (lv_at hl 0 rfl) ?_
                          refine lv_aload hx hb dX5_apply_199 (lv_at hl 6 rfl) ?_
                          refine lv_iload_n hx hb dX5_apply_201 rfl (lv_at hl 3 rfl) ?_
                          refine va_lald hx hb hK hP 14 9 (xr_14 a k st) rfl hA dX5_apply_202 ?_
                          refine lv_aload hx hb dX5_apply_203 (lv_at hl 6 rfl) ?_
                          refine lv_iload_n hx hb dX5_apply_205 rfl (lv_at hl 4 rfl) ?_
                          refine va_lald hx hb hK hP 14 9 (xr_14 a k st) rfl (hB (fun h => by rcases h with h | h | h | h | h | h <;> contradiction)) dX5_apply_206 ?_
                          refine wl_cl (va_runS (As := [.int o, .int (fx_Terms_widthOf st a1), .long (fL st 2 a1.toNatClampNeg), .long (fL st 2 b1.toNatClampNeg)]) (rest := []) ⟨hx, hb, hml, hown, hta⟩ (kx_Op_ofTwo l o (fx_Terms_widthOf st a1) (fL st 2 a1.toNatClampNeg) (fL st 2 b1.toNatClampNeg)) (va_cwS 4 hta gX5_96 rfl rfl rfl (by decide +kernel) ⟨Nat.le_of_ble_eq_true rfl, Nat.le_of_ble_eq_true rfl⟩) preEq rfl rfl hl.1 rfl (lv_room (Nat.le_of_ble_eq_true rfl)) dX5_apply_207 ⟨Nat.zero_le _, Nat.zero_le _⟩) ?_
                          exact W.lret (v := fx_Op_ofTwo o (fx_Terms_widthOf st a1) (fL st 2 a1.toNatClampNeg) (fL st 2 b1.toNatClampNeg)) hx hb hr (fun t ht hW => ⟨_, rfl, hR, ht⟩) (fun q h => by cases h) dX5_apply_210


def fx_Eval_apply_c (st : XS) (o : Int32) (a1 : Int32) (b1 : Int32) (c1 : Int32) : Int64 := 
  if o = (0 : Int32) then fx_Op_ofOne o (fx_Terms_widthOf st a1) (fL st 1 a1.toNatClampNeg)
  else 
    if o = (1 : Int32) then fx_Op_ofOne o (fx_Terms_widthOf st a1) (fL st 1 a1.toNatClampNeg)
    else 
      if o = (8 : Int32) then fx_Op_divided o (fx_Terms_widthOf st a1) (fL st 1 a1.toNatClampNeg) (fL st 1 b1.toNatClampNeg)
      else 
        if o = (9 : Int32) then fx_Op_divided o (fx_Terms_widthOf st a1) (fL st 1 a1.toNatClampNeg) (fL st 1 b1.toNatClampNeg)
        else 
          if o = (10 : Int32) then fx_Op_moved o (fx_Terms_widthOf st a1) (fL st 1 a1.toNatClampNeg) (fL st 1 b1.toNatClampNeg)
          else 
            if o = (11 : Int32) then fx_Op_moved o (fx_Terms_widthOf st a1) (fL st 1 a1.toNatClampNeg) (fL st 1 b1.toNatClampNeg)
            else 
              if o = (12 : Int32) then fx_Op_moved o (fx_Terms_widthOf st a1) (fL st 1 a1.toNatClampNeg) (fL st 1 b1.toNatClampNeg)
              else 
                if o = (16 : Int32) then 
                  if lg_cmp (fL st 1 a1.toNatClampNeg) (0 : Int64) = (0 : Int32) then fL st 1 c1.toNatClampNeg
                  else fL st 1 b1.toNatClampNeg
                else 
                  if o = (17 : Int32) then fx_Op_resized o (fx_Terms_widthOf st a1) b1 (fL st 1 a1.toNatClampNeg)
                  else 
                    if o = (18 : Int32) then fx_Op_resized o (fx_Terms_widthOf st a1) b1 (fL st 1 a1.toNatClampNeg)
                    else 
                      if o = (19 : Int32) then fx_Op_resized o (fx_Terms_widthOf st a1) b1 (fL st 1 a1.toNatClampNeg)
                      else 
                        if o = (20 : Int32) then fx_Tabs_lookUp st b1 (fL st 1 a1.toNatClampNeg)
                        else fx_Op_ofTwo o (fx_Terms_widthOf st a1) (fL st 1 a1.toNatClampNeg) (fL st 1 b1.toNatClampNeg)
set_option maxHeartbeats 4000000 in
set_option maxRecDepth 100000 in
theorem kx_Eval_apply_c (l : Launch) (dC : Nat → ClassId) (dI : Nat → Nat → Nat) (a : Nat → Nat) (k : Nat → ClassId) (st : XS) (o : Int32) (a1 : Int32) (b1 : Int32) (c1 : Int32) (hA : vp_in a1 64) (hB : ¬ (o = 0 ∨ o = 1 ∨ o = 17 ∨ o = 18 ∨ o = 19 ∨ o = 20) → vp_in b1 64) (hC : o = 16 → vp_in c1 64) (hT : o = 20 → vp_in b1 2) (hV : o = 8 ∨ o = 9 → ¬ fL st 1 b1.toNatClampNeg = 0 → ¬ fx_Width_readPlain (fx_Terms_widthOf st a1) (fL st 1 b1.toNatClampNeg) = 0) : Met l yX5_apply wsX5_apply ({ frames := 2, cells := 0, slots := 0, locals := 54 }) (va_Pc [.ref (a 13), .int o, .int a1, .int b1, .int c1, .ref (a 12)] (wl_prR (dC, dI) vwCl (xt k) (xw a k st))) (vp_Sl (fun r9 => r9 = fx_Eval_apply_c st o a1 b1 c1)) 0 0 (fun _ => False) := by
  refine Met.ofW (cc := cX5_apply) (maxL := 7) (ret := (some .long)) (by decide) rfl ?_
  intro p e s m args below meth c s₁ B hml hv
  obtain ⟨rfl, hP, hK⟩ := hv
  have hx := B.exec
  have hb := B.bytes
  have hr := B.returns
  have hta := aw_hts (atoms_spec (ws := wsX5_apply) B.pre)
  have hown : s.vm.findClass RX5 = some m.cls := findClass_of_methodNamed B.named
  have hlocks := B.notSynchronized
  have hf7 := hta _ mw_127
  have hf17 := hta _ mw_129
  have hl := lv_entry ([.ref (a 13), .int o, .int a1, .int b1, .int c1, .ref (a 12)]) (n := 7) (Nat.le_of_ble_eq_true rfl)
  rw [lg_entry_eq]
  generalize (lg_sl ([.ref (a 13), .int o, .int a1, .int b1, .int c1, .ref (a 12)]) ++ List.replicate (7 - (lg_sl ([.ref (a 13), .int o, .int a1, .int b1, .int c1, .ref (a 12)])).length) Slot.unset).toArray = ls at hl ⊢
  have hl : lv_has ls 7 [(0, .ref (a 13)), (1, .int o), (2, .int a1), (3, .int b1), (4, .int c1), (5, .ref (a 12))] := hl
  generalize hR : fx_Eval_apply_c st o a1 b1 c1 = R
  rw [fx_Eval_apply_c] at hR
  refine lv_aload_n hx hb dX5_apply_0 rfl (lv_at hl 0 rfl) ?_
  refine va_get (D := (dC, dI)) (ci := 3) (v := .ref (a 7)) (C := RX5) (T := TX5) (N := 5) hx hb hta inX5 hown hK hP 13 (xr_13 a k st) rfl 0 (by decide) hf7 (fun _ h9 => h9) rfl dX5_apply_1 ?_
  refine lv_iload_n hx hb dX5_apply_4 rfl (lv_at hl 2 rfl) ?_
  refine wl_ci (va_runV (As := [.int a1]) (rest := []) ⟨hx, hb, hml, hown, hta⟩ (kx_Terms_widthOf l dC dI a k st a1 hA) (cwV 1 hta gX5_72 rfl rfl rfl (by decide +kernel) ⟨Nat.le_of_ble_eq_true rfl, Nat.le_of_ble_eq_true rfl⟩) (wl_pR (C := RX4) (ci := 2) (q0 := 7) hK hP rfl (xr_7 a k st)) rfl rfl hl.1 rfl (lv_room (Nat.le_of_ble_eq_true rfl)) dX5_apply_5 ⟨Nat.zero_le _, Nat.zero_le _⟩) ?_
  refine lv_istore (lv' := [(6, .int (fx_Terms_widthOf st a1)), (0, .ref (a 13)), (1, .int o), (2, .int a1), (3, .int b1), (4, .int c1), (5, .ref (a 12))]) hx hb dX5_apply_8 hl (by decide) rfl (fun ls hl => ?_)
  refine lv_iload_n hx hb dX5_apply_10 rfl (lv_at hl 2 rfl) ?_
  by_cases c11_0 : o = (0 : Int32)
  · skip
    rw [if_pos c11_0] at hR
    refine lv_tableIn (tgt := 108) hx hb dX5_apply_11 (by rw [c11_0]; decide) (by rw [c11_0]; decide) (by rw [c11_0] <;> rfl) (by decide) ?_
    refine lv_iload_n hx hb dX5_apply_108 rfl (lv_at hl 2 rfl) ?_
    refine lv_iload hx hb dX5_apply_109 (lv_at hl 0 rfl) ?_
    refine lv_aload hx hb dX5_apply_111 (lv_at hl 6 rfl) ?_
    refine lv_iload_n hx hb dX5_apply_113 rfl (lv_at hl 3 rfl) ?_
    refine va_lald hx hb hK hP 12 8 (xr_12 a k st) rfl hA dX5_apply_114 ?_
    refine wl_cl (va_runS (As := [.int o, .int (fx_Terms_widthOf st a1), .long (fL st 1 a1.toNatClampNeg)]) (rest := []) ⟨hx, hb, hml, hown, hta⟩ (kx_Op_ofOne l o (fx_Terms_widthOf st a1) (fL st 1 a1.toNatClampNeg)) (va_cwS 3 hta gX5_75 rfl rfl rfl (by decide +kernel) ⟨Nat.le_of_ble_eq_true rfl, Nat.le_of_ble_eq_true rfl⟩) preEq rfl rfl hl.1 rfl (lv_room (Nat.le_of_ble_eq_true rfl)) dX5_apply_115 ⟨Nat.zero_le _, Nat.zero_le _⟩) ?_
    exact W.lret (v := fx_Op_ofOne o (fx_Terms_widthOf st a1) (fL st 1 a1.toNatClampNeg)) hx hb hr (fun t ht hW => ⟨_, rfl, hR, ht⟩) (fun q h => by cases h) dX5_apply_118
  · skip
    rw [if_neg c11_0] at hR
    by_cases c11_1 : o = (1 : Int32)
    · skip
      rw [if_pos c11_1] at hR
      refine lv_tableIn (tgt := 108) hx hb dX5_apply_11 (by rw [c11_1]; decide) (by rw [c11_1]; decide) (by rw [c11_1] <;> rfl) (by decide) ?_
      refine lv_iload_n hx hb dX5_apply_108 rfl (lv_at hl 2 rfl) ?_
      refine lv_iload hx hb dX5_apply_109 (lv_at hl 0 rfl) ?_
      refine lv_aload hx hb dX5_apply_111 (lv_at hl 6 rfl) ?_
      refine lv_iload_n hx hb dX5_apply_113 rfl (lv_at hl 3 rfl) ?_
      refine va_lald hx hb hK hP 12 8 (xr_12 a k st) rfl hA dX5_apply_114 ?_
      refine wl_cl (va_runS (As := [.int o, .int (fx_Terms_widthOf st a1), .long (fL st 1 a1.toNatClampNeg)]) (rest := []) ⟨hx, hb, hml, hown, hta⟩ (kx_Op_ofOne l o (fx_Terms_widthOf st a1) (fL st 1 a1.toNatClampNeg)) (va_cwS 3 hta gX5_75 rfl rfl rfl (by decide +kernel) ⟨Nat.le_of_ble_eq_true rfl, Nat.le_of_ble_eq_true rfl⟩) preEq rfl rfl hl.1 rfl (lv_room (Nat.le_of_ble_eq_true rfl)) dX5_apply_115 ⟨Nat.zero_le _, Nat.zero_le _⟩) ?_
      exact W.lret (v := fx_Op_ofOne o (fx_Terms_widthOf st a1) (fL st 1 a1.toNatClampNeg)) hx hb hr (fun t ht hW => ⟨_, rfl, hR, ht⟩) (fun q h => by cases h) dX5_apply_118
    · skip
      rw [if_neg c11_1] at hR
      by_cases c11_8 : o = (8 : Int32)
      · skip
        rw [if_pos c11_8] at hR
        refine lv_tableIn (tgt := 166) hx hb dX5_apply_11 (by rw [c11_8]; decide) (by rw [c11_8]; decide) (by rw [c11_8] <;> rfl) (by decide) ?_
        refine lv_iload_n hx hb dX5_apply_166 rfl (lv_at hl 2 rfl) ?_
        refine lv_iload hx hb dX5_apply_167 (lv_at hl 0 rfl) ?_
        refine lv_aload hx hb dX5_apply_169 (lv_at hl 6 rfl) ?_
        refine lv_iload_n hx hb dX5_apply_171 rfl (lv_at hl 3 rfl) ?_
        refine va_lald hx hb hK hP 12 8 (xr_12 a k st) rfl hA dX5_apply_172 ?_
        refine lv_aload hx hb dX5_apply_173 (lv_at hl 6 rfl) ?_
        refine lv_iload_n hx hb dX5_apply_175 rfl (lv_at hl 4 rfl) ?_
        refine va_lald hx hb hK hP 12 8 (xr_12 a k st) rfl (hB (by first | (rw [c11_8]; decide) | (rw [c11_9]; decide))) dX5_apply_176 ?_
        refine wl_cl (va_runS (As := [.int o, .int (fx_Terms_widthOf st a1), .long (fL st 1 a1.toNatClampNeg), .long (fL st 1 b1.toNatClampNeg)]) (rest := []) ⟨hx, hb, hml, hown, hta⟩ (kx_Op_divided l o (fx_Terms_widthOf st a1) (fL st 1 a1.toNatClampNeg) (fL st 1 b1.toNatClampNeg) (hV (by first | exact Or.inl c11_8 | exact Or.inr c11_9))) (va_cwS 4 hta gX5_89 rfl rfl rfl (by decide +kernel) ⟨Nat.le_of_ble_eq_true rfl, Nat.le_of_ble_eq_true rfl⟩) preEq rfl rfl hl.1 rfl (lv_room (Nat.le_of_ble_eq_true rfl)) dX5_apply_177 ⟨Nat.zero_le _, Nat.zero_le _⟩) ?_
        exact W.lret (v := fx_Op_divided o (fx_Terms_widthOf st a1) (fL st 1 a1.toNatClampNeg) (fL st 1 b1.toNatClampNeg)) hx hb hr (fun t ht hW => ⟨_, rfl, hR, ht⟩) (fun q h => by cases h) dX5_apply_180
      · skip
        rw [if_neg c11_8] at hR
        by_cases c11_9 : o = (9 : Int32)
        · skip
          rw [if_pos c11_9] at hR
          refine lv_tableIn (tgt := 166) hx hb dX5_apply_11 (by rw [c11_9]; decide) (by rw [c11_9]; decide) (by rw [c11_9] <;> rfl) (by decide) ?_
          refine lv_iload_n hx hb dX5_apply_166 rfl (lv_at hl 2 rfl) ?_
          refine lv_iload hx hb dX5_apply_167 (lv_at hl 0 rfl) ?_
          refine lv_aload hx hb dX5_apply_169 (lv_at hl 6 rfl) ?_
          refine lv_iload_n hx hb dX5_apply_171 rfl (lv_at hl 3 rfl) ?_
          refine va_lald hx hb hK hP 12 8 (xr_12 a k st) rfl hA dX5_apply_172 ?_
          refine lv_aload hx hb dX5_apply_173 (lv_at hl 6 rfl) ?_
          refine lv_iload_n hx hb dX5_apply_175 rfl (lv_at hl 4 rfl) ?_
          refine va_lald hx hb hK hP 12 8 (xr_12 a k st) rfl (hB (by first | (rw [c11_8]; decide) | (rw [c11_9]; decide))) dX5_apply_176 ?_
          refine wl_cl (va_runS (As := [.int o, .int (fx_Terms_widthOf st a1), .long (fL st 1 a1.toNatClampNeg), .long (fL st 1 b1.toNatClampNeg)]) (rest := []) ⟨hx, hb, hml, hown, hta⟩ (kx_Op_divided l o (fx_Terms_widthOf st a1) (fL st 1 a1.toNatClampNeg) (fL st 1 b1.toNatClampNeg) (hV (by first | exact Or.inl c11_8 | exact Or.inr c11_9))) (va_cwS 4 hta gX5_89 rfl rfl rfl (by decide +kernel) ⟨Nat.le_of_ble_eq_true rfl, Nat.le_of_ble_eq_true rfl⟩) preEq rfl rfl hl.1 rfl (lv_room (Nat.le_of_ble_eq_true rfl)) dX5_apply_177 ⟨Nat.zero_le _, Nat.zero_le _⟩) ?_
          exact W.lret (v := fx_Op_divided o (fx_Terms_widthOf st a1) (fL st 1 a1.toNatClampNeg) (fL st 1 b1.toNatClampNeg)) hx hb hr (fun t ht hW => ⟨_, rfl, hR, ht⟩) (fun q h => by cases h) dX5_apply_180
        · skip
          rw [if_neg c11_9] at hR
          by_cases c11_10 : o = (10 : Int32)
          · skip
            rw [if_pos c11_10] at hR
            refine lv_tableIn (tgt := 181) hx hb dX5_apply_11 (by rw [c11_10]; decide) (by rw [c11_10]; decide) (by rw [c11_10] <;> rfl) (by decide) ?_
            refine lv_iload_n hx hb dX5_apply_181 rfl (lv_at hl 2 rfl) ?_
            refine lv_iload hx hb dX5_apply_182 (lv_at hl 0 rfl) ?_
            refine lv_aload hx hb dX5_apply_184 (lv_at hl 6 rfl) ?_
            refine lv_iload_n hx hb dX5_apply_186 rfl (lv_at hl 3 rfl) ?_
            refine va_lald hx hb hK hP 12 8 (xr_12 a k st) rfl hA dX5_apply_187 ?_
            refine lv_aload hx hb dX5_apply_188 (lv_at hl 6 rfl) ?_
            refine lv_iload_n hx hb dX5_apply_190 rfl (lv_at hl 4 rfl) ?_
            refine va_lald hx hb hK hP 12 8 (xr_12 a k st) rfl (hB (by first | (rw [c11_10]; decide) | (rw [c11_11]; decide) | (rw [c11_12]; decide))) dX5_apply_191 ?_
            refine wl_cl (va_runS (As := [.int o, .int (fx_Terms_widthOf st a1), .long (fL st 1 a1.toNatClampNeg), .long (fL st 1 b1.toNatClampNeg)]) (rest := []) ⟨hx, hb, hml, hown, hta⟩ (kx_Op_moved l o (fx_Terms_widthOf st a1) (fL st 1 a1.toNatClampNeg) (fL st 1 b1.toNatClampNeg)) (va_cwS 4 hta gX5_93 rfl rfl rfl (by decide +kernel) ⟨Nat.le_of_ble_eq_true rfl, Nat.le_of_ble_eq_true rfl⟩) preEq rfl rfl hl.1 rfl (lv_room (Nat.le_of_ble_eq_true rfl)) dX5_apply_192 ⟨Nat.zero_le _, Nat.zero_le _⟩) ?_
            exact W.lret (v := fx_Op_moved o (fx_Terms_widthOf st a1) (fL st 1 a1.toNatClampNeg) (fL st 1 b1.toNatClampNeg)) hx hb hr (fun t ht hW => ⟨_, rfl, hR, ht⟩) (fun q h => by cases h) dX5_apply_195
          · skip
            rw [if_neg c11_10] at hR
            by_cases c11_11 : o = (11 : Int32)
            · skip
              rw [if_pos c11_11] at hR
              refine lv_tableIn (tgt := 181) hx hb dX5_apply_11 (by rw [c11_11]; decide) (by rw [c11_11]; decide) (by rw [c11_11] <;> rfl) (by decide) ?_
              refine lv_iload_n hx hb dX5_apply_181 rfl (lv_at hl 2 rfl) ?_
              refine lv_iload hx hb dX5_apply_182 (lv_at hl 0 rfl) ?_
              refine lv_aload hx hb dX5_apply_184 (lv_at hl 6 rfl) ?_
              refine lv_iload_n hx hb dX5_apply_186 rfl (lv_at hl 3 rfl) ?_
              refine va_lald hx hb hK hP 12 8 (xr_12 a k st) rfl hA dX5_apply_187 ?_
              refine lv_aload hx hb dX5_apply_188 (lv_at hl 6 rfl) ?_
              refine lv_iload_n hx hb dX5_apply_190 rfl (lv_at hl 4 rfl) ?_
              refine va_lald hx hb hK hP 12 8 (xr_12 a k st) rfl (hB (by first | (rw [c11_10]; decide) | (rw [c11_11]; decide) | (rw [c11_12]; decide))) dX5_apply_191 ?_
              refine wl_cl (va_runS (As := [.int o, .int (fx_Terms_widthOf st a1), .long (fL st 1 a1.toNatClampNeg), .long (fL st 1 b1.toNatClampNeg)]) (rest := []) ⟨hx, hb, hml, hown, hta⟩ (kx_Op_moved l o (fx_Terms_widthOf st a1) (fL st 1 a1.toNatClampNeg) (fL st 1 b1.toNatClampNeg)) (va_cwS 4 hta gX5_93 rfl rfl rfl (by decide +kernel) ⟨Nat.le_of_ble_eq_true rfl, Nat.le_of_ble_eq_true rfl⟩) preEq rfl rfl hl.1 rfl (lv_room (Nat.le_of_ble_eq_true rfl)) dX5_apply_192 ⟨Nat.zero_le _, Nat.zero_le _⟩) ?_
              exact W.lret (v := fx_Op_moved o (fx_Terms_widthOf st a1) (fL st 1 a1.toNatClampNeg) (fL st 1 b1.toNatClampNeg)) hx hb hr (fun t ht hW => ⟨_, rfl, hR, ht⟩) (fun q h => by cases h) dX5_apply_195
            · skip
              rw [if_neg c11_11] at hR
              by_cases c11_12 : o = (12 : Int32)
              · skip
                rw [if_pos c11_12] at hR
                refine lv_tableIn (tgt := 181) hx hb dX5_apply_11 (by rw [c11_12]; decide) (by rw [c11_12]; decide) (by rw [c11_12] <;> rfl) (by decide) ?_
                refine lv_iload_n hx hb dX5_apply_181 rfl (lv_at hl 2 rfl) ?_
                refine lv_iload hx hb dX5_apply_182 (lv_at hl 0 rfl) ?_
                refine lv_aload hx hb dX5_apply_184 (lv_at hl 6 rfl) ?_
                refine lv_iload_n hx hb dX5_apply_186 rfl (lv_at hl 3 rfl) ?_
                refine va_lald hx hb hK hP 12 8 (xr_12 a k st) rfl hA dX5_apply_187 ?_
                refine lv_aload hx hb dX5_apply_188 (lv_at hl 6 rfl) ?_
                refine lv_iload_n hx hb dX5_apply_190 rfl (lv_at hl 4 rfl) ?_
                refine va_lald hx hb hK hP 12 8 (xr_12 a k st) rfl (hB (by first | (rw [c11_10]; decide) | (rw [c11_11]; decide) | (rw [c11_12]; decide))) dX5_apply_191 ?_
                refine wl_cl (va_runS (As := [.int o, .int (fx_Terms_widthOf st a1), .long (fL st 1 a1.toNatClampNeg), .long (fL st 1 b1.toNatClampNeg)]) (rest := []) ⟨hx, hb, hml, hown, hta⟩ (kx_Op_moved l o (fx_Terms_widthOf st a1) (fL st 1 a1.toNatClampNeg) (fL st 1 b1.toNatClampNeg)) (va_cwS 4 hta gX5_93 rfl rfl rfl (by decide +kernel) ⟨Nat.le_of_ble_eq_true rfl, Nat.le_of_ble_eq_true rfl⟩) preEq rfl rfl hl.1 rfl (lv_room (Nat.le_of_ble_eq_true rfl)) dX5_apply_192 ⟨Nat.zero_le _, Nat.zero_le _⟩) ?_
                exact W.lret (v := fx_Op_moved o (fx_Terms_widthOf st a1) (fL st 1 a1.toNatClampNeg) (fL st 1 b1.toNatClampNeg)) hx hb hr (fun t ht hW => ⟨_, rfl, hR, ht⟩) (fun q h => by cases h) dX5_apply_195
              · skip
                rw [if_neg c11_12] at hR
                by_cases c11_16 : o = (16 : Int32)
                · skip
                  rw [if_pos c11_16] at hR
                  refine lv_tableIn (tgt := 119) hx hb dX5_apply_11 (by rw [c11_16]; decide) (by rw [c11_16]; decide) (by rw [c11_16] <;> rfl) (by decide) ?_
                  refine lv_aload hx hb dX5_apply_119 (lv_at hl 6 rfl) ?_
                  refine lv_iload_n hx hb dX5_apply_121 rfl (lv_at hl 3 rfl) ?_
                  refine va_lald hx hb hK hP 12 8 (xr_12 a k st) rfl hA dX5_apply_122 ?_
                  refine lv_lconst (v := (0 : Int64)) hx hb dX5_apply_123 (by decide) ?_
                  refine W.lcmp hx hb dX5_apply_124 ?_
                  refine lv_if_eq (tgt := 135) hx hb dX5_apply_125 (by decide) (fun c125 => ?_) (fun c125 => ?_)
                  · skip
                    rw [if_pos c125] at hR
                    refine lv_aload hx hb dX5_apply_135 (lv_at hl 6 rfl) ?_
                    refine lv_iload hx hb dX5_apply_137 (lv_at hl 5 rfl) ?_
                    refine va_lald hx hb hK hP 12 8 (xr_12 a k st) rfl (hC c11_16) dX5_apply_139 ?_
                    exact W.lret (v := fL st 1 c1.toNatClampNeg) hx hb hr (fun t ht hW => ⟨_, rfl, hR, ht⟩) (fun q h => by cases h) dX5_apply_140
                  · skip
                    rw [if_neg c125] at hR
                    refine lv_aload hx hb dX5_apply_128 (lv_at hl 6 rfl) ?_
                    refine lv_iload_n hx hb dX5_apply_130 rfl (lv_at hl 4 rfl) ?_
                    refine va_lald hx hb hK hP 12 8 (xr_12 a k st) rfl (hB (by rw [c11_16]; decide)) dX5_apply_131 ?_
                    refine lv_goto (tgt := 140) hx hb dX5_apply_132 (by decide) ?_
                    exact W.lret (v := fL st 1 b1.toNatClampNeg) hx hb hr (fun t ht hW => ⟨_, rfl, hR, ht⟩) (fun q h => by cases h) dX5_apply_140
                · skip
                  rw [if_neg c11_16] at hR
                  by_cases c11_17 : o = (17 : Int32)
                  · skip
                    rw [if_pos c11_17] at hR
                    refine lv_tableIn (tgt := 141) hx hb dX5_apply_11 (by rw [c11_17]; decide) (by rw [c11_17]; decide) (by rw [c11_17] <;> rfl) (by decide) ?_
                    refine lv_iload_n hx hb dX5_apply_141 rfl (lv_at hl 2 rfl) ?_
                    refine lv_iload hx hb dX5_apply_142 (lv_at hl 0 rfl) ?_
                    refine lv_iload_n hx hb dX5_apply_144 rfl (lv_at hl 4 rfl) ?_
                    refine lv_aload hx hb dX5_apply_145 (lv_at hl 6 rfl) ?_
                    refine lv_iload_n hx hb dX5_apply_147 rfl (lv_at hl 3 rfl) ?_
                    refine va_lald hx hb hK hP 12 8 (xr_12 a k st) rfl hA dX5_apply_148 ?_
                    refine wl_cl (va_runS (As := [.int o, .int (fx_Terms_widthOf st a1), .int b1, .long (fL st 1 a1.toNatClampNeg)]) (rest := []) ⟨hx, hb, hml, hown, hta⟩ (kx_Op_resized l o (fx_Terms_widthOf st a1) b1 (fL st 1 a1.toNatClampNeg)) (va_cwS 4 hta gX5_79 rfl rfl rfl (by decide +kernel) ⟨Nat.le_of_ble_eq_true rfl, Nat.le_of_ble_eq_true rfl⟩) preEq rfl rfl hl.1 rfl (lv_room (Nat.le_of_ble_eq_true rfl)) dX5_apply_149 ⟨Nat.zero_le _, Nat.zero_le _⟩) ?_
                    exact W.lret (v := fx_Op_resized o (fx_Terms_widthOf st a1) b1 (fL st 1 a1.toNatClampNeg)) hx hb hr (fun t ht hW => ⟨_, rfl, hR, ht⟩) (fun q h => by cases h) dX5_apply_152
                  · skip
                    rw [if_neg c11_17] at hR
                    by_cases c11_18 : o = (18 : Int32)
                    · skip
                      rw [if_pos c11_18] at hR
                      refine lv_tableIn (tgt := 141) hx hb dX5_apply_11 (by rw [c11_18]; decide) (by rw [c11_18]; decide) (by rw [c11_18] <;> rfl) (by decide) ?_
                      refine lv_iload_n hx hb dX5_apply_141 rfl (lv_at hl 2 rfl) ?_
                      refine lv_iload hx hb dX5_apply_142 (lv_at hl 0 rfl) ?_
                      refine lv_iload_n hx hb dX5_apply_144 rfl (lv_at hl 4 rfl) ?_
                      refine lv_aload hx hb dX5_apply_145 (lv_at hl 6 rfl) ?_
                      refine lv_iload_n hx hb dX5_apply_147 rfl (lv_at hl 3 rfl) ?_
                      refine va_lald hx hb hK hP 12 8 (xr_12 a k st) rfl hA dX5_apply_148 ?_
                      refine wl_cl (va_runS (As := [.int o, .int (fx_Terms_widthOf st a1), .int b1, .long (fL st 1 a1.toNatClampNeg)]) (rest := []) ⟨hx, hb, hml, hown, hta⟩ (kx_Op_resized l o (fx_Terms_widthOf st a1) b1 (fL st 1 a1.toNatClampNeg)) (va_cwS 4 hta gX5_79 rfl rfl rfl (by decide +kernel) ⟨Nat.le_of_ble_eq_true rfl, Nat.le_of_ble_eq_true rfl⟩) preEq rfl rfl hl.1 rfl (lv_room (Nat.le_of_ble_eq_true rfl)) dX5_apply_149 ⟨Nat.zero_le _, Nat.zero_le _⟩) ?_
                      exact W.lret (v := fx_Op_resized o (fx_Terms_widthOf st a1) b1 (fL st 1 a1.toNatClampNeg)) hx hb hr (fun t ht hW => ⟨_, rfl, hR, ht⟩) (fun q h => by cases h) dX5_apply_152
                    · skip
                      rw [if_neg c11_18] at hR
                      by_cases c11_19 : o = (19 : Int32)
                      · skip
                        rw [if_pos c11_19] at hR
                        refine lv_tableIn (tgt := 141) hx hb dX5_apply_11 (by rw [c11_19]; decide) (by rw [c11_19]; decide) (by rw [c11_19] <;> rfl) (by decide) ?_
                        refine lv_iload_n hx hb dX5_apply_141 rfl (lv_at hl 2 rfl) ?_
                        refine lv_iload hx hb dX5_apply_142 (lv_at hl 0 rfl) ?_
                        refine lv_iload_n hx hb dX5_apply_144 rfl (lv_at hl 4 rfl) ?_
                        refine lv_aload hx hb dX5_apply_145 (lv_at hl 6 rfl) ?_
                        refine lv_iload_n hx hb dX5_apply_147 rfl (lv_at hl 3 rfl) ?_
                        refine va_lald hx hb hK hP 12 8 (xr_12 a k st) rfl hA dX5_apply_148 ?_
                        refine wl_cl (va_runS (As := [.int o, .int (fx_Terms_widthOf st a1), .int b1, .long (fL st 1 a1.toNatClampNeg)]) (rest := []) ⟨hx, hb, hml, hown, hta⟩ (kx_Op_resized l o (fx_Terms_widthOf st a1) b1 (fL st 1 a1.toNatClampNeg)) (va_cwS 4 hta gX5_79 rfl rfl rfl (by decide +kernel) ⟨Nat.le_of_ble_eq_true rfl, Nat.le_of_ble_eq_true rfl⟩) preEq rfl rfl hl.1 rfl (lv_room (Nat.le_of_ble_eq_true rfl)) dX5_apply_149 ⟨Nat.zero_le _, Nat.zero_le _⟩) ?_
                        exact W.lret (v := fx_Op_resized o (fx_Terms_widthOf st a1) b1 (fL st 1 a1.toNatClampNeg)) hx hb hr (fun t ht hW => ⟨_, rfl, hR, ht⟩) (fun q h => by cases h) dX5_apply_152
                      · skip
                        rw [if_neg c11_19] at hR
                        by_cases c11_20 : o = (20 : Int32)
                        · skip
                          rw [if_pos c11_20] at hR
                          refine lv_tableIn (tgt := 153) hx hb dX5_apply_11 (by rw [c11_20]; decide) (by rw [c11_20]; decide) (by rw [c11_20] <;> rfl) (by decide) ?_
                          refine lv_aload_n hx hb dX5_apply_153 rfl (lv_at hl 1 rfl) ?_
                          refine va_get (D := (dC, dI)) (ci := 3) (v := .ref (a 5)) (C := RX5) (T := TX5) (N := 5) hx hb hta inX5 hown hK hP 13 (xr_13 a k st) rfl 2 (by decide) hf17 (fun _ h9 => h9) rfl dX5_apply_154 ?_
                          refine lv_iload_n hx hb dX5_apply_157 rfl (lv_at hl 4 rfl) ?_
                          refine lv_aload hx hb dX5_apply_158 (lv_at hl 6 rfl) ?_
                          refine lv_iload_n hx hb dX5_apply_160 rfl (lv_at hl 3 rfl) ?_
                          refine va_lald hx hb hK hP 12 8 (xr_12 a k st) rfl hA dX5_apply_161 ?_
                          refine wl_cl (va_runV (As := [.int b1, .long (fL st 1 a1.toNatClampNeg)]) (rest := []) ⟨hx, hb, hml, hown, hta⟩ (kx_Tabs_lookUp l dC dI a k st b1 (fL st 1 a1.toNatClampNeg) (wl_lk (hT c11_20) _)) (cwV 2 hta gX5_83 rfl rfl rfl (by decide +kernel) ⟨Nat.le_of_ble_eq_true rfl, Nat.le_of_ble_eq_true rfl⟩) (wl_pR (C := RX3) (ci := 1) (q0 := 5) hK hP rfl (xr_5 a k st)) rfl rfl hl.1 rfl (lv_room (Nat.le_of_ble_eq_true rfl)) dX5_apply_162 ⟨Nat.zero_le _, Nat.zero_le _⟩) ?_
                          exact W.lret (v := fx_Tabs_lookUp st b1 (fL st 1 a1.toNatClampNeg)) hx hb hr (fun t ht hW => ⟨_, rfl, hR, ht⟩) (fun q h => by cases h) dX5_apply_165
                        · skip
                          rw [if_neg c11_20] at hR
                          have t11_0 := lv_neT (a := 0) c11_0 (by decide)
                          have t11_1 := lv_neT (a := 1) c11_1 (by decide)
                          have t11_8 := lv_neT (a := 8) c11_8 (by decide)
                          have t11_9 := lv_neT (a := 9) c11_9 (by decide)
                          have t11_10 := lv_neT (a := 10) c11_10 (by decide)
                          have t11_11 := lv_neT (a := 11) c11_11 (by decide)
                          have t11_12 := lv_neT (a := 12) c11_12 (by decide)
                          have t11_16 := lv_neT (a := 16) c11_16 (by decide)
                          have t11_17 := lv_neT (a := 17) c11_17 (by decide)
                          have t11_18 := lv_neT (a := 18) c11_18 (by decide)
                          have t11_19 := lv_neT (a := 19) c11_19 (by decide)
                          have t11_20 := lv_neT (a := 20) c11_20 (by decide)
                          refine wl_tabD (tgt := 196) (ks := [0, 1, 8, 9, 10, 11, 12, 16, 17, 18, 19, 20]) hx hb dX5_apply_11 (by decide) (by decide +kernel) (by intro k hk; simp only [List.mem_cons, List.not_mem_nil, or_false] at hk; rcases hk with rfl | rfl | rfl | rfl | rfl | rfl | rfl | rfl | rfl | rfl | rfl | rfl <;> assumption) (by decide) ?_
                          refine lv_iload_n hx hb dX5_apply_196 rfl (lv_at hl 2 rfl) ?_
                          refine lv_iload hx hb dX5_apply_197 (lv_at hl 0 rfl) ?_
                          refine lv_aload hx hb dX5_apply_199 (lv_at hl 6 rfl) ?_
                          refine lv_iload_n hx hb dX5_apply_201 rfl (lv_at hl 3 rfl) ?_
                          refine va_lald hx hb hK hP 12 8 (xr_12 a k st) rfl hA dX5_apply_202 ?_
                          refine lv_aload hx hb dX5_apply_203 (lv_at hl 6 rfl) ?_
                          refine lv_iload_n hx hb dX5_apply_205 rfl (lv_at hl 4 rfl) ?_
                          refine va_lald hx hb hK hP 12 8 (xr_12 a k st) rfl (hB (fun h => by rcases h with h | h | h | h | h | h <;> contradiction)) dX5_apply_206 ?_
                          refine wl_cl (va_runS (As := [.int o, .int (fx_Terms_widthOf st a1), .long (fL st 1 a1.toNatClampNeg), .long (fL st 1 b1.toNatClampNeg)]) (rest := []) ⟨hx, hb, hml, hown, hta⟩ (kx_Op_ofTwo l o (fx_Terms_widthOf st a1) (fL st 1 a1.toNatClampNeg) (fL st 1 b1.toNatClampNeg)) (va_cwS 4 hta gX5_96 rfl rfl rfl (by decide +kernel) ⟨Nat.le_of_ble_eq_true rfl, Nat.le_of_ble_eq_true rfl⟩) preEq rfl rfl hl.1 rfl (lv_room (Nat.le_of_ble_eq_true rfl)) dX5_apply_207 ⟨Nat.zero_le _, Nat.zero_le _⟩) ?_
                          exact W.lret (v := fx_Op_ofTwo o (fx_Terms_widthOf st a1) (fL st 1 a1.toNatClampNeg) (fL st 1 b1.toNatClampNeg)) hx hb hr (fun t ht hW => ⟨_, rfl, hR, ht⟩) (fun q h => by cases h) dX5_apply_210

theorem mw_360 : (.code yX4_constants cX4_constants 1 (some (.array .long)) : Cond) ∈ AW := List.mem_filter.mpr ⟨List.mem_of_getElem? (i := 360) (by decide +kernel), rfl⟩
theorem mw_357 : (.methodLink RX5 58 yX4_constants : Cond) ∈ AW := List.mem_filter.mpr ⟨List.mem_of_getElem? (i := 357) (by decide +kernel), rfl⟩
theorem mw_358 : (.instanceMethod yX4_constants : Cond) ∈ AW := List.mem_filter.mpr ⟨List.mem_of_getElem? (i := 358) (by decide +kernel), rfl⟩
theorem mw_359 : (.selects RX4 yX4_constants yX4_constants : Cond) ∈ AW := List.mem_filter.mpr ⟨List.mem_of_getElem? (i := 359) (by decide +kernel), rfl⟩
theorem mw_364 : (.code yX5_apply cX5_apply 7 (some .long) : Cond) ∈ AW := List.mem_filter.mpr ⟨List.mem_of_getElem? (i := 364) (by decide +kernel), rfl⟩
theorem mw_361 : (.methodLink RX5 68 yX5_apply : Cond) ∈ AW := List.mem_filter.mpr ⟨List.mem_of_getElem? (i := 361) (by decide +kernel), rfl⟩
theorem mw_363 : (.instanceMethod yX5_apply : Cond) ∈ AW := List.mem_filter.mpr ⟨List.mem_of_getElem? (i := 363) (by decide +kernel), rfl⟩
theorem mw_3 : (.selects RX5 yX5_apply yX5_apply : Cond) ∈ AW := List.mem_filter.mpr ⟨List.mem_of_getElem? (i := 3) (by decide +kernel), rfl⟩
theorem gX5_58 : GoodIn AW (wsV RX5 58 RX4 yX4_constants wsX4_constants) := aw_V mw_357 mw_358 mw_359 mw_41 mw_360
theorem gX5_68 : GoodIn AW (wsV RX5 68 RX5 yX5_apply wsX5_apply) := aw_V mw_361 mw_363 mw_3 mw_42 mw_364
theorem dX5_applyToConstants_0 : decode cX5_applyToConstants 0 = .ok (.aload_n 0, 1) := by decide +kernel
theorem dX5_applyToConstants_1 : decode cX5_applyToConstants 1 = .ok (.iload_n 1, 1) := by decide +kernel
theorem dX5_applyToConstants_2 : decode cX5_applyToConstants 2 = .ok (.iload_n 2, 1) := by decide +kernel
theorem dX5_applyToConstants_3 : decode cX5_applyToConstants 3 = .ok (.iload_n 3, 1) := by decide +kernel
theorem dX5_applyToConstants_4 : decode cX5_applyToConstants 4 = .ok (.iload 4, 2) := by decide +kernel
theorem dX5_applyToConstants_6 : decode cX5_applyToConstants 6 = .ok (.aload_n 0, 1) := by decide +kernel
theorem dX5_applyToConstants_7 : decode cX5_applyToConstants 7 = .ok (.getfield 7, 3) := by decide +kernel
theorem dX5_applyToConstants_10 : decode cX5_applyToConstants 10 = .ok (.invokevirtual 58, 3) := by decide +kernel
theorem dX5_applyToConstants_13 : decode cX5_applyToConstants 13 = .ok (.invokevirtual 68, 3) := by decide +kernel
theorem dX5_applyToConstants_16 : decode cX5_applyToConstants 16 = .ok (.lreturn, 1) := by decide +kernel
def fx_Eval_applyToConstants (st : XS) (o : Int32) (a1 : Int32) (b1 : Int32) (c1 : Int32) : Int64 := fx_Eval_apply_c st o a1 b1 c1
set_option maxHeartbeats 4000000 in
set_option maxRecDepth 100000 in
theorem kx_Eval_applyToConstants (l : Launch) (dC : Nat → ClassId) (dI : Nat → Nat → Nat) (a : Nat → Nat) (k : Nat → ClassId) (st : XS) (o : Int32) (a1 : Int32) (b1 : Int32) (c1 : Int32) (hA : vp_in a1 64) (hB : ¬ (o = 0 ∨ o = 1 ∨ o = 17 ∨ o = 18 ∨ o = 19 ∨ o = 20) → vp_in b1 64) (hC : o = 16 → vp_in c1 64) (hT : o = 20 → vp_in b1 2) (hV : o = 8 ∨ o = 9 → ¬ fL st 1 b1.toNatClampNeg = 0 → ¬ fx_Width_readPlain (fx_Terms_widthOf st a1) (fL st 1 b1.toNatClampNeg) = 0) : Met l yX5_applyToConstants wsX5_applyToConstants ({ frames := 3, cells := 0, slots := 0, locals := 80 }) (va_Pc [.ref (a 13), .int o, .int a1, .int b1, .int c1] (wl_prR (dC, dI) vwCl (xt k) (xw a k st))) (vp_Sl (fun r9 => r9 = fx_Eval_applyToConstants st o a1 b1 c1)) 0 0 (fun _ => False) := by
  refine Met.ofW (cc := cX5_applyToConstants) (maxL := 5) (ret := (some .long)) (by decide) rfl ?_
  intro p e s m args below meth c s₁ B hml hv
  obtain ⟨rfl, hP, hK⟩ := hv
  have hx := B.exec
  have hb := B.bytes
  have hr := B.returns
  have hta := aw_hts (atoms_spec (ws := wsX5_applyToConstants) B.pre)
  have hown : s.vm.findClass RX5 = some m.cls := findClass_of_methodNamed B.named
  have hlocks := B.notSynchronized
  have hf7 := hta _ mw_127
  have hl := lv_entry ([.ref (a 13), .int o, .int a1, .int b1, .int c1]) (n := 5) (Nat.le_of_ble_eq_true rfl)
  rw [lg_entry_eq]
  generalize (lg_sl ([.ref (a 13), .int o, .int a1, .int b1, .int c1]) ++ List.replicate (5 - (lg_sl ([.ref (a 13), .int o, .int a1, .int b1, .int c1])).length) Slot.unset).toArray = ls at hl ⊢
  have hl : lv_has ls 5 [(0, .ref (a 13)), (1, .int o), (2, .int a1), (3, .int b1), (4, .int c1)] := hl
  generalize hR : fx_Eval_applyToConstants st o a1 b1 c1 = R
  rw [fx_Eval_applyToConstants] at hR
  refine lv_aload_n hx hb dX5_applyToConstants_0 rfl (lv_at hl 0 rfl) ?_
  refine lv_iload_n hx hb dX5_applyToConstants_1 rfl (lv_at hl 1 rfl) ?_
  refine lv_iload_n hx hb dX5_applyToConstants_2 rfl (lv_at hl 2 rfl) ?_
  refine lv_iload_n hx hb dX5_applyToConstants_3 rfl (lv_at hl 3 rfl) ?_
  refine lv_iload hx hb dX5_applyToConstants_4 (lv_at hl 4 rfl) ?_
  refine lv_aload_n hx hb dX5_applyToConstants_6 rfl (lv_at hl 0 rfl) ?_
  refine va_get (D := (dC, dI)) (ci := 3) (v := .ref (a 7)) (C := RX5) (T := TX5) (N := 5) hx hb hta inX5 hown hK hP 13 (xr_13 a k st) rfl 0 (by decide) hf7 (fun _ h9 => h9) rfl dX5_applyToConstants_7 ?_
  refine wl_cr (va_runV (As := []) (rest := [.int c1, .int b1, .int a1, .int o, .ref (a 13)]) ⟨hx, hb, hml, hown, hta⟩ (kx_Terms_constants l dC dI a k st) (cwV 0 hta gX5_58 rfl rfl rfl (by decide +kernel) ⟨Nat.le_of_ble_eq_true rfl, Nat.le_of_ble_eq_true rfl⟩) (wl_pR (C := RX4) (ci := 2) (q0 := 7) hK hP rfl (xr_7 a k st)) rfl rfl hl.1 rfl (lv_room (Nat.le_of_ble_eq_true rfl)) dX5_applyToConstants_10 ⟨Nat.zero_le _, Nat.zero_le _⟩) ?_
  refine wl_cl (va_runV (As := [.int o, .int a1, .int b1, .int c1, .ref (a 12)]) (rest := []) ⟨hx, hb, hml, hown, hta⟩ (kx_Eval_apply_c l dC dI a k st o a1 b1 c1 hA hB hC hT hV) (cwV 5 hta gX5_68 rfl rfl rfl (by decide +kernel) ⟨Nat.le_of_ble_eq_true rfl, Nat.le_of_ble_eq_true rfl⟩) (wl_pR (C := RX5) (ci := 3) (q0 := 13) hK hP rfl (xr_13 a k st)) rfl rfl hl.1 rfl (lv_room (Nat.le_of_ble_eq_true rfl)) dX5_applyToConstants_13 ⟨Nat.zero_le _, Nat.zero_le _⟩) ?_
  exact W.lret (v := fx_Eval_apply_c st o a1 b1 c1) hx hb hr (fun t ht hW => ⟨_, rfl, hR, ht⟩) (fun q h => by cases h) dX5_applyToConstants_16
