theorem mw_128 : (.fieldLink RX5 13 RX5 "variables" "LPathSolver$Variables;" : Cond) ∈ AW := List.mem_filter.mpr ⟨List.mem_of_getElem? (i := 128) (by decide +kernel), rfl⟩
theorem mw_519 : (.code yX2_readAt cX2_readAt 3 (some .long) : Cond) ∈ AW := List.mem_filter.mpr ⟨List.mem_of_getElem? (i := 519) (by decide +kernel), rfl⟩
theorem mw_516 : (.methodLink RX5 62 yX2_readAt : Cond) ∈ AW := List.mem_filter.mpr ⟨List.mem_of_getElem? (i := 516) (by decide +kernel), rfl⟩
theorem mw_517 : (.instanceMethod yX2_readAt : Cond) ∈ AW := List.mem_filter.mpr ⟨List.mem_of_getElem? (i := 517) (by decide +kernel), rfl⟩
theorem mw_518 : (.selects RX2 yX2_readAt yX2_readAt : Cond) ∈ AW := List.mem_filter.mpr ⟨List.mem_of_getElem? (i := 518) (by decide +kernel), rfl⟩
theorem gX5_62 : GoodIn AW (wsV RX5 62 RX2 yX2_readAt wsX2_readAt) := aw_V mw_516 mw_517 mw_518 mw_39 mw_519
theorem dX5_evaluateNeeded_0 : decode cX5_evaluateNeeded 0 = .ok (.aload_n 0, 1) := by decide +kernel
theorem dX5_evaluateNeeded_1 : decode cX5_evaluateNeeded 1 = .ok (.getfield 7, 3) := by decide +kernel
theorem dX5_evaluateNeeded_4 : decode cX5_evaluateNeeded 4 = .ok (.invokevirtual 41, 3) := by decide +kernel
theorem dX5_evaluateNeeded_7 : decode cX5_evaluateNeeded 7 = .ok (.istore_n 2, 1) := by decide +kernel
theorem dX5_evaluateNeeded_8 : decode cX5_evaluateNeeded 8 = .ok (.iconst 0, 1) := by decide +kernel
theorem dX5_evaluateNeeded_9 : decode cX5_evaluateNeeded 9 = .ok (.istore_n 3, 1) := by decide +kernel
theorem dX5_evaluateNeeded_10 : decode cX5_evaluateNeeded 10 = .ok (.iload_n 3, 1) := by decide +kernel
theorem dX5_evaluateNeeded_11 : decode cX5_evaluateNeeded 11 = .ok (.iload_n 2, 1) := by decide +kernel
theorem dX5_evaluateNeeded_12 : decode cX5_evaluateNeeded 12 = .ok (.if_icmp .ge 133, 3) := by decide +kernel
theorem dX5_evaluateNeeded_15 : decode cX5_evaluateNeeded 15 = .ok (.aload_n 0, 1) := by decide +kernel
theorem dX5_evaluateNeeded_16 : decode cX5_evaluateNeeded 16 = .ok (.getfield 27, 3) := by decide +kernel
theorem dX5_evaluateNeeded_19 : decode cX5_evaluateNeeded 19 = .ok (.iload_n 3, 1) := by decide +kernel
theorem dX5_evaluateNeeded_20 : decode cX5_evaluateNeeded 20 = .ok (.baload, 1) := by decide +kernel
theorem dX5_evaluateNeeded_21 : decode cX5_evaluateNeeded 21 = .ok (.ifCond .ne 6, 3) := by decide +kernel
theorem dX5_evaluateNeeded_24 : decode cX5_evaluateNeeded 24 = .ok (.goto 115, 3) := by decide +kernel
theorem dX5_evaluateNeeded_27 : decode cX5_evaluateNeeded 27 = .ok (.aload_n 0, 1) := by decide +kernel
theorem dX5_evaluateNeeded_28 : decode cX5_evaluateNeeded 28 = .ok (.getfield 7, 3) := by decide +kernel
theorem dX5_evaluateNeeded_31 : decode cX5_evaluateNeeded 31 = .ok (.iload_n 3, 1) := by decide +kernel
theorem dX5_evaluateNeeded_32 : decode cX5_evaluateNeeded 32 = .ok (.invokevirtual 45, 3) := by decide +kernel
theorem dX5_evaluateNeeded_35 : decode cX5_evaluateNeeded 35 = .ok (.istore 4, 2) := by decide +kernel
theorem dX5_evaluateNeeded_37 : decode cX5_evaluateNeeded 37 = .ok (.aload_n 0, 1) := by decide +kernel
theorem dX5_evaluateNeeded_38 : decode cX5_evaluateNeeded 38 = .ok (.getfield 7, 3) := by decide +kernel
theorem dX5_evaluateNeeded_41 : decode cX5_evaluateNeeded 41 = .ok (.iload_n 3, 1) := by decide +kernel
theorem dX5_evaluateNeeded_42 : decode cX5_evaluateNeeded 42 = .ok (.iconst 0, 1) := by decide +kernel
theorem dX5_evaluateNeeded_43 : decode cX5_evaluateNeeded 43 = .ok (.invokevirtual 54, 3) := by decide +kernel
theorem dX5_evaluateNeeded_46 : decode cX5_evaluateNeeded 46 = .ok (.istore 5, 2) := by decide +kernel
theorem dX5_evaluateNeeded_48 : decode cX5_evaluateNeeded 48 = .ok (.iload 4, 2) := by decide +kernel
theorem dX5_evaluateNeeded_50 : decode cX5_evaluateNeeded 50 = .ok (.bipush 21, 2) := by decide +kernel
theorem dX5_evaluateNeeded_52 : decode cX5_evaluateNeeded 52 = .ok (.if_icmp .ne 21, 3) := by decide +kernel
theorem dX5_evaluateNeeded_55 : decode cX5_evaluateNeeded 55 = .ok (.aload_n 0, 1) := by decide +kernel
theorem dX5_evaluateNeeded_56 : decode cX5_evaluateNeeded 56 = .ok (.getfield 23, 3) := by decide +kernel
theorem dX5_evaluateNeeded_59 : decode cX5_evaluateNeeded 59 = .ok (.iload_n 3, 1) := by decide +kernel
theorem dX5_evaluateNeeded_60 : decode cX5_evaluateNeeded 60 = .ok (.aload_n 0, 1) := by decide +kernel
theorem dX5_evaluateNeeded_61 : decode cX5_evaluateNeeded 61 = .ok (.getfield 7, 3) := by decide +kernel
theorem dX5_evaluateNeeded_64 : decode cX5_evaluateNeeded 64 = .ok (.invokevirtual 58, 3) := by decide +kernel
theorem dX5_evaluateNeeded_67 : decode cX5_evaluateNeeded 67 = .ok (.iload_n 3, 1) := by decide +kernel
theorem dX5_evaluateNeeded_68 : decode cX5_evaluateNeeded 68 = .ok (.laload, 1) := by decide +kernel
theorem dX5_evaluateNeeded_69 : decode cX5_evaluateNeeded 69 = .ok (.lastore, 1) := by decide +kernel
theorem dX5_evaluateNeeded_70 : decode cX5_evaluateNeeded 70 = .ok (.goto 69, 3) := by decide +kernel
theorem dX5_evaluateNeeded_73 : decode cX5_evaluateNeeded 73 = .ok (.iload 4, 2) := by decide +kernel
theorem dX5_evaluateNeeded_75 : decode cX5_evaluateNeeded 75 = .ok (.bipush 22, 2) := by decide +kernel
theorem dX5_evaluateNeeded_77 : decode cX5_evaluateNeeded 77 = .ok (.if_icmp .ne 22, 3) := by decide +kernel
theorem dX5_evaluateNeeded_80 : decode cX5_evaluateNeeded 80 = .ok (.aload_n 0, 1) := by decide +kernel
theorem dX5_evaluateNeeded_81 : decode cX5_evaluateNeeded 81 = .ok (.getfield 23, 3) := by decide +kernel
theorem dX5_evaluateNeeded_84 : decode cX5_evaluateNeeded 84 = .ok (.iload_n 3, 1) := by decide +kernel
theorem dX5_evaluateNeeded_85 : decode cX5_evaluateNeeded 85 = .ok (.aload_n 0, 1) := by decide +kernel
theorem dX5_evaluateNeeded_86 : decode cX5_evaluateNeeded 86 = .ok (.getfield 13, 3) := by decide +kernel
theorem dX5_evaluateNeeded_89 : decode cX5_evaluateNeeded 89 = .ok (.iload 5, 2) := by decide +kernel
theorem dX5_evaluateNeeded_91 : decode cX5_evaluateNeeded 91 = .ok (.iload_n 1, 1) := by decide +kernel
theorem dX5_evaluateNeeded_92 : decode cX5_evaluateNeeded 92 = .ok (.invokevirtual 62, 3) := by decide +kernel
theorem dX5_evaluateNeeded_95 : decode cX5_evaluateNeeded 95 = .ok (.lastore, 1) := by decide +kernel
theorem dX5_evaluateNeeded_96 : decode cX5_evaluateNeeded 96 = .ok (.goto 43, 3) := by decide +kernel
theorem dX5_evaluateNeeded_99 : decode cX5_evaluateNeeded 99 = .ok (.aload_n 0, 1) := by decide +kernel
theorem dX5_evaluateNeeded_100 : decode cX5_evaluateNeeded 100 = .ok (.getfield 7, 3) := by decide +kernel
theorem dX5_evaluateNeeded_103 : decode cX5_evaluateNeeded 103 = .ok (.iload_n 3, 1) := by decide +kernel
theorem dX5_evaluateNeeded_104 : decode cX5_evaluateNeeded 104 = .ok (.iconst 1, 1) := by decide +kernel
theorem dX5_evaluateNeeded_105 : decode cX5_evaluateNeeded 105 = .ok (.invokevirtual 54, 3) := by decide +kernel
theorem dX5_evaluateNeeded_108 : decode cX5_evaluateNeeded 108 = .ok (.istore 6, 2) := by decide +kernel
theorem dX5_evaluateNeeded_110 : decode cX5_evaluateNeeded 110 = .ok (.aload_n 0, 1) := by decide +kernel
theorem dX5_evaluateNeeded_111 : decode cX5_evaluateNeeded 111 = .ok (.getfield 23, 3) := by decide +kernel
theorem dX5_evaluateNeeded_114 : decode cX5_evaluateNeeded 114 = .ok (.iload_n 3, 1) := by decide +kernel
theorem dX5_evaluateNeeded_115 : decode cX5_evaluateNeeded 115 = .ok (.aload_n 0, 1) := by decide +kernel
theorem dX5_evaluateNeeded_116 : decode cX5_evaluateNeeded 116 = .ok (.iload 4, 2) := by decide +kernel
theorem dX5_evaluateNeeded_118 : decode cX5_evaluateNeeded 118 = .ok (.iload 5, 2) := by decide +kernel
theorem dX5_evaluateNeeded_120 : decode cX5_evaluateNeeded 120 = .ok (.iload 6, 2) := by decide +kernel
theorem dX5_evaluateNeeded_122 : decode cX5_evaluateNeeded 122 = .ok (.aload_n 0, 1) := by decide +kernel
theorem dX5_evaluateNeeded_123 : decode cX5_evaluateNeeded 123 = .ok (.getfield 7, 3) := by decide +kernel
theorem dX5_evaluateNeeded_126 : decode cX5_evaluateNeeded 126 = .ok (.iload_n 3, 1) := by decide +kernel
theorem dX5_evaluateNeeded_127 : decode cX5_evaluateNeeded 127 = .ok (.iconst 2, 1) := by decide +kernel
theorem dX5_evaluateNeeded_128 : decode cX5_evaluateNeeded 128 = .ok (.invokevirtual 54, 3) := by decide +kernel
theorem dX5_evaluateNeeded_131 : decode cX5_evaluateNeeded 131 = .ok (.aload_n 0, 1) := by decide +kernel
theorem dX5_evaluateNeeded_132 : decode cX5_evaluateNeeded 132 = .ok (.getfield 23, 3) := by decide +kernel
theorem dX5_evaluateNeeded_135 : decode cX5_evaluateNeeded 135 = .ok (.invokevirtual 68, 3) := by decide +kernel
theorem dX5_evaluateNeeded_138 : decode cX5_evaluateNeeded 138 = .ok (.lastore, 1) := by decide +kernel
theorem dX5_evaluateNeeded_139 : decode cX5_evaluateNeeded 139 = .ok (.iinc 3 1, 3) := by decide +kernel
theorem dX5_evaluateNeeded_142 : decode cX5_evaluateNeeded 142 = .ok (.goto (-132), 3) := by decide +kernel
theorem dX5_evaluateNeeded_145 : decode cX5_evaluateNeeded 145 = .ok (.return_, 1) := by decide +kernel
def fx_Eval_evaluateNeeded_L10 (st : XS) (asg : Int32) : Nat → Nat → XS → XS
  | 0, i, S1 => S1
  | n + 1, i, S1 => 
    if fx_Terms_size st ≤ nI i then S1
    else 
      if fA S1 7 (nI i).toNatClampNeg = (0 : Int32) then fx_Eval_evaluateNeeded_L10 st asg n (i + 1) S1
      else 
        if fx_Terms_operationOf S1 (nI i) = (21 : Int32) then fx_Eval_evaluateNeeded_L10 st asg n (i + 1) (wL S1 2 ((nI i).toNatClampNeg) (fL S1 1 (nI i).toNatClampNeg))
        else 
          if fx_Terms_operationOf S1 (nI i) = (22 : Int32) then fx_Eval_evaluateNeeded_L10 st asg n (i + 1) (wL S1 2 ((nI i).toNatClampNeg) (fx_Vars_readAt S1 (fx_Terms_operandOf S1 (nI i) (0 : Int32)) asg))
          else fx_Eval_evaluateNeeded_L10 st asg n (i + 1) (wL S1 2 ((nI i).toNatClampNeg) (fx_Eval_apply_r S1 (fx_Terms_operationOf S1 (nI i)) (fx_Terms_operandOf S1 (nI i) (0 : Int32)) (fx_Terms_operandOf S1 (nI i) (1 : Int32)) (fx_Terms_operandOf S1 (nI i) (2 : Int32))))
def fx_Eval_evaluateNeeded (st : XS) (asg : Int32) : XS := fx_Eval_evaluateNeeded_L10 st asg 65 0 st
theorem fr_Eval_evaluateNeeded_L10 {S0 : XS} (st : XS) (asg : Int32) : ∀ (n : Nat) (i : Nat) (S1 : XS), XF [] [] [2] S0 S1 → XF [] [] [2] S0 (fx_Eval_evaluateNeeded_L10 st asg n i S1) := by
  intro n
  induction n with
  | zero => intro i S1 h; exact h
  | succ n ih =>
    intro i S1 h
    rw [fx_Eval_evaluateNeeded_L10]
    exact (wl_ite (P := fun (q : XS) => XF [] [] [2] _ (q)) h (wl_ite (P := fun (q : XS) => XF [] [] [2] _ (q)) (ih _ _ h) (wl_ite (P := fun (q : XS) => XF [] [] [2] _ (q)) (ih _ _ (XF.wL (by decide) h)) (wl_ite (P := fun (q : XS) => XF [] [] [2] _ (q)) (ih _ _ (XF.wL (by decide) h)) (ih _ _ (XF.wL (by decide) h))))))
theorem ff_Eval_evaluateNeeded (st : XS) (asg : Int32) : XF [] [] [2] st (fx_Eval_evaluateNeeded st asg) := by
  rw [fx_Eval_evaluateNeeded]
  exact (fr_Eval_evaluateNeeded_L10 _ _ _ _ _ XF.rf)
set_option maxHeartbeats 4000000 in
set_option maxRecDepth 100000 in
theorem kx_Eval_evaluateNeeded (l : Launch) (dC : Nat → ClassId) (dI : Nat → Nat → Nat) (a : Nat → Nat) (k : Nat → ClassId) (st : XS) (asg : Int32) (sz : Nat) (N : Nat) (hN : gI st 6 = nI N) (h64 : N ≤ 64) (V : Nat) (hV4 : V ≤ 4) (hX : XT st V N) (hM0 : XM st N) : Met l yX5_evaluateNeeded wsX5_evaluateNeeded ({ frames := 3, cells := 0, slots := 0, locals := 80 }) (va_Pc [.ref (a 13), .int asg] (wl_pre (dC, dI) vwCl (xt k) (xw a k) st sz)) (va_Qv (fun u9 => u9 = fx_Eval_evaluateNeeded st asg) (wl_at (dC, dI) vwCl (xt k) (xw a k) (va_A (xw a k st) sz)) (va_A (xw a k st) sz)) 0 0 (va_A (xw a k st) sz) := by
  refine Met.ofW (cc := cX5_evaluateNeeded) (maxL := 7) (ret := none) (by decide) rfl ?_
  intro p e s m args below meth c s₁ B hml hv
  obtain ⟨rfl, hsz, hP, hK, hD0⟩ := hv
  have hx := B.exec
  have hb := B.bytes
  have hr := B.returns
  have hta := aw_hts (atoms_spec (ws := wsX5_evaluateNeeded) B.pre)
  have hown : s.vm.findClass RX5 = some m.cls := findClass_of_methodNamed B.named
  have hlocks := B.notSynchronized
  have hf7 := hta _ mw_127
  have hf27 := hta _ mw_131
  have hf23 := hta _ mw_130
  have hf13 := hta _ mw_128
  subst hsz
  have hD := hD0.self (sz := s.heap.size)
  generalize hAe : va_A (xw a k st) s.heap.size = A at hD ⊢
  have hAz : ∀ q : Nat, s.heap.size ≤ q → A q := fun q h => by rw [← hAe]; exact Or.inr h
  have hS : va_S A s.heap s.heap [] := va_S.rf
  have hl := lv_entry ([.ref (a 13), .int asg]) (n := 7) (Nat.le_of_ble_eq_true rfl)
  rw [lg_entry_eq]
  generalize (lg_sl ([.ref (a 13), .int asg]) ++ List.replicate (7 - (lg_sl ([.ref (a 13), .int asg])).length) Slot.unset).toArray = ls at hl ⊢
  have hl : lv_has ls 7 [(0, .ref (a 13)), (1, .int asg)] := hl
  generalize hR : fx_Eval_evaluateNeeded st asg = R
  rw [fx_Eval_evaluateNeeded] at hR
  refine lv_aload_n hx hb dX5_evaluateNeeded_0 rfl (lv_at hl 0 rfl) ?_
  refine va_get (D := (dC, dI)) (ci := 3) (v := .ref (a 7)) (C := RX5) (T := TX5) (N := 5) hx hb hta inX5 hown hK hP 13 (xr_13 a k st) rfl 0 (by decide) hf7 (fun _ h9 => h9) rfl dX5_evaluateNeeded_1 ?_
  refine wl_ci (va_runV (As := []) (rest := []) ⟨hx, hb, hml, hown, hta⟩ (kx_Terms_size l dC dI a k st) (cwV 0 hta gX5_41 rfl rfl rfl (by decide +kernel) ⟨Nat.le_of_ble_eq_true rfl, Nat.le_of_ble_eq_true rfl⟩) (wl_pR (C := RX4) (ci := 2) (q0 := 7) hK hP rfl (xr_7 a k st)) rfl rfl hl.1 rfl (lv_room (Nat.le_of_ble_eq_true rfl)) dX5_evaluateNeeded_4 ⟨Nat.zero_le _, Nat.zero_le _⟩) ?_
  refine lv_istore_n (lv' := [(2, .int (fx_Terms_size st)), (0, .ref (a 13)), (1, .int asg)]) hx hb dX5_evaluateNeeded_7 rfl hl (by decide) rfl (fun ls hl => ?_)
  refine lv_iconst (v := (0 : Int32)) hx hb dX5_evaluateNeeded_8 (by decide) ?_
  refine lv_istore_n (lv' := [(3, .int (0 : Int32)), (2, .int (fx_Terms_size st)), (0, .ref (a 13)), (1, .int asg)]) hx hb dX5_evaluateNeeded_9 rfl hl (by decide) rfl (fun ls hl => ?_)
  have L10 : ∀ (n : Nat) (i : Nat) (S1 : XS) (H : Heap) (locs : List Loc) (ls : Array Slot), fx_Eval_evaluateNeeded_L10 st asg n i S1 = R → (i ≤ N) → (XF [] [] [2] st S1) → (XM S1 N) → N - i < n → va_P (dC, dI) vwCl (xw a k S1) H → va_D A (xw a k S1) → va_S A s.heap H locs → lv_has ls 7 [(3, .int (nI i)), (2, .int (fx_Terms_size st)), (0, .ref (a 13)), (1, .int asg)] → W p l e (headSpec wsX5_evaluateNeeded ({ frames := 3, cells := 0, slots := 0, locals := 80 })).room s m ([.ref (a 13), .int asg] : List Value).toArray below meth c H locs 0 0 (MQ below (va_Qv (fun u9 => u9 = R) (wl_at (dC, dI) vwCl (xt k) (xw a k) A) A) ([.ref (a 13), .int asg] : List Value).toArray s 0 0 A) (F0 m 10 ls []) := by
    intro n
    induction n with
    | zero =>
      intro i S1 H locs ls hR hi hE hM hm hP hD hS hl
      exact absurd hm (Nat.not_lt_zero _)
    | succ n ih =>
      intro i S1 H locs ls hR hi hE hM hm hP hD hS hl
      rw [fx_Eval_evaluateNeeded_L10] at hR
      refine lv_iload_n hx hb dX5_evaluateNeeded_10 rfl (lv_at hl 0 rfl) ?_
      refine lv_iload_n hx hb dX5_evaluateNeeded_11 rfl (lv_at hl 1 rfl) ?_
      refine lv_icmp_ge (tgt := 145) hx hb dX5_evaluateNeeded_12 (by decide) (fun c12 => ?_) (fun c12 => ?_)
      · skip
        rw [if_pos c12] at hR
        exact W.vret hx hb hr (fun t ht hW => ⟨⟨_, rfl, hR, by rw [ht]; exact hP, va_K.moved hW.alike hK, hD⟩, hS.F ht⟩) hS.2.2 dX5_evaluateNeeded_145
      · skip
        rw [if_neg c12] at hR
        have hlt : i < N := wl_lt (by rw [← hN]; exact c12) (by omega)
        refine lv_aload_n hx hb dX5_evaluateNeeded_15 rfl (lv_at hl 2 rfl) ?_
        refine va_get (D := (dC, dI)) (ci := 3) (v := .ref (a 15)) (C := RX5) (T := TX5) (N := 5) hx hb hta inX5 hown hK hP 13 (xr_13 a k S1) rfl 4 (by decide) hf27 (fun _ h9 => h9) rfl dX5_evaluateNeeded_16 ?_
        refine lv_iload_n hx hb dX5_evaluateNeeded_19 rfl (lv_at hl 0 rfl) ?_
        refine va_zald hx hb hK hP 15 10 (xr_15 a k S1) rfl (wl_in (by omega) (by decide)) dX5_evaluateNeeded_20 ?_
        refine lv_if_ne (tgt := 27) hx hb dX5_evaluateNeeded_21 (by decide) (fun c21 => ?_) (fun c21 => ?_)
        · skip
          rw [if_neg c21] at hR
          refine lv_aload_n hx hb dX5_evaluateNeeded_27 rfl (lv_at hl 2 rfl) ?_
          refine va_get (D := (dC, dI)) (ci := 3) (v := .ref (a 7)) (C := RX5) (T := TX5) (N := 5) hx hb hta inX5 hown hK hP 13 (xr_13 a k S1) rfl 0 (by decide) hf7 (fun _ h9 => h9) rfl dX5_evaluateNeeded_28 ?_
          refine lv_iload_n hx hb dX5_evaluateNeeded_31 rfl (lv_at hl 0 rfl) ?_
          refine wl_ci (va_runV (As := [.int (nI i)]) (rest := []) ⟨hx, hb, hml, hown, hta⟩ (kx_Terms_operationOf l dC dI a k S1 (nI i) (wl_in (by omega) (by decide))) (cwV 1 hta gX5_45 rfl rfl rfl (by decide +kernel) ⟨Nat.le_of_ble_eq_true rfl, Nat.le_of_ble_eq_true rfl⟩) (wl_pR (C := RX4) (ci := 2) (q0 := 7) hK hP rfl (xr_7 a k S1)) rfl rfl hl.1 rfl (lv_room (Nat.le_of_ble_eq_true rfl)) dX5_evaluateNeeded_32 ⟨Nat.zero_le _, Nat.zero_le _⟩) ?_
          refine lv_istore (lv' := [(4, .int (fx_Terms_operationOf S1 (nI i))), (3, .int (nI i)), (2, .int (fx_Terms_size st)), (0, .ref (a 13)), (1, .int asg)]) hx hb dX5_evaluateNeeded_35 hl (by decide) rfl (fun ls hl => ?_)
          refine lv_aload_n hx hb dX5_evaluateNeeded_37 rfl (lv_at hl 3 rfl) ?_
          refine va_get (D := (dC, dI)) (ci := 3) (v := .ref (a 7)) (C := RX5) (T := TX5) (N := 5) hx hb hta inX5 hown hK hP 13 (xr_13 a k S1) rfl 0 (by decide) hf7 (fun _ h9 => h9) rfl dX5_evaluateNeeded_38 ?_
          refine lv_iload_n hx hb dX5_evaluateNeeded_41 rfl (lv_at hl 1 rfl) ?_
          refine lv_iconst (v := (0 : Int32)) hx hb dX5_evaluateNeeded_42 (by decide) ?_
          refine wl_ci (va_runV (As := [.int (nI i), .int (0 : Int32)]) (rest := []) ⟨hx, hb, hml, hown, hta⟩ (kx_Terms_operandOf l dC dI a k S1 (nI i) (0 : Int32) (wl_i3 0 (by omega) (by decide))) (cwV 2 hta gX5_54 rfl rfl rfl (by decide +kernel) ⟨Nat.le_of_ble_eq_true rfl, Nat.le_of_ble_eq_true rfl⟩) (wl_pR (C := RX4) (ci := 2) (q0 := 7) hK hP rfl (xr_7 a k S1)) rfl rfl hl.1 rfl (lv_room (Nat.le_of_ble_eq_true rfl)) dX5_evaluateNeeded_43 ⟨Nat.zero_le _, Nat.zero_le _⟩) ?_
          refine lv_istore (lv' := [(5, .int (fx_Terms_operandOf S1 (nI i) (0 : Int32))), (4, .int (fx_Terms_operationOf S1 (nI i))), (3, .int (nI i)), (2, .int (fx_Terms_size st)), (0, .ref (a 13)), (1, .int asg)]) hx hb dX5_evaluateNeeded_46 hl (by decide) rfl (fun ls hl => ?_)
          refine lv_iload hx hb dX5_evaluateNeeded_48 (lv_at hl 1 rfl) ?_
          refine lv_bipush (v := (21 : Int32)) hx hb dX5_evaluateNeeded_50 (by decide) ?_
          refine lv_icmp_ne (tgt := 73) hx hb dX5_evaluateNeeded_52 (by decide) (fun c52 => ?_) (fun c52 => ?_)
          · skip
            rw [if_neg c52] at hR
            refine lv_iload hx hb dX5_evaluateNeeded_73 (lv_at hl 1 rfl) ?_
            refine lv_bipush (v := (22 : Int32)) hx hb dX5_evaluateNeeded_75 (by decide) ?_
            refine lv_icmp_ne (tgt := 99) hx hb dX5_evaluateNeeded_77 (by decide) (fun c77 => ?_) (fun c77 => ?_)
            · skip
              rw [if_neg c77] at hR
              obtain ⟨qA, qB, qC, qT, qV⟩ := wl_evop hE hM hX hlt h64 c52 c77
              refine lv_aload_n hx hb dX5_evaluateNeeded_99 rfl (lv_at hl 4 rfl) ?_
              refine va_get (D := (dC, dI)) (ci := 3) (v := .ref (a 7)) (C := RX5) (T := TX5) (N := 5) hx hb hta inX5 hown hK hP 13 (xr_13 a k S1) rfl 0 (by decide) hf7 (fun _ h9 => h9) rfl dX5_evaluateNeeded_100 ?_
              refine lv_iload_n hx hb dX5_evaluateNeeded_103 rfl (lv_at hl 2 rfl) ?_
              refine lv_iconst (v := (1 : Int32)) hx hb dX5_evaluateNeeded_104 (by decide) ?_
              refine wl_ci (va_runV (As := [.int (nI i), .int (1 : Int32)]) (rest := []) ⟨hx, hb, hml, hown, hta⟩ (kx_Terms_operandOf l dC dI a k S1 (nI i) (1 : Int32) (wl_i3 1 (by omega) (by decide))) (cwV 2 hta gX5_54 rfl rfl rfl (by decide +kernel) ⟨Nat.le_of_ble_eq_true rfl, Nat.le_of_ble_eq_true rfl⟩) (wl_pR (C := RX4) (ci := 2) (q0 := 7) hK hP rfl (xr_7 a k S1)) rfl rfl hl.1 rfl (lv_room (Nat.le_of_ble_eq_true rfl)) dX5_evaluateNeeded_105 ⟨Nat.zero_le _, Nat.zero_le _⟩) ?_
              refine lv_istore (lv' := [(6, .int (fx_Terms_operandOf S1 (nI i) (1 : Int32))), (5, .int (fx_Terms_operandOf S1 (nI i) (0 : Int32))), (4, .int (fx_Terms_operationOf S1 (nI i))), (3, .int (nI i)), (2, .int (fx_Terms_size st)), (0, .ref (a 13)), (1, .int asg)]) hx hb dX5_evaluateNeeded_108 hl (by decide) rfl (fun ls hl => ?_)
              refine lv_aload_n hx hb dX5_evaluateNeeded_110 rfl (lv_at hl 5 rfl) ?_
              refine va_get (D := (dC, dI)) (ci := 3) (v := .ref (a 14)) (C := RX5) (T := TX5) (N := 5) hx hb hta inX5 hown hK hP 13 (xr_13 a k S1) rfl 3 (by decide) hf23 (fun _ h9 => h9) rfl dX5_evaluateNeeded_111 ?_
              refine lv_iload_n hx hb dX5_evaluateNeeded_114 rfl (lv_at hl 3 rfl) ?_
              refine lv_aload_n hx hb dX5_evaluateNeeded_115 rfl (lv_at hl 5 rfl) ?_
              refine lv_iload hx hb dX5_evaluateNeeded_116 (lv_at hl 2 rfl) ?_
              refine lv_iload hx hb dX5_evaluateNeeded_118 (lv_at hl 1 rfl) ?_
              refine lv_iload hx hb dX5_evaluateNeeded_120 (lv_at hl 0 rfl) ?_
              refine lv_aload_n hx hb dX5_evaluateNeeded_122 rfl (lv_at hl 5 rfl) ?_
              refine va_get (D := (dC, dI)) (ci := 3) (v := .ref (a 7)) (C := RX5) (T := TX5) (N := 5) hx hb hta inX5 hown hK hP 13 (xr_13 a k S1) rfl 0 (by decide) hf7 (fun _ h9 => h9) rfl dX5_evaluateNeeded_123 ?_
              refine lv_iload_n hx hb dX5_evaluateNeeded_126 rfl (lv_at hl 3 rfl) ?_
              refine lv_iconst (v := (2 : Int32)) hx hb dX5_evaluateNeeded_127 (by decide) ?_
              refine wl_ci (va_runV (As := [.int (nI i), .int (2 : Int32)]) (rest := [.int (fx_Terms_operandOf S1 (nI i) (1 : Int32)), .int (fx_Terms_operandOf S1 (nI i) (0 : Int32)), .int (fx_Terms_operationOf S1 (nI i)), .ref (a 13), .int (nI i), .ref (a 14)]) ⟨hx, hb, hml, hown, hta⟩ (kx_Terms_operandOf l dC dI a k S1 (nI i) (2 : Int32) (wl_i3 2 (by omega) (by decide))) (cwV 2 hta gX5_54 rfl rfl rfl (by decide +kernel) ⟨Nat.le_of_ble_eq_true rfl, Nat.le_of_ble_eq_true rfl⟩) (wl_pR (C := RX4) (ci := 2) (q0 := 7) hK hP rfl (xr_7 a k S1)) rfl rfl hl.1 rfl (lv_room (Nat.le_of_ble_eq_true rfl)) dX5_evaluateNeeded_128 ⟨Nat.zero_le _, Nat.zero_le _⟩) ?_
              refine lv_aload_n hx hb dX5_evaluateNeeded_131 rfl (lv_at hl 5 rfl) ?_
              refine va_get (D := (dC, dI)) (ci := 3) (v := .ref (a 14)) (C := RX5) (T := TX5) (N := 5) hx hb hta inX5 hown hK hP 13 (xr_13 a k S1) rfl 3 (by decide) hf23 (fun _ h9 => h9) rfl dX5_evaluateNeeded_132 ?_
              refine wl_cl (va_runV (As := [.int (fx_Terms_operationOf S1 (nI i)), .int (fx_Terms_operandOf S1 (nI i) (0 : Int32)), .int (fx_Terms_operandOf S1 (nI i) (1 : Int32)), .int (fx_Terms_operandOf S1 (nI i) (2 : Int32)), .ref (a 14)]) (rest := [.int (nI i), .ref (a 14)]) ⟨hx, hb, hml, hown, hta⟩ (kx_Eval_apply_r l dC dI a k S1 (fx_Terms_operationOf S1 (nI i)) (fx_Terms_operandOf S1 (nI i) (0 : Int32)) (fx_Terms_operandOf S1 (nI i) (1 : Int32)) (fx_Terms_operandOf S1 (nI i) (2 : Int32)) qA qB qC qT qV) (cwV 5 hta gX5_68 rfl rfl rfl (by decide +kernel) ⟨Nat.le_of_ble_eq_true rfl, Nat.le_of_ble_eq_true rfl⟩) (wl_pR (C := RX5) (ci := 3) (q0 := 13) hK hP rfl (xr_13 a k S1)) rfl rfl hl.1 rfl (lv_room (Nat.le_of_ble_eq_true rfl)) dX5_evaluateNeeded_135 ⟨Nat.zero_le _, Nat.zero_le _⟩) ?_
              refine va_last hx hb hK hP hD hS 14 9 (xr_14 a k S1) rfl (wl_in (by omega) (by decide)) dX5_evaluateNeeded_138 (fun H locs hP hD hS => ?_)
              have hP := xp_L2 hP
              have hD := xd_L2 hD
              refine lv_iinc (v := nI (i + 1)) (lv' := [(3, .int (nI (i + 1))), (6, .int (fx_Terms_operandOf S1 (nI i) (1 : Int32))), (5, .int (fx_Terms_operandOf S1 (nI i) (0 : Int32))), (4, .int (fx_Terms_operationOf S1 (nI i))), (2, .int (fx_Terms_size st)), (0, .ref (a 13)), (1, .int asg)]) hx hb dX5_evaluateNeeded_139 hl (k := 3) rfl (nI_1 _) (by decide) rfl (fun ls hl => ?_)
              refine lv_goto (tgt := 10) hx hb dX5_evaluateNeeded_142 (by decide) ?_
              exact ih (i + 1) (wL S1 2 ((nI i).toNatClampNeg) (fx_Eval_apply_r S1 (fx_Terms_operationOf S1 (nI i)) (fx_Terms_operandOf S1 (nI i) (0 : Int32)) (fx_Terms_operandOf S1 (nI i) (1 : Int32)) (fx_Terms_operandOf S1 (nI i) (2 : Int32)))) _ _ ls hR (by omega) (XF.wL (by decide) hE) (wl_nmO hE hM hX hlt h64 c52 c77) (by omega) hP hD hS (lv_sub hl [0, 4, 5, 6] rfl)
            · skip
              rw [if_pos c77] at hR
              refine lv_aload_n hx hb dX5_evaluateNeeded_80 rfl (lv_at hl 4 rfl) ?_
              refine va_get (D := (dC, dI)) (ci := 3) (v := .ref (a 14)) (C := RX5) (T := TX5) (N := 5) hx hb hta inX5 hown hK hP 13 (xr_13 a k S1) rfl 3 (by decide) hf23 (fun _ h9 => h9) rfl dX5_evaluateNeeded_81 ?_
              refine lv_iload_n hx hb dX5_evaluateNeeded_84 rfl (lv_at hl 2 rfl) ?_
              refine lv_aload_n hx hb dX5_evaluateNeeded_85 rfl (lv_at hl 4 rfl) ?_
              refine va_get (D := (dC, dI)) (ci := 3) (v := .ref (a 1)) (C := RX5) (T := TX5) (N := 5) hx hb hta inX5 hown hK hP 13 (xr_13 a k S1) rfl 1 (by decide) hf13 (fun _ h9 => h9) rfl dX5_evaluateNeeded_86 ?_
              refine lv_iload hx hb dX5_evaluateNeeded_89 (lv_at hl 0 rfl) ?_
              refine lv_iload_n hx hb dX5_evaluateNeeded_91 rfl (lv_at hl 5 rfl) ?_
              refine wl_cl (va_runV (As := [.int (fx_Terms_operandOf S1 (nI i) (0 : Int32)), .int asg]) (rest := [.int (nI i), .ref (a 14)]) ⟨hx, hb, hml, hown, hta⟩ (kx_Vars_readAt l dC dI a k S1 (fx_Terms_operandOf S1 (nI i) (0 : Int32)) asg (wl_ev22 hE hX hlt h64 hV4 c52 c77)) (cwV 2 hta gX5_62 rfl rfl rfl (by decide +kernel) ⟨Nat.le_of_ble_eq_true rfl, Nat.le_of_ble_eq_true rfl⟩) (wl_pR (C := RX2) (ci := 0) (q0 := 1) hK hP rfl (xr_1 a k S1)) rfl rfl hl.1 rfl (lv_room (Nat.le_of_ble_eq_true rfl)) dX5_evaluateNeeded_92 ⟨Nat.zero_le _, Nat.zero_le _⟩) ?_
              refine va_last hx hb hK hP hD hS 14 9 (xr_14 a k S1) rfl (wl_in (by omega) (by decide)) dX5_evaluateNeeded_95 (fun H locs hP hD hS => ?_)
              have hP := xp_L2 hP
              have hD := xd_L2 hD
              refine lv_goto (tgt := 139) hx hb dX5_evaluateNeeded_96 (by decide) ?_
              refine lv_iinc (v := nI (i + 1)) (lv' := [(3, .int (nI (i + 1))), (5, .int (fx_Terms_operandOf S1 (nI i) (0 : Int32))), (4, .int (fx_Terms_operationOf S1 (nI i))), (2, .int (fx_Terms_size st)), (0, .ref (a 13)), (1, .int asg)]) hx hb dX5_evaluateNeeded_139 hl (k := 2) rfl (nI_1 _) (by decide) rfl (fun ls hl => ?_)
              refine lv_goto (tgt := 10) hx hb dX5_evaluateNeeded_142 (by decide) ?_
              exact ih (i + 1) (wL S1 2 ((nI i).toNatClampNeg) (fx_Vars_readAt S1 (fx_Terms_operandOf S1 (nI i) (0 : Int32)) asg)) _ _ ls hR (by omega) (XF.wL (by decide) hE) (wl_nmV hE hM hX hlt h64 hV4 c77) (by omega) hP hD hS (lv_sub hl [0, 3, 4, 5] rfl)
          · skip
            rw [if_pos c52] at hR
            refine lv_aload_n hx hb dX5_evaluateNeeded_55 rfl (lv_at hl 4 rfl) ?_
            refine va_get (D := (dC, dI)) (ci := 3) (v := .ref (a 14)) (C := RX5) (T := TX5) (N := 5) hx hb hta inX5 hown hK hP 13 (xr_13 a k S1) rfl 3 (by decide) hf23 (fun _ h9 => h9) rfl dX5_evaluateNeeded_56 ?_
            refine lv_iload_n hx hb dX5_evaluateNeeded_59 rfl (lv_at hl 2 rfl) ?_
            refine lv_aload_n hx hb dX5_evaluateNeeded_60 rfl (lv_at hl 4 rfl) ?_
            refine va_get (D := (dC, dI)) (ci := 3) (v := .ref (a 7)) (C := RX5) (T := TX5) (N := 5) hx hb hta inX5 hown hK hP 13 (xr_13 a k S1) rfl 0 (by decide) hf7 (fun _ h9 => h9) rfl dX5_evaluateNeeded_61 ?_
            refine wl_cr (va_runV (As := []) (rest := [.int (nI i), .ref (a 14)]) ⟨hx, hb, hml, hown, hta⟩ (kx_Terms_constants l dC dI a k S1) (cwV 0 hta gX5_58 rfl rfl rfl (by decide +kernel) ⟨Nat.le_of_ble_eq_true rfl, Nat.le_of_ble_eq_true rfl⟩) (wl_pR (C := RX4) (ci := 2) (q0 := 7) hK hP rfl (xr_7 a k S1)) rfl rfl hl.1 rfl (lv_room (Nat.le_of_ble_eq_true rfl)) dX5_evaluateNeeded_64 ⟨Nat.zero_le _, Nat.zero_le _⟩) ?_
            refine lv_iload_n hx hb dX5_evaluateNeeded_67 rfl (lv_at hl 2 rfl) ?_
            refine va_lald hx hb hK hP 12 8 (xr_12 a k S1) rfl (wl_in (by omega) (by decide)) dX5_evaluateNeeded_68 ?_
            refine va_last hx hb hK hP hD hS 14 9 (xr_14 a k S1) rfl (wl_in (by omega) (by decide)) dX5_evaluateNeeded_69 (fun H locs hP hD hS => ?_)
            have hP := xp_L2 hP
            have hD := xd_L2 hD
            refine lv_goto (tgt := 139) hx hb dX5_evaluateNeeded_70 (by decide) ?_
            refine lv_iinc (v := nI (i + 1)) (lv' := [(3, .int (nI (i + 1))), (5, .int (fx_Terms_operandOf S1 (nI i) (0 : Int32))), (4, .int (fx_Terms_operationOf S1 (nI i))), (2, .int (fx_Terms_size st)), (0, .ref (a 13)), (1, .int asg)]) hx hb dX5_evaluateNeeded_139 hl (k := 2) rfl (nI_1 _) (by decide) rfl (fun ls hl => ?_)
            refine lv_goto (tgt := 10) hx hb dX5_evaluateNeeded_142 (by decide) ?_
            exact ih (i + 1) (wL S1 2 ((nI i).toNatClampNeg) (fL S1 1 (nI i).toNatClampNeg)) _ _ ls hR (by omega) (XF.wL (by decide) hE) (wl_nmC hE hM hX hlt h64 c52) (by omega) hP hD hS (lv_sub hl [0, 3, 4, 5] rfl)
        · skip
          rw [if_pos c21] at hR
          refine lv_goto (tgt := 139) hx hb dX5_evaluateNeeded_24 (by decide) ?_
          refine lv_iinc (v := nI (i + 1)) (lv' := [(3, .int (nI (i + 1))), (2, .int (fx_Terms_size st)), (0, .ref (a 13)), (1, .int asg)]) hx hb dX5_evaluateNeeded_139 hl (k := 0) rfl (nI_1 _) (by decide) rfl (fun ls hl => ?_)
          refine lv_goto (tgt := 10) hx hb dX5_evaluateNeeded_142 (by decide) ?_
          exact ih (i + 1) S1 _ _ ls hR (by omega) hE hM (by omega) hP hD hS (lv_sub hl [0, 1, 2, 3] rfl)
  exact L10 65 0 st _ _ ls hR (Nat.zero_le _) XF.rf hM0 (by omega) hP hD hS (lv_sub hl [0, 1, 2, 3] rfl)

theorem wl_evL {st : XS} {V N : Nat} {asg : Int32} (hN : gI st 6 = nI N) (h64 : N ≤ 64) (hV4 : V ≤ 4) (hX : XT st V N) : ∀ (n i : Nat) (S1 : XS), i ≤ N → XF [] [] [2] st S1 → XM S1 N → XM (fx_Eval_evaluateNeeded_L10 st asg n i S1) N := by
  intro n
  induction n with
  | zero => intro i S1 _ _ h; exact h
  | succ n ih =>
    intro i S1 hi hE hM
    rw [fx_Eval_evaluateNeeded_L10]
    by_cases c12 : fx_Terms_size st ≤ nI i
    · rw [if_pos c12]; exact hM
    · rw [if_neg c12]
      have hlt : i < N := wl_lt (by rw [← hN]; exact c12) (by omega)
      by_cases c21 : fA S1 7 (nI i).toNatClampNeg = (0 : Int32)
      · rw [if_pos c21]; exact ih _ _ (by omega) hE hM
      · rw [if_neg c21]
        by_cases c52 : fx_Terms_operationOf S1 (nI i) = (21 : Int32)
        · rw [if_pos c52]; exact ih _ _ (by omega) (XF.wL (by decide) hE) (wl_nmC hE hM hX hlt h64 c52)
        · rw [if_neg c52]
          by_cases c77 : fx_Terms_operationOf S1 (nI i) = (22 : Int32)
          · rw [if_pos c77]; exact ih _ _ (by omega) (XF.wL (by decide) hE) (wl_nmV hE hM hX hlt h64 hV4 c77)
          · rw [if_neg c77]; exact ih _ _ (by omega) (XF.wL (by decide) hE) (wl_nmO hE hM hX hlt h64 c52 c77)
theorem wl_evM {st : XS} {V N : Nat} {asg : Int32} (hN : gI st 6 = nI N) (h64 : N ≤ 64) (hV4 : V ≤ 4) (hX : XT st V N) (hM : XM st N) : XM (fx_Eval_evaluateNeeded st asg) N := by
  rw [fx_Eval_evaluateNeeded]
  exact wl_evL hN h64 hV4 hX 65 0 st (Nat.zero_le _) XF.rf hM
