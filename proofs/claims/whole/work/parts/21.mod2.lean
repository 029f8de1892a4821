theorem mw_748 : (.code yX10_result cX10_result 5 (some .long) : Cond) ∈ AW := List.mem_filter.mpr ⟨List.mem_of_getElem? (i := 748) (by decide +kernel), rfl⟩
theorem mw_745 : (.methodLink RX10 128 yX10_result : Cond) ∈ AW := List.mem_filter.mpr ⟨List.mem_of_getElem? (i := 745) (by decide +kernel), rfl⟩
theorem mw_747 : (.instanceMethod yX10_result : Cond) ∈ AW := List.mem_filter.mpr ⟨List.mem_of_getElem? (i := 747) (by decide +kernel), rfl⟩
theorem mw_24 : (.selects RX10 yX10_result yX10_result : Cond) ∈ AW := List.mem_filter.mpr ⟨List.mem_of_getElem? (i := 24) (by decide +kernel), rfl⟩
theorem mw_649 : (.fieldLink RX10 60 RX10 "value" "[I" : Cond) ∈ AW := List.mem_filter.mpr ⟨List.mem_of_getElem? (i := 649) (by decide +kernel), rfl⟩
theorem gX10_128 : GoodIn AW (wsV RX10 128 RX10 yX10_result wsX10_result) := aw_V mw_745 mw_747 mw_24 mw_46 mw_748
theorem dX10_work_0 : decode cX10_work 0 = .ok (.iconst 0, 1) := by decide +kernel
theorem dX10_work_1 : decode cX10_work 1 = .ok (.istore_n 1, 1) := by decide +kernel
theorem dX10_work_2 : decode cX10_work 2 = .ok (.iload_n 1, 1) := by decide +kernel
theorem dX10_work_3 : decode cX10_work 3 = .ok (.aload_n 0, 1) := by decide +kernel
theorem dX10_work_4 : decode cX10_work 4 = .ok (.getfield 7, 3) := by decide +kernel
theorem dX10_work_7 : decode cX10_work 7 = .ok (.if_icmp .ge 151, 3) := by decide +kernel
theorem dX10_work_10 : decode cX10_work 10 = .ok (.aload_n 0, 1) := by decide +kernel
theorem dX10_work_11 : decode cX10_work 11 = .ok (.getfield 31, 3) := by decide +kernel
theorem dX10_work_14 : decode cX10_work 14 = .ok (.iload_n 1, 1) := by decide +kernel
theorem dX10_work_15 : decode cX10_work 15 = .ok (.iaload, 1) := by decide +kernel
theorem dX10_work_16 : decode cX10_work 16 = .ok (.bipush 21, 2) := by decide +kernel
theorem dX10_work_18 : decode cX10_work 18 = .ok (.if_icmp .ne 18, 3) := by decide +kernel
theorem dX10_work_21 : decode cX10_work 21 = .ok (.aload_n 0, 1) := by decide +kernel
theorem dX10_work_22 : decode cX10_work 22 = .ok (.getfield 51, 3) := by decide +kernel
theorem dX10_work_25 : decode cX10_work 25 = .ok (.iload_n 1, 1) := by decide +kernel
theorem dX10_work_26 : decode cX10_work 26 = .ok (.aload_n 0, 1) := by decide +kernel
theorem dX10_work_27 : decode cX10_work 27 = .ok (.getfield 47, 3) := by decide +kernel
theorem dX10_work_30 : decode cX10_work 30 = .ok (.iload_n 1, 1) := by decide +kernel
theorem dX10_work_31 : decode cX10_work 31 = .ok (.laload, 1) := by decide +kernel
theorem dX10_work_32 : decode cX10_work 32 = .ok (.lastore, 1) := by decide +kernel
theorem dX10_work_33 : decode cX10_work 33 = .ok (.goto 119, 3) := by decide +kernel
theorem dX10_work_36 : decode cX10_work 36 = .ok (.aload_n 0, 1) := by decide +kernel
theorem dX10_work_37 : decode cX10_work 37 = .ok (.getfield 31, 3) := by decide +kernel
theorem dX10_work_40 : decode cX10_work 40 = .ok (.iload_n 1, 1) := by decide +kernel
theorem dX10_work_41 : decode cX10_work 41 = .ok (.iaload, 1) := by decide +kernel
theorem dX10_work_42 : decode cX10_work 42 = .ok (.bipush 22, 2) := by decide +kernel
theorem dX10_work_44 : decode cX10_work 44 = .ok (.if_icmp .ne 74, 3) := by decide +kernel
theorem dX10_work_47 : decode cX10_work 47 = .ok (.aload_n 0, 1) := by decide +kernel
theorem dX10_work_48 : decode cX10_work 48 = .ok (.getfield 51, 3) := by decide +kernel
theorem dX10_work_51 : decode cX10_work 51 = .ok (.iload_n 1, 1) := by decide +kernel
theorem dX10_work_52 : decode cX10_work 52 = .ok (.aload_n 0, 1) := by decide +kernel
theorem dX10_work_53 : decode cX10_work 53 = .ok (.getfield 66, 3) := by decide +kernel
theorem dX10_work_56 : decode cX10_work 56 = .ok (.aload_n 0, 1) := by decide +kernel
theorem dX10_work_57 : decode cX10_work 57 = .ok (.getfield 35, 3) := by decide +kernel
theorem dX10_work_60 : decode cX10_work 60 = .ok (.iload_n 1, 1) := by decide +kernel
theorem dX10_work_61 : decode cX10_work 61 = .ok (.iaload, 1) := by decide +kernel
theorem dX10_work_62 : decode cX10_work 62 = .ok (.baload, 1) := by decide +kernel
theorem dX10_work_63 : decode cX10_work 63 = .ok (.ifCond .eq 39, 3) := by decide +kernel
theorem dX10_work_66 : decode cX10_work 66 = .ok (.aload_n 0, 1) := by decide +kernel
theorem dX10_work_67 : decode cX10_work 67 = .ok (.aload_n 0, 1) := by decide +kernel
theorem dX10_work_68 : decode cX10_work 68 = .ok (.aload_n 0, 1) := by decide +kernel
theorem dX10_work_69 : decode cX10_work 69 = .ok (.getfield 60, 3) := by decide +kernel
theorem dX10_work_72 : decode cX10_work 72 = .ok (.aload_n 0, 1) := by decide +kernel
theorem dX10_work_73 : decode cX10_work 73 = .ok (.getfield 35, 3) := by decide +kernel
theorem dX10_work_76 : decode cX10_work 76 = .ok (.iload_n 1, 1) := by decide +kernel
theorem dX10_work_77 : decode cX10_work 77 = .ok (.iaload, 1) := by decide +kernel
theorem dX10_work_78 : decode cX10_work 78 = .ok (.iaload, 1) := by decide +kernel
theorem dX10_work_79 : decode cX10_work 79 = .ok (.i2l, 1) := by decide +kernel
theorem dX10_work_80 : decode cX10_work 80 = .ok (.aload_n 0, 1) := by decide +kernel
theorem dX10_work_81 : decode cX10_work 81 = .ok (.getfield 54, 3) := by decide +kernel
theorem dX10_work_84 : decode cX10_work 84 = .ok (.aload_n 0, 1) := by decide +kernel
theorem dX10_work_85 : decode cX10_work 85 = .ok (.getfield 35, 3) := by decide +kernel
theorem dX10_work_88 : decode cX10_work 88 = .ok (.iload_n 1, 1) := by decide +kernel
theorem dX10_work_89 : decode cX10_work 89 = .ok (.iaload, 1) := by decide +kernel
theorem dX10_work_90 : decode cX10_work 90 = .ok (.iaload, 1) := by decide +kernel
theorem dX10_work_91 : decode cX10_work 91 = .ok (.invokevirtual 92, 3) := by decide +kernel
theorem dX10_work_94 : decode cX10_work 94 = .ok (.bipush 8, 2) := by decide +kernel
theorem dX10_work_96 : decode cX10_work 96 = .ok (.invokevirtual 88, 3) := by decide +kernel
theorem dX10_work_99 : decode cX10_work 99 = .ok (.goto 15, 3) := by decide +kernel
theorem dX10_work_102 : decode cX10_work 102 = .ok (.aload_n 0, 1) := by decide +kernel
theorem dX10_work_103 : decode cX10_work 103 = .ok (.getfield 60, 3) := by decide +kernel
theorem dX10_work_106 : decode cX10_work 106 = .ok (.aload_n 0, 1) := by decide +kernel
theorem dX10_work_107 : decode cX10_work 107 = .ok (.getfield 35, 3) := by decide +kernel
theorem dX10_work_110 : decode cX10_work 110 = .ok (.iload_n 1, 1) := by decide +kernel
theorem dX10_work_111 : decode cX10_work 111 = .ok (.iaload, 1) := by decide +kernel
theorem dX10_work_112 : decode cX10_work 112 = .ok (.iaload, 1) := by decide +kernel
theorem dX10_work_113 : decode cX10_work 113 = .ok (.i2l, 1) := by decide +kernel
theorem dX10_work_114 : decode cX10_work 114 = .ok (.lastore, 1) := by decide +kernel
theorem dX10_work_115 : decode cX10_work 115 = .ok (.goto 37, 3) := by decide +kernel
theorem dX10_work_118 : decode cX10_work 118 = .ok (.aload_n 0, 1) := by decide +kernel
theorem dX10_work_119 : decode cX10_work 119 = .ok (.getfield 51, 3) := by decide +kernel
theorem dX10_work_122 : decode cX10_work 122 = .ok (.iload_n 1, 1) := by decide +kernel
theorem dX10_work_123 : decode cX10_work 123 = .ok (.aload_n 0, 1) := by decide +kernel
theorem dX10_work_124 : decode cX10_work 124 = .ok (.aload_n 0, 1) := by decide +kernel
theorem dX10_work_125 : decode cX10_work 125 = .ok (.getfield 31, 3) := by decide +kernel
theorem dX10_work_128 : decode cX10_work 128 = .ok (.iload_n 1, 1) := by decide +kernel
theorem dX10_work_129 : decode cX10_work 129 = .ok (.iaload, 1) := by decide +kernel
theorem dX10_work_130 : decode cX10_work 130 = .ok (.aload_n 0, 1) := by decide +kernel
theorem dX10_work_131 : decode cX10_work 131 = .ok (.getfield 35, 3) := by decide +kernel
theorem dX10_work_134 : decode cX10_work 134 = .ok (.iload_n 1, 1) := by decide +kernel
theorem dX10_work_135 : decode cX10_work 135 = .ok (.iaload, 1) := by decide +kernel
theorem dX10_work_136 : decode cX10_work 136 = .ok (.aload_n 0, 1) := by decide +kernel
theorem dX10_work_137 : decode cX10_work 137 = .ok (.getfield 38, 3) := by decide +kernel
theorem dX10_work_140 : decode cX10_work 140 = .ok (.iload_n 1, 1) := by decide +kernel
theorem dX10_work_141 : decode cX10_work 141 = .ok (.iaload, 1) := by decide +kernel
theorem dX10_work_142 : decode cX10_work 142 = .ok (.aload_n 0, 1) := by decide +kernel
theorem dX10_work_143 : decode cX10_work 143 = .ok (.getfield 41, 3) := by decide +kernel
theorem dX10_work_146 : decode cX10_work 146 = .ok (.iload_n 1, 1) := by decide +kernel
theorem dX10_work_147 : decode cX10_work 147 = .ok (.iaload, 1) := by decide +kernel
theorem dX10_work_148 : decode cX10_work 148 = .ok (.invokevirtual 128, 3) := by decide +kernel
theorem dX10_work_151 : decode cX10_work 151 = .ok (.lastore, 1) := by decide +kernel
theorem dX10_work_152 : decode cX10_work 152 = .ok (.iinc 1 1, 3) := by decide +kernel
theorem dX10_work_155 : decode cX10_work 155 = .ok (.goto (-153), 3) := by decide +kernel
theorem dX10_work_158 : decode cX10_work 158 = .ok (.return_, 1) := by decide +kernel
def fm_Mod_work_L2 (st : XS) : Nat → Nat → XS → XS
  | 0, i, S1 => S1
  | n + 1, i, S1 => 
    if gI S1 0 ≤ nI i then S1
    else 
      if (fA S1 0 (nI i).toNatClampNeg) = (21 : Int32) then fm_Mod_work_L2 st n (i + 1) (wL S1 1 ((nI i).toNatClampNeg) (fL S1 0 (nI i).toNatClampNeg))
      else 
        if (fA S1 0 (nI i).toNatClampNeg) = (22 : Int32) then 
          if fA S1 9 ((fA S1 1 (nI i).toNatClampNeg)).toNatClampNeg = (0 : Int32) then fm_Mod_work_L2 st n (i + 1) (wL S1 1 ((nI i).toNatClampNeg) ((fA S1 7 ((fA S1 1 (nI i).toNatClampNeg)).toNatClampNeg).toInt64))
          else fm_Mod_work_L2 st n (i + 1) (wL S1 1 ((nI i).toNatClampNeg) (fm_Mod_cut S1 (fm_Mod_sign S1 ((fA S1 7 ((fA S1 1 (nI i).toNatClampNeg)).toNatClampNeg).toInt64) (fA S1 5 ((fA S1 1 (nI i).toNatClampNeg)).toNatClampNeg)) (8 : Int32)))
        else fm_Mod_work_L2 st n (i + 1) (wL S1 1 ((nI i).toNatClampNeg) (fm_Mod_result S1 ((fA S1 0 (nI i).toNatClampNeg)) ((fA S1 1 (nI i).toNatClampNeg)) ((fA S1 2 (nI i).toNatClampNeg)) ((fA S1 3 (nI i).toNatClampNeg))))
def fm_Mod_work (st : XS) : XS := fm_Mod_work_L2 st 65 0 st
theorem fr_Mod_work_L2 {S0 : XS} (st : XS) : ∀ (n : Nat) (i : Nat) (S1 : XS), XF [] [] [1] S0 S1 → XF [] [] [1] S0 (fm_Mod_work_L2 st n i S1) := by
  intro n
  induction n with
  | zero => intro i S1 h; exact h
  | succ n ih =>
    intro i S1 h
    rw [fm_Mod_work_L2]
    exact (wl_ite (P := fun (q : XS) => XF [] [] [1] _ (q)) h (wl_ite (P := fun (q : XS) => XF [] [] [1] _ (q)) (ih _ _ (XF.wL (by decide) h)) (wl_ite (P := fun (q : XS) => XF [] [] [1] _ (q)) (wl_ite (P := fun (q : XS) => XF [] [] [1] _ (q)) (ih _ _ (XF.wL (by decide) h)) (ih _ _ (XF.wL (by decide) h))) (ih _ _ (XF.wL (by decide) h)))))
theorem ff_Mod_work (st : XS) : XF [] [] [1] st (fm_Mod_work st) := by
  rw [fm_Mod_work]
  exact (fr_Mod_work_L2 _ _ _ _ XF.rf)
set_option maxHeartbeats 4000000 in
set_option maxRecDepth 100000 in
theorem km_Mod_work (l : Launch) (dC : Nat → ClassId) (dI : Nat → Nat → Nat) (a : Nat → Nat) (k : Nat → ClassId) (st : XS) (sz : Nat) (N : Nat) (hN : gI st 0 = nI N) (h64 : N ≤ 64) (hT : MT st N) : Met l yX10_work wsX10_work ({ frames := 4, cells := 0, slots := 0, locals := 100 }) (va_Pc [.ref (a 0)] (wl_pre (dC, dI) vwCl (mt k) (mw a k) st sz)) (va_Qv (fun u9 => u9 = fm_Mod_work st) (wl_at (dC, dI) vwCl (mt k) (mw a k) (va_A (mw a k st) sz)) (va_A (mw a k st) sz)) 0 0 (va_A (mw a k st) sz) := by
  refine Met.ofW (cc := cX10_work) (maxL := 2) (ret := none) (by decide) rfl ?_
  intro p e s m args below meth c s₁ B hml hv
  obtain ⟨rfl, hsz, hP, hK, hD0⟩ := hv
  have hx := B.exec
  have hb := B.bytes
  have hr := B.returns
  have hta := aw_hts (atoms_spec (ws := wsX10_work) B.pre)
  have hown : s.vm.findClass RX10 = some m.cls := findClass_of_methodNamed B.named
  have hlocks := B.notSynchronized
  have hf7 := hta _ mw_633
  have hf31 := hta _ mw_640
  have hf51 := hta _ mw_646
  have hf35 := hta _ mw_641
  have hf38 := hta _ mw_642
  have hf41 := hta _ mw_643
  have hf66 := hta _ mw_651
  have hf60 := hta _ mw_649
  have hf54 := hta _ mw_647
  have hf47 := hta _ mw_645
  subst hsz
  have hD := hD0.self (sz := s.heap.size)
  generalize hAe : va_A (mw a k st) s.heap.size = A at hD ⊢
  have hAz : ∀ q : Nat, s.heap.size ≤ q → A q := fun q h => by rw [← hAe]; exact Or.inr h
  have hS : va_S A s.heap s.heap [] := va_S.rf
  have hl := lv_entry ([.ref (a 0)]) (n := 2) (Nat.le_of_ble_eq_true rfl)
  rw [lg_entry_eq]
  generalize (lg_sl ([.ref (a 0)]) ++ List.replicate (2 - (lg_sl ([.ref (a 0)])).length) Slot.unset).toArray = ls at hl ⊢
  have hl : lv_has ls 2 [(0, .ref (a 0))] := hl
  generalize hR : fm_Mod_work st = R
  rw [fm_Mod_work] at hR
  refine lv_iconst (v := (0 : Int32)) hx hb dX10_work_0 (by decide) ?_
  refine lv_istore_n (lv' := [(1, .int (0 : Int32)), (0, .ref (a 0))]) hx hb dX10_work_1 rfl hl (by decide) rfl (fun ls hl => ?_)
  have L2 : ∀ (n : Nat) (i : Nat) (S1 : XS) (H : Heap) (locs : List Loc) (ls : Array Slot), fm_Mod_work_L2 st n i S1 = R → (i ≤ N) → (XF [] [] [1] st S1) → N - i < n → va_P (dC, dI) vwCl (mw a k S1) H → va_D A (mw a k S1) → va_S A s.heap H locs → lv_has ls 2 [(1, .int (nI i)), (0, .ref (a 0))] → W p l e (headSpec wsX10_work ({ frames := 4, cells := 0, slots := 0, locals := 100 })).room s m ([.ref (a 0)] : List Value).toArray below meth c H locs 0 0 (MQ below (va_Qv (fun u9 => u9 = R) (wl_at (dC, dI) vwCl (mt k) (mw a k) A) A) ([.ref (a 0)] : List Value).toArray s 0 0 A) (F0 m 2 ls []) := by
    intro n
    induction n with
    | zero =>
      intro i S1 H locs ls hR hi hE hm hP hD hS hl
      exact absurd hm (Nat.not_lt_zero _)
    | succ n ih =>
      intro i S1 H locs ls hR hi hE hm hP hD hS hl
      rw [fm_Mod_work_L2] at hR
      refine lv_iload_n hx hb dX10_work_2 rfl (lv_at hl 0 rfl) ?_
      refine lv_aload_n hx hb dX10_work_3 rfl (lv_at hl 1 rfl) ?_
      refine va_get (D := (dC, dI)) (ci := 8) (v := .int (gI S1 0)) (C := RX10) (T := TX10) (N := 21) hx hb hta inX10 hown hK hP 0 (mr_0 a k S1) rfl 0 (by decide) hf7 (fun _ h9 => h9) rfl dX10_work_4 ?_
      refine lv_icmp_ge (tgt := 158) hx hb dX10_work_7 (by decide) (fun c7 => ?_) (fun c7 => ?_)
      · skip
        rw [if_pos c7] at hR
        exact W.vret hx hb hr (fun t ht hW => ⟨⟨_, rfl, hR, by rw [ht]; exact hP, va_K.moved hW.alike hK, hD⟩, hS.F ht⟩) hS.2.2 dX10_work_158
      · skip
        rw [if_neg c7] at hR
        have hlt : i < N := wl_lt (by rw [← hN, ← hE.I 0 (by decide)]; exact c7) (by omega)
        refine lv_aload_n hx hb dX10_work_10 rfl (lv_at hl 1 rfl) ?_
        refine va_get (D := (dC, dI)) (ci := 8) (v := .ref (a 1)) (C := RX10) (T := TX10) (N := 21) hx hb hta inX10 hown hK hP 0 (mr_0 a k S1) rfl 7 (by decide) hf31 (fun _ h9 => h9) rfl dX10_work_11 ?_
        refine lv_iload_n hx hb dX10_work_14 rfl (lv_at hl 0 rfl) ?_
        refine va_iald hx hb hK hP 1 0 (mr_1 a k S1) rfl (wl_in (by omega) (by decide)) dX10_work_15 ?_
        have e15 : (fA S1 0 (nI i).toNatClampNeg) = fA st 0 i := (by rw [hE.A 0 (by decide), nI_clamp (by omega)])
        rw [e15]
        try rw [e15] at hR
        refine lv_bipush (v := (21 : Int32)) hx hb dX10_work_16 (by decide) ?_
        refine lv_icmp_ne (tgt := 36) hx hb dX10_work_18 (by decide) (fun c18 => ?_) (fun c18 => ?_)
        · skip
          rw [if_neg c18] at hR
          refine lv_aload_n hx hb dX10_work_36 rfl (lv_at hl 1 rfl) ?_
          refine va_get (D := (dC, dI)) (ci := 8) (v := .ref (a 1)) (C := RX10) (T := TX10) (N := 21) hx hb hta inX10 hown hK hP 0 (mr_0 a k S1) rfl 7 (by decide) hf31 (fun _ h9 => h9) rfl dX10_work_37 ?_
          refine lv_iload_n hx hb dX10_work_40 rfl (lv_at hl 0 rfl) ?_
          refine va_iald hx hb hK hP 1 0 (mr_1 a k S1) rfl (wl_in (by omega) (by decide)) dX10_work_41 ?_
          have e41 : (fA S1 0 (nI i).toNatClampNeg) = fA st 0 i := (by rw [hE.A 0 (by decide), nI_clamp (by omega)])
          rw [e41]
          try rw [e41] at hR
          refine lv_bipush (v := (22 : Int32)) hx hb dX10_work_42 (by decide) ?_
          refine lv_icmp_ne (tgt := 118) hx hb dX10_work_44 (by decide) (fun c44 => ?_) (fun c44 => ?_)
          · skip
            rw [if_neg c44] at hR
            refine lv_aload_n hx hb dX10_work_118 rfl (lv_at hl 1 rfl) ?_
            refine va_get (D := (dC, dI)) (ci := 8) (v := .ref (a 7)) (C := RX10) (T := TX10) (N := 21) hx hb hta inX10 hown hK hP 0 (mr_0 a k S1) rfl 13 (by decide) hf51 (fun _ h9 => h9) rfl dX10_work_119 ?_
            refine lv_iload_n hx hb dX10_work_122 rfl (lv_at hl 0 rfl) ?_
            refine lv_aload_n hx hb dX10_work_123 rfl (lv_at hl 1 rfl) ?_
            refine lv_aload_n hx hb dX10_work_124 rfl (lv_at hl 1 rfl) ?_
            refine va_get (D := (dC, dI)) (ci := 8) (v := .ref (a 1)) (C := RX10) (T := TX10) (N := 21) hx hb hta inX10 hown hK hP 0 (mr_0 a k S1) rfl 7 (by decide) hf31 (fun _ h9 => h9) rfl dX10_work_125 ?_
            refine lv_iload_n hx hb dX10_work_128 rfl (lv_at hl 0 rfl) ?_
            refine va_iald hx hb hK hP 1 0 (mr_1 a k S1) rfl (wl_in (by omega) (by decide)) dX10_work_129 ?_
            have e129 : (fA S1 0 (nI i).toNatClampNeg) = fA st 0 i := (by rw [hE.A 0 (by decide), nI_clamp (by omega)])
            rw [e129]
            try rw [e129] at hR
            refine lv_aload_n hx hb dX10_work_130 rfl (lv_at hl 1 rfl) ?_
            refine va_get (D := (dC, dI)) (ci := 8) (v := .ref (a 2)) (C := RX10) (T := TX10) (N := 21) hx hb hta inX10 hown hK hP 0 (mr_0 a k S1) rfl 8 (by decide) hf35 (fun _ h9 => h9) rfl dX10_work_131 ?_
            refine lv_iload_n hx hb dX10_work_134 rfl (lv_at hl 0 rfl) ?_
            refine va_iald hx hb hK hP 2 1 (mr_2 a k S1) rfl (wl_in (by omega) (by decide)) dX10_work_135 ?_
            have e135 : (fA S1 1 (nI i).toNatClampNeg) = fA st 1 i := (by rw [hE.A 1 (by decide), nI_clamp (by omega)])
            rw [e135]
            try rw [e135] at hR
            refine lv_aload_n hx hb dX10_work_136 rfl (lv_at hl 1 rfl) ?_
            refine va_get (D := (dC, dI)) (ci := 8) (v := .ref (a 3)) (C := RX10) (T := TX10) (N := 21) hx hb hta inX10 hown hK hP 0 (mr_0 a k S1) rfl 9 (by decide) hf38 (fun _ h9 => h9) rfl dX10_work_137 ?_
            refine lv_iload_n hx hb dX10_work_140 rfl (lv_at hl 0 rfl) ?_
            refine va_iald hx hb hK hP 3 2 (mr_3 a k S1) rfl (wl_in (by omega) (by decide)) dX10_work_141 ?_
            have e141 : (fA S1 2 (nI i).toNatClampNeg) = fA st 2 i := (by rw [hE.A 2 (by decide), nI_clamp (by omega)])
            rw [e141]
            try rw [e141] at hR
            refine lv_aload_n hx hb dX10_work_142 rfl (lv_at hl 1 rfl) ?_
            refine va_get (D := (dC, dI)) (ci := 8) (v := .ref (a 4)) (C := RX10) (T := TX10) (N := 21) hx hb hta inX10 hown hK hP 0 (mr_0 a k S1) rfl 10 (by decide) hf41 (fun _ h9 => h9) rfl dX10_work_143 ?_
            refine lv_iload_n hx hb dX10_work_146 rfl (lv_at hl 0 rfl) ?_
            refine va_iald hx hb hK hP 4 3 (mr_4 a k S1) rfl (wl_in (by omega) (by decide)) dX10_work_147 ?_
            have e147 : (fA S1 3 (nI i).toNatClampNeg) = fA st 3 i := (by rw [hE.A 3 (by decide), nI_clamp (by omega)])
            rw [e147]
            try rw [e147] at hR
            refine wl_cl (va_runV (As := [.int ((fA st 0 i)), .int ((fA st 1 i)), .int ((fA st 2 i)), .int ((fA st 3 i))]) (rest := [.int (nI i), .ref (a 7)]) ⟨hx, hb, hml, hown, hta⟩ (km_Mod_result l dC dI a k S1 ((fA st 0 i)) ((fA st 1 i)) ((fA st 2 i)) ((fA st 3 i)) (((hT i hlt).2 c18 c44)).1 (((hT i hlt).2 c18 c44)).2.1 (((hT i hlt).2 c18 c44)).2.2.1 (((hT i hlt).2 c18 c44)).2.2.2) (cwV 4 hta gX10_128 rfl rfl rfl (by decide +kernel) ⟨Nat.le_of_ble_eq_true rfl, Nat.le_of_ble_eq_true rfl⟩) (wl_pR (C := RX10) (ci := 8) (q0 := 0) hK hP rfl (mr_0 a k S1)) rfl rfl hl.1 rfl (lv_room (Nat.le_of_ble_eq_true rfl)) dX10_work_148 ⟨Nat.zero_le _, Nat.zero_le _⟩) ?_
            refine va_last hx hb hK hP hD hS 7 6 (mr_7 a k S1) rfl (wl_in (by omega) (by decide)) dX10_work_151 (fun H locs hP hD hS => ?_)
            have hP := mp_L1 hP
            have hD := md_L1 hD
            refine lv_iinc (v := nI (i + 1)) (lv' := [(1, .int (nI (i + 1))), (0, .ref (a 0))]) hx hb dX10_work_152 hl (k := 0) rfl (nI_1 _) (by decide) rfl (fun ls hl => ?_)
            refine lv_goto (tgt := 2) hx hb dX10_work_155 (by decide) ?_
            exact ih (i + 1) (wL S1 1 ((nI i).toNatClampNeg) (fm_Mod_result S1 ((fA st 0 i)) ((fA st 1 i)) ((fA st 2 i)) ((fA st 3 i)))) _ _ ls hR (by omega) (XF.wL (by decide) hE) (by omega) hP hD hS (lv_sub hl [0, 1] rfl)
          · skip
            rw [if_pos c44] at hR
            refine lv_aload_n hx hb dX10_work_47 rfl (lv_at hl 1 rfl) ?_
            refine va_get (D := (dC, dI)) (ci := 8) (v := .ref (a 7)) (C := RX10) (T := TX10) (N := 21) hx hb hta inX10 hown hK hP 0 (mr_0 a k S1) rfl 13 (by decide) hf51 (fun _ h9 => h9) rfl dX10_work_48 ?_
            refine lv_iload_n hx hb dX10_work_51 rfl (lv_at hl 0 rfl) ?_
            refine lv_aload_n hx hb dX10_work_52 rfl (lv_at hl 1 rfl) ?_
            refine va_get (D := (dC, dI)) (ci := 8) (v := .ref (a 12)) (C := RX10) (T := TX10) (N := 21) hx hb hta inX10 hown hK hP 0 (mr_0 a k S1) rfl 18 (by decide) hf66 (fun _ h9 => h9) rfl dX10_work_53 ?_
            refine lv_aload_n hx hb dX10_work_56 rfl (lv_at hl 1 rfl) ?_
            refine va_get (D := (dC, dI)) (ci := 8) (v := .ref (a 2)) (C := RX10) (T := TX10) (N := 21) hx hb hta inX10 hown hK hP 0 (mr_0 a k S1) rfl 8 (by decide) hf35 (fun _ h9 => h9) rfl dX10_work_57 ?_
            refine lv_iload_n hx hb dX10_work_60 rfl (lv_at hl 0 rfl) ?_
            refine va_iald hx hb hK hP 2 1 (mr_2 a k S1) rfl (wl_in (by omega) (by decide)) dX10_work_61 ?_
            have e61 : (fA S1 1 (nI i).toNatClampNeg) = fA st 1 i := (by rw [hE.A 1 (by decide), nI_clamp (by omega)])
            rw [e61]
            try rw [e61] at hR
            refine va_zald hx hb hK hP 12 11 (mr_12 a k S1) rfl ((hT i hlt).1 c44) dX10_work_62 ?_
            refine lv_if_eq (tgt := 102) hx hb dX10_work_63 (by decide) (fun c63 => ?_) (fun c63 => ?_)
            · skip
              rw [if_pos c63] at hR
              refine lv_aload_n hx hb dX10_work_102 rfl (lv_at hl 1 rfl) ?_
              refine va_get (D := (dC, dI)) (ci := 8) (v := .ref (a 10)) (C := RX10) (T := TX10) (N := 21) hx hb hta inX10 hown hK hP 0 (mr_0 a k S1) rfl 16 (by decide) hf60 (fun _ h9 => h9) rfl dX10_work_103 ?_
              refine lv_aload_n hx hb dX10_work_106 rfl (lv_at hl 1 rfl) ?_
              refine va_get (D := (dC, dI)) (ci := 8) (v := .ref (a 2)) (C := RX10) (T := TX10) (N := 21) hx hb hta inX10 hown hK hP 0 (mr_0 a k S1) rfl 8 (by decide) hf35 (fun _ h9 => h9) rfl dX10_work_107 ?_
              refine lv_iload_n hx hb dX10_work_110 rfl (lv_at hl 0 rfl) ?_
              refine va_iald hx hb hK hP 2 1 (mr_2 a k S1) rfl (wl_in (by omega) (by decide)) dX10_work_111 ?_
              have e111 : (fA S1 1 (nI i).toNatClampNeg) = fA st 1 i := (by rw [hE.A 1 (by decide), nI_clamp (by omega)])
              rw [e111]
              try rw [e111] at hR
              refine va_iald hx hb hK hP 10 9 (mr_10 a k S1) rfl ((hT i hlt).1 c44) dX10_work_112 ?_
              refine lv_i2l (v := (fA S1 7 ((fA st 1 i)).toNatClampNeg).toInt64) hx hb dX10_work_113 rfl ?_
              refine va_last hx hb hK hP hD hS 7 6 (mr_7 a k S1) rfl (wl_in (by omega) (by decide)) dX10_work_114 (fun H locs hP hD hS => ?_)
              have hP := mp_L1 hP
              have hD := md_L1 hD
              refine lv_goto (tgt := 152) hx hb dX10_work_115 (by decide) ?_
              refine lv_iinc (v := nI (i + 1)) (lv' := [(1, .int (nI (i + 1))), (0, .ref (a 0))]) hx hb dX10_work_152 hl (k := 0) rfl (nI_1 _) (by decide) rfl (fun ls hl => ?_)
              refine lv_goto (tgt := 2) hx hb dX10_work_155 (by decide) ?_
              exact ih (i + 1) (wL S1 1 ((nI i).toNatClampNeg) ((fA S1 7 ((fA st 1 i)).toNatClampNeg).toInt64)) _ _ ls hR (by omega) (XF.wL (by decide) hE) (by omega) hP hD hS (lv_sub hl [0, 1] rfl)
            · skip
              rw [if_neg c63] at hR
              refine lv_aload_n hx hb dX10_work_66 rfl (lv_at hl 1 rfl) ?_
              refine lv_aload_n hx hb dX10_work_67 rfl (lv_at hl 1 rfl) ?_
              refine lv_aload_n hx hb dX10_work_68 rfl (lv_at hl 1 rfl) ?_
              refine va_get (D := (dC, dI)) (ci := 8) (v := .ref (a 10)) (C := RX10) (T := TX10) (N := 21) hx hb hta inX10 hown hK hP 0 (mr_0 a k S1) rfl 16 (by decide) hf60 (fun _ h9 => h9) rfl dX10_work_69 ?_
              refine lv_aload_n hx hb dX10_work_72 rfl (lv_at hl 1 rfl) ?_
              refine va_get (D := (dC, dI)) (ci := 8) (v := .ref (a 2)) (C := RX10) (T := TX10) (N := 21) hx hb hta inX10 hown hK hP 0 (mr_0 a k S1) rfl 8 (by decide) hf35 (fun _ h9 => h9) rfl dX10_work_73 ?_
              refine lv_iload_n hx hb dX10_work_76 rfl (lv_at hl 0 rfl) ?_
              refine va_iald hx hb hK hP 2 1 (mr_2 a k S1) rfl (wl_in (by omega) (by decide)) dX10_work_77 ?_
              have e77 : (fA S1 1 (nI i).toNatClampNeg) = fA st 1 i := (by rw [hE.A 1 (by decide), nI_clamp (by omega)])
              rw [e77]
              try rw [e77] at hR
              refine va_iald hx hb hK hP 10 9 (mr_10 a k S1) rfl ((hT i hlt).1 c44) dX10_work_78 ?_
              refine lv_i2l (v := (fA S1 7 ((fA st 1 i)).toNatClampNeg).toInt64) hx hb dX10_work_79 rfl ?_
              refine lv_aload_n hx hb dX10_work_80 rfl (lv_at hl 1 rfl) ?_
              refine va_get (D := (dC, dI)) (ci := 8) (v := .ref (a 8)) (C := RX10) (T := TX10) (N := 21) hx hb hta inX10 hown hK hP 0 (mr_0 a k S1) rfl 14 (by decide) hf54 (fun _ h9 => h9) rfl dX10_work_81 ?_
              refine lv_aload_n hx hb dX10_work_84 rfl (lv_at hl 1 rfl) ?_
              refine va_get (D := (dC, dI)) (ci := 8) (v := .ref (a 2)) (C := RX10) (T := TX10) (N := 21) hx hb hta inX10 hown hK hP 0 (mr_0 a k S1) rfl 8 (by decide) hf35 (fun _ h9 => h9) rfl dX10_work_85 ?_
              refine lv_iload_n hx hb dX10_work_88 rfl (lv_at hl 0 rfl) ?_
              refine va_iald hx hb hK hP 2 1 (mr_2 a k S1) rfl (wl_in (by omega) (by decide)) dX10_work_89 ?_
              have e89 : (fA S1 1 (nI i).toNatClampNeg) = fA st 1 i := (by rw [hE.A 1 (by decide), nI_clamp (by omega)])
              rw [e89]
              try rw [e89] at hR
              refine va_iald hx hb hK hP 8 7 (mr_8 a k S1) rfl ((hT i hlt).1 c44) dX10_work_90 ?_
              refine wl_cl (va_runV (As := [.long ((fA S1 7 ((fA st 1 i)).toNatClampNeg).toInt64), .int (fA S1 5 ((fA st 1 i)).toNatClampNeg)]) (rest := [.ref (a 0), .int (nI i), .ref (a 7)]) ⟨hx, hb, hml, hown, hta⟩ (km_Mod_sign l dC dI a k S1 ((fA S1 7 ((fA st 1 i)).toNatClampNeg).toInt64) (fA S1 5 ((fA st 1 i)).toNatClampNeg)) (cwV 2 hta gX10_92 rfl rfl rfl (by decide +kernel) ⟨Nat.le_of_ble_eq_true rfl, Nat.le_of_ble_eq_true rfl⟩) (wl_pR (C := RX10) (ci := 8) (q0 := 0) hK hP rfl (mr_0 a k S1)) rfl rfl hl.1 rfl (lv_room (Nat.le_of_ble_eq_true rfl)) dX10_work_91 ⟨Nat.zero_le _, Nat.zero_le _⟩) ?_
              refine lv_bipush (v := (8 : Int32)) hx hb dX10_work_94 (by decide) ?_
              refine wl_cl (va_runV (As := [.long (fm_Mod_sign S1 ((fA S1 7 ((fA st 1 i)).toNatClampNeg).toInt64) (fA S1 5 ((fA st 1 i)).toNatClampNeg)), .int (8 : Int32)]) (rest := [.int (nI i), .ref (a 7)]) ⟨hx, hb, hml, hown, hta⟩ (km_Mod_cut l dC dI a k S1 (fm_Mod_sign S1 ((fA S1 7 ((fA st 1 i)).toNatClampNeg).toInt64) (fA S1 5 ((fA st 1 i)).toNatClampNeg)) (8 : Int32)) (cwV 2 hta gX10_88 rfl rfl rfl (by decide +kernel) ⟨Nat.le_of_ble_eq_true rfl, Nat.le_of_ble_eq_true rfl⟩) (wl_pR (C := RX10) (ci := 8) (q0 := 0) hK hP rfl (mr_0 a k S1)) rfl rfl hl.1 rfl (lv_room (Nat.le_of_ble_eq_true rfl)) dX10_work_96 ⟨Nat.zero_le _, Nat.zero_le _⟩) ?_
              refine lv_goto (tgt := 114) hx hb dX10_work_99 (by decide) ?_
              refine va_last hx hb hK hP hD hS 7 6 (mr_7 a k S1) rfl (wl_in (by omega) (by decide)) dX10_work_114 (fun H locs hP hD hS => ?_)
              have hP := mp_L1 hP
              have hD := md_L1 hD
              refine lv_goto (tgt := 152) hx hb dX10_work_115 (by decide) ?_
              refine lv_iinc (v := nI (i + 1)) (lv' := [(1, .int (nI (i + 1))), (0, .ref (a 0))]) hx hb dX10_work_152 hl (k := 0) rfl (nI_1 _) (by decide) rfl (fun ls hl => ?_)
              refine lv_goto (tgt := 2) hx hb dX10_work_155 (by decide) ?_
              exact ih (i + 1) (wL S1 1 ((nI i).toNatClampNeg) (fm_Mod_cut S1 (fm_Mod_sign S1 ((fA S1 7 ((fA st 1 i)).toNatClampNeg).toInt64) (fA S1 5 ((fA st 1 i)).toNatClampNeg)) (8 : Int32))) _ _ ls hR (by omega) (XF.wL (by decide) hE) (by omega) hP hD hS (lv_sub hl [0, 1] rfl)
        · skip
          rw [if_pos c18] at hR
          refine lv_aload_n hx hb dX10_work_21 rfl (lv_at hl 1 rfl) ?_
          refine va_get (D := (dC, dI)) (ci := 8) (v := .ref (a 7)) (C := RX10) (T := TX10) (N := 21) hx hb hta inX10 hown hK hP 0 (mr_0 a k S1) rfl 13 (by decide) hf51 (fun _ h9 => h9) rfl dX10_work_22 ?_
          refine lv_iload_n hx hb dX10_work_25 rfl (lv_at hl 0 rfl) ?_
          refine lv_aload_n hx hb dX10_work_26 rfl (lv_at hl 1 rfl) ?_
          refine va_get (D := (dC, dI)) (ci := 8) (v := .ref (a 6)) (C := RX10) (T := TX10) (N := 21) hx hb hta inX10 hown hK hP 0 (mr_0 a k S1) rfl 12 (by decide) hf47 (fun _ h9 => h9) rfl dX10_work_27 ?_
          refine lv_iload_n hx hb dX10_work_30 rfl (lv_at hl 0 rfl) ?_
          refine va_lald hx hb hK hP 6 5 (mr_6 a k S1) rfl (wl_in (by omega) (by decide)) dX10_work_31 ?_
          refine va_last hx hb hK hP hD hS 7 6 (mr_7 a k S1) rfl (wl_in (by omega) (by decide)) dX10_work_32 (fun H locs hP hD hS => ?_)
          have hP := mp_L1 hP
          have hD := md_L1 hD
          refine lv_goto (tgt := 152) hx hb dX10_work_33 (by decide) ?_
          refine lv_iinc (v := nI (i + 1)) (lv' := [(1, .int (nI (i + 1))), (0, .ref (a 0))]) hx hb dX10_work_152 hl (k := 0) rfl (nI_1 _) (by decide) rfl (fun ls hl => ?_)
          refine lv_goto (tgt := 2) hx hb dX10_work_155 (by decide) ?_
          exact ih (i + 1) (wL S1 1 ((nI i).toNatClampNeg) (fL S1 0 (nI i).toNatClampNeg)) _ _ ls hR (by omega) (XF.wL (by decide) hE) (by omega) hP hD hS (lv_sub hl [0, 1] rfl)
  exact L2 65 0 st _ _ ls hR (Nat.zero_le _) XF.rf (by omega) hP hD hS (lv_sub hl [0, 1] rfl)

theorem mw_804 : (.code yX10_work cX10_work 2 none : Cond) ∈ AW := List.mem_filter.mpr ⟨List.mem_of_getElem? (i := 804) (by decide +kernel), rfl⟩
theorem mw_801 : (.methodLink RX10 146 yX10_work : Cond) ∈ AW := List.mem_filter.mpr ⟨List.mem_of_getElem? (i := 801) (by decide +kernel), rfl⟩
theorem mw_803 : (.instanceMethod yX10_work : Cond) ∈ AW := List.mem_filter.mpr ⟨List.mem_of_getElem? (i := 803) (by decide +kernel), rfl⟩
theorem mw_34 : (.selects RX10 yX10_work yX10_work : Cond) ∈ AW := List.mem_filter.mpr ⟨List.mem_of_getElem? (i := 34) (by decide +kernel), rfl⟩
theorem gX10_146 : GoodIn AW (wsV RX10 146 RX10 yX10_work wsX10_work) := aw_V mw_801 mw_803 mw_34 mw_46 mw_804
theorem dX10_takeModel_0 : decode cX10_takeModel 0 = .ok (.iconst 0, 1) := by decide +kernel
theorem dX10_takeModel_1 : decode cX10_takeModel 1 = .ok (.istore_n 1, 1) := by decide +kernel
theorem dX10_takeModel_2 : decode cX10_takeModel 2 = .ok (.iload_n 1, 1) := by decide +kernel
theorem dX10_takeModel_3 : decode cX10_takeModel 3 = .ok (.iconst 4, 1) := by decide +kernel
theorem dX10_takeModel_4 : decode cX10_takeModel 4 = .ok (.if_icmp .ge 21, 3) := by decide +kernel
theorem dX10_takeModel_7 : decode cX10_takeModel 7 = .ok (.aload_n 0, 1) := by decide +kernel
theorem dX10_takeModel_8 : decode cX10_takeModel 8 = .ok (.getfield 60, 3) := by decide +kernel
theorem dX10_takeModel_11 : decode cX10_takeModel 11 = .ok (.iload_n 1, 1) := by decide +kernel
theorem dX10_takeModel_12 : decode cX10_takeModel 12 = .ok (.aload_n 0, 1) := by decide +kernel
theorem dX10_takeModel_13 : decode cX10_takeModel 13 = .ok (.getfield 63, 3) := by decide +kernel
theorem dX10_takeModel_16 : decode cX10_takeModel 16 = .ok (.iload_n 1, 1) := by decide +kernel
theorem dX10_takeModel_17 : decode cX10_takeModel 17 = .ok (.iaload, 1) := by decide +kernel
theorem dX10_takeModel_18 : decode cX10_takeModel 18 = .ok (.iastore, 1) := by decide +kernel
theorem dX10_takeModel_19 : decode cX10_takeModel 19 = .ok (.iinc 1 1, 3) := by decide +kernel
theorem dX10_takeModel_22 : decode cX10_takeModel 22 = .ok (.goto (-20), 3) := by decide +kernel
theorem dX10_takeModel_25 : decode cX10_takeModel 25 = .ok (.aload_n 0, 1) := by decide +kernel
theorem dX10_takeModel_26 : decode cX10_takeModel 26 = .ok (.invokevirtual 146, 3) := by decide +kernel
theorem dX10_takeModel_29 : decode cX10_takeModel 29 = .ok (.return_, 1) := by decide +kernel
def fm_Mod_takeModel_L2 (st : XS) : Nat → Nat → XS → XS
  | 0, i, S1 => S1
  | n + 1, i, S1 => 
    if (4 : Int32) ≤ nI i then (fm_Mod_work S1)
    else fm_Mod_takeModel_L2 st n (i + 1) (wA S1 7 ((nI i).toNatClampNeg) (fA S1 8 (nI i).toNatClampNeg))
def fm_Mod_takeModel (st : XS) : XS := fm_Mod_takeModel_L2 st 5 0 st
theorem fr_Mod_takeModel_L2 {S0 : XS} (st : XS) : ∀ (n : Nat) (i : Nat) (S1 : XS), XF [] [7] [1] S0 S1 → XF [] [7] [1] S0 (fm_Mod_takeModel_L2 st n i S1) := by
  intro n
  induction n with
  | zero => intro i S1 h; exact h
  | succ n ih =>
    intro i S1 h
    rw [fm_Mod_takeModel_L2]
    exact (wl_ite (P := fun (q : XS) => XF [] [7] [1] _ (q)) (XF.tr h (XF.mono (ff_Mod_work _) (by decide) (by decide) (by decide))) (ih _ _ (XF.wA (by decide) h)))
theorem ff_Mod_takeModel (st : XS) : XF [] [7] [1] st (fm_Mod_takeModel st) := by
  rw [fm_Mod_takeModel]
  exact (fr_Mod_takeModel_L2 _ _ _ _ XF.rf)
set_option maxHeartbeats 4000000 in
set_option maxRecDepth 100000 in
theorem km_Mod_takeModel (l : Launch) (dC : Nat → ClassId) (dI : Nat → Nat → Nat) (a : Nat → Nat) (k : Nat → ClassId) (st : XS) (sz : Nat) (N : Nat) (hN : gI st 0 = nI N) (h64 : N ≤ 64) (hT : MT st N) : Met l yX10_takeModel wsX10_takeModel ({ frames := 5, cells := 0, slots := 0, locals := 121 }) (va_Pc [.ref (a 0)] (wl_pre (dC, dI) vwCl (mt k) (mw a k) st sz)) (va_Qv (fun u9 => u9 = fm_Mod_takeModel st) (wl_at (dC, dI) vwCl (mt k) (mw a k) (va_A (mw a k st) sz)) (va_A (mw a k st) sz)) 0 0 (va_A (mw a k st) sz) := by
  refine Met.ofW (cc := cX10_takeModel) (maxL := 2) (ret := none) (by decide) rfl ?_
  intro p e s m args below meth c s₁ B hml hv
  obtain ⟨rfl, hsz, hP, hK, hD0⟩ := hv
  have hx := B.exec
  have hb := B.bytes
  have hr := B.returns
  have hta := aw_hts (atoms_spec (ws := wsX10_takeModel) B.pre)
  have hown : s.vm.findClass RX10 = some m.cls := findClass_of_methodNamed B.named
  have hlocks := B.notSynchronized
  have hf60 := hta _ mw_649
  have hf63 := hta _ mw_650
  subst hsz
  have hD := hD0.self (sz := s.heap.size)
  generalize hAe : va_A (mw a k st) s.heap.size = A at hD ⊢
  have hAz : ∀ q : Nat, s.heap.size ≤ q → A q := fun q h => by rw [← hAe]; exact Or.inr h
  have hS : va_S A s.heap s.heap [] := va_S.rf
  have hl := lv_entry ([.ref (a 0)]) (n := 2) (Nat.le_of_ble_eq_true rfl)
  rw [lg_entry_eq]
  generalize (lg_sl ([.ref (a 0)]) ++ List.replicate (2 - (lg_sl ([.ref (a 0)])).length) Slot.unset).toArray = ls at hl ⊢
  have hl : lv_has ls 2 [(0, .ref (a 0))] := hl
  generalize hR : fm_Mod_takeModel st = R
  rw [fm_Mod_takeModel] at hR
  refine lv_iconst (v := (0 : Int32)) hx hb dX10_takeModel_0 (by decide) ?_
  refine lv_istore_n (lv' := [(1, .int (0 : Int32)), (0, .ref (a 0))]) hx hb dX10_takeModel_1 rfl hl (by decide) rfl (fun ls hl => ?_)
  have L2 : ∀ (n : Nat) (i : Nat) (S1 : XS) (H : Heap) (locs : List Loc) (ls : Array Slot), fm_Mod_takeModel_L2 st n i S1 = R → (i ≤ 4) → (XF [] [7] [] st S1) → 4 - i < n → va_P (dC, dI) vwCl (mw a k S1) H → va_D A (mw a k S1) → va_S A s.heap H locs → lv_has ls 2 [(1, .int (nI i)), (0, .ref (a 0))] → W p l e (headSpec wsX10_takeModel ({ frames := 5, cells := 0, slots := 0, locals := 121 })).room s m ([.ref (a 0)] : List Value).toArray below meth c H locs 0 0 (MQ below (va_Qv (fun u9 => u9 = R) (wl_at (dC, dI) vwCl (mt k) (mw a k) A) A) ([.ref (a 0)] : List Value).toArray s 0 0 A) (F0 m 2 ls []) := by
    intro n
    induction n with
    | zero =>
      intro i S1 H locs ls hR hi hE hm hP hD hS hl
      exact absurd hm (Nat.not_lt_zero _)
    | succ n ih =>
      intro i S1 H locs ls hR hi hE hm hP hD hS hl
      rw [fm_Mod_takeModel_L2] at hR
      refine lv_iload_n hx hb dX10_takeModel_2 rfl (lv_at hl 0 rfl) ?_
      refine lv_iconst (v := (4 : Int32)) hx hb dX10_takeModel_3 (by decide) ?_
      refine lv_icmp_ge (tgt := 25) hx hb dX10_takeModel_4 (by decide) (fun c4 => ?_) (fun c4 => ?_)
      · skip
        rw [if_pos c4] at hR
        refine lv_aload_n hx hb dX10_takeModel_25 rfl (lv_at hl 1 rfl) ?_
        refine wl_mv (va_runV (As := []) (rest := []) ⟨hx, hb, hml, hown, hta⟩ (km_Mod_work l dC dI a k S1 _ N ((hE.I 0 (by decide)).trans hN) h64 (hT.fr hE (by decide))) (cwV 0 hta gX10_146 rfl rfl rfl (by decide +kernel) ⟨Nat.le_of_ble_eq_true rfl, Nat.le_of_ble_eq_true rfl⟩) (wl_pM (C := RX10) (ci := 8) (q0 := 0) hK hP hD rfl (mr_0 a k S1)) rfl rfl hl.1 rfl (lv_room (Nat.le_of_ble_eq_true rfl)) dX10_takeModel_26 ⟨Nat.zero_le _, Nat.zero_le _⟩) hP hD hS hAz (fun u26 H locs hw26 hP hD hS => ?_)
        have w26 : fm_Mod_work S1 = u26 := hw26.symm
        have hf26 : XF [] [] [1] S1 u26 := by rw [← w26]; exact ff_Mod_work S1
        try rw [w26] at hR
        exact W.vret hx hb hr (fun t ht hW => ⟨⟨_, rfl, hR, by rw [ht]; exact hP, va_K.moved hW.alike hK, hD⟩, hS.F ht⟩) hS.2.2 dX10_takeModel_29
      · skip
        rw [if_neg c4] at hR
        have hlt : i < 4 := wl_lt (N := 4) c4 (by omega)
        refine lv_aload_n hx hb dX10_takeModel_7 rfl (lv_at hl 1 rfl) ?_
        refine va_get (D := (dC, dI)) (ci := 8) (v := .ref (a 10)) (C := RX10) (T := TX10) (N := 21) hx hb hta inX10 hown hK hP 0 (mr_0 a k S1) rfl 16 (by decide) hf60 (fun _ h9 => h9) rfl dX10_takeModel_8 ?_
        refine lv_iload_n hx hb dX10_takeModel_11 rfl (lv_at hl 0 rfl) ?_
        refine lv_aload_n hx hb dX10_takeModel_12 rfl (lv_at hl 1 rfl) ?_
        refine va_get (D := (dC, dI)) (ci := 8) (v := .ref (a 11)) (C := RX10) (T := TX10) (N := 21) hx hb hta inX10 hown hK hP 0 (mr_0 a k S1) rfl 17 (by decide) hf63 (fun _ h9 => h9) rfl dX10_takeModel_13 ?_
        refine lv_iload_n hx hb dX10_takeModel_16 rfl (lv_at hl 0 rfl) ?_
        refine va_iald hx hb hK hP 11 10 (mr_11 a k S1) rfl (wl_in (by omega) (by decide)) dX10_takeModel_17 ?_
        refine va_iast hx hb hK hP hD hS 10 9 (mr_10 a k S1) rfl (wl_in (by omega) (by decide)) dX10_takeModel_18 (fun H locs hP hD hS => ?_)
        have hP := mp_A7 hP
        have hD := md_A7 hD
        refine lv_iinc (v := nI (i + 1)) (lv' := [(1, .int (nI (i + 1))), (0, .ref (a 0))]) hx hb dX10_takeModel_19 hl (k := 0) rfl (nI_1 _) (by decide) rfl (fun ls hl => ?_)
        refine lv_goto (tgt := 2) hx hb dX10_takeModel_22 (by decide) ?_
        exact ih (i + 1) (wA S1 7 ((nI i).toNatClampNeg) (fA S1 8 (nI i).toNatClampNeg)) _ _ ls hR (by omega) (XF.wA (by decide) hE) (by omega) hP hD hS (lv_sub hl [0, 1] rfl)
  exact L2 5 0 st _ _ ls hR (Nat.zero_le _) XF.rf (by omega) hP hD hS (lv_sub hl [0, 1] rfl)

theorem mw_826 : (.constantLong RX10 161 (-9223372036854775807) : Cond) ∈ AW := List.mem_filter.mpr ⟨List.mem_of_getElem? (i := 826) (by decide +kernel), rfl⟩
theorem mw_830 : (.code yX10_takeModel cX10_takeModel 2 none : Cond) ∈ AW := List.mem_filter.mpr ⟨List.mem_of_getElem? (i := 830) (by decide +kernel), rfl⟩
theorem mw_827 : (.methodLink RX10 163 yX10_takeModel : Cond) ∈ AW := List.mem_filter.mpr ⟨List.mem_of_getElem? (i := 827) (by decide +kernel), rfl⟩
theorem mw_829 : (.instanceMethod yX10_takeModel : Cond) ∈ AW := List.mem_filter.mpr ⟨List.mem_of_getElem? (i := 829) (by decide +kernel), rfl⟩
theorem mw_36 : (.selects RX10 yX10_takeModel yX10_takeModel : Cond) ∈ AW := List.mem_filter.mpr ⟨List.mem_of_getElem? (i := 36) (by decide +kernel), rfl⟩
theorem gX10_163 : GoodIn AW (wsV RX10 163 RX10 yX10_takeModel wsX10_takeModel) := aw_V mw_827 mw_829 mw_36 mw_46 mw_830
theorem dX10_value_0 : decode cX10_value 0 = .ok (.aload_n 0, 1) := by decide +kernel
theorem dX10_value_1 : decode cX10_value 1 = .ok (.getfield 28, 3) := by decide +kernel
theorem dX10_value_4 : decode cX10_value 4 = .ok (.ifCond .lt 11, 3) := by decide +kernel
theorem dX10_value_7 : decode cX10_value 7 = .ok (.aload_n 0, 1) := by decide +kernel
theorem dX10_value_8 : decode cX10_value 8 = .ok (.iload_n 1, 1) := by decide +kernel
theorem dX10_value_9 : decode cX10_value 9 = .ok (.invokevirtual 114, 3) := by decide +kernel
theorem dX10_value_12 : decode cX10_value 12 = .ok (.ifCond .eq 7, 3) := by decide +kernel
theorem dX10_value_15 : decode cX10_value 15 = .ok (.ldc2_w 161, 3) := by decide +kernel
theorem dX10_value_18 : decode cX10_value 18 = .ok (.lreturn, 1) := by decide +kernel
theorem dX10_value_19 : decode cX10_value 19 = .ok (.aload_n 0, 1) := by decide +kernel
theorem dX10_value_20 : decode cX10_value 20 = .ok (.invokevirtual 163, 3) := by decide +kernel
theorem dX10_value_23 : decode cX10_value 23 = .ok (.aload_n 0, 1) := by decide +kernel
theorem dX10_value_24 : decode cX10_value 24 = .ok (.aload_n 0, 1) := by decide +kernel
theorem dX10_value_25 : decode cX10_value 25 = .ok (.getfield 51, 3) := by decide +kernel
theorem dX10_value_28 : decode cX10_value 28 = .ok (.iload_n 1, 1) := by decide +kernel
theorem dX10_value_29 : decode cX10_value 29 = .ok (.laload, 1) := by decide +kernel
theorem dX10_value_30 : decode cX10_value 30 = .ok (.aload_n 0, 1) := by decide +kernel
theorem dX10_value_31 : decode cX10_value 31 = .ok (.getfield 44, 3) := by decide +kernel
theorem dX10_value_34 : decode cX10_value 34 = .ok (.iload_n 1, 1) := by decide +kernel
theorem dX10_value_35 : decode cX10_value 35 = .ok (.iaload, 1) := by decide +kernel
theorem dX10_value_36 : decode cX10_value 36 = .ok (.invokevirtual 92, 3) := by decide +kernel
theorem dX10_value_39 : decode cX10_value 39 = .ok (.lreturn, 1) := by decide +kernel
def fm_Mod_value (st : XS) (t2 : Int32) : Int64 × XS := 
  if gI st 6 < (0 : Int32) then ((-9223372036854775807 : Int64), st)
  else 
    if fm_Mod_none st t2 = (0 : Int32) then (fm_Mod_sign ((fm_Mod_takeModel st)) (fL ((fm_Mod_takeModel st)) 1 t2.toNatClampNeg) (fA ((fm_Mod_takeModel st)) 4 t2.toNatClampNeg), (fm_Mod_takeModel st))
    else ((-9223372036854775807 : Int64), st)
theorem ff_Mod_value (st : XS) (t2 : Int32) : XF [] [7] [1] st (fm_Mod_value st t2).2 := by
  rw [fm_Mod_value]
  exact (wl_ite (P := fun (q : Int64 × XS) => XF [] [7] [1] _ (q.2)) (wl_snd XF.rf) (wl_ite (P := fun (q : Int64 × XS) => XF [] [7] [1] _ (q.2)) (wl_snd (XF.tr XF.rf (XF.mono (ff_Mod_takeModel _) (by decide) (by decide) (by decide)))) (wl_snd XF.rf)))
set_option maxHeartbeats 4000000 in
set_option maxRecDepth 100000 in
theorem km_Mod_value (l : Launch) (dC : Nat → ClassId) (dI : Nat → Nat → Nat) (a : Nat → Nat) (k : Nat → ClassId) (st : XS) (t2 : Int32) (sz : Nat) (N : Nat) (hN : gI st 0 = nI N) (h64 : N ≤ 64) (hT : MT st N) : Met l yX10_value wsX10_value ({ frames := 6, cells := 0, slots := 0, locals := 142 }) (va_Pc [.ref (a 0), .int t2] (wl_pre (dC, dI) vwCl (mt k) (mw a k) st sz)) (va_Ql (fun r9 u9 => (r9, u9) = fm_Mod_value st t2) (wl_at (dC, dI) vwCl (mt k) (mw a k) (va_A (mw a k st) sz)) (va_A (mw a k st) sz)) 0 0 (va_A (mw a k st) sz) := by
  refine Met.ofW (cc := cX10_value) (maxL := 2) (ret := (some .long)) (by decide) rfl ?_
  intro p e s m args below meth c s₁ B hml hv
  obtain ⟨rfl, hsz, hP, hK, hD0⟩ := hv
  have hx := B.exec
  have hb := B.bytes
  have hr := B.returns
  have hta := aw_hts (atoms_spec (ws := wsX10_value) B.pre)
  have hown : s.vm.findClass RX10 = some m.cls := findClass_of_methodNamed B.named
  have hlocks := B.notSynchronized
  have hf28 := hta _ mw_639
  have hc161 := hta _ mw_826
  have hf51 := hta _ mw_646
  have hf44 := hta _ mw_644
  subst hsz
  have hD := hD0.self (sz := s.heap.size)
  generalize hAe : va_A (mw a k st) s.heap.size = A at hD ⊢
  have hAz : ∀ q : Nat, s.heap.size ≤ q → A q := fun q h => by rw [← hAe]; exact Or.inr h
  have hS : va_S A s.heap s.heap [] := va_S.rf
  have hl := lv_entry ([.ref (a 0), .int t2]) (n := 2) (Nat.le_of_ble_eq_true rfl)
  rw [lg_entry_eq]
  generalize (lg_sl ([.ref (a 0), .int t2]) ++ List.replicate (2 - (lg_sl ([.ref (a 0), .int t2])).length) Slot.unset).toArray = ls at hl ⊢
  have hl : lv_has ls 2 [(0, .ref (a 0)), (1, .int t2)] := hl
  generalize hR : fm_Mod_value st t2 = R
  rw [fm_Mod_value] at hR
  refine lv_aload_n hx hb dX10_value_0 rfl (lv_at hl 0 rfl) ?_
  refine va_get (D := (dC, dI)) (ci := 8) (v := .int (gI st 6)) (C := RX10) (T := TX10) (N := 21) hx hb hta inX10 hown hK hP 0 (mr_0 a k st) rfl 6 (by decide) hf28 (fun _ h9 => h9) rfl dX10_value_1 ?_
  refine lv_if_lt (tgt := 15) hx hb dX10_value_4 (by decide) (fun c4 => ?_) (fun c4 => ?_)
  · skip
    rw [if_pos c4] at hR
    refine lv_ldc2 (v := (-9223372036854775807 : Int64)) hx hb hown hc161 dX10_value_15 ?_
    exact W.lret (v := (-9223372036854775807 : Int64)) hx hb hr (fun t ht hW => ⟨⟨_, _, rfl, hR, by rw [ht]; exact hP, va_K.moved hW.alike hK, hD⟩, hS.F ht⟩) hS.2.2 dX10_value_18
  · skip
    rw [if_neg c4] at hR
    refine lv_aload_n hx hb dX10_value_7 rfl (lv_at hl 0 rfl) ?_
    refine lv_iload_n hx hb dX10_value_8 rfl (lv_at hl 1 rfl) ?_
    refine wl_ci (va_runV (As := [.int t2]) (rest := []) ⟨hx, hb, hml, hown, hta⟩ (km_Mod_none l dC dI a k st t2) (cwV 1 hta gX10_114 rfl rfl rfl (by decide +kernel) ⟨Nat.le_of_ble_eq_true rfl, Nat.le_of_ble_eq_true rfl⟩) (wl_pR (C := RX10) (ci := 8) (q0 := 0) hK hP rfl (mr_0 a k st)) rfl rfl hl.1 rfl (lv_room (Nat.le_of_ble_eq_true rfl)) dX10_value_9 ⟨Nat.zero_le _, Nat.zero_le _⟩) ?_
    refine lv_if_eq (tgt := 19) hx hb dX10_value_12 (by decide) (fun c12 => ?_) (fun c12 => ?_)
    · skip
      rw [if_pos c12] at hR
      refine lv_aload_n hx hb dX10_value_19 rfl (lv_at hl 0 rfl) ?_
      refine wl_mv (va_runV (As := []) (rest := []) ⟨hx, hb, hml, hown, hta⟩ (km_Mod_takeModel l dC dI a k st _ N hN h64 hT) (cwV 0 hta gX10_163 rfl rfl rfl (by decide +kernel) ⟨Nat.le_of_ble_eq_true rfl, Nat.le_of_ble_eq_true rfl⟩) (wl_pM (C := RX10) (ci := 8) (q0 := 0) hK hP hD rfl (mr_0 a k st)) rfl rfl hl.1 rfl (lv_room (Nat.le_of_ble_eq_true rfl)) dX10_value_20 ⟨Nat.zero_le _, Nat.zero_le _⟩) hP hD hS hAz (fun u20 H locs hw20 hP hD hS => ?_)
      have w20 : fm_Mod_takeModel st = u20 := hw20.symm
      have hf20 : XF [] [7] [1] st u20 := by rw [← w20]; exact ff_Mod_takeModel st
      try rw [w20] at hR
      refine lv_aload_n hx hb dX10_value_23 rfl (lv_at hl 0 rfl) ?_
      refine lv_aload_n hx hb dX10_value_24 rfl (lv_at hl 0 rfl) ?_
      refine va_get (D := (dC, dI)) (ci := 8) (v := .ref (a 7)) (C := RX10) (T := TX10) (N := 21) hx hb hta inX10 hown hK hP 0 (mr_0 a k (u20)) rfl 13 (by decide) hf51 (fun _ h9 => h9) rfl dX10_value_25 ?_
      refine lv_iload_n hx hb dX10_value_28 rfl (lv_at hl 1 rfl) ?_
      refine va_lald hx hb hK hP 7 6 (mr_7 a k (u20)) rfl (wm_none hN h64 c12) dX10_value_29 ?_
      refine lv_aload_n hx hb dX10_value_30 rfl (lv_at hl 0 rfl) ?_
      refine va_get (D := (dC, dI)) (ci := 8) (v := .ref (a 5)) (C := RX10) (T := TX10) (N := 21) hx hb hta inX10 hown hK hP 0 (mr_0 a k (u20)) rfl 11 (by decide) hf44 (fun _ h9 => h9) rfl dX10_value_31 ?_
      refine lv_iload_n hx hb dX10_value_34 rfl (lv_at hl 1 rfl) ?_
      refine va_iald hx hb hK hP 5 4 (mr_5 a k (u20)) rfl (wm_none hN h64 c12) dX10_value_35 ?_
      refine wl_cl (va_runV (As := [.long (fL (u20) 1 t2.toNatClampNeg), .int (fA (u20) 4 t2.toNatClampNeg)]) (rest := []) ⟨hx, hb, hml, hown, hta⟩ (km_Mod_sign l dC dI a k (u20) (fL (u20) 1 t2.toNatClampNeg) (fA (u20) 4 t2.toNatClampNeg)) (cwV 2 hta gX10_92 rfl rfl rfl (by decide +kernel) ⟨Nat.le_of_ble_eq_true rfl, Nat.le_of_ble_eq_true rfl⟩) (wl_pR (C := RX10) (ci := 8) (q0 := 0) hK hP rfl (mr_0 a k (u20))) rfl rfl hl.1 rfl (lv_room (Nat.le_of_ble_eq_true rfl)) dX10_value_36 ⟨Nat.zero_le _, Nat.zero_le _⟩) ?_
      exact W.lret (v := fm_Mod_sign (u20) (fL (u20) 1 t2.toNatClampNeg) (fA (u20) 4 t2.toNatClampNeg)) hx hb hr (fun t ht hW => ⟨⟨_, _, rfl, hR, by rw [ht]; exact hP, va_K.moved hW.alike hK, hD⟩, hS.F ht⟩) hS.2.2 dX10_value_39
    · skip
      rw [if_neg c12] at hR
      refine lv_ldc2 (v := (-9223372036854775807 : Int64)) hx hb hown hc161 dX10_value_15 ?_
      exact W.lret (v := (-9223372036854775807 : Int64)) hx hb hr (fun t ht hW => ⟨⟨_, _, rfl, hR, by rw [ht]; exact hP, va_K.moved hW.alike hK, hD⟩, hS.F ht⟩) hS.2.2 dX10_value_18

theorem dX10_follows_0 : decode cX10_follows 0 = .ok (.aload_n 0, 1) := by decide +kernel
theorem dX10_follows_1 : decode cX10_follows 1 = .ok (.getfield 28, 3) := by decide +kernel
theorem dX10_follows_4 : decode cX10_follows 4 = .ok (.ifCond .ge 5, 3) := by decide +kernel
theorem dX10_follows_7 : decode cX10_follows 7 = .ok (.iconst (-1), 1) := by decide +kernel
theorem dX10_follows_8 : decode cX10_follows 8 = .ok (.ireturn, 1) := by decide +kernel
theorem dX10_follows_9 : decode cX10_follows 9 = .ok (.aload_n 0, 1) := by decide +kernel
theorem dX10_follows_10 : decode cX10_follows 10 = .ok (.invokevirtual 163, 3) := by decide +kernel
theorem dX10_follows_13 : decode cX10_follows 13 = .ok (.iconst 0, 1) := by decide +kernel
theorem dX10_follows_14 : decode cX10_follows 14 = .ok (.istore_n 1, 1) := by decide +kernel
theorem dX10_follows_15 : decode cX10_follows 15 = .ok (.iload_n 1, 1) := by decide +kernel
theorem dX10_follows_16 : decode cX10_follows 16 = .ok (.aload_n 0, 1) := by decide +kernel
theorem dX10_follows_17 : decode cX10_follows 17 = .ok (.getfield 19, 3) := by decide +kernel
theorem dX10_follows_20 : decode cX10_follows 20 = .ok (.if_icmp .ge 25, 3) := by decide +kernel
theorem dX10_follows_23 : decode cX10_follows 23 = .ok (.aload_n 0, 1) := by decide +kernel
theorem dX10_follows_24 : decode cX10_follows 24 = .ok (.getfield 51, 3) := by decide +kernel
theorem dX10_follows_27 : decode cX10_follows 27 = .ok (.aload_n 0, 1) := by decide +kernel
theorem dX10_follows_28 : decode cX10_follows 28 = .ok (.getfield 73, 3) := by decide +kernel
theorem dX10_follows_31 : decode cX10_follows 31 = .ok (.iload_n 1, 1) := by decide +kernel
theorem dX10_follows_32 : decode cX10_follows 32 = .ok (.iaload, 1) := by decide +kernel
theorem dX10_follows_33 : decode cX10_follows 33 = .ok (.laload, 1) := by decide +kernel
theorem dX10_follows_34 : decode cX10_follows 34 = .ok (.lconst 1, 1) := by decide +kernel
theorem dX10_follows_35 : decode cX10_follows 35 = .ok (.lcmp, 1) := by decide +kernel
theorem dX10_follows_36 : decode cX10_follows 36 = .ok (.ifCond .ne 9, 3) := by decide +kernel
theorem dX10_follows_39 : decode cX10_follows 39 = .ok (.iinc 1 1, 3) := by decide +kernel
theorem dX10_follows_42 : decode cX10_follows 42 = .ok (.goto (-27), 3) := by decide +kernel
theorem dX10_follows_45 : decode cX10_follows 45 = .ok (.iload_n 1, 1) := by decide +kernel
theorem dX10_follows_46 : decode cX10_follows 46 = .ok (.ireturn, 1) := by decide +kernel
def fm_Mod_follows_L15 (st : XS) : Nat → Nat → Int32 × XS
  | 0, i => (0, st)
  | n + 1, i => 
    if gI ((fm_Mod_takeModel st)) 3 ≤ nI i then (nI i, (fm_Mod_takeModel st))
    else 
      if lg_cmp (fL ((fm_Mod_takeModel st)) 1 ((fA ((fm_Mod_takeModel st)) 11 (nI i).toNatClampNeg)).toNatClampNeg) (1 : Int64) = (0 : Int32) then fm_Mod_follows_L15 st n (i + 1)
      else (nI i, (fm_Mod_takeModel st))
def fm_Mod_follows (st : XS) : Int32 × XS := 
  if (0 : Int32) ≤ gI st 6 then fm_Mod_follows_L15 st 17 0
  else ((-1 : Int32), st)
theorem fr_Mod_follows_L15 (st : XS) : ∀ (n : Nat) (i : Nat), XF [] [7] [1] st (fm_Mod_follows_L15 st n i).2 := by
  intro n
  induction n with
  | zero => intro i; exact XF.rf
  | succ n ih =>
    intro i
    rw [fm_Mod_follows_L15]
    exact (wl_ite (P := fun (q : Int32 × XS) => XF [] [7] [1] _ (q.2)) (wl_snd (XF.tr XF.rf (XF.mono (ff_Mod_takeModel _) (by decide) (by decide) (by decide)))) (wl_ite (P := fun (q : Int32 × XS) => XF [] [7] [1] _ (q.2)) (ih _) (wl_snd (XF.tr XF.rf (XF.mono (ff_Mod_takeModel _) (by decide) (by decide) (by decide))))))
theorem ff_Mod_follows (st : XS) : XF [] [7] [1] st (fm_Mod_follows st).2 := by
  rw [fm_Mod_follows]
  exact (wl_ite (P := fun (q : Int32 × XS) => XF [] [7] [1] _ (q.2)) (fr_Mod_follows_L15 _ _ _) (wl_snd XF.rf))
set_option maxHeartbeats 4000000 in
set_option maxRecDepth 100000 in
theorem km_Mod_follows (l : Launch) (dC : Nat → ClassId) (dI : Nat → Nat → Nat) (a : Nat → Nat) (k : Nat → ClassId) (st : XS) (sz : Nat) (N : Nat) (hN : gI st 0 = nI N) (h64 : N ≤ 64) (hT : MT st N) (E : Nat) (hEl : gI st 3 = nI E) (hE16 : E ≤ 16) (hcd : ∀ j : Nat, j < E → vp_in (fA st 11 j) 64) : Met l yX10_follows wsX10_follows ({ frames := 6, cells := 0, slots := 0, locals := 142 }) (va_Pc [.ref (a 0)] (wl_pre (dC, dI) vwCl (mt k) (mw a k) st sz)) (va_Qi (fun r9 u9 => (r9, u9) = fm_Mod_follows st) (wl_at (dC, dI) vwCl (mt k) (mw a k) (va_A (mw a k st) sz)) (va_A (mw a k st) sz)) 0 0 (va_A (mw a k st) sz) := by
  refine Met.ofW (cc := cX10_follows) (maxL := 2) (ret := (some .int)) (by decide) rfl ?_
  intro p e s m args below meth c s₁ B hml hv
  obtain ⟨rfl, hsz, hP, hK, hD0⟩ := hv
  have hx := B.exec
  have hb := B.bytes
  have hr := B.returns
  have hta := aw_hts (atoms_spec (ws := wsX10_follows) B.pre)
  have hown : s.vm.findClass RX10 = some m.cls := findClass_of_methodNamed B.named
  have hlocks := B.notSynchronized
  have hf28 := hta _ mw_639
  have hf19 := hta _ mw_636
  have hf51 := hta _ mw_646
  have hf73 := hta _ mw_653
  subst hsz
  have hD := hD0.self (sz := s.heap.size)
  generalize hAe : va_A (mw a k st) s.heap.size = A at hD ⊢
  have hAz : ∀ q : Nat, s.heap.size ≤ q → A q := fun q h => by rw [← hAe]; exact Or.inr h
  have hS : va_S A s.heap s.heap [] := va_S.rf
  have hl := lv_entry ([.ref (a 0)]) (n := 2) (Nat.le_of_ble_eq_true rfl)
  rw [lg_entry_eq]
  generalize (lg_sl ([.ref (a 0)]) ++ List.replicate (2 - (lg_sl ([.ref (a 0)])).length) Slot.unset).toArray = ls at hl ⊢
  have hl : lv_has ls 2 [(0, .ref (a 0))] := hl
  generalize hR : fm_Mod_follows st = R
  rw [fm_Mod_follows] at hR
  refine lv_aload_n hx hb dX10_follows_0 rfl (lv_at hl 0 rfl) ?_
  refine va_get (D := (dC, dI)) (ci := 8) (v := .int (gI st 6)) (C := RX10) (T := TX10) (N := 21) hx hb hta inX10 hown hK hP 0 (mr_0 a k st) rfl 6 (by decide) hf28 (fun _ h9 => h9) rfl dX10_follows_1 ?_
  refine lv_if_ge (tgt := 9) hx hb dX10_follows_4 (by decide) (fun c4 => ?_) (fun c4 => ?_)
  · skip
    rw [if_pos c4] at hR
    refine lv_aload_n hx hb dX10_follows_9 rfl (lv_at hl 0 rfl) ?_
    refine wl_mv (va_runV (As := []) (rest := []) ⟨hx, hb, hml, hown, hta⟩ (km_Mod_takeModel l dC dI a k st _ N hN h64 hT) (cwV 0 hta gX10_163 rfl rfl rfl (by decide +kernel) ⟨Nat.le_of_ble_eq_true rfl, Nat.le_of_ble_eq_true rfl⟩) (wl_pM (C := RX10) (ci := 8) (q0 := 0) hK hP hD rfl (mr_0 a k st)) rfl rfl hl.1 rfl (lv_room (Nat.le_of_ble_eq_true rfl)) dX10_follows_10 ⟨Nat.zero_le _, Nat.zero_le _⟩) hP hD hS hAz (fun u10 H locs hw10 hP hD hS => ?_)
    have w10 : fm_Mod_takeModel st = u10 := hw10.symm
    have hf10 : XF [] [7] [1] st u10 := by rw [← w10]; exact ff_Mod_takeModel st
    try rw [w10] at hR
    refine lv_iconst (v := (0 : Int32)) hx hb dX10_follows_13 (by decide) ?_
    refine lv_istore_n (lv' := [(1, .int (0 : Int32)), (0, .ref (a 0))]) hx hb dX10_follows_14 rfl hl (by decide) rfl (fun ls hl => ?_)
    have L15 : ∀ (n : Nat) (i : Nat) (H : Heap) (locs : List Loc) (ls : Array Slot), fm_Mod_follows_L15 st n i = R → (i ≤ E) → E - i < n → va_P (dC, dI) vwCl (mw a k (u10)) H → va_D A (mw a k (u10)) → va_S A s.heap H locs → lv_has ls 2 [(1, .int (nI i)), (0, .ref (a 0))] → W p l e (headSpec wsX10_follows ({ frames := 6, cells := 0, slots := 0, locals := 142 })).room s m ([.ref (a 0)] : List Value).toArray below meth c H locs 0 0 (MQ below (va_Qi (fun r9 u9 => (r9, u9) = R) (wl_at (dC, dI) vwCl (mt k) (mw a k) A) A) ([.ref (a 0)] : List Value).toArray s 0 0 A) (F0 m 15 ls []) := by
      intro n
      induction n with
      | zero =>
        intro i H locs ls hR hi hm hP hD hS hl
        exact absurd hm (Nat.not_lt_zero _)
      | succ n ih =>
        intro i H locs ls hR hi hm hP hD hS hl
        rw [fm_Mod_follows_L15] at hR
        try rw [w10] at hR
        refine lv_iload_n hx hb dX10_follows_15 rfl (lv_at hl 0 rfl) ?_
        refine lv_aload_n hx hb dX10_follows_16 rfl (lv_at hl 1 rfl) ?_
        refine va_get (D := (dC, dI)) (ci := 8) (v := .int (gI (u10) 3)) (C := RX10) (T := TX10) (N := 21) hx hb hta inX10 hown hK hP 0 (mr_0 a k (u10)) rfl 3 (by decide) hf19 (fun _ h9 => h9) rfl dX10_follows_17 ?_
        refine lv_icmp_ge (tgt := 45) hx hb dX10_follows_20 (by decide) (fun c20 => ?_) (fun c20 => ?_)
        · skip
          rw [if_pos c20] at hR
          refine lv_iload_n hx hb dX10_follows_45 rfl (lv_at hl 0 rfl) ?_
          exact W.iret (v := nI i) hx hb hr (fun t ht hW => ⟨⟨_, _, rfl, hR, by rw [ht]; exact hP, va_K.moved hW.alike hK, hD⟩, hS.F ht⟩) hS.2.2 dX10_follows_46
        · skip
          rw [if_neg c20] at hR
          have hlt : i < E := wl_lt (by rw [← hEl, ← hf10.I 3 (by decide)]; exact c20) (by omega)
          refine lv_aload_n hx hb dX10_follows_23 rfl (lv_at hl 1 rfl) ?_
          refine va_get (D := (dC, dI)) (ci := 8) (v := .ref (a 7)) (C := RX10) (T := TX10) (N := 21) hx hb hta inX10 hown hK hP 0 (mr_0 a k (u10)) rfl 13 (by decide) hf51 (fun _ h9 => h9) rfl dX10_follows_24 ?_
          refine lv_aload_n hx hb dX10_follows_27 rfl (lv_at hl 1 rfl) ?_
          refine va_get (D := (dC, dI)) (ci := 8) (v := .ref (a 14)) (C := RX10) (T := TX10) (N := 21) hx hb hta inX10 hown hK hP 0 (mr_0 a k (u10)) rfl 20 (by decide) hf73 (fun _ h9 => h9) rfl dX10_follows_28 ?_
          refine lv_iload_n hx hb dX10_follows_31 rfl (lv_at hl 0 rfl) ?_
          refine va_iald hx hb hK hP 14 13 (mr_14 a k (u10)) rfl (wl_in (by omega) (by decide)) dX10_follows_32 ?_
          have e32 : (fA (u10) 11 (nI i).toNatClampNeg) = fA st 11 i := (by rw [hf10.A 11 (by decide), nI_clamp (by omega)])
          rw [e32]
          try rw [e32] at hR
          refine va_lald hx hb hK hP 7 6 (mr_7 a k (u10)) rfl (hcd i hlt) dX10_follows_33 ?_
          refine lv_lconst (v := (1 : Int64)) hx hb dX10_follows_34 (by decide) ?_
          refine W.lcmp hx hb dX10_follows_35 ?_
          refine lv_if_ne (tgt := 45) hx hb dX10_follows_36 (by decide) (fun c36 => ?_) (fun c36 => ?_)
          · skip
            rw [if_neg c36] at hR
            refine lv_iload_n hx hb dX10_follows_45 rfl (lv_at hl 0 rfl) ?_
            exact W.iret (v := nI i) hx hb hr (fun t ht hW => ⟨⟨_, _, rfl, hR, by rw [ht]; exact hP, va_K.moved hW.alike hK, hD⟩, hS.F ht⟩) hS.2.2 dX10_follows_46
          · skip
            rw [if_pos c36] at hR
            refine lv_iinc (v := nI (i + 1)) (lv' := [(1, .int (nI (i + 1))), (0, .ref (a 0))]) hx hb dX10_follows_39 hl (k := 0) rfl (nI_1 _) (by decide) rfl (fun ls hl => ?_)
            refine lv_goto (tgt := 15) hx hb dX10_follows_42 (by decide) ?_
            exact ih (i + 1) _ _ ls hR (by omega) (by omega) hP hD hS (lv_sub hl [0, 1] rfl)
    exact L15 17 0 _ _ ls hR (Nat.zero_le _) (by omega) hP hD hS (lv_sub hl [0, 1] rfl)
  · skip
    rw [if_neg c4] at hR
    refine lv_iconst (v := (-1 : Int32)) hx hb dX10_follows_7 (by decide) ?_
    exact W.iret (v := (-1 : Int32)) hx hb hr (fun t ht hW => ⟨⟨_, _, rfl, hR, by rw [ht]; exact hP, va_K.moved hW.alike hK, hD⟩, hS.F ht⟩) hS.2.2 dX10_follows_8

theorem dX10_answer_0 : decode cX10_answer 0 = .ok (.iload_n 1, 1) := by decide +kernel
theorem dX10_answer_1 : decode cX10_answer 1 = .ok (.ifCond .ne 15, 3) := by decide +kernel
theorem dX10_answer_4 : decode cX10_answer 4 = .ok (.aload_n 0, 1) := by decide +kernel
theorem dX10_answer_5 : decode cX10_answer 5 = .ok (.dup, 1) := by decide +kernel
theorem dX10_answer_6 : decode cX10_answer 6 = .ok (.getfield 25, 3) := by decide +kernel
theorem dX10_answer_9 : decode cX10_answer 9 = .ok (.iconst 1, 1) := by decide +kernel
theorem dX10_answer_10 : decode cX10_answer 10 = .ok (.iadd, 1) := by decide +kernel
theorem dX10_answer_11 : decode cX10_answer 11 = .ok (.putfield 25, 3) := by decide +kernel
theorem dX10_answer_14 : decode cX10_answer 14 = .ok (.iconst 0, 1) := by decide +kernel
theorem dX10_answer_15 : decode cX10_answer 15 = .ok (.ireturn, 1) := by decide +kernel
theorem dX10_answer_16 : decode cX10_answer 16 = .ok (.aload_n 0, 1) := by decide +kernel
theorem dX10_answer_17 : decode cX10_answer 17 = .ok (.dup, 1) := by decide +kernel
theorem dX10_answer_18 : decode cX10_answer 18 = .ok (.getfield 22, 3) := by decide +kernel
theorem dX10_answer_21 : decode cX10_answer 21 = .ok (.iconst 1, 1) := by decide +kernel
theorem dX10_answer_22 : decode cX10_answer 22 = .ok (.iadd, 1) := by decide +kernel
theorem dX10_answer_23 : decode cX10_answer 23 = .ok (.putfield 22, 3) := by decide +kernel
theorem dX10_answer_26 : decode cX10_answer 26 = .ok (.aload_n 0, 1) := by decide +kernel
theorem dX10_answer_27 : decode cX10_answer 27 = .ok (.aload_n 0, 1) := by decide +kernel
theorem dX10_answer_28 : decode cX10_answer 28 = .ok (.getfield 16, 3) := by decide +kernel
theorem dX10_answer_31 : decode cX10_answer 31 = .ok (.putfield 28, 3) := by decide +kernel
theorem dX10_answer_34 : decode cX10_answer 34 = .ok (.iconst 0, 1) := by decide +kernel
theorem dX10_answer_35 : decode cX10_answer 35 = .ok (.istore_n 2, 1) := by decide +kernel
theorem dX10_answer_36 : decode cX10_answer 36 = .ok (.iload_n 2, 1) := by decide +kernel
theorem dX10_answer_37 : decode cX10_answer 37 = .ok (.iconst 4, 1) := by decide +kernel
theorem dX10_answer_38 : decode cX10_answer 38 = .ok (.if_icmp .ge 33, 3) := by decide +kernel
theorem dX10_answer_41 : decode cX10_answer 41 = .ok (.aload_n 0, 1) := by decide +kernel
theorem dX10_answer_42 : decode cX10_answer 42 = .ok (.getfield 63, 3) := by decide +kernel
theorem dX10_answer_45 : decode cX10_answer 45 = .ok (.iload_n 2, 1) := by decide +kernel
theorem dX10_answer_46 : decode cX10_answer 46 = .ok (.iload_n 2, 1) := by decide +kernel
theorem dX10_answer_47 : decode cX10_answer 47 = .ok (.aload_n 0, 1) := by decide +kernel
theorem dX10_answer_48 : decode cX10_answer 48 = .ok (.getfield 16, 3) := by decide +kernel
theorem dX10_answer_51 : decode cX10_answer 51 = .ok (.if_icmp .ge 12, 3) := by decide +kernel
theorem dX10_answer_54 : decode cX10_answer 54 = .ok (.aload_n 0, 1) := by decide +kernel
theorem dX10_answer_55 : decode cX10_answer 55 = .ok (.getfield 60, 3) := by decide +kernel
theorem dX10_answer_58 : decode cX10_answer 58 = .ok (.iload_n 2, 1) := by decide +kernel
theorem dX10_answer_59 : decode cX10_answer 59 = .ok (.iaload, 1) := by decide +kernel
theorem dX10_answer_60 : decode cX10_answer 60 = .ok (.goto 4, 3) := by decide +kernel
theorem dX10_answer_63 : decode cX10_answer 63 = .ok (.iconst 0, 1) := by decide +kernel
theorem dX10_answer_64 : decode cX10_answer 64 = .ok (.iastore, 1) := by decide +kernel
theorem dX10_answer_65 : decode cX10_answer 65 = .ok (.iinc 2 1, 3) := by decide +kernel
theorem dX10_answer_68 : decode cX10_answer 68 = .ok (.goto (-32), 3) := by decide +kernel
theorem dX10_answer_71 : decode cX10_answer 71 = .ok (.iconst 1, 1) := by decide +kernel
theorem dX10_answer_72 : decode cX10_answer 72 = .ok (.ireturn, 1) := by decide +kernel
def fm_Mod_answer_L36 (st : XS) (fd : Int32) : Nat → Nat → XS → Int32 × XS
  | 0, i, S1 => (0, S1)
  | n + 1, i, S1 => 
    if (4 : Int32) ≤ nI i then ((1 : Int32), S1)
    else 
      if gI S1 2 ≤ nI i then fm_Mod_answer_L36 st fd n (i + 1) (wA S1 8 ((nI i).toNatClampNeg) (0 : Int32))
      else fm_Mod_answer_L36 st fd n (i + 1) (wA S1 8 ((nI i).toNatClampNeg) (fA S1 7 (nI i).toNatClampNeg))
def fm_Mod_answer (st : XS) (fd : Int32) : Int32 × XS := 
  if fd = (0 : Int32) then ((0 : Int32), wI st 5 ((gI st 5) + (1 : Int32)))
  else fm_Mod_answer_L36 st fd 5 0 (wI (wI st 4 ((gI st 4) + (1 : Int32))) 6 (gI st 2))
theorem fr_Mod_answer_L36 {S0 : XS} (st : XS) (fd : Int32) : ∀ (n : Nat) (i : Nat) (S1 : XS), XF [4, 5, 6] [8] [] S0 S1 → XF [4, 5, 6] [8] [] S0 (fm_Mod_answer_L36 st fd n i S1).2 := by
  intro n
  induction n with
  | zero => intro i S1 h; exact h
  | succ n ih =>
    intro i S1 h
    rw [fm_Mod_answer_L36]
    exact (wl_ite (P := fun (q : Int32 × XS) => XF [4, 5, 6] [8] [] _ (q.2)) (wl_snd h) (wl_ite (P := fun (q : Int32 × XS) => XF [4, 5, 6] [8] [] _ (q.2)) (ih _ _ (XF.wA (by decide) h)) (ih _ _ (XF.wA (by decide) h))))
theorem ff_Mod_answer (st : XS) (fd : Int32) : XF [4, 5, 6] [8] [] st (fm_Mod_answer st fd).2 := by
  rw [fm_Mod_answer]
  exact (wl_ite (P := fun (q : Int32 × XS) => XF [4, 5, 6] [8] [] _ (q.2)) (wl_snd (XF.wI (by decide) XF.rf)) (fr_Mod_answer_L36 _ _ _ _ _ (XF.wI (by decide) (XF.wI (by decide) XF.rf))))
set_option maxHeartbeats 4000000 in
set_option maxRecDepth 100000 in
theorem km_Mod_answer (l : Launch) (dC : Nat → ClassId) (dI : Nat → Nat → Nat) (a : Nat → Nat) (k : Nat → ClassId) (st : XS) (fd : Int32) (sz : Nat) : Met l yX10_answer wsX10_answer ({ frames := 0, cells := 0, slots := 0, locals := 0 }) (va_Pc [.ref (a 0), .int fd] (wl_pre (dC, dI) vwCl (mt k) (mw a k) st sz)) (va_Qi (fun r9 u9 => (r9, u9) = fm_Mod_answer st fd) (wl_at (dC, dI) vwCl (mt k) (mw a k) (va_A (mw a k st) sz)) (va_A (mw a k st) sz)) 0 0 (va_A (mw a k st) sz) := by
  refine Met.ofW (cc := cX10_answer) (maxL := 3) (ret := (some .int)) (by decide) rfl ?_
  intro p e s m args below meth c s₁ B hml hv
  obtain ⟨rfl, hsz, hP, hK, hD0⟩ := hv
  have hx := B.exec
  have hb := B.bytes
  have hr := B.returns
  have hta := aw_hts (atoms_spec (ws := wsX10_answer) B.pre)
  have hown : s.vm.findClass RX10 = some m.cls := findClass_of_methodNamed B.named
  have hlocks := B.notSynchronized
  have hf22 := hta _ mw_637
  have hf16 := hta _ mw_635
  have hf28 := hta _ mw_639
  have hf63 := hta _ mw_650
  have hf60 := hta _ mw_649
  have hf25 := hta _ mw_638
  subst hsz
  have hD := hD0.self (sz := s.heap.size)
  generalize hAe : va_A (mw a k st) s.heap.size = A at hD ⊢
  have hAz : ∀ q : Nat, s.heap.size ≤ q → A q := fun q h => by rw [← hAe]; exact Or.inr h
  have hS : va_S A s.heap s.heap [] := va_S.rf
  have hl := lv_entry ([.ref (a 0), .int fd]) (n := 3) (Nat.le_of_ble_eq_true rfl)
  rw [lg_entry_eq]
  generalize (lg_sl ([.ref (a 0), .int fd]) ++ List.replicate (3 - (lg_sl ([.ref (a 0), .int fd])).length) Slot.unset).toArray = ls at hl ⊢
  have hl : lv_has ls 3 [(0, .ref (a 0)), (1, .int fd)] := hl
  generalize hR : fm_Mod_answer st fd = R
  rw [fm_Mod_answer] at hR
  refine lv_iload_n hx hb dX10_answer_0 rfl (lv_at hl 1 rfl) ?_
  refine lv_if_ne (tgt := 16) hx hb dX10_answer_1 (by decide) (fun c1 => ?_) (fun c1 => ?_)
  · skip
    rw [if_neg c1] at hR
    refine lv_aload_n hx hb dX10_answer_16 rfl (lv_at hl 0 rfl) ?_
    refine lv_dup hx hb dX10_answer_17 rfl ?_
    refine va_get (D := (dC, dI)) (ci := 8) (v := .int (gI st 4)) (C := RX10) (T := TX10) (N := 21) hx hb hta inX10 hown hK hP 0 (mr_0 a k st) rfl 4 (by decide) hf22 (fun _ h9 => h9) rfl dX10_answer_18 ?_
    refine lv_iconst (v := (1 : Int32)) hx hb dX10_answer_21 (by decide) ?_
    refine lv_iadd hx hb dX10_answer_22 ?_
    refine va_put (D := (dC, dI)) (ci := 8) (v := .int ((gI st 4) + (1 : Int32))) (ty := .int) (C := RX10) (T := TX10) (N := 21) hx hb hta inX10 tyX10 tyX10_ok nmX10 hown hK hP hD hS 0 (mr_0 a k st) rfl 4 (by decide) hf22 (fun _ h9 => h9) rfl (by decide +kernel) rfl rfl (Nat.le_of_ble_eq_true rfl) dX10_answer_23 (fun H locs hP hD hS => ?_)
    have hP := mp_I4 hP
    have hD := md_I4 hD
    refine lv_aload_n hx hb dX10_answer_26 rfl (lv_at hl 0 rfl) ?_
    refine lv_aload_n hx hb dX10_answer_27 rfl (lv_at hl 0 rfl) ?_
    refine va_get (D := (dC, dI)) (ci := 8) (v := .int (gI st 2)) (C := RX10) (T := TX10) (N := 21) hx hb hta inX10 hown hK hP 0 (mr_0 a k (wI st 4 ((gI st 4) + (1 : Int32)))) rfl 2 (by decide) hf16 (fun _ h9 => h9) rfl dX10_answer_28 ?_
    refine va_put (D := (dC, dI)) (ci := 8) (v := .int (gI st 2)) (ty := .int) (C := RX10) (T := TX10) (N := 21) hx hb hta inX10 tyX10 tyX10_ok nmX10 hown hK hP hD hS 0 (mr_0 a k (wI st 4 ((gI st 4) + (1 : Int32)))) rfl 6 (by decide) hf28 (fun _ h9 => h9) rfl (by decide +kernel) rfl rfl (Nat.le_of_ble_eq_true rfl) dX10_answer_31 (fun H locs hP hD hS => ?_)
    have hP := mp_I6 hP
    have hD := md_I6 hD
    refine lv_iconst (v := (0 : Int32)) hx hb dX10_answer_34 (by decide) ?_
    refine lv_istore_n (lv' := [(2, .int (0 : Int32)), (0, .ref (a 0)), (1, .int fd)]) hx hb dX10_answer_35 rfl hl (by decide) rfl (fun ls hl => ?_)
    have L36 : ∀ (n : Nat) (i : Nat) (S1 : XS) (H : Heap) (locs : List Loc) (ls : Array Slot), fm_Mod_answer_L36 st fd n i S1 = R → (i ≤ 4) → 4 - i < n → va_P (dC, dI) vwCl (mw a k S1) H → va_D A (mw a k S1) → va_S A s.heap H locs → lv_has ls 3 [(2, .int (nI i)), (0, .ref (a 0)), (1, .int fd)] → W p l e (headSpec wsX10_answer ({ frames := 0, cells := 0, slots := 0, locals := 0 })).room s m ([.ref (a 0), .int fd] : List Value).toArray below meth c H locs 0 0 (MQ below (va_Qi (fun r9 u9 => (r9, u9) = R) (wl_at (dC, dI) vwCl (mt k) (mw a k) A) A) ([.ref (a 0), .int fd] : List Value).toArray s 0 0 A) (F0 m 36 ls []) := by
      intro n
      induction n with
      | zero =>
        intro i S1 H locs ls hR hi hm hP hD hS hl
        exact absurd hm (Nat.not_lt_zero _)
      | succ n ih =>
        intro i S1 H locs ls hR hi hm hP hD hS hl
        rw [fm_Mod_answer_L36] at hR
        refine lv_iload_n hx hb dX10_answer_36 rfl (lv_at hl 0 rfl) ?_
        refine lv_iconst (v := (4 : Int32)) hx hb dX10_answer_37 (by decide) ?_
        refine lv_icmp_ge (tgt := 71) hx hb dX10_answer_38 (by decide) (fun c38 => ?_) (fun c38 => ?_)
        · skip
          rw [if_pos c38] at hR
          refine lv_iconst (v := (1 : Int32)) hx hb dX10_answer_71 (by decide) ?_
          exact W.iret (v := (1 : Int32)) hx hb hr (fun t ht hW => ⟨⟨_, _, rfl, hR, by rw [ht]; exact hP, va_K.moved hW.alike hK, hD⟩, hS.F ht⟩) hS.2.2 dX10_answer_72
        · skip
          rw [if_neg c38] at hR
          have hlt : i < 4 := wl_lt (N := 4) c38 (by omega)
          refine lv_aload_n hx hb dX10_answer_41 rfl (lv_at hl 1 rfl) ?_
          refine va_get (D := (dC, dI)) (ci := 8) (v := .ref (a 11)) (C := RX10) (T := TX10) (N := 21) hx hb hta inX10 hown hK hP 0 (mr_0 a k S1) rfl 17 (by decide) hf63 (fun _ h9 => h9) rfl dX10_answer_42 ?_
          refine lv_iload_n hx hb dX10_answer_45 rfl (lv_at hl 0 rfl) ?_
          refine lv_iload_n hx hb dX10_answer_46 rfl (lv_at hl 0 rfl) ?_
          refine lv_aload_n hx hb dX10_answer_47 rfl (lv_at hl 1 rfl) ?_
          refine va_get (D := (dC, dI)) (ci := 8) (v := .int (gI S1 2)) (C := RX10) (T := TX10) (N := 21) hx hb hta inX10 hown hK hP 0 (mr_0 a k S1) rfl 2 (by decide) hf16 (fun _ h9 => h9) rfl dX10_answer_48 ?_
          refine lv_icmp_ge (tgt := 63) hx hb dX10_answer_51 (by decide) (fun c51 => ?_) (fun c51 => ?_)
          · skip
            rw [if_pos c51] at hR
            refine lv_iconst (v := (0 : Int32)) hx hb dX10_answer_63 (by decide) ?_
            refine va_iast hx hb hK hP hD hS 11 10 (mr_11 a k S1) rfl (wl_in (by omega) (by decide)) dX10_answer_64 (fun H locs hP hD hS => ?_)
            have hP := mp_A8 hP
            have hD := md_A8 hD
            refine lv_iinc (v := nI (i + 1)) (lv' := [(2, .int (nI (i + 1))), (0, .ref (a 0)), (1, .int fd)]) hx hb dX10_answer_65 hl (k := 0) rfl (nI_1 _) (by decide) rfl (fun ls hl => ?_)
            refine lv_goto (tgt := 36) hx hb dX10_answer_68 (by decide) ?_
            exact ih (i + 1) (wA S1 8 ((nI i).toNatClampNeg) (0 : Int32)) _ _ ls hR (by omega) (by omega) hP hD hS (lv_sub hl [0, 1, 2] rfl)
          · skip
            rw [if_neg c51] at hR
            refine lv_aload_n hx hb dX10_answer_54 rfl (lv_at hl 1 rfl) ?_
            refine va_get (D := (dC, dI)) (ci := 8) (v := .ref (a 10)) (C := RX10) (T := TX10) (N := 21) hx hb hta inX10 hown hK hP 0 (mr_0 a k S1) rfl 16 (by decide) hf60 (fun _ h9 => h9) rfl dX10_answer_55 ?_
            refine lv_iload_n hx hb dX10_answer_58 rfl (lv_at hl 0 rfl) ?_
            refine va_iald hx hb hK hP 10 9 (mr_10 a k S1) rfl (wl_in (by omega) (by decide)) dX10_answer_59 ?_
            refine lv_goto (tgt := 64) hx hb dX10_answer_60 (by decide) ?_
            refine va_iast hx hb hK hP hD hS 11 10 (mr_11 a k S1) rfl (wl_in (by omega) (by decide)) dX10_answer_64 (fun H locs hP hD hS => ?_)
            have hP := mp_A8 hP
            have hD := md_A8 hD
            refine lv_iinc (v := nI (i + 1)) (lv' := [(2, .int (nI (i + 1))), (0, .ref (a 0)), (1, .int fd)]) hx hb dX10_answer_65 hl (k := 0) rfl (nI_1 _) (by decide) rfl (fun ls hl => ?_)
            refine lv_goto (tgt := 36) hx hb dX10_answer_68 (by decide) ?_
            exact ih (i + 1) (wA S1 8 ((nI i).toNatClampNeg) (fA S1 7 (nI i).toNatClampNeg)) _ _ ls hR (by omega) (by omega) hP hD hS (lv_sub hl [0, 1, 2] rfl)
    exact L36 5 0 (wI (wI st 4 ((gI st 4) + (1 : Int32))) 6 (gI st 2)) _ _ ls hR (Nat.zero_le _) (by omega) hP hD hS (lv_sub hl [0, 1, 2] rfl)
  · skip
    rw [if_pos c1] at hR
    refine lv_aload_n hx hb dX10_answer_4 rfl (lv_at hl 0 rfl) ?_
    refine lv_dup hx hb dX10_answer_5 rfl ?_
    refine va_get (D := (dC, dI)) (ci := 8) (v := .int (gI st 5)) (C := RX10) (T := TX10) (N := 21) hx hb hta inX10 hown hK hP 0 (mr_0 a k st) rfl 5 (by decide) hf25 (fun _ h9 => h9) rfl dX10_answer_6 ?_
    refine lv_iconst (v := (1 : Int32)) hx hb dX10_answer_9 (by decide) ?_
    refine lv_iadd hx hb dX10_answer_10 ?_
    refine va_put (D := (dC, dI)) (ci := 8) (v := .int ((gI st 5) + (1 : Int32))) (ty := .int) (C := RX10) (T := TX10) (N := 21) hx hb hta inX10 tyX10 tyX10_ok nmX10 hown hK hP hD hS 0 (mr_0 a k st) rfl 5 (by decide) hf25 (fun _ h9 => h9) rfl (by decide +kernel) rfl rfl (Nat.le_of_ble_eq_true rfl) dX10_answer_11 (fun H locs hP hD hS => ?_)
    have hP := mp_I5 hP
    have hD := md_I5 hD
    refine lv_iconst (v := (0 : Int32)) hx hb dX10_answer_14 (by decide) ?_
    exact W.iret (v := (0 : Int32)) hx hb hr (fun t ht hW => ⟨⟨_, _, rfl, hR, by rw [ht]; exact hP, va_K.moved hW.alike hK, hD⟩, hS.F ht⟩) hS.2.2 dX10_answer_15
