theorem mw_237 : (.code yX9_variable cX9_variable 3 (some .int) : Cond) ∈ AW := List.mem_filter.mpr ⟨List.mem_of_getElem? (i := 237) (by decide +kernel), rfl⟩
theorem mw_234 : (.methodLink RL 13 yX9_variable : Cond) ∈ AW := List.mem_filter.mpr ⟨List.mem_of_getElem? (i := 234) (by decide +kernel), rfl⟩
theorem mw_235 : (.instanceMethod yX9_variable : Cond) ∈ AW := List.mem_filter.mpr ⟨List.mem_of_getElem? (i := 235) (by decide +kernel), rfl⟩
theorem mw_236 : (.selects RX9 yX9_variable yX9_variable : Cond) ∈ AW := List.mem_filter.mpr ⟨List.mem_of_getElem? (i := 236) (by decide +kernel), rfl⟩
theorem mw_700 : (.code yX10_variable cX10_variable 5 (some .int) : Cond) ∈ AW := List.mem_filter.mpr ⟨List.mem_of_getElem? (i := 700) (by decide +kernel), rfl⟩
theorem mw_697 : (.methodLink RL 17 yX10_variable : Cond) ∈ AW := List.mem_filter.mpr ⟨List.mem_of_getElem? (i := 697) (by decide +kernel), rfl⟩
theorem mw_698 : (.instanceMethod yX10_variable : Cond) ∈ AW := List.mem_filter.mpr ⟨List.mem_of_getElem? (i := 698) (by decide +kernel), rfl⟩
theorem mw_699 : (.selects RX10 yX10_variable yX10_variable : Cond) ∈ AW := List.mem_filter.mpr ⟨List.mem_of_getElem? (i := 699) (by decide +kernel), rfl⟩
theorem mw_851 : (.constantLong RL 18 (4294967295) : Cond) ∈ AW := List.mem_filter.mpr ⟨List.mem_of_getElem? (i := 851) (by decide +kernel), rfl⟩
theorem mw_265 : (.code yX9_constant cX9_constant 4 (some .int) : Cond) ∈ AW := List.mem_filter.mpr ⟨List.mem_of_getElem? (i := 265) (by decide +kernel), rfl⟩
theorem mw_262 : (.methodLink RL 20 yX9_constant : Cond) ∈ AW := List.mem_filter.mpr ⟨List.mem_of_getElem? (i := 262) (by decide +kernel), rfl⟩
theorem mw_263 : (.instanceMethod yX9_constant : Cond) ∈ AW := List.mem_filter.mpr ⟨List.mem_of_getElem? (i := 263) (by decide +kernel), rfl⟩
theorem mw_264 : (.selects RX9 yX9_constant yX9_constant : Cond) ∈ AW := List.mem_filter.mpr ⟨List.mem_of_getElem? (i := 264) (by decide +kernel), rfl⟩
theorem mw_708 : (.code yX10_constant cX10_constant 4 (some .int) : Cond) ∈ AW := List.mem_filter.mpr ⟨List.mem_of_getElem? (i := 708) (by decide +kernel), rfl⟩
theorem mw_705 : (.methodLink RL 24 yX10_constant : Cond) ∈ AW := List.mem_filter.mpr ⟨List.mem_of_getElem? (i := 705) (by decide +kernel), rfl⟩
theorem mw_706 : (.instanceMethod yX10_constant : Cond) ∈ AW := List.mem_filter.mpr ⟨List.mem_of_getElem? (i := 706) (by decide +kernel), rfl⟩
theorem mw_707 : (.selects RX10 yX10_constant yX10_constant : Cond) ∈ AW := List.mem_filter.mpr ⟨List.mem_of_getElem? (i := 707) (by decide +kernel), rfl⟩
theorem mw_284 : (.code yX9_entry cX9_entry 4 (some .int) : Cond) ∈ AW := List.mem_filter.mpr ⟨List.mem_of_getElem? (i := 284) (by decide +kernel), rfl⟩
theorem mw_281 : (.methodLink RL 25 yX9_entry : Cond) ∈ AW := List.mem_filter.mpr ⟨List.mem_of_getElem? (i := 281) (by decide +kernel), rfl⟩
theorem mw_282 : (.instanceMethod yX9_entry : Cond) ∈ AW := List.mem_filter.mpr ⟨List.mem_of_getElem? (i := 282) (by decide +kernel), rfl⟩
theorem mw_283 : (.selects RX9 yX9_entry yX9_entry : Cond) ∈ AW := List.mem_filter.mpr ⟨List.mem_of_getElem? (i := 283) (by decide +kernel), rfl⟩
theorem mw_724 : (.code yX10_entry cX10_entry 4 (some .int) : Cond) ∈ AW := List.mem_filter.mpr ⟨List.mem_of_getElem? (i := 724) (by decide +kernel), rfl⟩
theorem mw_721 : (.methodLink RL 29 yX10_entry : Cond) ∈ AW := List.mem_filter.mpr ⟨List.mem_of_getElem? (i := 721) (by decide +kernel), rfl⟩
theorem mw_722 : (.instanceMethod yX10_entry : Cond) ∈ AW := List.mem_filter.mpr ⟨List.mem_of_getElem? (i := 722) (by decide +kernel), rfl⟩
theorem mw_723 : (.selects RX10 yX10_entry yX10_entry : Cond) ∈ AW := List.mem_filter.mpr ⟨List.mem_of_getElem? (i := 723) (by decide +kernel), rfl⟩
theorem mw_311 : (.code yX9_term cX9_term 5 (some .int) : Cond) ∈ AW := List.mem_filter.mpr ⟨List.mem_of_getElem? (i := 311) (by decide +kernel), rfl⟩
theorem mw_308 : (.methodLink RL 30 yX9_term : Cond) ∈ AW := List.mem_filter.mpr ⟨List.mem_of_getElem? (i := 308) (by decide +kernel), rfl⟩
theorem mw_309 : (.instanceMethod yX9_term : Cond) ∈ AW := List.mem_filter.mpr ⟨List.mem_of_getElem? (i := 309) (by decide +kernel), rfl⟩
theorem mw_310 : (.selects RX9 yX9_term yX9_term : Cond) ∈ AW := List.mem_filter.mpr ⟨List.mem_of_getElem? (i := 310) (by decide +kernel), rfl⟩
theorem mw_728 : (.code yX10_term cX10_term 7 (some .int) : Cond) ∈ AW := List.mem_filter.mpr ⟨List.mem_of_getElem? (i := 728) (by decide +kernel), rfl⟩
theorem mw_725 : (.methodLink RL 34 yX10_term : Cond) ∈ AW := List.mem_filter.mpr ⟨List.mem_of_getElem? (i := 725) (by decide +kernel), rfl⟩
theorem mw_726 : (.instanceMethod yX10_term : Cond) ∈ AW := List.mem_filter.mpr ⟨List.mem_of_getElem? (i := 726) (by decide +kernel), rfl⟩
theorem mw_727 : (.selects RX10 yX10_term yX10_term : Cond) ∈ AW := List.mem_filter.mpr ⟨List.mem_of_getElem? (i := 727) (by decide +kernel), rfl⟩
theorem gL_13 : GoodIn AW (wsV RL 13 RX9 yX9_variable wsX9_variable) := aw_V mw_234 mw_235 mw_236 mw_38 mw_237
theorem gL_17 : GoodIn AW (wsV RL 17 RX10 yX10_variable wsX10_variable) := aw_V mw_697 mw_698 mw_699 mw_46 mw_700
theorem gL_20 : GoodIn AW (wsV RL 20 RX9 yX9_constant wsX9_constant) := aw_V mw_262 mw_263 mw_264 mw_38 mw_265
theorem gL_24 : GoodIn AW (wsV RL 24 RX10 yX10_constant wsX10_constant) := aw_V mw_705 mw_706 mw_707 mw_46 mw_708
theorem gL_25 : GoodIn AW (wsV RL 25 RX9 yX9_entry wsX9_entry) := aw_V mw_281 mw_282 mw_283 mw_38 mw_284
theorem gL_29 : GoodIn AW (wsV RL 29 RX10 yX10_entry wsX10_entry) := aw_V mw_721 mw_722 mw_723 mw_46 mw_724
theorem gL_30 : GoodIn AW (wsV RL 30 RX9 yX9_term wsX9_term) := aw_V mw_308 mw_309 mw_310 mw_38 mw_311
theorem gL_34 : GoodIn AW (wsV RL 34 RX10 yX10_term wsX10_term) := aw_V mw_725 mw_726 mw_727 mw_46 mw_728
set_option maxHeartbeats 4000000 in
set_option maxRecDepth 100000 in
theorem lc_0 {p : Program} {l : Launch} {e : Env} {s : State} {m : MethodId} {below : List Frame} {meth : Method} {c : Code} {dC : Nat → ClassId} {dI : Nat → Nat → Nat} {b L : Nat} {xs : Nat → Int32} {a a2 : Nat → Nat} {k k2 : Nat → ClassId} {st ms : XS} {V N E Bt i : Nat} {H : Heap} {locs : List Loc} {ls : Array Slot} (C0 : lw_At p s m meth c b L xs) (hKx : va_K (dC, dI) vwCl (xt k) s) (hKm : va_K (dC, dI) vwCl (mt k2) s) (hL : L ≤ 2560) (hi : i + 5 ≤ L) (hR : Rel st ms V N E Bt) (hP : va_P (dC, dI) vwCl (xw a k st ++ mw a2 k2 ms) H) (hD : va_D (fun q : Nat => s.heap.size ≤ q) (xw a k st ++ mw a2 k2 ms)) (hS : va_S (fun q : Nat => s.heap.size ≤ q) s.heap H locs) (hl : lv_has ls 4 [(0, .ref b), (1, .ref (a 0)), (2, .ref (a2 0)), (3, .int (nI i))]) (kk : ∀ (st ms : XS) (V N E Bt : Nat) (H : Heap) (locs : List Loc), Rel st ms V N E Bt → va_P (dC, dI) vwCl (xw a k st ++ mw a2 k2 ms) H → va_D (fun q : Nat => s.heap.size ≤ q) (xw a k st ++ mw a2 k2 ms) → va_S (fun q : Nat => s.heap.size ≤ q) s.heap H locs → W p l e room_1 s m #[Value.ref b] below meth c H locs 38 2334 (lw_Z below #[Value.ref b] s) (F0 m 577 ls [])) : W p l e room_1 s m #[Value.ref b] below meth c H locs 38 2334 (lw_Z below #[Value.ref b] s) (F0 m 112 ls []) := by
  obtain ⟨hx, hb, hr, hml, hown0, hts, hX, hbl, hlocks, hgv⟩ := C0
  have hta := aw_law hts
  have hown : s.vm.findClass RL = some m.cls := hown0
  have hA : ∀ q : Nat, s.heap.size ≤ q → (fun q : Nat => s.heap.size ≤ q) q := fun _ h => h
  have hbA : ¬ (fun q : Nat => s.heap.size ≤ q) b := Nat.not_le.mpr hbl
  have h_1 : vp_in (nI i + (1 : Int32)) L := by rw [show nI i + (1 : Int32) = nI (i + 1) from nI_add i 1]; exact vp_in_nI (by omega) (by omega)
  have h_2 : vp_in (nI i + (2 : Int32)) L := by rw [show nI i + (2 : Int32) = nI (i + 2) from nI_add i 2]; exact vp_in_nI (by omega) (by omega)
  have h_3 : vp_in (nI i + (3 : Int32)) L := by rw [show nI i + (3 : Int32) = nI (i + 3) from nI_add i 3]; exact vp_in_nI (by omega) (by omega)
  have h_4 : vp_in (nI i + (4 : Int32)) L := by rw [show nI i + (4 : Int32) = nI (i + 4) from nI_add i 4]; exact vp_in_nI (by omega) (by omega)
  refine lv_aload_n hx hb d_law_112 rfl (lv_at hl 1 rfl) ?_
  refine lv_aload_n hx hb d_law_113 rfl (lv_at hl 0 rfl) ?_
  refine lv_iload_n hx hb d_law_114 rfl (lv_at hl 3 rfl) ?_
  refine lv_iconst (v := (1 : Int32)) hx hb d_law_115 (by decide) ?_
  refine lv_iadd hx hb d_law_116 ?_
  refine va_sld hx hb hX hbl hbA hS h_1 d_law_117 ?_
  refine lv_aload_n hx hb d_law_118 rfl (lv_at hl 0 rfl) ?_
  refine lv_iload_n hx hb d_law_119 rfl (lv_at hl 3 rfl) ?_
  refine lv_iconst (v := (2 : Int32)) hx hb d_law_120 (by decide) ?_
  refine lv_iadd hx hb d_law_121 ?_
  refine va_sld hx hb hX hbl hbA hS h_2 d_law_122 ?_
  refine lv_if_eq (tgt := 130) hx hb d_law_123 (by decide) (fun c_123 => ?_) (fun c_123 => ?_)
  · skip
    refine lv_iconst (v := (0 : Int32)) hx hb d_law_130 (by decide) ?_
    have hPc := hP.sub (ws' := xw a k st) [0, 1, 2, 3, 4, 5, 6, 7, 8, 9, 10, 11, 12, 13, 14, 15, 16, 17, 18, 19, 20, 21, 22] rfl
    have hDc := hD.sub (ws' := xw a k st) [0, 1, 2, 3, 4, 5, 6, 7, 8, 9, 10, 11, 12, 13, 14, 15, 16, 17, 18, 19, 20, 21, 22] (by decide) rfl
    refine wl_2i (wf := xw a k) (wr := mw a2 k2 ms) [0, 1, 2, 3, 4, 5, 6, 7, 8, 9, 10, 11, 12, 13, 14, 15, 16, 17, 18, 19, 20, 21, 22] [23, 24, 25, 26, 27, 28, 29, 30, 31, 32, 33, 34, 35, 36, 37] rfl rfl (by decide) (by decide) (va_runV (As := [.int (xs (nI i + (1 : Int32)).toNatClampNeg), .int (0 : Int32)]) (rest := []) ⟨hx, hb, hml, hown, hta⟩ (kx_PS_variable l dC dI a k st ((xs (nI i + (1 : Int32)).toNatClampNeg)) ((0 : Int32)) _ V N E Bt hR.1) (cwV 2 hta gL_13 rfl rfl rfl (by decide +kernel) ⟨Nat.le_of_ble_eq_true rfl, Nat.le_of_ble_eq_true rfl⟩) (wl_pM (C := RX9) (ci := 7) (q0 := 0) hKx hPc hDc rfl (xr_0 a k st)) rfl rfl hl.1 rfl (lv_room (Nat.le_of_ble_eq_true rfl)) d_law_131 ⟨Nat.le_of_ble_eq_true rfl, Nat.le_of_ble_eq_true rfl⟩) hP hD hS hA (fun r1 u1 H locs hw1 hP hD hS => ?_)
    refine lv_aload_n hx hb d_law_134 rfl (lv_at hl 2 rfl) ?_
    refine lv_aload_n hx hb d_law_135 rfl (lv_at hl 0 rfl) ?_
    refine lv_iload_n hx hb d_law_136 rfl (lv_at hl 3 rfl) ?_
    refine lv_iconst (v := (1 : Int32)) hx hb d_law_137 (by decide) ?_
    refine lv_iadd hx hb d_law_138 ?_
    refine va_sld hx hb hX hbl hbA hS h_1 d_law_139 ?_
    refine lv_aload_n hx hb d_law_140 rfl (lv_at hl 0 rfl) ?_
    refine lv_iload_n hx hb d_law_141 rfl (lv_at hl 3 rfl) ?_
    refine lv_iconst (v := (2 : Int32)) hx hb d_law_142 (by decide) ?_
    refine lv_iadd hx hb d_law_143 ?_
    refine va_sld hx hb hX hbl hbA hS h_2 d_law_144 ?_
    refine lv_if_eq (tgt := 152) hx hb d_law_145 (by decide) (fun c_145 => ?_) (fun c_145 => ?_)
    · skip
      refine lv_iconst (v := (0 : Int32)) hx hb d_law_152 (by decide) ?_
      have hPc := hP.sub (ws' := mw a2 k2 ms) [0, 1, 2, 3, 4, 5, 6, 7, 8, 9, 10, 11, 12, 13, 14] rfl
      have hDc := hD.sub (ws' := mw a2 k2 ms) [0, 1, 2, 3, 4, 5, 6, 7, 8, 9, 10, 11, 12, 13, 14] (by decide) rfl
      refine wl_2i (wf := mw a2 k2) (wr := xw a k u1) [0, 1, 2, 3, 4, 5, 6, 7, 8, 9, 10, 11, 12, 13, 14] [15, 16, 17, 18, 19, 20, 21, 22, 23, 24, 25, 26, 27, 28, 29, 30, 31, 32, 33, 34, 35, 36, 37] rfl rfl (by decide) (by decide) (va_runV (As := [.int (xs (nI i + (1 : Int32)).toNatClampNeg), .int (0 : Int32)]) (rest := [.int (r1)]) ⟨hx, hb, hml, hown, hta⟩ (km_Mod_variable l dC dI a2 k2 ms ((xs (nI i + (1 : Int32)).toNatClampNeg)) ((0 : Int32)) _ N hR.2.1.1 hR.n64 V hR.2.1.2.2.1 hR.v4) (cwV 2 hta gL_17 rfl rfl rfl (by decide +kernel) ⟨Nat.le_of_ble_eq_true rfl, Nat.le_of_ble_eq_true rfl⟩) (wl_pM (C := RX10) (ci := 8) (q0 := 0) hKm hPc hDc rfl (mr_0 a2 k2 ms)) rfl rfl hl.1 rfl (lv_room (Nat.le_of_ble_eq_true rfl)) d_law_153 ⟨Nat.le_of_ble_eq_true rfl, Nat.le_of_ble_eq_true rfl⟩) hP hD hS hA (fun r2 u2 H locs hw2 hP hD hS => ?_)
      obtain ⟨q1, q2⟩ := variableN hR ((xs (nI i + (1 : Int32)).toNatClampNeg)) ((0 : Int32))
      obtain ⟨V2, N2, B2, q2⟩ := q2
      rw [← hw1, ← hw2] at q1 q2
      refine lv_icmp_eq (tgt := 577) hx hb d_law_156 (by decide) (fun _ => ?_) (fun q => ?_)
      · exact kk u1 u2 V2 N2 E B2 H locs q2 hP hD hS
      · exact absurd q1 q
    · skip
      exact absurd c_123 c_145
  · skip
    refine lv_iconst (v := (1 : Int32)) hx hb d_law_126 (by decide) ?_
    refine lv_goto (tgt := 131) hx hb d_law_127 (by decide) ?_
    have hPc := hP.sub (ws' := xw a k st) [0, 1, 2, 3, 4, 5, 6, 7, 8, 9, 10, 11, 12, 13, 14, 15, 16, 17, 18, 19, 20, 21, 22] rfl
    have hDc := hD.sub (ws' := xw a k st) [0, 1, 2, 3, 4, 5, 6, 7, 8, 9, 10, 11, 12, 13, 14, 15, 16, 17, 18, 19, 20, 21, 22] (by decide) rfl
    refine wl_2i (wf := xw a k) (wr := mw a2 k2 ms) [0, 1, 2, 3, 4, 5, 6, 7, 8, 9, 10, 11, 12, 13, 14, 15, 16, 17, 18, 19, 20, 21, 22] [23, 24, 25, 26, 27, 28, 29, 30, 31, 32, 33, 34, 35, 36, 37] rfl rfl (by decide) (by decide) (va_runV (As := [.int (xs (nI i + (1 : Int32)).toNatClampNeg), .int (1 : Int32)]) (rest := []) ⟨hx, hb, hml, hown, hta⟩ (kx_PS_variable l dC dI a k st ((xs (nI i + (1 : Int32)).toNatClampNeg)) ((1 : Int32)) _ V N E Bt hR.1) (cwV 2 hta gL_13 rfl rfl rfl (by decide +kernel) ⟨Nat.le_of_ble_eq_true rfl, Nat.le_of_ble_eq_true rfl⟩) (wl_pM (C := RX9) (ci := 7) (q0 := 0) hKx hPc hDc rfl (xr_0 a k st)) rfl rfl hl.1 rfl (lv_room (Nat.le_of_ble_eq_true rfl)) d_law_131 ⟨Nat.le_of_ble_eq_true rfl, Nat.le_of_ble_eq_true rfl⟩) hP hD hS hA (fun r1 u1 H locs hw1 hP hD hS => ?_)
    refine lv_aload_n hx hb d_law_134 rfl (lv_at hl 2 rfl) ?_
    refine lv_aload_n hx hb d_law_135 rfl (lv_at hl 0 rfl) ?_
    refine lv_iload_n hx hb d_law_136 rfl (lv_at hl 3 rfl) ?_
    refine lv_iconst (v := (1 : Int32)) hx hb d_law_137 (by decide) ?_
    refine lv_iadd hx hb d_law_138 ?_
    refine va_sld hx hb hX hbl hbA hS h_1 d_law_139 ?_
    refine lv_aload_n hx hb d_law_140 rfl (lv_at hl 0 rfl) ?_
    refine lv_iload_n hx hb d_law_141 rfl (lv_at hl 3 rfl) ?_
    refine lv_iconst (v := (2 : Int32)) hx hb d_law_142 (by decide) ?_
    refine lv_iadd hx hb d_law_143 ?_
    refine va_sld hx hb hX hbl hbA hS h_2 d_law_144 ?_
    refine lv_if_eq (tgt := 152) hx hb d_law_145 (by decide) (fun c_145 => ?_) (fun c_145 => ?_)
    · skip
      exact absurd c_145 c_123
    · skip
      refine lv_iconst (v := (1 : Int32)) hx hb d_law_148 (by decide) ?_
      refine lv_goto (tgt := 153) hx hb d_law_149 (by decide) ?_
      have hPc := hP.sub (ws' := mw a2 k2 ms) [0, 1, 2, 3, 4, 5, 6, 7, 8, 9, 10, 11, 12, 13, 14] rfl
      have hDc := hD.sub (ws' := mw a2 k2 ms) [0, 1, 2, 3, 4, 5, 6, 7, 8, 9, 10, 11, 12, 13, 14] (by decide) rfl
      refine wl_2i (wf := mw a2 k2) (wr := xw a k u1) [0, 1, 2, 3, 4, 5, 6, 7, 8, 9, 10, 11, 12, 13, 14] [15, 16, 17, 18, 19, 20, 21, 22, 23, 24, 25, 26, 27, 28, 29, 30, 31, 32, 33, 34, 35, 36, 37] rfl rfl (by decide) (by decide) (va_runV (As := [.int (xs (nI i + (1 : Int32)).toNatClampNeg), .int (1 : Int32)]) (rest := [.int (r1)]) ⟨hx, hb, hml, hown, hta⟩ (km_Mod_variable l dC dI a2 k2 ms ((xs (nI i + (1 : Int32)).toNatClampNeg)) ((1 : Int32)) _ N hR.2.1.1 hR.n64 V hR.2.1.2.2.1 hR.v4) (cwV 2 hta gL_17 rfl rfl rfl (by decide +kernel) ⟨Nat.le_of_ble_eq_true rfl, Nat.le_of_ble_eq_true rfl⟩) (wl_pM (C := RX10) (ci := 8) (q0 := 0) hKm hPc hDc rfl (mr_0 a2 k2 ms)) rfl rfl hl.1 rfl (lv_room (Nat.le_of_ble_eq_true rfl)) d_law_153 ⟨Nat.le_of_ble_eq_true rfl, Nat.le_of_ble_eq_true rfl⟩) hP hD hS hA (fun r2 u2 H locs hw2 hP hD hS => ?_)
      obtain ⟨q1, q2⟩ := variableN hR ((xs (nI i + (1 : Int32)).toNatClampNeg)) ((1 : Int32))
      obtain ⟨V2, N2, B2, q2⟩ := q2
      rw [← hw1, ← hw2] at q1 q2
      refine lv_icmp_eq (tgt := 577) hx hb d_law_156 (by decide) (fun _ => ?_) (fun q => ?_)
      · exact kk u1 u2 V2 N2 E B2 H locs q2 hP hD hS
      · exact absurd q1 q
set_option maxHeartbeats 4000000 in
set_option maxRecDepth 100000 in
theorem lc_1 {p : Program} {l : Launch} {e : Env} {s : State} {m : MethodId} {below : List Frame} {meth : Method} {c : Code} {dC : Nat → ClassId} {dI : Nat → Nat → Nat} {b L : Nat} {xs : Nat → Int32} {a a2 : Nat → Nat} {k k2 : Nat → ClassId} {st ms : XS} {V N E Bt i : Nat} {H : Heap} {locs : List Loc} {ls : Array Slot} (C0 : lw_At p s m meth c b L xs) (hKx : va_K (dC, dI) vwCl (xt k) s) (hKm : va_K (dC, dI) vwCl (mt k2) s) (hL : L ≤ 2560) (hi : i + 5 ≤ L) (hR : Rel st ms V N E Bt) (hP : va_P (dC, dI) vwCl (xw a k st ++ mw a2 k2 ms) H) (hD : va_D (fun q : Nat => s.heap.size ≤ q) (xw a k st ++ mw a2 k2 ms)) (hS : va_S (fun q : Nat => s.heap.size ≤ q) s.heap H locs) (hl : lv_has ls 4 [(0, .ref b), (1, .ref (a 0)), (2, .ref (a2 0)), (3, .int (nI i))]) (kk : ∀ (st ms : XS) (V N E Bt : Nat) (H : Heap) (locs : List Loc), Rel st ms V N E Bt → va_P (dC, dI) vwCl (xw a k st ++ mw a2 k2 ms) H → va_D (fun q : Nat => s.heap.size ≤ q) (xw a k st ++ mw a2 k2 ms) → va_S (fun q : Nat => s.heap.size ≤ q) s.heap H locs → W p l e room_1 s m #[Value.ref b] below meth c H locs 38 2334 (lw_Z below #[Value.ref b] s) (F0 m 577 ls [])) : W p l e room_1 s m #[Value.ref b] below meth c H locs 38 2334 (lw_Z below #[Value.ref b] s) (F0 m 161 ls []) := by
  obtain ⟨hx, hb, hr, hml, hown0, hts, hX, hbl, hlocks, hgv⟩ := C0
  have hta := aw_law hts
  have hown : s.vm.findClass RL = some m.cls := hown0
  have hA : ∀ q : Nat, s.heap.size ≤ q → (fun q : Nat => s.heap.size ≤ q) q := fun _ h => h
  have hbA : ¬ (fun q : Nat => s.heap.size ≤ q) b := Nat.not_le.mpr hbl
  have h_1 : vp_in (nI i + (1 : Int32)) L := by rw [show nI i + (1 : Int32) = nI (i + 1) from nI_add i 1]; exact vp_in_nI (by omega) (by omega)
  have h_2 : vp_in (nI i + (2 : Int32)) L := by rw [show nI i + (2 : Int32) = nI (i + 2) from nI_add i 2]; exact vp_in_nI (by omega) (by omega)
  have h_3 : vp_in (nI i + (3 : Int32)) L := by rw [show nI i + (3 : Int32) = nI (i + 3) from nI_add i 3]; exact vp_in_nI (by omega) (by omega)
  have h_4 : vp_in (nI i + (4 : Int32)) L := by rw [show nI i + (4 : Int32) = nI (i + 4) from nI_add i 4]; exact vp_in_nI (by omega) (by omega)
  refine lv_aload_n hx hb d_law_161 rfl (lv_at hl 1 rfl) ?_
  refine lv_aload_n hx hb d_law_162 rfl (lv_at hl 0 rfl) ?_
  refine lv_iload_n hx hb d_law_163 rfl (lv_at hl 3 rfl) ?_
  refine lv_iconst (v := (1 : Int32)) hx hb d_law_164 (by decide) ?_
  refine lv_iadd hx hb d_law_165 ?_
  refine va_sld hx hb hX hbl hbA hS h_1 d_law_166 ?_
  refine lv_aload_n hx hb d_law_167 rfl (lv_at hl 0 rfl) ?_
  refine lv_iload_n hx hb d_law_168 rfl (lv_at hl 3 rfl) ?_
  refine lv_iconst (v := (2 : Int32)) hx hb d_law_169 (by decide) ?_
  refine lv_iadd hx hb d_law_170 ?_
  refine va_sld hx hb hX hbl hbA hS h_2 d_law_171 ?_
  refine lv_i2l (v := (xs (nI i + (2 : Int32)).toNatClampNeg).toInt64) hx hb d_law_172 rfl ?_
  refine lv_bipush (v := (32 : Int32)) hx hb d_law_173 (by decide) ?_
  refine lv_lshl (v := ((xs (nI i + (2 : Int32)).toNatClampNeg).toInt64 <<< ((32 : Int32).toInt64 &&& 63))) hx hb d_law_175 rfl ?_
  refine lv_aload_n hx hb d_law_176 rfl (lv_at hl 0 rfl) ?_
  refine lv_iload_n hx hb d_law_177 rfl (lv_at hl 3 rfl) ?_
  refine lv_iconst (v := (3 : Int32)) hx hb d_law_178 (by decide) ?_
  refine lv_iadd hx hb d_law_179 ?_
  refine va_sld hx hb hX hbl hbA hS h_3 d_law_180 ?_
  refine lv_i2l (v := (xs (nI i + (3 : Int32)).toNatClampNeg).toInt64) hx hb d_law_181 rfl ?_
  refine lv_ldc2 (v := (4294967295 : Int64)) hx hb hown (hta _ mw_851) d_law_182 ?_
  refine lv_land hx hb d_law_185 ?_
  refine lv_lor hx hb d_law_186 ?_
  have hPc := hP.sub (ws' := xw a k st) [0, 1, 2, 3, 4, 5, 6, 7, 8, 9, 10, 11, 12, 13, 14, 15, 16, 17, 18, 19, 20, 21, 22] rfl
  have hDc := hD.sub (ws' := xw a k st) [0, 1, 2, 3, 4, 5, 6, 7, 8, 9, 10, 11, 12, 13, 14, 15, 16, 17, 18, 19, 20, 21, 22] (by decide) rfl
  refine wl_2i (wf := xw a k) (wr := mw a2 k2 ms) [0, 1, 2, 3, 4, 5, 6, 7, 8, 9, 10, 11, 12, 13, 14, 15, 16, 17, 18, 19, 20, 21, 22] [23, 24, 25, 26, 27, 28, 29, 30, 31, 32, 33, 34, 35, 36, 37] rfl rfl (by decide) (by decide) (va_runV (As := [.int (xs (nI i + (1 : Int32)).toNatClampNeg), .long (((xs (nI i + (2 : Int32)).toNatClampNeg).toInt64 <<< ((32 : Int32).toInt64 &&& 63)) ||| ((xs (nI i + (3 : Int32)).toNatClampNeg).toInt64 &&& (4294967295 : Int64)))]) (rest := []) ⟨hx, hb, hml, hown, hta⟩ (kx_PS_constant l dC dI a k st ((xs (nI i + (1 : Int32)).toNatClampNeg)) ((((xs (nI i + (2 : Int32)).toNatClampNeg).toInt64 <<< ((32 : Int32).toInt64 &&& 63)) ||| ((xs (nI i + (3 : Int32)).toNatClampNeg).toInt64 &&& (4294967295 : Int64)))) _ V N E Bt hR.1) (cwV 2 hta gL_20 rfl rfl rfl (by decide +kernel) ⟨Nat.le_of_ble_eq_true rfl, Nat.le_of_ble_eq_true rfl⟩) (wl_pM (C := RX9) (ci := 7) (q0 := 0) hKx hPc hDc rfl (xr_0 a k st)) rfl rfl hl.1 rfl (lv_room (Nat.le_of_ble_eq_true rfl)) d_law_187 ⟨Nat.le_of_ble_eq_true rfl, Nat.le_of_ble_eq_true rfl⟩) hP hD hS hA (fun r1 u1 H locs hw1 hP hD hS => ?_)
  refine lv_aload_n hx hb d_law_190 rfl (lv_at hl 2 rfl) ?_
  refine lv_aload_n hx hb d_law_191 rfl (lv_at hl 0 rfl) ?_
  refine lv_iload_n hx hb d_law_192 rfl (lv_at hl 3 rfl) ?_
  refine lv_iconst (v := (1 : Int32)) hx hb d_law_193 (by decide) ?_
  refine lv_iadd hx hb d_law_194 ?_
  refine va_sld hx hb hX hbl hbA hS h_1 d_law_195 ?_
  refine lv_aload_n hx hb d_law_196 rfl (lv_at hl 0 rfl) ?_
  refine lv_iload_n hx hb d_law_197 rfl (lv_at hl 3 rfl) ?_
  refine lv_iconst (v := (2 : Int32)) hx hb d_law_198 (by decide) ?_
  refine lv_iadd hx hb d_law_199 ?_
  refine va_sld hx hb hX hbl hbA hS h_2 d_law_200 ?_
  refine lv_i2l (v := (xs (nI i + (2 : Int32)).toNatClampNeg).toInt64) hx hb d_law_201 rfl ?_
  refine lv_bipush (v := (32 : Int32)) hx hb d_law_202 (by decide) ?_
  refine lv_lshl (v := ((xs (nI i + (2 : Int32)).toNatClampNeg).toInt64 <<< ((32 : Int32).toInt64 &&& 63))) hx hb d_law_204 rfl ?_
  refine lv_aload_n hx hb d_law_205 rfl (lv_at hl 0 rfl) ?_
  refine lv_iload_n hx hb d_law_206 rfl (lv_at hl 3 rfl) ?_
  refine lv_iconst (v := (3 : Int32)) hx hb d_law_207 (by decide) ?_
  refine lv_iadd hx hb d_law_208 ?_
  refine va_sld hx hb hX hbl hbA hS h_3 d_law_209 ?_
  refine lv_i2l (v := (xs (nI i + (3 : Int32)).toNatClampNeg).toInt64) hx hb d_law_210 rfl ?_
  refine lv_ldc2 (v := (4294967295 : Int64)) hx hb hown (hta _ mw_851) d_law_211 ?_
  refine lv_land hx hb d_law_214 ?_
  refine lv_lor hx hb d_law_215 ?_
  have hPc := hP.sub (ws' := mw a2 k2 ms) [0, 1, 2, 3, 4, 5, 6, 7, 8, 9, 10, 11, 12, 13, 14] rfl
  have hDc := hD.sub (ws' := mw a2 k2 ms) [0, 1, 2, 3, 4, 5, 6, 7, 8, 9, 10, 11, 12, 13, 14] (by decide) rfl
  refine wl_2i (wf := mw a2 k2) (wr := xw a k u1) [0, 1, 2, 3, 4, 5, 6, 7, 8, 9, 10, 11, 12, 13, 14] [15, 16, 17, 18, 19, 20, 21, 22, 23, 24, 25, 26, 27, 28, 29, 30, 31, 32, 33, 34, 35, 36, 37] rfl rfl (by decide) (by decide) (va_runV (As := [.int (xs (nI i + (1 : Int32)).toNatClampNeg), .long (((xs (nI i + (2 : Int32)).toNatClampNeg).toInt64 <<< ((32 : Int32).toInt64 &&& 63)) ||| ((xs (nI i + (3 : Int32)).toNatClampNeg).toInt64 &&& (4294967295 : Int64)))]) (rest := [.int (r1)]) ⟨hx, hb, hml, hown, hta⟩ (km_Mod_constant l dC dI a2 k2 ms ((xs (nI i + (1 : Int32)).toNatClampNeg)) ((((xs (nI i + (2 : Int32)).toNatClampNeg).toInt64 <<< ((32 : Int32).toInt64 &&& 63)) ||| ((xs (nI i + (3 : Int32)).toNatClampNeg).toInt64 &&& (4294967295 : Int64)))) _ N hR.2.1.1 hR.n64) (cwV 2 hta gL_24 rfl rfl rfl (by decide +kernel) ⟨Nat.le_of_ble_eq_true rfl, Nat.le_of_ble_eq_true rfl⟩) (wl_pM (C := RX10) (ci := 8) (q0 := 0) hKm hPc hDc rfl (mr_0 a2 k2 ms)) rfl rfl hl.1 rfl (lv_room (Nat.le_of_ble_eq_true rfl)) d_law_216 ⟨Nat.le_of_ble_eq_true rfl, Nat.le_of_ble_eq_true rfl⟩) hP hD hS hA (fun r2 u2 H locs hw2 hP hD hS => ?_)
  obtain ⟨q1, q2⟩ := constantN hR ((xs (nI i + (1 : Int32)).toNatClampNeg)) ((((xs (nI i + (2 : Int32)).toNatClampNeg).toInt64 <<< ((32 : Int32).toInt64 &&& 63)) ||| ((xs (nI i + (3 : Int32)).toNatClampNeg).toInt64 &&& (4294967295 : Int64))))
  obtain ⟨N2, q2⟩ := q2
  rw [← hw1, ← hw2] at q1 q2
  refine lv_icmp_eq (tgt := 577) hx hb d_law_219 (by decide) (fun _ => ?_) (fun q => ?_)
  · exact kk u1 u2 V N2 E Bt H locs q2 hP hD hS
  · exact absurd q1 q
set_option maxHeartbeats 4000000 in
set_option maxRecDepth 100000 in
theorem lc_2 {p : Program} {l : Launch} {e : Env} {s : State} {m : MethodId} {below : List Frame} {meth : Method} {c : Code} {dC : Nat → ClassId} {dI : Nat → Nat → Nat} {b L : Nat} {xs : Nat → Int32} {a a2 : Nat → Nat} {k k2 : Nat → ClassId} {st ms : XS} {V N E Bt i : Nat} {H : Heap} {locs : List Loc} {ls : Array Slot} (C0 : lw_At p s m meth c b L xs) (hKx : va_K (dC, dI) vwCl (xt k) s) (hKm : va_K (dC, dI) vwCl (mt k2) s) (hL : L ≤ 2560) (hi : i + 5 ≤ L) (hR : Rel st ms V N E Bt) (hP : va_P (dC, dI) vwCl (xw a k st ++ mw a2 k2 ms) H) (hD : va_D (fun q : Nat => s.heap.size ≤ q) (xw a k st ++ mw a2 k2 ms)) (hS : va_S (fun q : Nat => s.heap.size ≤ q) s.heap H locs) (hl : lv_has ls 4 [(0, .ref b), (1, .ref (a 0)), (2, .ref (a2 0)), (3, .int (nI i))]) (kk : ∀ (st ms : XS) (V N E Bt : Nat) (H : Heap) (locs : List Loc), Rel st ms V N E Bt → va_P (dC, dI) vwCl (xw a k st ++ mw a2 k2 ms) H → va_D (fun q : Nat => s.heap.size ≤ q) (xw a k st ++ mw a2 k2 ms) → va_S (fun q : Nat => s.heap.size ≤ q) s.heap H locs → W p l e room_1 s m #[Value.ref b] below meth c H locs 38 2334 (lw_Z below #[Value.ref b] s) (F0 m 577 ls [])) : W p l e room_1 s m #[Value.ref b] below meth c H locs 38 2334 (lw_Z below #[Value.ref b] s) (F0 m 224 ls []) := by
  obtain ⟨hx, hb, hr, hml, hown0, hts, hX, hbl, hlocks, hgv⟩ := C0
  have hta := aw_law hts
  have hown : s.vm.findClass RL = some m.cls := hown0
  have hA : ∀ q : Nat, s.heap.size ≤ q → (fun q : Nat => s.heap.size ≤ q) q := fun _ h => h
  have hbA : ¬ (fun q : Nat => s.heap.size ≤ q) b := Nat.not_le.mpr hbl
  have h_1 : vp_in (nI i + (1 : Int32)) L := by rw [show nI i + (1 : Int32) = nI (i + 1) from nI_add i 1]; exact vp_in_nI (by omega) (by omega)
  have h_2 : vp_in (nI i + (2 : Int32)) L := by rw [show nI i + (2 : Int32) = nI (i + 2) from nI_add i 2]; exact vp_in_nI (by omega) (by omega)
  have h_3 : vp_in (nI i + (3 : Int32)) L := by rw [show nI i + (3 : Int32) = nI (i + 3) from nI_add i 3]; exact vp_in_nI (by omega) (by omega)
  have h_4 : vp_in (nI i + (4 : Int32)) L := by rw [show nI i + (4 : Int32) = nI (i + 4) from nI_add i 4]; exact vp_in_nI (by omega) (by omega)
  refine lv_aload_n hx hb d_law_224 rfl (lv_at hl 1 rfl) ?_
  refine lv_aload_n hx hb d_law_225 rfl (lv_at hl 0 rfl) ?_
  refine lv_iload_n hx hb d_law_226 rfl (lv_at hl 3 rfl) ?_
  refine lv_iconst (v := (1 : Int32)) hx hb d_law_227 (by decide) ?_
  refine lv_iadd hx hb d_law_228 ?_
  refine va_sld hx hb hX hbl hbA hS h_1 d_law_229 ?_
  refine lv_aload_n hx hb d_law_230 rfl (lv_at hl 0 rfl) ?_
  refine lv_iload_n hx hb d_law_231 rfl (lv_at hl 3 rfl) ?_
  refine lv_iconst (v := (2 : Int32)) hx hb d_law_232 (by decide) ?_
  refine lv_iadd hx hb d_law_233 ?_
  refine va_sld hx hb hX hbl hbA hS h_2 d_law_234 ?_
  refine lv_aload_n hx hb d_law_235 rfl (lv_at hl 0 rfl) ?_
  refine lv_iload_n hx hb d_law_236 rfl (lv_at hl 3 rfl) ?_
  refine lv_iconst (v := (3 : Int32)) hx hb d_law_237 (by decide) ?_
  refine lv_iadd hx hb d_law_238 ?_
  refine va_sld hx hb hX hbl hbA hS h_3 d_law_239 ?_
  have hPc := hP.sub (ws' := xw a k st) [0, 1, 2, 3, 4, 5, 6, 7, 8, 9, 10, 11, 12, 13, 14, 15, 16, 17, 18, 19, 20, 21, 22] rfl
  have hDc := hD.sub (ws' := xw a k st) [0, 1, 2, 3, 4, 5, 6, 7, 8, 9, 10, 11, 12, 13, 14, 15, 16, 17, 18, 19, 20, 21, 22] (by decide) rfl
  refine wl_2i (wf := xw a k) (wr := mw a2 k2 ms) [0, 1, 2, 3, 4, 5, 6, 7, 8, 9, 10, 11, 12, 13, 14, 15, 16, 17, 18, 19, 20, 21, 22] [23, 24, 25, 26, 27, 28, 29, 30, 31, 32, 33, 34, 35, 36, 37] rfl rfl (by decide) (by decide) (va_runV (As := [.int (xs (nI i + (1 : Int32)).toNatClampNeg), .int (xs (nI i + (2 : Int32)).toNatClampNeg), .int (xs (nI i + (3 : Int32)).toNatClampNeg)]) (rest := []) ⟨hx, hb, hml, hown, hta⟩ (kx_PS_entry l dC dI a k st ((xs (nI i + (1 : Int32)).toNatClampNeg)) ((xs (nI i + (2 : Int32)).toNatClampNeg)) ((xs (nI i + (3 : Int32)).toNatClampNeg)) _ V N E Bt hR.1) (cwV 3 hta gL_25 rfl rfl rfl (by decide +kernel) ⟨Nat.le_of_ble_eq_true rfl, Nat.le_of_ble_eq_true rfl⟩) (wl_pM (C := RX9) (ci := 7) (q0 := 0) hKx hPc hDc rfl (xr_0 a k st)) rfl rfl hl.1 rfl (lv_room (Nat.le_of_ble_eq_true rfl)) d_law_240 ⟨Nat.le_of_ble_eq_true rfl, Nat.le_of_ble_eq_true rfl⟩) hP hD hS hA (fun r1 u1 H locs hw1 hP hD hS => ?_)
  refine lv_aload_n hx hb d_law_243 rfl (lv_at hl 2 rfl) ?_
  refine lv_aload_n hx hb d_law_244 rfl (lv_at hl 0 rfl) ?_
  refine lv_iload_n hx hb d_law_245 rfl (lv_at hl 3 rfl) ?_
  refine lv_iconst (v := (1 : Int32)) hx hb d_law_246 (by decide) ?_
  refine lv_iadd hx hb d_law_247 ?_
  refine va_sld hx hb hX hbl hbA hS h_1 d_law_248 ?_
  refine lv_aload_n hx hb d_law_249 rfl (lv_at hl 0 rfl) ?_
  refine lv_iload_n hx hb d_law_250 rfl (lv_at hl 3 rfl) ?_
  refine lv_iconst (v := (2 : Int32)) hx hb d_law_251 (by decide) ?_
  refine lv_iadd hx hb d_law_252 ?_
  refine va_sld hx hb hX hbl hbA hS h_2 d_law_253 ?_
  refine lv_aload_n hx hb d_law_254 rfl (lv_at hl 0 rfl) ?_
  refine lv_iload_n hx hb d_law_255 rfl (lv_at hl 3 rfl) ?_
  refine lv_iconst (v := (3 : Int32)) hx hb d_law_256 (by decide) ?_
  refine lv_iadd hx hb d_law_257 ?_
  refine va_sld hx hb hX hbl hbA hS h_3 d_law_258 ?_
  have hPc := hP.sub (ws' := mw a2 k2 ms) [0, 1, 2, 3, 4, 5, 6, 7, 8, 9, 10, 11, 12, 13, 14] rfl
  have hDc := hD.sub (ws' := mw a2 k2 ms) [0, 1, 2, 3, 4, 5, 6, 7, 8, 9, 10, 11, 12, 13, 14] (by decide) rfl
  refine wl_2i (wf := mw a2 k2) (wr := xw a k u1) [0, 1, 2, 3, 4, 5, 6, 7, 8, 9, 10, 11, 12, 13, 14] [15, 16, 17, 18, 19, 20, 21, 22, 23, 24, 25, 26, 27, 28, 29, 30, 31, 32, 33, 34, 35, 36, 37] rfl rfl (by decide) (by decide) (va_runV (As := [.int (xs (nI i + (1 : Int32)).toNatClampNeg), .int (xs (nI i + (2 : Int32)).toNatClampNeg), .int (xs (nI i + (3 : Int32)).toNatClampNeg)]) (rest := [.int (r1)]) ⟨hx, hb, hml, hown, hta⟩ (km_Mod_entry l dC dI a2 k2 ms ((xs (nI i + (1 : Int32)).toNatClampNeg)) ((xs (nI i + (2 : Int32)).toNatClampNeg)) ((xs (nI i + (3 : Int32)).toNatClampNeg)) _ ) (cwV 3 hta gL_29 rfl rfl rfl (by decide +kernel) ⟨Nat.le_of_ble_eq_true rfl, Nat.le_of_ble_eq_true rfl⟩) (wl_pM (C := RX10) (ci := 8) (q0 := 0) hKm hPc hDc rfl (mr_0 a2 k2 ms)) rfl rfl hl.1 rfl (lv_room (Nat.le_of_ble_eq_true rfl)) d_law_259 ⟨Nat.le_of_ble_eq_true rfl, Nat.le_of_ble_eq_true rfl⟩) hP hD hS hA (fun r2 u2 H locs hw2 hP hD hS => ?_)
  obtain ⟨q1, q2⟩ := entryN hR ((xs (nI i + (1 : Int32)).toNatClampNeg)) ((xs (nI i + (2 : Int32)).toNatClampNeg)) ((xs (nI i + (3 : Int32)).toNatClampNeg))
  rw [← hw1, ← hw2] at q1 q2
  refine lv_icmp_eq (tgt := 577) hx hb d_law_262 (by decide) (fun _ => ?_) (fun q => ?_)
  · exact kk u1 u2 V N E Bt H locs q2 hP hD hS
  · exact absurd q1 q
set_option maxHeartbeats 4000000 in
set_option maxRecDepth 100000 in
theorem lc_3 {p : Program} {l : Launch} {e : Env} {s : State} {m : MethodId} {below : List Frame} {meth : Method} {c : Code} {dC : Nat → ClassId} {dI : Nat → Nat → Nat} {b L : Nat} {xs : Nat → Int32} {a a2 : Nat → Nat} {k k2 : Nat → ClassId} {st ms : XS} {V N E Bt i : Nat} {H : Heap} {locs : List Loc} {ls : Array Slot} (C0 : lw_At p s m meth c b L xs) (hKx : va_K (dC, dI) vwCl (xt k) s) (hKm : va_K (dC, dI) vwCl (mt k2) s) (hL : L ≤ 2560) (hi : i + 5 ≤ L) (hR : Rel st ms V N E Bt) (hP : va_P (dC, dI) vwCl (xw a k st ++ mw a2 k2 ms) H) (hD : va_D (fun q : Nat => s.heap.size ≤ q) (xw a k st ++ mw a2 k2 ms)) (hS : va_S (fun q : Nat => s.heap.size ≤ q) s.heap H locs) (hl : lv_has ls 4 [(0, .ref b), (1, .ref (a 0)), (2, .ref (a2 0)), (3, .int (nI i))]) (kk : ∀ (st ms : XS) (V N E Bt : Nat) (H : Heap) (locs : List Loc), Rel st ms V N E Bt → va_P (dC, dI) vwCl (xw a k st ++ mw a2 k2 ms) H → va_D (fun q : Nat => s.heap.size ≤ q) (xw a k st ++ mw a2 k2 ms) → va_S (fun q : Nat => s.heap.size ≤ q) s.heap H locs → W p l e room_1 s m #[Value.ref b] below meth c H locs 38 2334 (lw_Z below #[Value.ref b] s) (F0 m 577 ls [])) : W p l e room_1 s m #[Value.ref b] below meth c H locs 38 2334 (lw_Z below #[Value.ref b] s) (F0 m 267 ls []) := by
  obtain ⟨hx, hb, hr, hml, hown0, hts, hX, hbl, hlocks, hgv⟩ := C0
  have hta := aw_law hts
  have hown : s.vm.findClass RL = some m.cls := hown0
  have hA : ∀ q : Nat, s.heap.size ≤ q → (fun q : Nat => s.heap.size ≤ q) q := fun _ h => h
  have hbA : ¬ (fun q : Nat => s.heap.size ≤ q) b := Nat.not_le.mpr hbl
  have h_1 : vp_in (nI i + (1 : Int32)) L := by rw [show nI i + (1 : Int32) = nI (i + 1) from nI_add i 1]; exact vp_in_nI (by omega) (by omega)
  have h_2 : vp_in (nI i + (2 : Int32)) L := by rw [show nI i + (2 : Int32) = nI (i + 2) from nI_add i 2]; exact vp_in_nI (by omega) (by omega)
  have h_3 : vp_in (nI i + (3 : Int32)) L := by rw [show nI i + (3 : Int32) = nI (i + 3) from nI_add i 3]; exact vp_in_nI (by omega) (by omega)
  have h_4 : vp_in (nI i + (4 : Int32)) L := by rw [show nI i + (4 : Int32) = nI (i + 4) from nI_add i 4]; exact vp_in_nI (by omega) (by omega)
  refine lv_aload_n hx hb d_law_267 rfl (lv_at hl 1 rfl) ?_
  refine lv_aload_n hx hb d_law_268 rfl (lv_at hl 0 rfl) ?_
  refine lv_iload_n hx hb d_law_269 rfl (lv_at hl 3 rfl) ?_
  refine lv_iconst (v := (1 : Int32)) hx hb d_law_270 (by decide) ?_
  refine lv_iadd hx hb d_law_271 ?_
  refine va_sld hx hb hX hbl hbA hS h_1 d_law_272 ?_
  refine lv_aload_n hx hb d_law_273 rfl (lv_at hl 0 rfl) ?_
  refine lv_iload_n hx hb d_law_274 rfl (lv_at hl 3 rfl) ?_
  refine lv_iconst (v := (2 : Int32)) hx hb d_law_275 (by decide) ?_
  refine lv_iadd hx hb d_law_276 ?_
  refine va_sld hx hb hX hbl hbA hS h_2 d_law_277 ?_
  refine lv_aload_n hx hb d_law_278 rfl (lv_at hl 0 rfl) ?_
  refine lv_iload_n hx hb d_law_279 rfl (lv_at hl 3 rfl) ?_
  refine lv_iconst (v := (3 : Int32)) hx hb d_law_280 (by decide) ?_
  refine lv_iadd hx hb d_law_281 ?_
  refine va_sld hx hb hX hbl hbA hS h_3 d_law_282 ?_
  refine lv_aload_n hx hb d_law_283 rfl (lv_at hl 0 rfl) ?_
  refine lv_iload_n hx hb d_law_284 rfl (lv_at hl 3 rfl) ?_
  refine lv_iconst (v := (4 : Int32)) hx hb d_law_285 (by decide) ?_
  refine lv_iadd hx hb d_law_286 ?_
  refine va_sld hx hb hX hbl hbA hS h_4 d_law_287 ?_
  have hPc := hP.sub (ws' := xw a k st) [0, 1, 2, 3, 4, 5, 6, 7, 8, 9, 10, 11, 12, 13, 14, 15, 16, 17, 18, 19, 20, 21, 22] rfl
  have hDc := hD.sub (ws' := xw a k st) [0, 1, 2, 3, 4, 5, 6, 7, 8, 9, 10, 11, 12, 13, 14, 15, 16, 17, 18, 19, 20, 21, 22] (by decide) rfl
  refine wl_2i (wf := xw a k) (wr := mw a2 k2 ms) [0, 1, 2, 3, 4, 5, 6, 7, 8, 9, 10, 11, 12, 13, 14, 15, 16, 17, 18, 19, 20, 21, 22] [23, 24, 25, 26, 27, 28, 29, 30, 31, 32, 33, 34, 35, 36, 37] rfl rfl (by decide) (by decide) (va_runV (As := [.int (xs (nI i + (1 : Int32)).toNatClampNeg), .int (xs (nI i + (2 : Int32)).toNatClampNeg), .int (xs (nI i + (3 : Int32)).toNatClampNeg), .int (xs (nI i + (4 : Int32)).toNatClampNeg)]) (rest := []) ⟨hx, hb, hml, hown, hta⟩ (kx_PS_term l dC dI a k st ((xs (nI i + (1 : Int32)).toNatClampNeg)) ((xs (nI i + (2 : Int32)).toNatClampNeg)) ((xs (nI i + (3 : Int32)).toNatClampNeg)) ((xs (nI i + (4 : Int32)).toNatClampNeg)) _ V N E Bt hR.1) (cwV 4 hta gL_30 rfl rfl rfl (by decide +kernel) ⟨Nat.le_of_ble_eq_true rfl, Nat.le_of_ble_eq_true rfl⟩) (wl_pM (C := RX9) (ci := 7) (q0 := 0) hKx hPc hDc rfl (xr_0 a k st)) rfl rfl hl.1 rfl (lv_room (Nat.le_of_ble_eq_true rfl)) d_law_288 ⟨Nat.le_of_ble_eq_true rfl, Nat.le_of_ble_eq_true rfl⟩) hP hD hS hA (fun r1 u1 H locs hw1 hP hD hS => ?_)
  refine lv_aload_n hx hb d_law_291 rfl (lv_at hl 2 rfl) ?_
  refine lv_aload_n hx hb d_law_292 rfl (lv_at hl 0 rfl) ?_
  refine lv_iload_n hx hb d_law_293 rfl (lv_at hl 3 rfl) ?_
  refine lv_iconst (v := (1 : Int32)) hx hb d_law_294 (by decide) ?_
  refine lv_iadd hx hb d_law_295 ?_
  refine va_sld hx hb hX hbl hbA hS h_1 d_law_296 ?_
  refine lv_aload_n hx hb d_law_297 rfl (lv_at hl 0 rfl) ?_
  refine lv_iload_n hx hb d_law_298 rfl (lv_at hl 3 rfl) ?_
  refine lv_iconst (v := (2 : Int32)) hx hb d_law_299 (by decide) ?_
  refine lv_iadd hx hb d_law_300 ?_
  refine va_sld hx hb hX hbl hbA hS h_2 d_law_301 ?_
  refine lv_aload_n hx hb d_law_302 rfl (lv_at hl 0 rfl) ?_
  refine lv_iload_n hx hb d_law_303 rfl (lv_at hl 3 rfl) ?_
  refine lv_iconst (v := (3 : Int32)) hx hb d_law_304 (by decide) ?_
  refine lv_iadd hx hb d_law_305 ?_
  refine va_sld hx hb hX hbl hbA hS h_3 d_law_306 ?_
  refine lv_aload_n hx hb d_law_307 rfl (lv_at hl 0 rfl) ?_
  refine lv_iload_n hx hb d_law_308 rfl (lv_at hl 3 rfl) ?_
  refine lv_iconst (v := (4 : Int32)) hx hb d_law_309 (by decide) ?_
  refine lv_iadd hx hb d_law_310 ?_
  refine va_sld hx hb hX hbl hbA hS h_4 d_law_311 ?_
  have hPc := hP.sub (ws' := mw a2 k2 ms) [0, 1, 2, 3, 4, 5, 6, 7, 8, 9, 10, 11, 12, 13, 14] rfl
  have hDc := hD.sub (ws' := mw a2 k2 ms) [0, 1, 2, 3, 4, 5, 6, 7, 8, 9, 10, 11, 12, 13, 14] (by decide) rfl
  refine wl_2i (wf := mw a2 k2) (wr := xw a k u1) [0, 1, 2, 3, 4, 5, 6, 7, 8, 9, 10, 11, 12, 13, 14] [15, 16, 17, 18, 19, 20, 21, 22, 23, 24, 25, 26, 27, 28, 29, 30, 31, 32, 33, 34, 35, 36, 37] rfl rfl (by decide) (by decide) (va_runV (As := [.int (xs (nI i + (1 : Int32)).toNatClampNeg), .int (xs (nI i + (2 : Int32)).toNatClampNeg), .int (xs (nI i + (3 : Int32)).toNatClampNeg), .int (xs (nI i + (4 : Int32)).toNatClampNeg)]) (rest := [.int (r1)]) ⟨hx, hb, hml, hown, hta⟩ (km_Mod_term l dC dI a2 k2 ms ((xs (nI i + (1 : Int32)).toNatClampNeg)) ((xs (nI i + (2 : Int32)).toNatClampNeg)) ((xs (nI i + (3 : Int32)).toNatClampNeg)) ((xs (nI i + (4 : Int32)).toNatClampNeg)) _ N hR.2.1.1 hR.n64) (cwV 4 hta gL_34 rfl rfl rfl (by decide +kernel) ⟨Nat.le_of_ble_eq_true rfl, Nat.le_of_ble_eq_true rfl⟩) (wl_pM (C := RX10) (ci := 8) (q0 := 0) hKm hPc hDc rfl (mr_0 a2 k2 ms)) rfl rfl hl.1 rfl (lv_room (Nat.le_of_ble_eq_true rfl)) d_law_312 ⟨Nat.le_of_ble_eq_true rfl, Nat.le_of_ble_eq_true rfl⟩) hP hD hS hA (fun r2 u2 H locs hw2 hP hD hS => ?_)
  obtain ⟨q1, q2⟩ := termN hR ((xs (nI i + (1 : Int32)).toNatClampNeg)) ((xs (nI i + (2 : Int32)).toNatClampNeg)) ((xs (nI i + (3 : Int32)).toNatClampNeg)) ((xs (nI i + (4 : Int32)).toNatClampNeg))
  obtain ⟨N2, q2⟩ := q2
  rw [← hw1, ← hw2] at q1 q2
  refine lv_icmp_eq (tgt := 577) hx hb d_law_315 (by decide) (fun _ => ?_) (fun q => ?_)
  · exact kk u1 u2 V N2 E Bt H locs q2 hP hD hS
  · exact absurd q1 q
