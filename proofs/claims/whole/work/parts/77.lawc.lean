theorem mw_580 : (.methodLink RL 61 yX9_value : Cond) ∈ AW := List.mem_filter.mpr ⟨List.mem_of_getElem? (i := 580) (by decide +kernel), rfl⟩
theorem mw_825 : (.code yX10_value cX10_value 2 (some .long) : Cond) ∈ AW := List.mem_filter.mpr ⟨List.mem_of_getElem? (i := 825) (by decide +kernel), rfl⟩
theorem mw_822 : (.methodLink RL 65 yX10_value : Cond) ∈ AW := List.mem_filter.mpr ⟨List.mem_of_getElem? (i := 822) (by decide +kernel), rfl⟩
theorem mw_823 : (.instanceMethod yX10_value : Cond) ∈ AW := List.mem_filter.mpr ⟨List.mem_of_getElem? (i := 823) (by decide +kernel), rfl⟩
theorem mw_824 : (.selects RX10 yX10_value yX10_value : Cond) ∈ AW := List.mem_filter.mpr ⟨List.mem_of_getElem? (i := 824) (by decide +kernel), rfl⟩
theorem mw_597 : (.code yX9_follows cX9_follows 3 (some .int) : Cond) ∈ AW := List.mem_filter.mpr ⟨List.mem_of_getElem? (i := 597) (by decide +kernel), rfl⟩
theorem mw_594 : (.methodLink RL 66 yX9_follows : Cond) ∈ AW := List.mem_filter.mpr ⟨List.mem_of_getElem? (i := 594) (by decide +kernel), rfl⟩
theorem mw_595 : (.instanceMethod yX9_follows : Cond) ∈ AW := List.mem_filter.mpr ⟨List.mem_of_getElem? (i := 595) (by decide +kernel), rfl⟩
theorem mw_596 : (.selects RX9 yX9_follows yX9_follows : Cond) ∈ AW := List.mem_filter.mpr ⟨List.mem_of_getElem? (i := 596) (by decide +kernel), rfl⟩
theorem mw_834 : (.code yX10_follows cX10_follows 2 (some .int) : Cond) ∈ AW := List.mem_filter.mpr ⟨List.mem_of_getElem? (i := 834) (by decide +kernel), rfl⟩
theorem mw_831 : (.methodLink RL 69 yX10_follows : Cond) ∈ AW := List.mem_filter.mpr ⟨List.mem_of_getElem? (i := 831) (by decide +kernel), rfl⟩
theorem mw_832 : (.instanceMethod yX10_follows : Cond) ∈ AW := List.mem_filter.mpr ⟨List.mem_of_getElem? (i := 832) (by decide +kernel), rfl⟩
theorem mw_833 : (.selects RX10 yX10_follows yX10_follows : Cond) ∈ AW := List.mem_filter.mpr ⟨List.mem_of_getElem? (i := 833) (by decide +kernel), rfl⟩
theorem mw_606 : (.code yX9_width cX9_width 2 (some .int) : Cond) ∈ AW := List.mem_filter.mpr ⟨List.mem_of_getElem? (i := 606) (by decide +kernel), rfl⟩
theorem mw_603 : (.methodLink RL 70 yX9_width : Cond) ∈ AW := List.mem_filter.mpr ⟨List.mem_of_getElem? (i := 603) (by decide +kernel), rfl⟩
theorem mw_604 : (.instanceMethod yX9_width : Cond) ∈ AW := List.mem_filter.mpr ⟨List.mem_of_getElem? (i := 604) (by decide +kernel), rfl⟩
theorem mw_605 : (.selects RX9 yX9_width yX9_width : Cond) ∈ AW := List.mem_filter.mpr ⟨List.mem_of_getElem? (i := 605) (by decide +kernel), rfl⟩
theorem mw_838 : (.code yX10_width cX10_width 2 (some .int) : Cond) ∈ AW := List.mem_filter.mpr ⟨List.mem_of_getElem? (i := 838) (by decide +kernel), rfl⟩
theorem mw_835 : (.methodLink RL 73 yX10_width : Cond) ∈ AW := List.mem_filter.mpr ⟨List.mem_of_getElem? (i := 835) (by decide +kernel), rfl⟩
theorem mw_836 : (.instanceMethod yX10_width : Cond) ∈ AW := List.mem_filter.mpr ⟨List.mem_of_getElem? (i := 836) (by decide +kernel), rfl⟩
theorem mw_837 : (.selects RX10 yX10_width yX10_width : Cond) ∈ AW := List.mem_filter.mpr ⟨List.mem_of_getElem? (i := 837) (by decide +kernel), rfl⟩
theorem mw_610 : (.code yX9_operation cX9_operation 2 (some .int) : Cond) ∈ AW := List.mem_filter.mpr ⟨List.mem_of_getElem? (i := 610) (by decide +kernel), rfl⟩
theorem mw_607 : (.methodLink RL 74 yX9_operation : Cond) ∈ AW := List.mem_filter.mpr ⟨List.mem_of_getElem? (i := 607) (by decide +kernel), rfl⟩
theorem mw_608 : (.instanceMethod yX9_operation : Cond) ∈ AW := List.mem_filter.mpr ⟨List.mem_of_getElem? (i := 608) (by decide +kernel), rfl⟩
theorem mw_609 : (.selects RX9 yX9_operation yX9_operation : Cond) ∈ AW := List.mem_filter.mpr ⟨List.mem_of_getElem? (i := 609) (by decide +kernel), rfl⟩
theorem mw_842 : (.code yX10_operation cX10_operation 2 (some .int) : Cond) ∈ AW := List.mem_filter.mpr ⟨List.mem_of_getElem? (i := 842) (by decide +kernel), rfl⟩
theorem mw_839 : (.methodLink RL 77 yX10_operation : Cond) ∈ AW := List.mem_filter.mpr ⟨List.mem_of_getElem? (i := 839) (by decide +kernel), rfl⟩
theorem mw_840 : (.instanceMethod yX10_operation : Cond) ∈ AW := List.mem_filter.mpr ⟨List.mem_of_getElem? (i := 840) (by decide +kernel), rfl⟩
theorem mw_841 : (.selects RX10 yX10_operation yX10_operation : Cond) ∈ AW := List.mem_filter.mpr ⟨List.mem_of_getElem? (i := 841) (by decide +kernel), rfl⟩
theorem mw_615 : (.code yX9_operand cX9_operand 3 (some .int) : Cond) ∈ AW := List.mem_filter.mpr ⟨List.mem_of_getElem? (i := 615) (by decide +kernel), rfl⟩
theorem mw_612 : (.methodLink RL 78 yX9_operand : Cond) ∈ AW := List.mem_filter.mpr ⟨List.mem_of_getElem? (i := 612) (by decide +kernel), rfl⟩
theorem mw_613 : (.instanceMethod yX9_operand : Cond) ∈ AW := List.mem_filter.mpr ⟨List.mem_of_getElem? (i := 613) (by decide +kernel), rfl⟩
theorem mw_614 : (.selects RX9 yX9_operand yX9_operand : Cond) ∈ AW := List.mem_filter.mpr ⟨List.mem_of_getElem? (i := 614) (by decide +kernel), rfl⟩
theorem mw_846 : (.code yX10_operand cX10_operand 4 (some .int) : Cond) ∈ AW := List.mem_filter.mpr ⟨List.mem_of_getElem? (i := 846) (by decide +kernel), rfl⟩
theorem mw_843 : (.methodLink RL 82 yX10_operand : Cond) ∈ AW := List.mem_filter.mpr ⟨List.mem_of_getElem? (i := 843) (by decide +kernel), rfl⟩
theorem mw_844 : (.instanceMethod yX10_operand : Cond) ∈ AW := List.mem_filter.mpr ⟨List.mem_of_getElem? (i := 844) (by decide +kernel), rfl⟩
theorem mw_845 : (.selects RX10 yX10_operand yX10_operand : Cond) ∈ AW := List.mem_filter.mpr ⟨List.mem_of_getElem? (i := 845) (by decide +kernel), rfl⟩
theorem mw_621 : (.code yX9_count cX9_count 2 (some .int) : Cond) ∈ AW := List.mem_filter.mpr ⟨List.mem_of_getElem? (i := 621) (by decide +kernel), rfl⟩
theorem mw_618 : (.methodLink RL 83 yX9_count : Cond) ∈ AW := List.mem_filter.mpr ⟨List.mem_of_getElem? (i := 618) (by decide +kernel), rfl⟩
theorem mw_619 : (.instanceMethod yX9_count : Cond) ∈ AW := List.mem_filter.mpr ⟨List.mem_of_getElem? (i := 619) (by decide +kernel), rfl⟩
theorem mw_620 : (.selects RX9 yX9_count yX9_count : Cond) ∈ AW := List.mem_filter.mpr ⟨List.mem_of_getElem? (i := 620) (by decide +kernel), rfl⟩
theorem mw_850 : (.code yX10_count cX10_count 2 (some .int) : Cond) ∈ AW := List.mem_filter.mpr ⟨List.mem_of_getElem? (i := 850) (by decide +kernel), rfl⟩
theorem mw_847 : (.methodLink RL 86 yX10_count : Cond) ∈ AW := List.mem_filter.mpr ⟨List.mem_of_getElem? (i := 847) (by decide +kernel), rfl⟩
theorem mw_848 : (.instanceMethod yX10_count : Cond) ∈ AW := List.mem_filter.mpr ⟨List.mem_of_getElem? (i := 848) (by decide +kernel), rfl⟩
theorem mw_849 : (.selects RX10 yX10_count yX10_count : Cond) ∈ AW := List.mem_filter.mpr ⟨List.mem_of_getElem? (i := 849) (by decide +kernel), rfl⟩
theorem gL_61 : GoodIn AW (wsV RL 61 RX9 yX9_value wsX9_value) := aw_V mw_580 mw_581 mw_582 mw_38 mw_583
theorem gL_65 : GoodIn AW (wsV RL 65 RX10 yX10_value wsX10_value) := aw_V mw_822 mw_823 mw_824 mw_46 mw_825
theorem gL_66 : GoodIn AW (wsV RL 66 RX9 yX9_follows wsX9_follows) := aw_V mw_594 mw_595 mw_596 mw_38 mw_597
theorem gL_69 : GoodIn AW (wsV RL 69 RX10 yX10_follows wsX10_follows) := aw_V mw_831 mw_832 mw_833 mw_46 mw_834
theorem gL_70 : GoodIn AW (wsV RL 70 RX9 yX9_width wsX9_width) := aw_V mw_603 mw_604 mw_605 mw_38 mw_606
theorem gL_73 : GoodIn AW (wsV RL 73 RX10 yX10_width wsX10_width) := aw_V mw_835 mw_836 mw_837 mw_46 mw_838
theorem gL_74 : GoodIn AW (wsV RL 74 RX9 yX9_operation wsX9_operation) := aw_V mw_607 mw_608 mw_609 mw_38 mw_610
theorem gL_77 : GoodIn AW (wsV RL 77 RX10 yX10_operation wsX10_operation) := aw_V mw_839 mw_840 mw_841 mw_46 mw_842
theorem gL_78 : GoodIn AW (wsV RL 78 RX9 yX9_operand wsX9_operand) := aw_V mw_612 mw_613 mw_614 mw_38 mw_615
theorem gL_82 : GoodIn AW (wsV RL 82 RX10 yX10_operand wsX10_operand) := aw_V mw_843 mw_844 mw_845 mw_46 mw_846
theorem gL_83 : GoodIn AW (wsV RL 83 RX9 yX9_count wsX9_count) := aw_V mw_618 mw_619 mw_620 mw_38 mw_621
theorem gL_86 : GoodIn AW (wsV RL 86 RX10 yX10_count wsX10_count) := aw_V mw_847 mw_848 mw_849 mw_46 mw_850
set_option maxHeartbeats 4000000 in
set_option maxRecDepth 100000 in
theorem lc_10 {p : Program} {l : Launch} {e : Env} {s : State} {m : MethodId} {below : List Frame} {meth : Method} {c : Code} {dC : Nat → ClassId} {dI : Nat → Nat → Nat} {b L : Nat} {xs : Nat → Int32} {a a2 : Nat → Nat} {k k2 : Nat → ClassId} {st ms : XS} {V N E Bt i : Nat} {H : Heap} {locs : List Loc} {ls : Array Slot} (C0 : lw_At p s m meth c b L xs) (hKx : va_K (dC, dI) vwCl (xt k) s) (hKm : va_K (dC, dI) vwCl (mt k2) s) (hL : L ≤ 2560) (hi : i + 5 ≤ L) (hR : Rel st ms V N E Bt) (hP : va_P (dC, dI) vwCl (xw a k st ++ mw a2 k2 ms) H) (hD : va_D (fun q : Nat => s.heap.size ≤ q) (xw a k st ++ mw a2 k2 ms)) (hS : va_S (fun q : Nat => s.heap.size ≤ q) s.heap H locs) (hl : lv_has ls 4 [(0, .ref b), (1, .ref (a 0)), (2, .ref (a2 0)), (3, .int (nI i))]) (kk : ∀ (st ms : XS) (V N E Bt : Nat) (H : Heap) (locs : List Loc), Rel st ms V N E Bt → va_P (dC, dI) vwCl (xw a k st ++ mw a2 k2 ms) H → va_D (fun q : Nat => s.heap.size ≤ q) (xw a k st ++ mw a2 k2 ms) → va_S (fun q : Nat => s.heap.size ≤ q) s.heap H locs → W p l e room_1 s m #[Value.ref b] below meth c H locs 38 2334 (lw_Z below #[Value.ref b] s) (F0 m 577 ls [])) : W p l e room_1 s m #[Value.ref b] below meth c H locs 38 2334 (lw_Z below #[Value.ref b] s) (F0 m 438 ls []) := by
  obtain ⟨hx, hb, hr, hml, hown0, hts, hX, hbl, hlocks, hgv⟩ := C0
  have hta := aw_law hts
  have hown : s.vm.findClass RL = some m.cls := hown0
  have hA : ∀ q : Nat, s.heap.size ≤ q → (fun q : Nat => s.heap.size ≤ q) q := fun _ h => h
  have hbA : ¬ (fun q : Nat => s.heap.size ≤ q) b := Nat.not_le.mpr hbl
  have h_1 : vp_in (nI i + (1 : Int32)) L := by rw [show nI i + (1 : Int32) = nI (i + 1) from nI_add i 1]; exact vp_in_nI (by omega) (by omega)
  have h_2 : vp_in (nI i + (2 : Int32)) L := by rw [show nI i + (2 : Int32) = nI (i + 2) from nI_add i 2]; exact vp_in_nI (by omega) (by omega)
  have h_3 : vp_in (nI i + (3 : Int32)) L := by rw [show nI i + (3 : Int32) = nI (i + 3) from nI_add i 3]; exact vp_in_nI (by omega) (by omega)
  have h_4 : vp_in (nI i + (4 : Int32)) L := by rw [show nI i + (4 : Int32) = nI (i + 4) from nI_add i 4]; exact vp_in_nI (by omega) (by omega)
  refine lv_aload_n hx hb d_law_438 rfl (lv_at hl 1 rfl) ?_
  refine lv_aload_n hx hb d_law_439 rfl (lv_at hl 0 rfl) ?_
  refine lv_iload_n hx hb d_law_440 rfl (lv_at hl 3 rfl) ?_
  refine lv_iconst (v := (1 : Int32)) hx hb d_law_441 (by decide) ?_
  refine lv_iadd hx hb d_law_442 ?_
  refine va_sld hx hb hX hbl hbA hS h_1 d_law_443 ?_
  have hPc := hP.sub (ws' := xw a k st) [0, 1, 2, 3, 4, 5, 6, 7, 8, 9, 10, 11, 12, 13, 14, 15, 16, 17, 18, 19, 20, 21, 22] rfl
  have hDc := hD.sub (ws' := xw a k st) [0, 1, 2, 3, 4, 5, 6, 7, 8, 9, 10, 11, 12, 13, 14, 15, 16, 17, 18, 19, 20, 21, 22] (by decide) rfl
  refine wl_2l (wf := xw a k) (wr := mw a2 k2 ms) [0, 1, 2, 3, 4, 5, 6, 7, 8, 9, 10, 11, 12, 13, 14, 15, 16, 17, 18, 19, 20, 21, 22] [23, 24, 25, 26, 27, 28, 29, 30, 31, 32, 33, 34, 35, 36, 37] rfl rfl (by decide) (by decide) (va_runV (As := [.int (xs (nI i + (1 : Int32)).toNatClampNeg)]) (rest := []) ⟨hx, hb, hml, hown, hta⟩ (kx_PS_value l dC dI a k st ((xs (nI i + (1 : Int32)).toNatClampNeg)) _ V N E Bt hR.1) (cwV 1 hta gL_61 rfl rfl rfl (by decide +kernel) ⟨Nat.le_of_ble_eq_true rfl, Nat.le_of_ble_eq_true rfl⟩) (wl_pM (C := RX9) (ci := 7) (q0 := 0) hKx hPc hDc rfl (xr_0 a k st)) rfl rfl hl.1 rfl (lv_room (Nat.le_of_ble_eq_true rfl)) d_law_444 ⟨Nat.le_of_ble_eq_true rfl, Nat.le_of_ble_eq_true rfl⟩) hP hD hS hA (fun r1 u1 H locs hw1 hP hD hS => ?_)
  refine lv_aload_n hx hb d_law_447 rfl (lv_at hl 2 rfl) ?_
  refine lv_aload_n hx hb d_law_448 rfl (lv_at hl 0 rfl) ?_
  refine lv_iload_n hx hb d_law_449 rfl (lv_at hl 3 rfl) ?_
  refine lv_iconst (v := (1 : Int32)) hx hb d_law_450 (by decide) ?_
  refine lv_iadd hx hb d_law_451 ?_
  refine va_sld hx hb hX hbl hbA hS h_1 d_law_452 ?_
  have hPc := hP.sub (ws' := mw a2 k2 ms) [0, 1, 2, 3, 4, 5, 6, 7, 8, 9, 10, 11, 12, 13, 14] rfl
  have hDc := hD.sub (ws' := mw a2 k2 ms) [0, 1, 2, 3, 4, 5, 6, 7, 8, 9, 10, 11, 12, 13, 14] (by decide) rfl
  refine wl_2l (wf := mw a2 k2) (wr := xw a k u1) [0, 1, 2, 3, 4, 5, 6, 7, 8, 9, 10, 11, 12, 13, 14] [15, 16, 17, 18, 19, 20, 21, 22, 23, 24, 25, 26, 27, 28, 29, 30, 31, 32, 33, 34, 35, 36, 37] rfl rfl (by decide) (by decide) (va_runV (As := [.int (xs (nI i + (1 : Int32)).toNatClampNeg)]) (rest := [.long (r1)]) ⟨hx, hb, hml, hown, hta⟩ (km_Mod_value l dC dI a2 k2 ms ((xs (nI i + (1 : Int32)).toNatClampNeg)) _ N hR.2.1.1 hR.n64 hR.mt) (cwV 1 hta gL_65 rfl rfl rfl (by decide +kernel) ⟨Nat.le_of_ble_eq_true rfl, Nat.le_of_ble_eq_true rfl⟩) (wl_pM (C := RX10) (ci := 8) (q0 := 0) hKm hPc hDc rfl (mr_0 a2 k2 ms)) rfl rfl hl.1 rfl (lv_room (Nat.le_of_ble_eq_true rfl)) d_law_453 ⟨Nat.le_of_ble_eq_true rfl, Nat.le_of_ble_eq_true rfl⟩) hP hD hS hA (fun r2 u2 H locs hw2 hP hD hS => ?_)
  refine W.lcmp hx hb d_law_456 ?_
  obtain ⟨q1, q2⟩ := valueN hR ((xs (nI i + (1 : Int32)).toNatClampNeg))
  rw [← hw1, ← hw2] at q1 q2
  refine lv_if_eq (tgt := 577) hx hb d_law_457 (by decide) (fun _ => ?_) (fun q => ?_)
  · exact kk u1 u2 V N E Bt H locs q2 hP hD hS
  · exact absurd ((lg_cmp_eq _ _).mpr q1) q
set_option maxHeartbeats 4000000 in
set_option maxRecDepth 100000 in
theorem lc_11 {p : Program} {l : Launch} {e : Env} {s : State} {m : MethodId} {below : List Frame} {meth : Method} {c : Code} {dC : Nat → ClassId} {dI : Nat → Nat → Nat} {b L : Nat} {xs : Nat → Int32} {a a2 : Nat → Nat} {k k2 : Nat → ClassId} {st ms : XS} {V N E Bt i : Nat} {H : Heap} {locs : List Loc} {ls : Array Slot} (C0 : lw_At p s m meth c b L xs) (hKx : va_K (dC, dI) vwCl (xt k) s) (hKm : va_K (dC, dI) vwCl (mt k2) s) (hL : L ≤ 2560) (hi : i + 5 ≤ L) (hR : Rel st ms V N E Bt) (hP : va_P (dC, dI) vwCl (xw a k st ++ mw a2 k2 ms) H) (hD : va_D (fun q : Nat => s.heap.size ≤ q) (xw a k st ++ mw a2 k2 ms)) (hS : va_S (fun q : Nat => s.heap.size ≤ q) s.heap H locs) (hl : lv_has ls 4 [(0, .ref b), (1, .ref (a 0)), (2, .ref (a2 0)), (3, .int (nI i))]) (kk : ∀ (st ms : XS) (V N E Bt : Nat) (H : Heap) (locs : List Loc), Rel st ms V N E Bt → va_P (dC, dI) vwCl (xw a k st ++ mw a2 k2 ms) H → va_D (fun q : Nat => s.heap.size ≤ q) (xw a k st ++ mw a2 k2 ms) → va_S (fun q : Nat => s.heap.size ≤ q) s.heap H locs → W p l e room_1 s m #[Value.ref b] below meth c H locs 38 2334 (lw_Z below #[Value.ref b] s) (F0 m 577 ls [])) : W p l e room_1 s m #[Value.ref b] below meth c H locs 38 2334 (lw_Z below #[Value.ref b] s) (F0 m 462 ls []) := by
  obtain ⟨hx, hb, hr, hml, hown0, hts, hX, hbl, hlocks, hgv⟩ := C0
  have hta := aw_law hts
  have hown : s.vm.findClass RL = some m.cls := hown0
  have hA : ∀ q : Nat, s.heap.size ≤ q → (fun q : Nat => s.heap.size ≤ q) q := fun _ h => h
  have hbA : ¬ (fun q : Nat => s.heap.size ≤ q) b := Nat.not_le.mpr hbl
  have h_1 : vp_in (nI i + (1 : Int32)) L := by rw [show nI i + (1 : Int32) = nI (i + 1) from nI_add i 1]; exact vp_in_nI (by omega) (by omega)
  have h_2 : vp_in (nI i + (2 : Int32)) L := by rw [show nI i + (2 : Int32) = nI (i + 2) from nI_add i 2]; exact vp_in_nI (by omega) (by omega)
  have h_3 : vp_in (nI i + (3 : Int32)) L := by rw [show nI i + (3 : Int32) = nI (i + 3) from nI_add i 3]; exact vp_in_nI (by omega) (by omega)
  have h_4 : vp_in (nI i + (4 : Int32)) L := by rw [show nI i + (4 : Int32) = nI (i + 4) from nI_add i 4]; exact vp_in_nI (by omega) (by omega)
  refine lv_aload_n hx hb d_law_462 rfl (lv_at hl 1 rfl) ?_
  have hPc := hP.sub (ws' := xw a k st) [0, 1, 2, 3, 4, 5, 6, 7, 8, 9, 10, 11, 12, 13, 14, 15, 16, 17, 18, 19, 20, 21, 22] rfl
  have hDc := hD.sub (ws' := xw a k st) [0, 1, 2, 3, 4, 5, 6, 7, 8, 9, 10, 11, 12, 13, 14, 15, 16, 17, 18, 19, 20, 21, 22] (by decide) rfl
  refine wl_2i (wf := xw a k) (wr := mw a2 k2 ms) [0, 1, 2, 3, 4, 5, 6, 7, 8, 9, 10, 11, 12, 13, 14, 15, 16, 17, 18, 19, 20, 21, 22] [23, 24, 25, 26, 27, 28, 29, 30, 31, 32, 33, 34, 35, 36, 37] rfl rfl (by decide) (by decide) (va_runV (As := []) (rest := []) ⟨hx, hb, hml, hown, hta⟩ (kx_PS_follows l dC dI a k st  _ V N E Bt hR.1) (cwV 0 hta gL_66 rfl rfl rfl (by decide +kernel) ⟨Nat.le_of_ble_eq_true rfl, Nat.le_of_ble_eq_true rfl⟩) (wl_pM (C := RX9) (ci := 7) (q0 := 0) hKx hPc hDc rfl (xr_0 a k st)) rfl rfl hl.1 rfl (lv_room (Nat.le_of_ble_eq_true rfl)) d_law_463 ⟨Nat.le_of_ble_eq_true rfl, Nat.le_of_ble_eq_true rfl⟩) hP hD hS hA (fun r1 u1 H locs hw1 hP hD hS => ?_)
  refine lv_aload_n hx hb d_law_466 rfl (lv_at hl 2 rfl) ?_
  have hPc := hP.sub (ws' := mw a2 k2 ms) [0, 1, 2, 3, 4, 5, 6, 7, 8, 9, 10, 11, 12, 13, 14] rfl
  have hDc := hD.sub (ws' := mw a2 k2 ms) [0, 1, 2, 3, 4, 5, 6, 7, 8, 9, 10, 11, 12, 13, 14] (by decide) rfl
  refine wl_2i (wf := mw a2 k2) (wr := xw a k u1) [0, 1, 2, 3, 4, 5, 6, 7, 8, 9, 10, 11, 12, 13, 14] [15, 16, 17, 18, 19, 20, 21, 22, 23, 24, 25, 26, 27, 28, 29, 30, 31, 32, 33, 34, 35, 36, 37] rfl rfl (by decide) (by decide) (va_runV (As := []) (rest := [.int (r1)]) ⟨hx, hb, hml, hown, hta⟩ (km_Mod_follows l dC dI a2 k2 ms  _ N hR.2.1.1 hR.n64 hR.mt E hR.2.1.2.2.2.1 hR.e16 hR.r64) (cwV 0 hta gL_69 rfl rfl rfl (by decide +kernel) ⟨Nat.le_of_ble_eq_true rfl, Nat.le_of_ble_eq_true rfl⟩) (wl_pM (C := RX10) (ci := 8) (q0 := 0) hKm hPc hDc rfl (mr_0 a2 k2 ms)) rfl rfl hl.1 rfl (lv_room (Nat.le_of_ble_eq_true rfl)) d_law_467 ⟨Nat.le_of_ble_eq_true rfl, Nat.le_of_ble_eq_true rfl⟩) hP hD hS hA (fun r2 u2 H locs hw2 hP hD hS => ?_)
  obtain ⟨q1, q2⟩ := followsN hR 
  rw [← hw1, ← hw2] at q1 q2
  refine lv_icmp_eq (tgt := 577) hx hb d_law_470 (by decide) (fun _ => ?_) (fun q => ?_)
  · exact kk u1 u2 V N E Bt H locs q2 hP hD hS
  · exact absurd q1 q
set_option maxHeartbeats 4000000 in
set_option maxRecDepth 100000 in
theorem lc_12 {p : Program} {l : Launch} {e : Env} {s : State} {m : MethodId} {below : List Frame} {meth : Method} {c : Code} {dC : Nat → ClassId} {dI : Nat → Nat → Nat} {b L : Nat} {xs : Nat → Int32} {a a2 : Nat → Nat} {k k2 : Nat → ClassId} {st ms : XS} {V N E Bt i : Nat} {H : Heap} {locs : List Loc} {ls : Array Slot} (C0 : lw_At p s m meth c b L xs) (hKx : va_K (dC, dI) vwCl (xt k) s) (hKm : va_K (dC, dI) vwCl (mt k2) s) (hL : L ≤ 2560) (hi : i + 5 ≤ L) (hR : Rel st ms V N E Bt) (hP : va_P (dC, dI) vwCl (xw a k st ++ mw a2 k2 ms) H) (hD : va_D (fun q : Nat => s.heap.size ≤ q) (xw a k st ++ mw a2 k2 ms)) (hS : va_S (fun q : Nat => s.heap.size ≤ q) s.heap H locs) (hl : lv_has ls 4 [(0, .ref b), (1, .ref (a 0)), (2, .ref (a2 0)), (3, .int (nI i))]) (kk : ∀ (st ms : XS) (V N E Bt : Nat) (H : Heap) (locs : List Loc), Rel st ms V N E Bt → va_P (dC, dI) vwCl (xw a k st ++ mw a2 k2 ms) H → va_D (fun q : Nat => s.heap.size ≤ q) (xw a k st ++ mw a2 k2 ms) → va_S (fun q : Nat => s.heap.size ≤ q) s.heap H locs → W p l e room_1 s m #[Value.ref b] below meth c H locs 38 2334 (lw_Z below #[Value.ref b] s) (F0 m 577 ls [])) : W p l e room_1 s m #[Value.ref b] below meth c H locs 38 2334 (lw_Z below #[Value.ref b] s) (F0 m 475 ls []) := by
  obtain ⟨hx, hb, hr, hml, hown0, hts, hX, hbl, hlocks, hgv⟩ := C0
  have hta := aw_law hts
  have hown : s.vm.findClass RL = some m.cls := hown0
  have hA : ∀ q : Nat, s.heap.size ≤ q → (fun q : Nat => s.heap.size ≤ q) q := fun _ h => h
  have hbA : ¬ (fun q : Nat => s.heap.size ≤ q) b := Nat.not_le.mpr hbl
  have h_1 : vp_in (nI i + (1 : Int32)) L := by rw [show nI i + (1 : Int32) = nI (i + 1) from nI_add i 1]; exact vp_in_nI (by omega) (by omega)
  have h_2 : vp_in (nI i + (2 : Int32)) L := by rw [show nI i + (2 : Int32) = nI (i + 2) from nI_add i 2]; exact vp_in_nI (by omega) (by omega)
  have h_3 : vp_in (nI i + (3 : Int32)) L := by rw [show nI i + (3 : Int32) = nI (i + 3) from nI_add i 3]; exact vp_in_nI (by omega) (by omega)
  have h_4 : vp_in (nI i + (4 : Int32)) L := by rw [show nI i + (4 : Int32) = nI (i + 4) from nI_add i 4]; exact vp_in_nI (by omega) (by omega)
  refine lv_aload_n hx hb d_law_475 rfl (lv_at hl 1 rfl) ?_
  refine lv_aload_n hx hb d_law_476 rfl (lv_at hl 0 rfl) ?_
  refine lv_iload_n hx hb d_law_477 rfl (lv_at hl 3 rfl) ?_
  refine lv_iconst (v := (1 : Int32)) hx hb d_law_478 (by decide) ?_
  refine lv_iadd hx hb d_law_479 ?_
  refine va_sld hx hb hX hbl hbA hS h_1 d_law_480 ?_
  have hPc := hP.sub (ws' := xw a k st) [0, 1, 2, 3, 4, 5, 6, 7, 8, 9, 10, 11, 12, 13, 14, 15, 16, 17, 18, 19, 20, 21, 22] rfl
  refine wl_ci (va_runV (As := [.int (xs (nI i + (1 : Int32)).toNatClampNeg)]) (rest := []) ⟨hx, hb, hml, hown, hta⟩ (kx_PS_width l dC dI a k st ((xs (nI i + (1 : Int32)).toNatClampNeg)) V N E Bt hR.1) (cwV 1 hta gL_70 rfl rfl rfl (by decide +kernel) ⟨Nat.le_of_ble_eq_true rfl, Nat.le_of_ble_eq_true rfl⟩) (wl_pR (C := RX9) (ci := 7) (q0 := 0) hKx hPc rfl (xr_0 a k st)) rfl rfl hl.1 rfl (lv_room (Nat.le_of_ble_eq_true rfl)) d_law_481 ⟨Nat.le_of_ble_eq_true rfl, Nat.le_of_ble_eq_true rfl⟩) ?_
  refine lv_aload_n hx hb d_law_484 rfl (lv_at hl 2 rfl) ?_
  refine lv_aload_n hx hb d_law_485 rfl (lv_at hl 0 rfl) ?_
  refine lv_iload_n hx hb d_law_486 rfl (lv_at hl 3 rfl) ?_
  refine lv_iconst (v := (1 : Int32)) hx hb d_law_487 (by decide) ?_
  refine lv_iadd hx hb d_law_488 ?_
  refine va_sld hx hb hX hbl hbA hS h_1 d_law_489 ?_
  have hPc := hP.sub (ws' := mw a2 k2 ms) [23, 24, 25, 26, 27, 28, 29, 30, 31, 32, 33, 34, 35, 36, 37] rfl
  refine wl_ci (va_runV (As := [.int (xs (nI i + (1 : Int32)).toNatClampNeg)]) (rest := [.int (fx_PS_width st ((xs (nI i + (1 : Int32)).toNatClampNeg)) )]) ⟨hx, hb, hml, hown, hta⟩ (km_Mod_width l dC dI a2 k2 ms ((xs (nI i + (1 : Int32)).toNatClampNeg)) N hR.2.1.1 hR.n64) (cwV 1 hta gL_73 rfl rfl rfl (by decide +kernel) ⟨Nat.le_of_ble_eq_true rfl, Nat.le_of_ble_eq_true rfl⟩) (wl_pR (C := RX10) (ci := 8) (q0 := 0) hKm hPc rfl (mr_0 a2 k2 ms)) rfl rfl hl.1 rfl (lv_room (Nat.le_of_ble_eq_true rfl)) d_law_490 ⟨Nat.le_of_ble_eq_true rfl, Nat.le_of_ble_eq_true rfl⟩) ?_
  refine lv_icmp_eq (tgt := 577) hx hb d_law_493 (by decide) (fun _ => ?_) (fun q => ?_)
  · exact kk st ms V N E Bt H locs hR hP hD hS
  · exact absurd (widthN hR ((xs (nI i + (1 : Int32)).toNatClampNeg))) q
set_option maxHeartbeats 4000000 in
set_option maxRecDepth 100000 in
theorem lc_13 {p : Program} {l : Launch} {e : Env} {s : State} {m : MethodId} {below : List Frame} {meth : Method} {c : Code} {dC : Nat → ClassId} {dI : Nat → Nat → Nat} {b L : Nat} {xs : Nat → Int32} {a a2 : Nat → Nat} {k k2 : Nat → ClassId} {st ms : XS} {V N E Bt i : Nat} {H : Heap} {locs : List Loc} {ls : Array Slot} (C0 : lw_At p s m meth c b L xs) (hKx : va_K (dC, dI) vwCl (xt k) s) (hKm : va_K (dC, dI) vwCl (mt k2) s) (hL : L ≤ 2560) (hi : i + 5 ≤ L) (hR : Rel st ms V N E Bt) (hP : va_P (dC, dI) vwCl (xw a k st ++ mw a2 k2 ms) H) (hD : va_D (fun q : Nat => s.heap.size ≤ q) (xw a k st ++ mw a2 k2 ms)) (hS : va_S (fun q : Nat => s.heap.size ≤ q) s.heap H locs) (hl : lv_has ls 4 [(0, .ref b), (1, .ref (a 0)), (2, .ref (a2 0)), (3, .int (nI i))]) (kk : ∀ (st ms : XS) (V N E Bt : Nat) (H : Heap) (locs : List Loc), Rel st ms V N E Bt → va_P (dC, dI) vwCl (xw a k st ++ mw a2 k2 ms) H → va_D (fun q : Nat => s.heap.size ≤ q) (xw a k st ++ mw a2 k2 ms) → va_S (fun q : Nat => s.heap.size ≤ q) s.heap H locs → W p l e room_1 s m #[Value.ref b] below meth c H locs 38 2334 (lw_Z below #[Value.ref b] s) (F0 m 577 ls [])) : W p l e room_1 s m #[Value.ref b] below meth c H locs 38 2334 (lw_Z below #[Value.ref b] s) (F0 m 498 ls []) := by
  obtain ⟨hx, hb, hr, hml, hown0, hts, hX, hbl, hlocks, hgv⟩ := C0
  have hta := aw_law hts
  have hown : s.vm.findClass RL = some m.cls := hown0
  have hA : ∀ q : Nat, s.heap.size ≤ q → (fun q : Nat => s.heap.size ≤ q) q := fun _ h => h
  have hbA : ¬ (fun q : Nat => s.heap.size ≤ q) b := Nat.not_le.mpr hbl
  have h_1 : vp_in (nI i + (1 : Int32)) L := by rw [show nI i + (1 : Int32) = nI (i + 1) from nI_add i 1]; exact vp_in_nI (by omega) (by omega)
  have h_2 : vp_in (nI i + (2 : Int32)) L := by rw [show nI i + (2 : Int32) = nI (i + 2) from nI_add i 2]; exact vp_in_nI (by omega) (by omega)
  have h_3 : vp_in (nI i + (3 : Int32)) L := by rw [show nI i + (3 : Int32) = nI (i + 3) from nI_add i 3]; exact vp_in_nI (by omega) (by omega)
  have h_4 : vp_in (nI i + (4 : Int32)) L := by rw [show nI i + (4 : Int32) = nI (i + 4) from nI_add i 4]; exact vp_in_nI (by omega) (by omega)
  refine lv_aload_n hx hb d_law_498 rfl (lv_at hl 1 rfl) ?_
  refine lv_aload_n hx hb d_law_499 rfl (lv_at hl 0 rfl) ?_
  refine lv_iload_n hx hb d_law_500 rfl (lv_at hl 3 rfl) ?_
  refine lv_iconst (v := (1 : Int32)) hx hb d_law_501 (by decide) ?_
  refine lv_iadd hx hb d_law_502 ?_
  refine va_sld hx hb hX hbl hbA hS h_1 d_law_503 ?_
  have hPc := hP.sub (ws' := xw a k st) [0, 1, 2, 3, 4, 5, 6, 7, 8, 9, 10, 11, 12, 13, 14, 15, 16, 17, 18, 19, 20, 21, 22] rfl
  refine wl_ci (va_runV (As := [.int (xs (nI i + (1 : Int32)).toNatClampNeg)]) (rest := []) ⟨hx, hb, hml, hown, hta⟩ (kx_PS_operation l dC dI a k st ((xs (nI i + (1 : Int32)).toNatClampNeg)) V N E Bt hR.1) (cwV 1 hta gL_74 rfl rfl rfl (by decide +kernel) ⟨Nat.le_of_ble_eq_true rfl, Nat.le_of_ble_eq_true rfl⟩) (wl_pR (C := RX9) (ci := 7) (q0 := 0) hKx hPc rfl (xr_0 a k st)) rfl rfl hl.1 rfl (lv_room (Nat.le_of_ble_eq_true rfl)) d_law_504 ⟨Nat.le_of_ble_eq_true rfl, Nat.le_of_ble_eq_true rfl⟩) ?_
  refine lv_aload_n hx hb d_law_507 rfl (lv_at hl 2 rfl) ?_
  refine lv_aload_n hx hb d_law_508 rfl (lv_at hl 0 rfl) ?_
  refine lv_iload_n hx hb d_law_509 rfl (lv_at hl 3 rfl) ?_
  refine lv_iconst (v := (1 : Int32)) hx hb d_law_510 (by decide) ?_
  refine lv_iadd hx hb d_law_511 ?_
  refine va_sld hx hb hX hbl hbA hS h_1 d_law_512 ?_
  have hPc := hP.sub (ws' := mw a2 k2 ms) [23, 24, 25, 26, 27, 28, 29, 30, 31, 32, 33, 34, 35, 36, 37] rfl
  refine wl_ci (va_runV (As := [.int (xs (nI i + (1 : Int32)).toNatClampNeg)]) (rest := [.int (fx_PS_operation st ((xs (nI i + (1 : Int32)).toNatClampNeg)) )]) ⟨hx, hb, hml, hown, hta⟩ (km_Mod_operation l dC dI a2 k2 ms ((xs (nI i + (1 : Int32)).toNatClampNeg)) N hR.2.1.1 hR.n64) (cwV 1 hta gL_77 rfl rfl rfl (by decide +kernel) ⟨Nat.le_of_ble_eq_true rfl, Nat.le_of_ble_eq_true rfl⟩) (wl_pR (C := RX10) (ci := 8) (q0 := 0) hKm hPc rfl (mr_0 a2 k2 ms)) rfl rfl hl.1 rfl (lv_room (Nat.le_of_ble_eq_true rfl)) d_law_513 ⟨Nat.le_of_ble_eq_true rfl, Nat.le_of_ble_eq_true rfl⟩) ?_
  refine lv_icmp_eq (tgt := 577) hx hb d_law_516 (by decide) (fun _ => ?_) (fun q => ?_)
  · exact kk st ms V N E Bt H locs hR hP hD hS
  · exact absurd (operationN hR ((xs (nI i + (1 : Int32)).toNatClampNeg))) q
set_option maxHeartbeats 4000000 in
set_option maxRecDepth 100000 in
theorem lc_14 {p : Program} {l : Launch} {e : Env} {s : State} {m : MethodId} {below : List Frame} {meth : Method} {c : Code} {dC : Nat → ClassId} {dI : Nat → Nat → Nat} {b L : Nat} {xs : Nat → Int32} {a a2 : Nat → Nat} {k k2 : Nat → ClassId} {st ms : XS} {V N E Bt i : Nat} {H : Heap} {locs : List Loc} {ls : Array Slot} (C0 : lw_At p s m meth c b L xs) (hKx : va_K (dC, dI) vwCl (xt k) s) (hKm : va_K (dC, dI) vwCl (mt k2) s) (hL : L ≤ 2560) (hi : i + 5 ≤ L) (hR : Rel st ms V N E Bt) (hP : va_P (dC, dI) vwCl (xw a k st ++ mw a2 k2 ms) H) (hD : va_D (fun q : Nat => s.heap.size ≤ q) (xw a k st ++ mw a2 k2 ms)) (hS : va_S (fun q : Nat => s.heap.size ≤ q) s.heap H locs) (hl : lv_has ls 4 [(0, .ref b), (1, .ref (a 0)), (2, .ref (a2 0)), (3, .int (nI i))]) (kk : ∀ (st ms : XS) (V N E Bt : Nat) (H : Heap) (locs : List Loc), Rel st ms V N E Bt → va_P (dC, dI) vwCl (xw a k st ++ mw a2 k2 ms) H → va_D (fun q : Nat => s.heap.size ≤ q) (xw a k st ++ mw a2 k2 ms) → va_S (fun q : Nat => s.heap.size ≤ q) s.heap H locs → W p l e room_1 s m #[Value.ref b] below meth c H locs 38 2334 (lw_Z below #[Value.ref b] s) (F0 m 577 ls [])) : W p l e room_1 s m #[Value.ref b] below meth c H locs 38 2334 (lw_Z below #[Value.ref b] s) (F0 m 521 ls []) := by
  obtain ⟨hx, hb, hr, hml, hown0, hts, hX, hbl, hlocks, hgv⟩ := C0
  have hta := aw_law hts
  have hown : s.vm.findClass RL = some m.cls := hown0
  have hA : ∀ q : Nat, s.heap.size ≤ q → (fun q : Nat => s.heap.size ≤ q) q := fun _ h => h
  have hbA : ¬ (fun q : Nat => s.heap.size ≤ q) b := Nat.not_le.mpr hbl
  have h_1 : vp_in (nI i + (1 : Int32)) L := by rw [show nI i + (1 : Int32) = nI (i + 1) from nI_add i 1]; exact vp_in_nI (by omega) (by omega)
  have h_2 : vp_in (nI i + (2 : Int32)) L := by rw [show nI i + (2 : Int32) = nI (i + 2) from nI_add i 2]; exact vp_in_nI (by omega) (by omega)
  have h_3 : vp_in (nI i + (3 : Int32)) L := by rw [show nI i + (3 : Int32) = nI (i + 3) from nI_add i 3]; exact vp_in_nI (by omega) (by omega)
  have h_4 : vp_in (nI i + (4 : Int32)) L := by rw [show nI i + (4 : Int32) = nI (i + 4) from nI_add i 4]; exact vp_in_nI (by omega) (by omega)
  refine lv_aload_n hx hb d_law_521 rfl (lv_at hl 1 rfl) ?_
  refine lv_aload_n hx hb d_law_522 rfl (lv_at hl 0 rfl) ?_
  refine lv_iload_n hx hb d_law_523 rfl (lv_at hl 3 rfl) ?_
  refine lv_iconst (v := (1 : Int32)) hx hb d_law_524 (by decide) ?_
  refine lv_iadd hx hb d_law_525 ?_
  refine va_sld hx hb hX hbl hbA hS h_1 d_law_526 ?_
  refine lv_aload_n hx hb d_law_527 rfl (lv_at hl 0 rfl) ?_
  refine lv_iload_n hx hb d_law_528 rfl (lv_at hl 3 rfl) ?_
  refine lv_iconst (v := (2 : Int32)) hx hb d_law_529 (by decide) ?_
  refine lv_iadd hx hb d_law_530 ?_
  refine va_sld hx hb hX hbl hbA hS h_2 d_law_531 ?_
  have hPc := hP.sub (ws' := xw a k st) [0, 1, 2, 3, 4, 5, 6, 7, 8, 9, 10, 11, 12, 13, 14, 15, 16, 17, 18, 19, 20, 21, 22] rfl
  refine wl_ci (va_runV (As := [.int (xs (nI i + (1 : Int32)).toNatClampNeg), .int (xs (nI i + (2 : Int32)).toNatClampNeg)]) (rest := []) ⟨hx, hb, hml, hown, hta⟩ (kx_PS_operand l dC dI a k st ((xs (nI i + (1 : Int32)).toNatClampNeg)) ((xs (nI i + (2 : Int32)).toNatClampNeg)) V N E Bt hR.1) (cwV 2 hta gL_78 rfl rfl rfl (by decide +kernel) ⟨Nat.le_of_ble_eq_true rfl, Nat.le_of_ble_eq_true rfl⟩) (wl_pR (C := RX9) (ci := 7) (q0 := 0) hKx hPc rfl (xr_0 a k st)) rfl rfl hl.1 rfl (lv_room (Nat.le_of_ble_eq_true rfl)) d_law_532 ⟨Nat.le_of_ble_eq_true rfl, Nat.le_of_ble_eq_true rfl⟩) ?_
  refine lv_aload_n hx hb d_law_535 rfl (lv_at hl 2 rfl) ?_
  refine lv_aload_n hx hb d_law_536 rfl (lv_at hl 0 rfl) ?_
  refine lv_iload_n hx hb d_law_537 rfl (lv_at hl 3 rfl) ?_
  refine lv_iconst (v := (1 : Int32)) hx hb d_law_538 (by decide) ?_
  refine lv_iadd hx hb d_law_539 ?_
  refine va_sld hx hb hX hbl hbA hS h_1 d_law_540 ?_
  refine lv_aload_n hx hb d_law_541 rfl (lv_at hl 0 rfl) ?_
  refine lv_iload_n hx hb d_law_542 rfl (lv_at hl 3 rfl) ?_
  refine lv_iconst (v := (2 : Int32)) hx hb d_law_543 (by decide) ?_
  refine lv_iadd hx hb d_law_544 ?_
  refine va_sld hx hb hX hbl hbA hS h_2 d_law_545 ?_
  have hPc := hP.sub (ws' := mw a2 k2 ms) [23, 24, 25, 26, 27, 28, 29, 30, 31, 32, 33, 34, 35, 36, 37] rfl
  refine wl_ci (va_runV (As := [.int (xs (nI i + (1 : Int32)).toNatClampNeg), .int (xs (nI i + (2 : Int32)).toNatClampNeg)]) (rest := [.int (fx_PS_operand st ((xs (nI i + (1 : Int32)).toNatClampNeg)) ((xs (nI i + (2 : Int32)).toNatClampNeg)) )]) ⟨hx, hb, hml, hown, hta⟩ (km_Mod_operand l dC dI a2 k2 ms ((xs (nI i + (1 : Int32)).toNatClampNeg)) ((xs (nI i + (2 : Int32)).toNatClampNeg)) N hR.2.1.1 hR.n64) (cwV 2 hta gL_82 rfl rfl rfl (by decide +kernel) ⟨Nat.le_of_ble_eq_true rfl, Nat.le_of_ble_eq_true rfl⟩) (wl_pR (C := RX10) (ci := 8) (q0 := 0) hKm hPc rfl (mr_0 a2 k2 ms)) rfl rfl hl.1 rfl (lv_room (Nat.le_of_ble_eq_true rfl)) d_law_546 ⟨Nat.le_of_ble_eq_true rfl, Nat.le_of_ble_eq_true rfl⟩) ?_
  refine lv_icmp_eq (tgt := 577) hx hb d_law_549 (by decide) (fun _ => ?_) (fun q => ?_)
  · exact kk st ms V N E Bt H locs hR hP hD hS
  · exact absurd (operandN hR ((xs (nI i + (1 : Int32)).toNatClampNeg)) ((xs (nI i + (2 : Int32)).toNatClampNeg))) q
set_option maxHeartbeats 4000000 in
set_option maxRecDepth 100000 in
theorem lc_15 {p : Program} {l : Launch} {e : Env} {s : State} {m : MethodId} {below : List Frame} {meth : Method} {c : Code} {dC : Nat → ClassId} {dI : Nat → Nat → Nat} {b L : Nat} {xs : Nat → Int32} {a a2 : Nat → Nat} {k k2 : Nat → ClassId} {st ms : XS} {V N E Bt i : Nat} {H : Heap} {locs : List Loc} {ls : Array Slot} (C0 : lw_At p s m meth c b L xs) (hKx : va_K (dC, dI) vwCl (xt k) s) (hKm : va_K (dC, dI) vwCl (mt k2) s) (hL : L ≤ 2560) (hi : i + 5 ≤ L) (hR : Rel st ms V N E Bt) (hP : va_P (dC, dI) vwCl (xw a k st ++ mw a2 k2 ms) H) (hD : va_D (fun q : Nat => s.heap.size ≤ q) (xw a k st ++ mw a2 k2 ms)) (hS : va_S (fun q : Nat => s.heap.size ≤ q) s.heap H locs) (hl : lv_has ls 4 [(0, .ref b), (1, .ref (a 0)), (2, .ref (a2 0)), (3, .int (nI i))]) (kk : ∀ (st ms : XS) (V N E Bt : Nat) (H : Heap) (locs : List Loc), Rel st ms V N E Bt → va_P (dC, dI) vwCl (xw a k st ++ mw a2 k2 ms) H → va_D (fun q : Nat => s.heap.size ≤ q) (xw a k st ++ mw a2 k2 ms) → va_S (fun q : Nat => s.heap.size ≤ q) s.heap H locs → W p l e room_1 s m #[Value.ref b] below meth c H locs 38 2334 (lw_Z below #[Value.ref b] s) (F0 m 577 ls [])) : W p l e room_1 s m #[Value.ref b] below meth c H locs 38 2334 (lw_Z below #[Value.ref b] s) (F0 m 554 ls []) := by
  obtain ⟨hx, hb, hr, hml, hown0, hts, hX, hbl, hlocks, hgv⟩ := C0
  have hta := aw_law hts
  have hown : s.vm.findClass RL = some m.cls := hown0
  have hA : ∀ q : Nat, s.heap.size ≤ q → (fun q : Nat => s.heap.size ≤ q) q := fun _ h => h
  have hbA : ¬ (fun q : Nat => s.heap.size ≤ q) b := Nat.not_le.mpr hbl
  have h_1 : vp_in (nI i + (1 : Int32)) L := by rw [show nI i + (1 : Int32) = nI (i + 1) from nI_add i 1]; exact vp_in_nI (by omega) (by omega)
  have h_2 : vp_in (nI i + (2 : Int32)) L := by rw [show nI i + (2 : Int32) = nI (i + 2) from nI_add i 2]; exact vp_in_nI (by omega) (by omega)
  have h_3 : vp_in (nI i + (3 : Int32)) L := by rw [show nI i + (3 : Int32) = nI (i + 3) from nI_add i 3]; exact vp_in_nI (by omega) (by omega)
  have h_4 : vp_in (nI i + (4 : Int32)) L := by rw [show nI i + (4 : Int32) = nI (i + 4) from nI_add i 4]; exact vp_in_nI (by omega) (by omega)
  refine lv_aload_n hx hb d_law_554 rfl (lv_at hl 1 rfl) ?_
  refine lv_aload_n hx hb d_law_555 rfl (lv_at hl 0 rfl) ?_
  refine lv_iload_n hx hb d_law_556 rfl (lv_at hl 3 rfl) ?_
  refine lv_iconst (v := (1 : Int32)) hx hb d_law_557 (by decide) ?_
  refine lv_iadd hx hb d_law_558 ?_
  refine va_sld hx hb hX hbl hbA hS h_1 d_law_559 ?_
  have hPc := hP.sub (ws' := xw a k st) [0, 1, 2, 3, 4, 5, 6, 7, 8, 9, 10, 11, 12, 13, 14, 15, 16, 17, 18, 19, 20, 21, 22] rfl
  refine wl_ci (va_runV (As := [.int (xs (nI i + (1 : Int32)).toNatClampNeg)]) (rest := []) ⟨hx, hb, hml, hown, hta⟩ (kx_PS_count l dC dI a k st ((xs (nI i + (1 : Int32)).toNatClampNeg)) V N E Bt hR.1) (cwV 1 hta gL_83 rfl rfl rfl (by decide +kernel) ⟨Nat.le_of_ble_eq_true rfl, Nat.le_of_ble_eq_true rfl⟩) (wl_pR (C := RX9) (ci := 7) (q0 := 0) hKx hPc rfl (xr_0 a k st)) rfl rfl hl.1 rfl (lv_room (Nat.le_of_ble_eq_true rfl)) d_law_560 ⟨Nat.le_of_ble_eq_true rfl, Nat.le_of_ble_eq_true rfl⟩) ?_
  refine lv_aload_n hx hb d_law_563 rfl (lv_at hl 2 rfl) ?_
  refine lv_aload_n hx hb d_law_564 rfl (lv_at hl 0 rfl) ?_
  refine lv_iload_n hx hb d_law_565 rfl (lv_at hl 3 rfl) ?_
  refine lv_iconst (v := (1 : Int32)) hx hb d_law_566 (by decide) ?_
  refine lv_iadd hx hb d_law_567 ?_
  refine va_sld hx hb hX hbl hbA hS h_1 d_law_568 ?_
  have hPc := hP.sub (ws' := mw a2 k2 ms) [23, 24, 25, 26, 27, 28, 29, 30, 31, 32, 33, 34, 35, 36, 37] rfl
  refine wl_ci (va_runV (As := [.int (xs (nI i + (1 : Int32)).toNatClampNeg)]) (rest := [.int (fx_PS_count st ((xs (nI i + (1 : Int32)).toNatClampNeg)) )]) ⟨hx, hb, hml, hown, hta⟩ (km_Mod_count l dC dI a2 k2 ms ((xs (nI i + (1 : Int32)).toNatClampNeg)) ) (cwV 1 hta gL_86 rfl rfl rfl (by decide +kernel) ⟨Nat.le_of_ble_eq_true rfl, Nat.le_of_ble_eq_true rfl⟩) (wl_pR (C := RX10) (ci := 8) (q0 := 0) hKm hPc rfl (mr_0 a2 k2 ms)) rfl rfl hl.1 rfl (lv_room (Nat.le_of_ble_eq_true rfl)) d_law_569 ⟨Nat.le_of_ble_eq_true rfl, Nat.le_of_ble_eq_true rfl⟩) ?_
  refine lv_icmp_eq (tgt := 577) hx hb d_law_572 (by decide) (fun _ => ?_) (fun q => ?_)
  · exact kk st ms V N E Bt H locs hR hP hD hS
  · exact absurd (countN hR ((xs (nI i + (1 : Int32)).toNatClampNeg))) q
