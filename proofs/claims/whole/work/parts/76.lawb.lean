theorem mw_452 : (.code yX9_take cX9_take 2 (some .int) : Cond) ∈ AW := List.mem_filter.mpr ⟨List.mem_of_getElem? (i := 452) (by decide +kernel), rfl⟩
theorem mw_449 : (.methodLink RL 35 yX9_take : Cond) ∈ AW := List.mem_filter.mpr ⟨List.mem_of_getElem? (i := 449) (by decide +kernel), rfl⟩
theorem mw_450 : (.instanceMethod yX9_take : Cond) ∈ AW := List.mem_filter.mpr ⟨List.mem_of_getElem? (i := 450) (by decide +kernel), rfl⟩
theorem mw_451 : (.selects RX9 yX9_take yX9_take : Cond) ∈ AW := List.mem_filter.mpr ⟨List.mem_of_getElem? (i := 451) (by decide +kernel), rfl⟩
theorem mw_788 : (.code yX10_take cX10_take 2 (some .int) : Cond) ∈ AW := List.mem_filter.mpr ⟨List.mem_of_getElem? (i := 788) (by decide +kernel), rfl⟩
theorem mw_785 : (.methodLink RL 39 yX10_take : Cond) ∈ AW := List.mem_filter.mpr ⟨List.mem_of_getElem? (i := 785) (by decide +kernel), rfl⟩
theorem mw_786 : (.instanceMethod yX10_take : Cond) ∈ AW := List.mem_filter.mpr ⟨List.mem_of_getElem? (i := 786) (by decide +kernel), rfl⟩
theorem mw_787 : (.selects RX10 yX10_take yX10_take : Cond) ∈ AW := List.mem_filter.mpr ⟨List.mem_of_getElem? (i := 787) (by decide +kernel), rfl⟩
theorem mw_466 : (.code yX9_back cX9_back 1 (some .int) : Cond) ∈ AW := List.mem_filter.mpr ⟨List.mem_of_getElem? (i := 466) (by decide +kernel), rfl⟩
theorem mw_463 : (.methodLink RL 40 yX9_back : Cond) ∈ AW := List.mem_filter.mpr ⟨List.mem_of_getElem? (i := 463) (by decide +kernel), rfl⟩
theorem mw_464 : (.instanceMethod yX9_back : Cond) ∈ AW := List.mem_filter.mpr ⟨List.mem_of_getElem? (i := 464) (by decide +kernel), rfl⟩
theorem mw_465 : (.selects RX9 yX9_back yX9_back : Cond) ∈ AW := List.mem_filter.mpr ⟨List.mem_of_getElem? (i := 465) (by decide +kernel), rfl⟩
theorem mw_792 : (.code yX10_back cX10_back 1 (some .int) : Cond) ∈ AW := List.mem_filter.mpr ⟨List.mem_of_getElem? (i := 792) (by decide +kernel), rfl⟩
theorem mw_789 : (.methodLink RL 44 yX10_back : Cond) ∈ AW := List.mem_filter.mpr ⟨List.mem_of_getElem? (i := 789) (by decide +kernel), rfl⟩
theorem mw_790 : (.instanceMethod yX10_back : Cond) ∈ AW := List.mem_filter.mpr ⟨List.mem_of_getElem? (i := 790) (by decide +kernel), rfl⟩
theorem mw_791 : (.selects RX10 yX10_back yX10_back : Cond) ∈ AW := List.mem_filter.mpr ⟨List.mem_of_getElem? (i := 791) (by decide +kernel), rfl⟩
theorem mw_478 : (.code yX9_check cX9_check 1 (some .int) : Cond) ∈ AW := List.mem_filter.mpr ⟨List.mem_of_getElem? (i := 478) (by decide +kernel), rfl⟩
theorem mw_475 : (.methodLink RL 45 yX9_check : Cond) ∈ AW := List.mem_filter.mpr ⟨List.mem_of_getElem? (i := 475) (by decide +kernel), rfl⟩
theorem mw_476 : (.instanceMethod yX9_check : Cond) ∈ AW := List.mem_filter.mpr ⟨List.mem_of_getElem? (i := 476) (by decide +kernel), rfl⟩
theorem mw_477 : (.selects RX9 yX9_check yX9_check : Cond) ∈ AW := List.mem_filter.mpr ⟨List.mem_of_getElem? (i := 477) (by decide +kernel), rfl⟩
theorem mw_796 : (.code yX10_check cX10_check 1 (some .int) : Cond) ∈ AW := List.mem_filter.mpr ⟨List.mem_of_getElem? (i := 796) (by decide +kernel), rfl⟩
theorem mw_793 : (.methodLink RL 48 yX10_check : Cond) ∈ AW := List.mem_filter.mpr ⟨List.mem_of_getElem? (i := 793) (by decide +kernel), rfl⟩
theorem mw_794 : (.instanceMethod yX10_check : Cond) ∈ AW := List.mem_filter.mpr ⟨List.mem_of_getElem? (i := 794) (by decide +kernel), rfl⟩
theorem mw_795 : (.selects RX10 yX10_check yX10_check : Cond) ∈ AW := List.mem_filter.mpr ⟨List.mem_of_getElem? (i := 795) (by decide +kernel), rfl⟩
theorem mw_560 : (.code yX9_flip cX9_flip 2 (some .int) : Cond) ∈ AW := List.mem_filter.mpr ⟨List.mem_of_getElem? (i := 560) (by decide +kernel), rfl⟩
theorem mw_557 : (.methodLink RL 49 yX9_flip : Cond) ∈ AW := List.mem_filter.mpr ⟨List.mem_of_getElem? (i := 557) (by decide +kernel), rfl⟩
theorem mw_558 : (.instanceMethod yX9_flip : Cond) ∈ AW := List.mem_filter.mpr ⟨List.mem_of_getElem? (i := 558) (by decide +kernel), rfl⟩
theorem mw_559 : (.selects RX9 yX9_flip yX9_flip : Cond) ∈ AW := List.mem_filter.mpr ⟨List.mem_of_getElem? (i := 559) (by decide +kernel), rfl⟩
theorem mw_809 : (.methodLink RL 52 yX10_flip : Cond) ∈ AW := List.mem_filter.mpr ⟨List.mem_of_getElem? (i := 809) (by decide +kernel), rfl⟩
theorem mw_568 : (.code yX9_search cX9_search 4 (some .int) : Cond) ∈ AW := List.mem_filter.mpr ⟨List.mem_of_getElem? (i := 568) (by decide +kernel), rfl⟩
theorem mw_565 : (.methodLink RL 53 yX9_search : Cond) ∈ AW := List.mem_filter.mpr ⟨List.mem_of_getElem? (i := 565) (by decide +kernel), rfl⟩
theorem mw_566 : (.instanceMethod yX9_search : Cond) ∈ AW := List.mem_filter.mpr ⟨List.mem_of_getElem? (i := 566) (by decide +kernel), rfl⟩
theorem mw_567 : (.selects RX9 yX9_search yX9_search : Cond) ∈ AW := List.mem_filter.mpr ⟨List.mem_of_getElem? (i := 567) (by decide +kernel), rfl⟩
theorem mw_816 : (.code yX10_search cX10_search 4 (some .int) : Cond) ∈ AW := List.mem_filter.mpr ⟨List.mem_of_getElem? (i := 816) (by decide +kernel), rfl⟩
theorem mw_813 : (.methodLink RL 56 yX10_search : Cond) ∈ AW := List.mem_filter.mpr ⟨List.mem_of_getElem? (i := 813) (by decide +kernel), rfl⟩
theorem mw_814 : (.instanceMethod yX10_search : Cond) ∈ AW := List.mem_filter.mpr ⟨List.mem_of_getElem? (i := 814) (by decide +kernel), rfl⟩
theorem mw_815 : (.selects RX10 yX10_search yX10_search : Cond) ∈ AW := List.mem_filter.mpr ⟨List.mem_of_getElem? (i := 815) (by decide +kernel), rfl⟩
theorem mw_578 : (.code yX9_model cX9_model 2 (some .int) : Cond) ∈ AW := List.mem_filter.mpr ⟨List.mem_of_getElem? (i := 578) (by decide +kernel), rfl⟩
theorem mw_575 : (.methodLink RL 57 yX9_model : Cond) ∈ AW := List.mem_filter.mpr ⟨List.mem_of_getElem? (i := 575) (by decide +kernel), rfl⟩
theorem mw_576 : (.instanceMethod yX9_model : Cond) ∈ AW := List.mem_filter.mpr ⟨List.mem_of_getElem? (i := 576) (by decide +kernel), rfl⟩
theorem mw_577 : (.selects RX9 yX9_model yX9_model : Cond) ∈ AW := List.mem_filter.mpr ⟨List.mem_of_getElem? (i := 577) (by decide +kernel), rfl⟩
theorem mw_821 : (.code yX10_model cX10_model 2 (some .int) : Cond) ∈ AW := List.mem_filter.mpr ⟨List.mem_of_getElem? (i := 821) (by decide +kernel), rfl⟩
theorem mw_818 : (.methodLink RL 60 yX10_model : Cond) ∈ AW := List.mem_filter.mpr ⟨List.mem_of_getElem? (i := 818) (by decide +kernel), rfl⟩
theorem mw_819 : (.instanceMethod yX10_model : Cond) ∈ AW := List.mem_filter.mpr ⟨List.mem_of_getElem? (i := 819) (by decide +kernel), rfl⟩
theorem mw_820 : (.selects RX10 yX10_model yX10_model : Cond) ∈ AW := List.mem_filter.mpr ⟨List.mem_of_getElem? (i := 820) (by decide +kernel), rfl⟩
theorem gL_35 : GoodIn AW (wsV RL 35 RX9 yX9_take wsX9_take) := aw_V mw_449 mw_450 mw_451 mw_38 mw_452
theorem gL_39 : GoodIn AW (wsV RL 39 RX10 yX10_take wsX10_take) := aw_V mw_785 mw_786 mw_787 mw_46 mw_788
theorem gL_40 : GoodIn AW (wsV RL 40 RX9 yX9_back wsX9_back) := aw_V mw_463 mw_464 mw_465 mw_38 mw_466
theorem gL_44 : GoodIn AW (wsV RL 44 RX10 yX10_back wsX10_back) := aw_V mw_789 mw_790 mw_791 mw_46 mw_792
theorem gL_45 : GoodIn AW (wsV RL 45 RX9 yX9_check wsX9_check) := aw_V mw_475 mw_476 mw_477 mw_38 mw_478
theorem gL_48 : GoodIn AW (wsV RL 48 RX10 yX10_check wsX10_check) := aw_V mw_793 mw_794 mw_795 mw_46 mw_796
theorem gL_49 : GoodIn AW (wsV RL 49 RX9 yX9_flip wsX9_flip) := aw_V mw_557 mw_558 mw_559 mw_38 mw_560
theorem gL_52 : GoodIn AW (wsV RL 52 RX10 yX10_flip wsX10_flip) := aw_V mw_809 mw_810 mw_811 mw_46 mw_812
theorem gL_53 : GoodIn AW (wsV RL 53 RX9 yX9_search wsX9_search) := aw_V mw_565 mw_566 mw_567 mw_38 mw_568
theorem gL_56 : GoodIn AW (wsV RL 56 RX10 yX10_search wsX10_search) := aw_V mw_813 mw_814 mw_815 mw_46 mw_816
theorem gL_57 : GoodIn AW (wsV RL 57 RX9 yX9_model wsX9_model) := aw_V mw_575 mw_576 mw_577 mw_38 mw_578
theorem gL_60 : GoodIn AW (wsV RL 60 RX10 yX10_model wsX10_model) := aw_V mw_818 mw_819 mw_820 mw_46 mw_821
set_option maxHeartbeats 4000000 in
set_option maxRecDepth 100000 in
theorem lc_4 {p : Program} {l : Launch} {e : Env} {s : State} {m : MethodId} {below : List Frame} {meth : Method} {c : Code} {dC : Nat → ClassId} {dI : Nat → Nat → Nat} {b L : Nat} {xs : Nat → Int32} {a a2 : Nat → Nat} {k k2 : Nat → ClassId} {st ms : XS} {V N E Bt i : Nat} {H : Heap} {locs : List Loc} {ls : Array Slot} (C0 : lw_At p s m meth c b L xs) (hKx : va_K (dC, dI) vwCl (xt k) s) (hKm : va_K (dC, dI) vwCl (mt k2) s) (hL : L ≤ 2560) (hi : i + 5 ≤ L) (hR : Rel st ms V N E Bt) (hP : va_P (dC, dI) vwCl (xw a k st ++ mw a2 k2 ms) H) (hD : va_D (fun q : Nat => s.heap.size ≤ q) (xw a k st ++ mw a2 k2 ms)) (hS : va_S (fun q : Nat => s.heap.size ≤ q) s.heap H locs) (hl : lv_has ls 4 [(0, .ref b), (1, .ref (a 0)), (2, .ref (a2 0)), (3, .int (nI i))]) (kk : ∀ (st ms : XS) (V N E Bt : Nat) (H : Heap) (locs : List Loc), Rel st ms V N E Bt → va_P (dC, dI) vwCl (xw a k st ++ mw a2 k2 ms) H → va_D (fun q : Nat => s.heap.size ≤ q) (xw a k st ++ mw a2 k2 ms) → va_S (fun q : Nat => s.heap.size ≤ q) s.heap H locs → W p l e room_1 s m #[Value.ref b] below meth c H locs 38 2334 (lw_Z below #[Value.ref b] s) (F0 m 577 ls [])) : W p l e room_1 s m #[Value.ref b] below meth c H locs 38 2334 (lw_Z below #[Value.ref b] s) (F0 m 320 ls []) := by
  obtain ⟨hx, hb, hr, hml, hown0, hts, hX, hbl, hlocks, hgv⟩ := C0
  have hta := aw_law hts
  have hown : s.vm.findClass RL = some m.cls := hown0
  have hA : ∀ q : Nat, s.heap.size ≤ q → (fun q : Nat => s.heap.size ≤ q) q := fun _ h => h
  have hbA : ¬ (fun q : Nat => s.heap.size ≤ q) b := Nat.not_le.mpr hbl
  have h_1 : vp_in (nI i + (1 : Int32)) L := by rw [show nI i + (1 : Int32) = nI (i + 1) from nI_add i 1]; exact vp_in_nI (by omega) (by omega)
  have h_2 : vp_in (nI i + (2 : Int32)) L := by rw [show nI i + (2 : Int32) = nI (i + 2) from nI_add i 2]; exact vp_in_nI (by omega) (by omega)
  have h_3 : vp_in (nI i + (3 : Int32)) L := by rw [show nI i + (3 : Int32) = nI (i + 3) from nI_add i 3]; exact vp_in_nI (by omega) (by omega)
  have h_4 : vp_in (nI i + (4 : Int32)) L := by rw [show nI i + (4 : Int32) = nI (i + 4) from nI_add i 4]; exact vp_in_nI (by omega) (by omega)
  refine lv_aload_n hx hb d_law_320 rfl (lv_at hl 1 rfl) ?_
  refine lv_aload_n hx hb d_law_321 rfl (lv_at hl 0 rfl) ?_
  refine lv_iload_n hx hb d_law_322 rfl (lv_at hl 3 rfl) ?_
  refine lv_iconst (v := (1 : Int32)) hx hb d_law_323 (by decide) ?_
  refine lv_iadd hx hb d_law_324 ?_
  refine va_sld hx hb hX hbl hbA hS h_1 d_law_325 ?_
  have hPc := hP.sub (ws' := xw a k st) [0, 1, 2, 3, 4, 5, 6, 7, 8, 9, 10, 11, 12, 13, 14, 15, 16, 17, 18, 19, 20, 21, 22] rfl
  have hDc := hD.sub (ws' := xw a k st) [0, 1, 2, 3, 4, 5, 6, 7, 8, 9, 10, 11, 12, 13, 14, 15, 16, 17, 18, 19, 20, 21, 22] (by decide) rfl
  refine wl_2i (wf := xw a k) (wr := mw a2 k2 ms) [0, 1, 2, 3, 4, 5, 6, 7, 8, 9, 10, 11, 12, 13, 14, 15, 16, 17, 18, 19, 20, 21, 22] [23, 24, 25, 26, 27, 28, 29, 30, 31, 32, 33, 34, 35, 36, 37] rfl rfl (by decide) (by decide) (va_runV (As := [.int (xs (nI i + (1 : Int32)).toNatClampNeg)]) (rest := []) ⟨hx, hb, hml, hown, hta⟩ (kx_PS_take l dC dI a k st ((xs (nI i + (1 : Int32)).toNatClampNeg)) _ V N E Bt hR.1) (cwV 1 hta gL_35 rfl rfl rfl (by decide +kernel) ⟨Nat.le_of_ble_eq_true rfl, Nat.le_of_ble_eq_true rfl⟩) (wl_pM (C := RX9) (ci := 7) (q0 := 0) hKx hPc hDc rfl (xr_0 a k st)) rfl rfl hl.1 rfl (lv_room (Nat.le_of_ble_eq_true rfl)) d_law_326 ⟨Nat.le_of_ble_eq_true rfl, Nat.le_of_ble_eq_true rfl⟩) hP hD hS hA (fun r1 u1 H locs hw1 hP hD hS => ?_)
  refine lv_aload_n hx hb d_law_329 rfl (lv_at hl 2 rfl) ?_
  refine lv_aload_n hx hb d_law_330 rfl (lv_at hl 0 rfl) ?_
  refine lv_iload_n hx hb d_law_331 rfl (lv_at hl 3 rfl) ?_
  refine lv_iconst (v := (1 : Int32)) hx hb d_law_332 (by decide) ?_
  refine lv_iadd hx hb d_law_333 ?_
  refine va_sld hx hb hX hbl hbA hS h_1 d_law_334 ?_
  have hPc := hP.sub (ws' := mw a2 k2 ms) [0, 1, 2, 3, 4, 5, 6, 7, 8, 9, 10, 11, 12, 13, 14] rfl
  have hDc := hD.sub (ws' := mw a2 k2 ms) [0, 1, 2, 3, 4, 5, 6, 7, 8, 9, 10, 11, 12, 13, 14] (by decide) rfl
  refine wl_2i (wf := mw a2 k2) (wr := xw a k u1) [0, 1, 2, 3, 4, 5, 6, 7, 8, 9, 10, 11, 12, 13, 14] [15, 16, 17, 18, 19, 20, 21, 22, 23, 24, 25, 26, 27, 28, 29, 30, 31, 32, 33, 34, 35, 36, 37] rfl rfl (by decide) (by decide) (va_runV (As := [.int (xs (nI i + (1 : Int32)).toNatClampNeg)]) (rest := [.int (r1)]) ⟨hx, hb, hml, hown, hta⟩ (km_Mod_take l dC dI a2 k2 ms ((xs (nI i + (1 : Int32)).toNatClampNeg)) _ N hR.2.1.1 hR.n64 E hR.2.1.2.2.2.1 hR.e16) (cwV 1 hta gL_39 rfl rfl rfl (by decide +kernel) ⟨Nat.le_of_ble_eq_true rfl, Nat.le_of_ble_eq_true rfl⟩) (wl_pM (C := RX10) (ci := 8) (q0 := 0) hKm hPc hDc rfl (mr_0 a2 k2 ms)) rfl rfl hl.1 rfl (lv_room (Nat.le_of_ble_eq_true rfl)) d_law_335 ⟨Nat.le_of_ble_eq_true rfl, Nat.le_of_ble_eq_true rfl⟩) hP hD hS hA (fun r2 u2 H locs hw2 hP hD hS => ?_)
  obtain ⟨q1, q2⟩ := takeN hR ((xs (nI i + (1 : Int32)).toNatClampNeg))
  obtain ⟨E2, q2⟩ := q2
  rw [← hw1, ← hw2] at q1 q2
  refine lv_icmp_eq (tgt := 577) hx hb d_law_338 (by decide) (fun _ => ?_) (fun q => ?_)
  · exact kk u1 u2 V N E2 Bt H locs q2 hP hD hS
  · exact absurd q1 q
set_option maxHeartbeats 4000000 in
set_option maxRecDepth 100000 in
theorem lc_5 {p : Program} {l : Launch} {e : Env} {s : State} {m : MethodId} {below : List Frame} {meth : Method} {c : Code} {dC : Nat → ClassId} {dI : Nat → Nat → Nat} {b L : Nat} {xs : Nat → Int32} {a a2 : Nat → Nat} {k k2 : Nat → ClassId} {st ms : XS} {V N E Bt i : Nat} {H : Heap} {locs : List Loc} {ls : Array Slot} (C0 : lw_At p s m meth c b L xs) (hKx : va_K (dC, dI) vwCl (xt k) s) (hKm : va_K (dC, dI) vwCl (mt k2) s) (hL : L ≤ 2560) (hi : i + 5 ≤ L) (hR : Rel st ms V N E Bt) (hP : va_P (dC, dI) vwCl (xw a k st ++ mw a2 k2 ms) H) (hD : va_D (fun q : Nat => s.heap.size ≤ q) (xw a k st ++ mw a2 k2 ms)) (hS : va_S (fun q : Nat => s.heap.size ≤ q) s.heap H locs) (hl : lv_has ls 4 [(0, .ref b), (1, .ref (a 0)), (2, .ref (a2 0)), (3, .int (nI i))]) (kk : ∀ (st ms : XS) (V N E Bt : Nat) (H : Heap) (locs : List Loc), Rel st ms V N E Bt → va_P (dC, dI) vwCl (xw a k st ++ mw a2 k2 ms) H → va_D (fun q : Nat => s.heap.size ≤ q) (xw a k st ++ mw a2 k2 ms) → va_S (fun q : Nat => s.heap.size ≤ q) s.heap H locs → W p l e room_1 s m #[Value.ref b] below meth c H locs 38 2334 (lw_Z below #[Value.ref b] s) (F0 m 577 ls [])) : W p l e room_1 s m #[Value.ref b] below meth c H locs 38 2334 (lw_Z below #[Value.ref b] s) (F0 m 343 ls []) := by
  obtain ⟨hx, hb, hr, hml, hown0, hts, hX, hbl, hlocks, hgv⟩ := C0
  have hta := aw_law hts
  have hown : s.vm.findClass RL = some m.cls := hown0
  have hA : ∀ q : Nat, s.heap.size ≤ q → (fun q : Nat => s.heap.size ≤ q) q := fun _ h => h
  have hbA : ¬ (fun q : Nat => s.heap.size ≤ q) b := Nat.not_le.mpr hbl
  have h_1 : vp_in (nI i + (1 : Int32)) L := by rw [show nI i + (1 : Int32) = nI (i + 1) from nI_add i 1]; exact vp_in_nI (by omega) (by omega)
  have h_2 : vp_in (nI i + (2 : Int32)) L := by rw [show nI i + (2 : Int32) = nI (i + 2) from nI_add i 2]; exact vp_in_nI (by omega) (by omega)
  have h_3 : vp_in (nI i + (3 : Int32)) L := by rw [show nI i + (3 : Int32) = nI (i + 3) from nI_add i 3]; exact vp_in_nI (by omega) (by omega)
  have h_4 : vp_in (nI i + (4 : Int32)) L := by rw [show nI i + (4 : Int32) = nI (i + 4) from nI_add i 4]; exact vp_in_nI (by omega) (by omega)
  refine lv_aload_n hx hb d_law_343 rfl (lv_at hl 1 rfl) ?_
  have hPc := hP.sub (ws' := xw a k st) [0, 1, 2, 3, 4, 5, 6, 7, 8, 9, 10, 11, 12, 13, 14, 15, 16, 17, 18, 19, 20, 21, 22] rfl
  have hDc := hD.sub (ws' := xw a k st) [0, 1, 2, 3, 4, 5, 6, 7, 8, 9, 10, 11, 12, 13, 14, 15, 16, 17, 18, 19, 20, 21, 22] (by decide) rfl
  refine wl_2i (wf := xw a k) (wr := mw a2 k2 ms) [0, 1, 2, 3, 4, 5, 6, 7, 8, 9, 10, 11, 12, 13, 14, 15, 16, 17, 18, 19, 20, 21, 22] [23, 24, 25, 26, 27, 28, 29, 30, 31, 32, 33, 34, 35, 36, 37] rfl rfl (by decide) (by decide) (va_runV (As := []) (rest := []) ⟨hx, hb, hml, hown, hta⟩ (kx_PS_back l dC dI a k st  _ V N E Bt hR.1) (cwV 0 hta gL_40 rfl rfl rfl (by decide +kernel) ⟨Nat.le_of_ble_eq_true rfl, Nat.le_of_ble_eq_true rfl⟩) (wl_pM (C := RX9) (ci := 7) (q0 := 0) hKx hPc hDc rfl (xr_0 a k st)) rfl rfl hl.1 rfl (lv_room (Nat.le_of_ble_eq_true rfl)) d_law_344 ⟨Nat.le_of_ble_eq_true rfl, Nat.le_of_ble_eq_true rfl⟩) hP hD hS hA (fun r1 u1 H locs hw1 hP hD hS => ?_)
  refine lv_aload_n hx hb d_law_347 rfl (lv_at hl 2 rfl) ?_
  have hPc := hP.sub (ws' := mw a2 k2 ms) [0, 1, 2, 3, 4, 5, 6, 7, 8, 9, 10, 11, 12, 13, 14] rfl
  have hDc := hD.sub (ws' := mw a2 k2 ms) [0, 1, 2, 3, 4, 5, 6, 7, 8, 9, 10, 11, 12, 13, 14] (by decide) rfl
  refine wl_2i (wf := mw a2 k2) (wr := xw a k u1) [0, 1, 2, 3, 4, 5, 6, 7, 8, 9, 10, 11, 12, 13, 14] [15, 16, 17, 18, 19, 20, 21, 22, 23, 24, 25, 26, 27, 28, 29, 30, 31, 32, 33, 34, 35, 36, 37] rfl rfl (by decide) (by decide) (va_runV (As := []) (rest := [.int (r1)]) ⟨hx, hb, hml, hown, hta⟩ (km_Mod_back l dC dI a2 k2 ms  _ ) (cwV 0 hta gL_44 rfl rfl rfl (by decide +kernel) ⟨Nat.le_of_ble_eq_true rfl, Nat.le_of_ble_eq_true rfl⟩) (wl_pM (C := RX10) (ci := 8) (q0 := 0) hKm hPc hDc rfl (mr_0 a2 k2 ms)) rfl rfl hl.1 rfl (lv_room (Nat.le_of_ble_eq_true rfl)) d_law_348 ⟨Nat.le_of_ble_eq_true rfl, Nat.le_of_ble_eq_true rfl⟩) hP hD hS hA (fun r2 u2 H locs hw2 hP hD hS => ?_)
  obtain ⟨q1, q2⟩ := backN hR 
  obtain ⟨E2, q2⟩ := q2
  rw [← hw1, ← hw2] at q1 q2
  refine lv_icmp_eq (tgt := 577) hx hb d_law_351 (by decide) (fun _ => ?_) (fun q => ?_)
  · exact kk u1 u2 V N E2 Bt H locs q2 hP hD hS
  · exact absurd q1 q
set_option maxHeartbeats 4000000 in
set_option maxRecDepth 100000 in
theorem lc_6 {p : Program} {l : Launch} {e : Env} {s : State} {m : MethodId} {below : List Frame} {meth : Method} {c : Code} {dC : Nat → ClassId} {dI : Nat → Nat → Nat} {b L : Nat} {xs : Nat → Int32} {a a2 : Nat → Nat} {k k2 : Nat → ClassId} {st ms : XS} {V N E Bt i : Nat} {H : Heap} {locs : List Loc} {ls : Array Slot} (C0 : lw_At p s m meth c b L xs) (hKx : va_K (dC, dI) vwCl (xt k) s) (hKm : va_K (dC, dI) vwCl (mt k2) s) (hL : L ≤ 2560) (hi : i + 5 ≤ L) (hR : Rel st ms V N E Bt) (hP : va_P (dC, dI) vwCl (xw a k st ++ mw a2 k2 ms) H) (hD : va_D (fun q : Nat => s.heap.size ≤ q) (xw a k st ++ mw a2 k2 ms)) (hS : va_S (fun q : Nat => s.heap.size ≤ q) s.heap H locs) (hl : lv_has ls 4 [(0, .ref b), (1, .ref (a 0)), (2, .ref (a2 0)), (3, .int (nI i))]) (kk : ∀ (st ms : XS) (V N E Bt : Nat) (H : Heap) (locs : List Loc), Rel st ms V N E Bt → va_P (dC, dI) vwCl (xw a k st ++ mw a2 k2 ms) H → va_D (fun q : Nat => s.heap.size ≤ q) (xw a k st ++ mw a2 k2 ms) → va_S (fun q : Nat => s.heap.size ≤ q) s.heap H locs → W p l e room_1 s m #[Value.ref b] below meth c H locs 38 2334 (lw_Z below #[Value.ref b] s) (F0 m 577 ls [])) : W p l e room_1 s m #[Value.ref b] below meth c H locs 38 2334 (lw_Z below #[Value.ref b] s) (F0 m 356 ls []) := by
  obtain ⟨hx, hb, hr, hml, hown0, hts, hX, hbl, hlocks, hgv⟩ := C0
  have hta := aw_law hts
  have hown : s.vm.findClass RL = some m.cls := hown0
  have hA : ∀ q : Nat, s.heap.size ≤ q → (fun q : Nat => s.heap.size ≤ q) q := fun _ h => h
  have hbA : ¬ (fun q : Nat => s.heap.size ≤ q) b := Nat.not_le.mpr hbl
  have h_1 : vp_in (nI i + (1 : Int32)) L := by rw [show nI i + (1 : Int32) = nI (i + 1) from nI_add i 1]; exact vp_in_nI (by omega) (by omega)
  have h_2 : vp_in (nI i + (2 : Int32)) L := by rw [show nI i + (2 : Int32) = nI (i + 2) from nI_add i 2]; exact vp_in_nI (by omega) (by omega)
  have h_3 : vp_in (nI i + (3 : Int32)) L := by rw [show nI i + (3 : Int32) = nI (i + 3) from nI_add i 3]; exact vp_in_nI (by omega) (by omega)
  have h_4 : vp_in (nI i + (4 : Int32)) L := by rw [show nI i + (4 : Int32) = nI (i + 4) from nI_add i 4]; exact vp_in_nI (by omega) (by omega)
  refine lv_aload_n hx hb d_law_356 rfl (lv_at hl 1 rfl) ?_
  have hPc := hP.sub (ws' := xw a k st) [0, 1, 2, 3, 4, 5, 6, 7, 8, 9, 10, 11, 12, 13, 14, 15, 16, 17, 18, 19, 20, 21, 22] rfl
  have hDc := hD.sub (ws' := xw a k st) [0, 1, 2, 3, 4, 5, 6, 7, 8, 9, 10, 11, 12, 13, 14, 15, 16, 17, 18, 19, 20, 21, 22] (by decide) rfl
  refine wl_2i (wf := xw a k) (wr := mw a2 k2 ms) [0, 1, 2, 3, 4, 5, 6, 7, 8, 9, 10, 11, 12, 13, 14, 15, 16, 17, 18, 19, 20, 21, 22] [23, 24, 25, 26, 27, 28, 29, 30, 31, 32, 33, 34, 35, 36, 37] rfl rfl (by decide) (by decide) (va_runV (As := []) (rest := []) ⟨hx, hb, hml, hown, hta⟩ (kx_PS_check l dC dI a k st  _ V N E Bt hR.1) (cwV 0 hta gL_45 rfl rfl rfl (by decide +kernel) ⟨Nat.le_of_ble_eq_true rfl, Nat.le_of_ble_eq_true rfl⟩) (wl_pM (C := RX9) (ci := 7) (q0 := 0) hKx hPc hDc rfl (xr_0 a k st)) rfl rfl hl.1 rfl (lv_room (Nat.le_of_ble_eq_true rfl)) d_law_357 ⟨Nat.le_of_ble_eq_true rfl, Nat.le_of_ble_eq_true rfl⟩) hP hD hS hA (fun r1 u1 H locs hw1 hP hD hS => ?_)
  refine lv_aload_n hx hb d_law_360 rfl (lv_at hl 2 rfl) ?_
  have hPc := hP.sub (ws' := mw a2 k2 ms) [0, 1, 2, 3, 4, 5, 6, 7, 8, 9, 10, 11, 12, 13, 14] rfl
  have hDc := hD.sub (ws' := mw a2 k2 ms) [0, 1, 2, 3, 4, 5, 6, 7, 8, 9, 10, 11, 12, 13, 14] (by decide) rfl
  refine wl_2i (wf := mw a2 k2) (wr := xw a k u1) [0, 1, 2, 3, 4, 5, 6, 7, 8, 9, 10, 11, 12, 13, 14] [15, 16, 17, 18, 19, 20, 21, 22, 23, 24, 25, 26, 27, 28, 29, 30, 31, 32, 33, 34, 35, 36, 37] rfl rfl (by decide) (by decide) (va_runV (As := []) (rest := [.int (r1)]) ⟨hx, hb, hml, hown, hta⟩ (km_Mod_check l dC dI a2 k2 ms  _ N hR.2.1.1 hR.n64 V hR.2.1.2.2.1 hR.v4 hR.mt Bt hR.bsm hR.b10 E hR.2.1.2.2.2.1 hR.e16 hR.r64) (cwV 0 hta gL_48 rfl rfl rfl (by decide +kernel) ⟨Nat.le_of_ble_eq_true rfl, Nat.le_of_ble_eq_true rfl⟩) (wl_pM (C := RX10) (ci := 8) (q0 := 0) hKm hPc hDc rfl (mr_0 a2 k2 ms)) rfl rfl hl.1 rfl (lv_room (Nat.le_of_ble_eq_true rfl)) d_law_361 ⟨Nat.le_of_ble_eq_true rfl, Nat.le_of_ble_eq_true rfl⟩) hP hD hS hA (fun r2 u2 H locs hw2 hP hD hS => ?_)
  obtain ⟨q1, q2⟩ := checkN hR 
  rw [← hw1, ← hw2] at q1 q2
  refine lv_icmp_eq (tgt := 577) hx hb d_law_364 (by decide) (fun _ => ?_) (fun q => ?_)
  · exact kk u1 u2 V N E Bt H locs q2 hP hD hS
  · exact absurd q1 q
set_option maxHeartbeats 4000000 in
set_option maxRecDepth 100000 in
theorem lc_7 {p : Program} {l : Launch} {e : Env} {s : State} {m : MethodId} {below : List Frame} {meth : Method} {c : Code} {dC : Nat → ClassId} {dI : Nat → Nat → Nat} {b L : Nat} {xs : Nat → Int32} {a a2 : Nat → Nat} {k k2 : Nat → ClassId} {st ms : XS} {V N E Bt i : Nat} {H : Heap} {locs : List Loc} {ls : Array Slot} (C0 : lw_At p s m meth c b L xs) (hKx : va_K (dC, dI) vwCl (xt k) s) (hKm : va_K (dC, dI) vwCl (mt k2) s) (hL : L ≤ 2560) (hi : i + 5 ≤ L) (hR : Rel st ms V N E Bt) (hP : va_P (dC, dI) vwCl (xw a k st ++ mw a2 k2 ms) H) (hD : va_D (fun q : Nat => s.heap.size ≤ q) (xw a k st ++ mw a2 k2 ms)) (hS : va_S (fun q : Nat => s.heap.size ≤ q) s.heap H locs) (hl : lv_has ls 4 [(0, .ref b), (1, .ref (a 0)), (2, .ref (a2 0)), (3, .int (nI i))]) (kk : ∀ (st ms : XS) (V N E Bt : Nat) (H : Heap) (locs : List Loc), Rel st ms V N E Bt → va_P (dC, dI) vwCl (xw a k st ++ mw a2 k2 ms) H → va_D (fun q : Nat => s.heap.size ≤ q) (xw a k st ++ mw a2 k2 ms) → va_S (fun q : Nat => s.heap.size ≤ q) s.heap H locs → W p l e room_1 s m #[Value.ref b] below meth c H locs 38 2334 (lw_Z below #[Value.ref b] s) (F0 m 577 ls [])) : W p l e room_1 s m #[Value.ref b] below meth c H locs 38 2334 (lw_Z below #[Value.ref b] s) (F0 m 369 ls []) := by
  obtain ⟨hx, hb, hr, hml, hown0, hts, hX, hbl, hlocks, hgv⟩ := C0
  have hta := aw_law hts
  have hown : s.vm.findClass RL = some m.cls := hown0
  have hA : ∀ q : Nat, s.heap.size ≤ q → (fun q : Nat => s.heap.size ≤ q) q := fun _ h => h
  have hbA : ¬ (fun q : Nat => s.heap.size ≤ q) b := Nat.not_le.mpr hbl
  have h_1 : vp_in (nI i + (1 : Int32)) L := by rw [show nI i + (1 : Int32) = nI (i + 1) from nI_add i 1]; exact vp_in_nI (by omega) (by omega)
  have h_2 : vp_in (nI i + (2 : Int32)) L := by rw [show nI i + (2 : Int32) = nI (i + 2) from nI_add i 2]; exact vp_in_nI (by omega) (by omega)
  have h_3 : vp_in (nI i + (3 : Int32)) L := by rw [show nI i + (3 : Int32) = nI (i + 3) from nI_add i 3]; exact vp_in_nI (by omega) (by omega)
  have h_4 : vp_in (nI i + (4 : Int32)) L := by rw [show nI i + (4 : Int32) = nI (i + 4) from nI_add i 4]; exact vp_in_nI (by omega) (by omega)
  refine lv_aload_n hx hb d_law_369 rfl (lv_at hl 1 rfl) ?_
  refine lv_aload_n hx hb d_law_370 rfl (lv_at hl 0 rfl) ?_
  refine lv_iload_n hx hb d_law_371 rfl (lv_at hl 3 rfl) ?_
  refine lv_iconst (v := (1 : Int32)) hx hb d_law_372 (by decide) ?_
  refine lv_iadd hx hb d_law_373 ?_
  refine va_sld hx hb hX hbl hbA hS h_1 d_law_374 ?_
  have hPc := hP.sub (ws' := xw a k st) [0, 1, 2, 3, 4, 5, 6, 7, 8, 9, 10, 11, 12, 13, 14, 15, 16, 17, 18, 19, 20, 21, 22] rfl
  have hDc := hD.sub (ws' := xw a k st) [0, 1, 2, 3, 4, 5, 6, 7, 8, 9, 10, 11, 12, 13, 14, 15, 16, 17, 18, 19, 20, 21, 22] (by decide) rfl
  refine wl_2i (wf := xw a k) (wr := mw a2 k2 ms) [0, 1, 2, 3, 4, 5, 6, 7, 8, 9, 10, 11, 12, 13, 14, 15, 16, 17, 18, 19, 20, 21, 22] [23, 24, 25, 26, 27, 28, 29, 30, 31, 32, 33, 34, 35, 36, 37] rfl rfl (by decide) (by decide) (va_runV (As := [.int (xs (nI i + (1 : Int32)).toNatClampNeg)]) (rest := []) ⟨hx, hb, hml, hown, hta⟩ (kx_PS_flip l dC dI a k st ((xs (nI i + (1 : Int32)).toNatClampNeg)) _ V N E Bt hR.1) (cwV 1 hta gL_49 rfl rfl rfl (by decide +kernel) ⟨Nat.le_of_ble_eq_true rfl, Nat.le_of_ble_eq_true rfl⟩) (wl_pM (C := RX9) (ci := 7) (q0 := 0) hKx hPc hDc rfl (xr_0 a k st)) rfl rfl hl.1 rfl (lv_room (Nat.le_of_ble_eq_true rfl)) d_law_375 ⟨Nat.le_of_ble_eq_true rfl, Nat.le_of_ble_eq_true rfl⟩) hP hD hS hA (fun r1 u1 H locs hw1 hP hD hS => ?_)
  refine lv_aload_n hx hb d_law_378 rfl (lv_at hl 2 rfl) ?_
  refine lv_aload_n hx hb d_law_379 rfl (lv_at hl 0 rfl) ?_
  refine lv_iload_n hx hb d_law_380 rfl (lv_at hl 3 rfl) ?_
  refine lv_iconst (v := (1 : Int32)) hx hb d_law_381 (by decide) ?_
  refine lv_iadd hx hb d_law_382 ?_
  refine va_sld hx hb hX hbl hbA hS h_1 d_law_383 ?_
  have hPc := hP.sub (ws' := mw a2 k2 ms) [0, 1, 2, 3, 4, 5, 6, 7, 8, 9, 10, 11, 12, 13, 14] rfl
  have hDc := hD.sub (ws' := mw a2 k2 ms) [0, 1, 2, 3, 4, 5, 6, 7, 8, 9, 10, 11, 12, 13, 14] (by decide) rfl
  refine wl_2i (wf := mw a2 k2) (wr := xw a k u1) [0, 1, 2, 3, 4, 5, 6, 7, 8, 9, 10, 11, 12, 13, 14] [15, 16, 17, 18, 19, 20, 21, 22, 23, 24, 25, 26, 27, 28, 29, 30, 31, 32, 33, 34, 35, 36, 37] rfl rfl (by decide) (by decide) (va_runV (As := [.int (xs (nI i + (1 : Int32)).toNatClampNeg)]) (rest := [.int (r1)]) ⟨hx, hb, hml, hown, hta⟩ (km_Mod_flip l dC dI a2 k2 ms ((xs (nI i + (1 : Int32)).toNatClampNeg)) _ N hR.2.1.1 hR.n64 V hR.2.1.2.2.1 hR.v4 hR.mt Bt hR.bsm hR.b10 E hR.2.1.2.2.2.1 hR.e16 hR.r64) (cwV 1 hta gL_52 rfl rfl rfl (by decide +kernel) ⟨Nat.le_of_ble_eq_true rfl, Nat.le_of_ble_eq_true rfl⟩) (wl_pM (C := RX10) (ci := 8) (q0 := 0) hKm hPc hDc rfl (mr_0 a2 k2 ms)) rfl rfl hl.1 rfl (lv_room (Nat.le_of_ble_eq_true rfl)) d_law_384 ⟨Nat.le_of_ble_eq_true rfl, Nat.le_of_ble_eq_true rfl⟩) hP hD hS hA (fun r2 u2 H locs hw2 hP hD hS => ?_)
  obtain ⟨q1, q2⟩ := flipN hR ((xs (nI i + (1 : Int32)).toNatClampNeg))
  rw [← hw1, ← hw2] at q1 q2
  refine lv_icmp_eq (tgt := 577) hx hb d_law_387 (by decide) (fun _ => ?_) (fun q => ?_)
  · exact kk u1 u2 V N E Bt H locs q2 hP hD hS
  · exact absurd q1 q
set_option maxHeartbeats 4000000 in
set_option maxRecDepth 100000 in
theorem lc_8 {p : Program} {l : Launch} {e : Env} {s : State} {m : MethodId} {below : List Frame} {meth : Method} {c : Code} {dC : Nat → ClassId} {dI : Nat → Nat → Nat} {b L : Nat} {xs : Nat → Int32} {a a2 : Nat → Nat} {k k2 : Nat → ClassId} {st ms : XS} {V N E Bt i : Nat} {H : Heap} {locs : List Loc} {ls : Array Slot} (C0 : lw_At p s m meth c b L xs) (hKx : va_K (dC, dI) vwCl (xt k) s) (hKm : va_K (dC, dI) vwCl (mt k2) s) (hL : L ≤ 2560) (hi : i + 5 ≤ L) (hR : Rel st ms V N E Bt) (hP : va_P (dC, dI) vwCl (xw a k st ++ mw a2 k2 ms) H) (hD : va_D (fun q : Nat => s.heap.size ≤ q) (xw a k st ++ mw a2 k2 ms)) (hS : va_S (fun q : Nat => s.heap.size ≤ q) s.heap H locs) (hl : lv_has ls 4 [(0, .ref b), (1, .ref (a 0)), (2, .ref (a2 0)), (3, .int (nI i))]) (kk : ∀ (st ms : XS) (V N E Bt : Nat) (H : Heap) (locs : List Loc), Rel st ms V N E Bt → va_P (dC, dI) vwCl (xw a k st ++ mw a2 k2 ms) H → va_D (fun q : Nat => s.heap.size ≤ q) (xw a k st ++ mw a2 k2 ms) → va_S (fun q : Nat => s.heap.size ≤ q) s.heap H locs → W p l e room_1 s m #[Value.ref b] below meth c H locs 38 2334 (lw_Z below #[Value.ref b] s) (F0 m 577 ls [])) : W p l e room_1 s m #[Value.ref b] below meth c H locs 38 2334 (lw_Z below #[Value.ref b] s) (F0 m 392 ls []) := by
  obtain ⟨hx, hb, hr, hml, hown0, hts, hX, hbl, hlocks, hgv⟩ := C0
  have hta := aw_law hts
  have hown : s.vm.findClass RL = some m.cls := hown0
  have hA : ∀ q : Nat, s.heap.size ≤ q → (fun q : Nat => s.heap.size ≤ q) q := fun _ h => h
  have hbA : ¬ (fun q : Nat => s.heap.size ≤ q) b := Nat.not_le.mpr hbl
  have h_1 : vp_in (nI i + (1 : Int32)) L := by rw [show nI i + (1 : Int32) = nI (i + 1) from nI_add i 1]; exact vp_in_nI (by omega) (by omega)
  have h_2 : vp_in (nI i + (2 : Int32)) L := by rw [show nI i + (2 : Int32) = nI (i + 2) from nI_add i 2]; exact vp_in_nI (by omega) (by omega)
  have h_3 : vp_in (nI i + (3 : Int32)) L := by rw [show nI i + (3 : Int32) = nI (i + 3) from nI_add i 3]; exact vp_in_nI (by omega) (by omega)
  have h_4 : vp_in (nI i + (4 : Int32)) L := by rw [show nI i + (4 : Int32) = nI (i + 4) from nI_add i 4]; exact vp_in_nI (by omega) (by omega)
  refine lv_aload_n hx hb d_law_392 rfl (lv_at hl 1 rfl) ?_
  refine lv_aload_n hx hb d_law_393 rfl (lv_at hl 0 rfl) ?_
  refine lv_iload_n hx hb d_law_394 rfl (lv_at hl 3 rfl) ?_
  refine lv_iconst (v := (1 : Int32)) hx hb d_law_395 (by decide) ?_
  refine lv_iadd hx hb d_law_396 ?_
  refine va_sld hx hb hX hbl hbA hS h_1 d_law_397 ?_
  have hPc := hP.sub (ws' := xw a k st) [0, 1, 2, 3, 4, 5, 6, 7, 8, 9, 10, 11, 12, 13, 14, 15, 16, 17, 18, 19, 20, 21, 22] rfl
  have hDc := hD.sub (ws' := xw a k st) [0, 1, 2, 3, 4, 5, 6, 7, 8, 9, 10, 11, 12, 13, 14, 15, 16, 17, 18, 19, 20, 21, 22] (by decide) rfl
  refine wl_2i (wf := xw a k) (wr := mw a2 k2 ms) [0, 1, 2, 3, 4, 5, 6, 7, 8, 9, 10, 11, 12, 13, 14, 15, 16, 17, 18, 19, 20, 21, 22] [23, 24, 25, 26, 27, 28, 29, 30, 31, 32, 33, 34, 35, 36, 37] rfl rfl (by decide) (by decide) (va_runV (As := [.int (xs (nI i + (1 : Int32)).toNatClampNeg)]) (rest := []) ⟨hx, hb, hml, hown, hta⟩ (kx_PS_search l dC dI a k st ((xs (nI i + (1 : Int32)).toNatClampNeg)) _ V N E Bt hR.1) (cwV 1 hta gL_53 rfl rfl rfl (by decide +kernel) ⟨Nat.le_of_ble_eq_true rfl, Nat.le_of_ble_eq_true rfl⟩) (wl_pM (C := RX9) (ci := 7) (q0 := 0) hKx hPc hDc rfl (xr_0 a k st)) rfl rfl hl.1 rfl (lv_room (Nat.le_of_ble_eq_true rfl)) d_law_398 ⟨Nat.le_of_ble_eq_true rfl, Nat.le_of_ble_eq_true rfl⟩) hP hD hS hA (fun r1 u1 H locs hw1 hP hD hS => ?_)
  refine lv_aload_n hx hb d_law_401 rfl (lv_at hl 2 rfl) ?_
  refine lv_aload_n hx hb d_law_402 rfl (lv_at hl 0 rfl) ?_
  refine lv_iload_n hx hb d_law_403 rfl (lv_at hl 3 rfl) ?_
  refine lv_iconst (v := (1 : Int32)) hx hb d_law_404 (by decide) ?_
  refine lv_iadd hx hb d_law_405 ?_
  refine va_sld hx hb hX hbl hbA hS h_1 d_law_406 ?_
  have hPc := hP.sub (ws' := mw a2 k2 ms) [0, 1, 2, 3, 4, 5, 6, 7, 8, 9, 10, 11, 12, 13, 14] rfl
  have hDc := hD.sub (ws' := mw a2 k2 ms) [0, 1, 2, 3, 4, 5, 6, 7, 8, 9, 10, 11, 12, 13, 14] (by decide) rfl
  refine wl_2i (wf := mw a2 k2) (wr := xw a k u1) [0, 1, 2, 3, 4, 5, 6, 7, 8, 9, 10, 11, 12, 13, 14] [15, 16, 17, 18, 19, 20, 21, 22, 23, 24, 25, 26, 27, 28, 29, 30, 31, 32, 33, 34, 35, 36, 37] rfl rfl (by decide) (by decide) (va_runV (As := [.int (xs (nI i + (1 : Int32)).toNatClampNeg)]) (rest := [.int (r1)]) ⟨hx, hb, hml, hown, hta⟩ (km_Mod_search l dC dI a2 k2 ms ((xs (nI i + (1 : Int32)).toNatClampNeg)) _ N hR.2.1.1 hR.n64 V hR.2.1.2.2.1 hR.v4 hR.mt Bt hR.bsm hR.b10 E hR.2.1.2.2.2.1 hR.e16 hR.r64) (cwV 1 hta gL_56 rfl rfl rfl (by decide +kernel) ⟨Nat.le_of_ble_eq_true rfl, Nat.le_of_ble_eq_true rfl⟩) (wl_pM (C := RX10) (ci := 8) (q0 := 0) hKm hPc hDc rfl (mr_0 a2 k2 ms)) rfl rfl hl.1 rfl (lv_room (Nat.le_of_ble_eq_true rfl)) d_law_407 ⟨Nat.le_of_ble_eq_true rfl, Nat.le_of_ble_eq_true rfl⟩) hP hD hS hA (fun r2 u2 H locs hw2 hP hD hS => ?_)
  obtain ⟨q1, q2⟩ := searchN hR ((xs (nI i + (1 : Int32)).toNatClampNeg))
  rw [← hw1, ← hw2] at q1 q2
  refine lv_icmp_eq (tgt := 577) hx hb d_law_410 (by decide) (fun _ => ?_) (fun q => ?_)
  · exact kk u1 u2 V N E Bt H locs q2 hP hD hS
  · exact absurd q1 q
set_option maxHeartbeats 4000000 in
set_option maxRecDepth 100000 in
theorem lc_9 {p : Program} {l : Launch} {e : Env} {s : State} {m : MethodId} {below : List Frame} {meth : Method} {c : Code} {dC : Nat → ClassId} {dI : Nat → Nat → Nat} {b L : Nat} {xs : Nat → Int32} {a a2 : Nat → Nat} {k k2 : Nat → ClassId} {st ms : XS} {V N E Bt i : Nat} {H : Heap} {locs : List Loc} {ls : Array Slot} (C0 : lw_At p s m meth c b L xs) (hKx : va_K (dC, dI) vwCl (xt k) s) (hKm : va_K (dC, dI) vwCl (mt k2) s) (hL : L ≤ 2560) (hi : i + 5 ≤ L) (hR : Rel st ms V N E Bt) (hP : va_P (dC, dI) vwCl (xw a k st ++ mw a2 k2 ms) H) (hD : va_D (fun q : Nat => s.heap.size ≤ q) (xw a k st ++ mw a2 k2 ms)) (hS : va_S (fun q : Nat => s.heap.size ≤ q) s.heap H locs) (hl : lv_has ls 4 [(0, .ref b), (1, .ref (a 0)), (2, .ref (a2 0)), (3, .int (nI i))]) (kk : ∀ (st ms : XS) (V N E Bt : Nat) (H : Heap) (locs : List Loc), Rel st ms V N E Bt → va_P (dC, dI) vwCl (xw a k st ++ mw a2 k2 ms) H → va_D (fun q : Nat => s.heap.size ≤ q) (xw a k st ++ mw a2 k2 ms) → va_S (fun q : Nat => s.heap.size ≤ q) s.heap H locs → W p l e room_1 s m #[Value.ref b] below meth c H locs 38 2334 (lw_Z below #[Value.ref b] s) (F0 m 577 ls [])) : W p l e room_1 s m #[Value.ref b] below meth c H locs 38 2334 (lw_Z below #[Value.ref b] s) (F0 m 415 ls []) := by
  obtain ⟨hx, hb, hr, hml, hown0, hts, hX, hbl, hlocks, hgv⟩ := C0
  have hta := aw_law hts
  have hown : s.vm.findClass RL = some m.cls := hown0
  have hA : ∀ q : Nat, s.heap.size ≤ q → (fun q : Nat => s.heap.size ≤ q) q := fun _ h => h
  have hbA : ¬ (fun q : Nat => s.heap.size ≤ q) b := Nat.not_le.mpr hbl
  have h_1 : vp_in (nI i + (1 : Int32)) L := by rw [show nI i + (1 : Int32) = nI (i + 1) from nI_add i 1]; exact vp_in_nI (by omega) (by omega)
  have h_2 : vp_in (nI i + (2 : Int32)) L := by rw [show nI i + (2 : Int32) = nI (i + 2) from nI_add i 2]; exact vp_in_nI (by omega) (by omega)
  have h_3 : vp_in (nI i + (3 : Int32)) L := by rw [show nI i + (3 : Int32) = nI (i + 3) from nI_add i 3]; exact vp_in_nI (by omega) (by omega)
  have h_4 : vp_in (nI i + (4 : Int32)) L := by rw [show nI i + (4 : Int32) = nI (i + 4) from nI_add i 4]; exact vp_in_nI (by omega) (by omega)
  refine lv_aload_n hx hb d_law_415 rfl (lv_at hl 1 rfl) ?_
  refine lv_aload_n hx hb d_law_416 rfl (lv_at hl 0 rfl) ?_
  refine lv_iload_n hx hb d_law_417 rfl (lv_at hl 3 rfl) ?_
  refine lv_iconst (v := (1 : Int32)) hx hb d_law_418 (by decide) ?_
  refine lv_iadd hx hb d_law_419 ?_
  refine va_sld hx hb hX hbl hbA hS h_1 d_law_420 ?_
  have hPc := hP.sub (ws' := xw a k st) [0, 1, 2, 3, 4, 5, 6, 7, 8, 9, 10, 11, 12, 13, 14, 15, 16, 17, 18, 19, 20, 21, 22] rfl
  refine wl_ci (va_runV (As := [.int (xs (nI i + (1 : Int32)).toNatClampNeg)]) (rest := []) ⟨hx, hb, hml, hown, hta⟩ (kx_PS_model l dC dI a k st ((xs (nI i + (1 : Int32)).toNatClampNeg)) V N E Bt hR.1) (cwV 1 hta gL_57 rfl rfl rfl (by decide +kernel) ⟨Nat.le_of_ble_eq_true rfl, Nat.le_of_ble_eq_true rfl⟩) (wl_pR (C := RX9) (ci := 7) (q0 := 0) hKx hPc rfl (xr_0 a k st)) rfl rfl hl.1 rfl (lv_room (Nat.le_of_ble_eq_true rfl)) d_law_421 ⟨Nat.le_of_ble_eq_true rfl, Nat.le_of_ble_eq_true rfl⟩) ?_
  refine lv_aload_n hx hb d_law_424 rfl (lv_at hl 2 rfl) ?_
  refine lv_aload_n hx hb d_law_425 rfl (lv_at hl 0 rfl) ?_
  refine lv_iload_n hx hb d_law_426 rfl (lv_at hl 3 rfl) ?_
  refine lv_iconst (v := (1 : Int32)) hx hb d_law_427 (by decide) ?_
  refine lv_iadd hx hb d_law_428 ?_
  refine va_sld hx hb hX hbl hbA hS h_1 d_law_429 ?_
  have hPc := hP.sub (ws' := mw a2 k2 ms) [23, 24, 25, 26, 27, 28, 29, 30, 31, 32, 33, 34, 35, 36, 37] rfl
  obtain ⟨MV, hMV, hMV4⟩ := hR.mdl
  refine wl_ci (va_runV (As := [.int (xs (nI i + (1 : Int32)).toNatClampNeg)]) (rest := [.int (fx_PS_model st ((xs (nI i + (1 : Int32)).toNatClampNeg)) )]) ⟨hx, hb, hml, hown, hta⟩ (km_Mod_model l dC dI a2 k2 ms ((xs (nI i + (1 : Int32)).toNatClampNeg)) MV hMV hMV4) (cwV 1 hta gL_60 rfl rfl rfl (by decide +kernel) ⟨Nat.le_of_ble_eq_true rfl, Nat.le_of_ble_eq_true rfl⟩) (wl_pR (C := RX10) (ci := 8) (q0 := 0) hKm hPc rfl (mr_0 a2 k2 ms)) rfl rfl hl.1 rfl (lv_room (Nat.le_of_ble_eq_true rfl)) d_law_430 ⟨Nat.le_of_ble_eq_true rfl, Nat.le_of_ble_eq_true rfl⟩) ?_
  refine lv_icmp_eq (tgt := 577) hx hb d_law_433 (by decide) (fun _ => ?_) (fun q => ?_)
  · exact kk st ms V N E Bt H locs hR hP hD hS
  · exact absurd (modelN hR ((xs (nI i + (1 : Int32)).toNatClampNeg))) q
