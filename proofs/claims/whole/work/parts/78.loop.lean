set_option maxHeartbeats 4000000 in
set_option maxRecDepth 100000 in
theorem law_loop {p : Program} {l : Launch} {e : Env} {s : State} {m : MethodId} {below : List Frame} {meth : Method} {c : Code} {dC : Nat → ClassId} {dI : Nat → Nat → Nat} {b L : Nat} {xs : Nat → Int32} {a a2 : Nat → Nat} {k k2 : Nat → ClassId}  (hL : L ≤ 2560) (C0 : lw_At p s m meth c b L xs) (hKx : va_K (dC, dI) vwCl (xt k) s) (hKm : va_K (dC, dI) vwCl (mt k2) s) : ∀ (n i : Nat) (st ms : XS) (V N E Bt : Nat) (H : Heap) (locs : List Loc) (ls : Array Slot), i ≤ 2560 → 2600 < i + n → Rel st ms V N E Bt → va_P (dC, dI) vwCl (xw a k st ++ mw a2 k2 ms) H → va_D (fun q : Nat => s.heap.size ≤ q) (xw a k st ++ mw a2 k2 ms) → va_S (fun q : Nat => s.heap.size ≤ q) s.heap H locs → lv_has ls 4 [(0, .ref b), (1, .ref (a 0)), (2, .ref (a2 0)), (3, .int (nI i))] → W p l e room_1 s m #[Value.ref b] below meth c H locs 38 2334 (lw_Z below #[Value.ref b] s) (F0 m 18 ls []) := by
  obtain ⟨hx, hb, hr, hml, hown0, hts, hX, hbl, hlocks, hgv⟩ := id C0
  have hbA : ¬ (fun q : Nat => s.heap.size ≤ q) b := Nat.not_le.mpr hbl
  intro n
  induction n with
  | zero => intro i st ms V N E Bt H locs ls h1 h2; exact absurd h2 (by omega)
  | succ n ih =>
    intro i st ms V N E Bt H locs ls hi hn hR hP hD hS hl
    refine lv_iload_n hx hb d_law_18 rfl (lv_at hl 3 rfl) ?_
    refine lv_aload_n hx hb d_law_19 rfl (lv_at hl 0 rfl) ?_
    refine va_slen hx hb hX hbl hbA hS d_law_20 ?_
    refine lv_iconst (v := (5 : Int32)) hx hb d_law_21 (by decide) ?_
    refine lv_isub hx hb d_law_22 ?_
    refine lv_icmp_gt (tgt := 583) hx hb d_law_23 (by decide) (fun _ => ?_) (fun c0 => ?_)
    · refine lv_iconst (v := (1 : Int32)) hx hb d_law_583 (by decide) ?_
      refine va_forget (fun q hq => hS.2.2 q hq) ?_
      exact lw_ret hx hb hr hlocks d_law_584
    · have hi5 : i + 5 ≤ L := lawIx (by omega) hL c0
      have h_0 : vp_in (nI i) L := vp_in_nI (by omega) (by omega)
      have kk : ∀ (st ms : XS) (V N E Bt : Nat) (H : Heap) (locs : List Loc), Rel st ms V N E Bt → va_P (dC, dI) vwCl (xw a k st ++ mw a2 k2 ms) H → va_D (fun q : Nat => s.heap.size ≤ q) (xw a k st ++ mw a2 k2 ms) → va_S (fun q : Nat => s.heap.size ≤ q) s.heap H locs → W p l e room_1 s m #[Value.ref b] below meth c H locs 38 2334 (lw_Z below #[Value.ref b] s) (F0 m 577 ls []) := by
        intro st ms V N E Bt H locs hR hP hD hS
        refine lv_iinc (v := nI (i + 5)) (lv' := [(3, .int (nI (i + 5))), (0, .ref b), (1, .ref (a 0)), (2, .ref (a2 0))]) hx hb d_law_577 hl (k := 3) rfl (nI_add i 5) (by decide) rfl (fun ls hl => ?_)
        refine lv_goto (tgt := 18) hx hb d_law_580 (by decide) ?_
        exact ih (i + 5) st ms V N E Bt H locs ls (by omega) (by omega) hR hP hD hS (lv_sub hl [1, 2, 3, 0] rfl)
      refine lv_aload_n hx hb d_law_26 rfl (lv_at hl 0 rfl) ?_
      refine lv_iload_n hx hb d_law_27 rfl (lv_at hl 3 rfl) ?_
      refine va_sld hx hb hX hbl hbA hS h_0 d_law_28 ?_
      refine lv_bipush (v := (15 : Int32)) hx hb d_law_29 (by decide) ?_
      refine lv_iand hx hb d_law_31 ?_
      obtain ⟨j, hj, ej⟩ := law15 (xs (nI i).toNatClampNeg)
      rw [ej]
      have q : j = 0 ∨ j = 1 ∨ j = 2 ∨ j = 3 ∨ j = 4 ∨ j = 5 ∨ j = 6 ∨ j = 7 ∨ j = 8 ∨ j = 9 ∨ j = 10 ∨ j = 11 ∨ j = 12 ∨ j = 13 ∨ j = 14 ∨ j = 15 := by omega
      rcases q with q | q | q | q | q | q | q | q | q | q | q | q | q | q | q | q
      · rw [q]
        refine lv_tableIn (tgt := 112) hx hb d_law_32 (by decide) (by decide) (by rfl) (by decide) ?_
        exact lc_0 C0 hKx hKm hL hi5 hR hP hD hS hl kk
      · rw [q]
        refine lv_tableIn (tgt := 161) hx hb d_law_32 (by decide) (by decide) (by rfl) (by decide) ?_
        exact lc_1 C0 hKx hKm hL hi5 hR hP hD hS hl kk
      · rw [q]
        refine lv_tableIn (tgt := 224) hx hb d_law_32 (by decide) (by decide) (by rfl) (by decide) ?_
        exact lc_2 C0 hKx hKm hL hi5 hR hP hD hS hl kk
      · rw [q]
        refine lv_tableIn (tgt := 267) hx hb d_law_32 (by decide) (by decide) (by rfl) (by decide) ?_
        exact lc_3 C0 hKx hKm hL hi5 hR hP hD hS hl kk
      · rw [q]
        refine lv_tableIn (tgt := 320) hx hb d_law_32 (by decide) (by decide) (by rfl) (by decide) ?_
        exact lc_4 C0 hKx hKm hL hi5 hR hP hD hS hl kk
      · rw [q]
        refine lv_tableIn (tgt := 343) hx hb d_law_32 (by decide) (by decide) (by rfl) (by decide) ?_
        exact lc_5 C0 hKx hKm hL hi5 hR hP hD hS hl kk
      · rw [q]
        refine lv_tableIn (tgt := 356) hx hb d_law_32 (by decide) (by decide) (by rfl) (by decide) ?_
        exact lc_6 C0 hKx hKm hL hi5 hR hP hD hS hl kk
      · rw [q]
        refine lv_tableIn (tgt := 369) hx hb d_law_32 (by decide) (by decide) (by rfl) (by decide) ?_
        exact lc_7 C0 hKx hKm hL hi5 hR hP hD hS hl kk
      · rw [q]
        refine lv_tableIn (tgt := 392) hx hb d_law_32 (by decide) (by decide) (by rfl) (by decide) ?_
        exact lc_8 C0 hKx hKm hL hi5 hR hP hD hS hl kk
      · rw [q]
        refine lv_tableIn (tgt := 415) hx hb d_law_32 (by decide) (by decide) (by rfl) (by decide) ?_
        exact lc_9 C0 hKx hKm hL hi5 hR hP hD hS hl kk
      · rw [q]
        refine lv_tableIn (tgt := 438) hx hb d_law_32 (by decide) (by decide) (by rfl) (by decide) ?_
        exact lc_10 C0 hKx hKm hL hi5 hR hP hD hS hl kk
      · rw [q]
        refine lv_tableIn (tgt := 462) hx hb d_law_32 (by decide) (by decide) (by rfl) (by decide) ?_
        exact lc_11 C0 hKx hKm hL hi5 hR hP hD hS hl kk
      · rw [q]
        refine lv_tableIn (tgt := 475) hx hb d_law_32 (by decide) (by decide) (by rfl) (by decide) ?_
        exact lc_12 C0 hKx hKm hL hi5 hR hP hD hS hl kk
      · rw [q]
        refine lv_tableIn (tgt := 498) hx hb d_law_32 (by decide) (by decide) (by rfl) (by decide) ?_
        exact lc_13 C0 hKx hKm hL hi5 hR hP hD hS hl kk
      · rw [q]
        refine lv_tableIn (tgt := 521) hx hb d_law_32 (by decide) (by decide) (by rfl) (by decide) ?_
        exact lc_14 C0 hKx hKm hL hi5 hR hP hD hS hl kk
      · rw [q]
        refine lv_tableIn (tgt := 554) hx hb d_law_32 (by decide) (by decide) (by rfl) (by decide) ?_
        exact lc_15 C0 hKx hKm hL hi5 hR hP hD hS hl kk
