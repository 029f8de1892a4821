theorem wm_hm0 {x : Int32} {E : Nat} (hE : E ≤ 16) (h : ∃ i : Nat, i ≤ E ∧ x = nI i - (1 : Int32)) : (x + (1 : Int32)).toNatClampNeg < 17 := by
  obtain ⟨i, hi, rfl⟩ := h
  rw [wl_m1p1, nI_clamp (by omega)]; omega
theorem wm_lim {st : XS} {E : Nat} {lim : Int32} (hE : gI st 3 = nI E) (h16 : E ≤ 16) (c1 : (0 : Int32) ≤ lim) (c2 : lim ≤ gI st 3) : ∃ i : Nat, i ≤ E ∧ lim - (1 : Int32) = nI i - (1 : Int32) := by
  obtain ⟨j, hj, e⟩ := nI_of2 (x := lim) (M := nI E) (n := E) (nI_toInt (by omega)) (Int32.not_lt.mpr c1) (by rw [← hE]; exact c2)
  exact ⟨j, hj, by rw [e]⟩
theorem wm_coL {st : XS} {N : Nat} {w : Int32} {x : Int64} (hN : gI st 0 = nI N) (h64 : N ≤ 64) : ∀ n i : Nat, ∃ N2 : Nat, gI (fm_Mod_constantOf_L3 st w x n i).2 0 = nI N2 ∧ N2 ≤ 64 := by
  intro n
  induction n with
  | zero => intro i; exact ⟨N, hN, h64⟩
  | succ n ih =>
    intro i
    have ret : ∀ r : Int32, ∃ N2 : Nat, gI ((r, st) : Int32 × XS).2 0 = nI N2 ∧ N2 ≤ 64 := fun r => ⟨N, hN, h64⟩
    have new : ¬ gI st 0 = (64 : Int32) → ∀ (q : Int64) (p : Nat) (o y z u w : Int32), ∃ N2 : Nat, gI (fm_Mod_fresh (wL st 0 p q) o y z u w).2 0 = nI N2 ∧ N2 ≤ 64 := fun c q p o y z u w => ⟨N + 1, (congrArg (· + (1 : Int32)) hN).trans (nI_1 N), wm_n64 hN h64 c⟩
    rw [fm_Mod_constantOf_L3]
    by_cases c9 : gI st 0 ≤ nI i
    · rw [if_pos c9]
      by_cases c67 : gI st 0 = (64 : Int32)
      · rw [if_pos c67]; exact ret _
      · rw [if_neg c67]; exact new c67 _ _ _ _ _ _ _
    · rw [if_neg c9]
      exact wl_ite (P := fun (q : Int32 × XS) => ∃ N2 : Nat, gI q.2 0 = nI N2 ∧ N2 ≤ 64) (wl_ite (P := fun (q : Int32 × XS) => ∃ N2 : Nat, gI q.2 0 = nI N2 ∧ N2 ≤ 64) (wl_ite (P := fun (q : Int32 × XS) => ∃ N2 : Nat, gI q.2 0 = nI N2 ∧ N2 ≤ 64) (ret _) (ih _)) (ih _)) (ih _)
theorem wm_coN {st : XS} {N : Nat} (w : Int32) (x : Int64) (hN : gI st 0 = nI N) (h64 : N ≤ 64) : ∃ N2 : Nat, gI (fm_Mod_constantOf st w x).2 0 = nI N2 ∧ N2 ≤ 64 := by
  rw [fm_Mod_constantOf]; exact wm_coL hN h64 65 0
theorem wm_l2 {o : Int32} (h : ¬ o ≤ (1 : Int32)) : ¬ o < 2 := by
  intro q; apply h
  rw [Int32.lt_iff_toInt_lt] at q
  rw [Int32.le_iff_toInt_le]
  have e1 : (1 : Int32).toInt = 1 := by decide
  have e2 : (2 : Int32).toInt = 2 := by decide
  omega
theorem wm_l17 {o : Int32} (h : ¬ (17 : Int32) ≤ o) : ¬ (o = 17 ∨ o = 18 ∨ o = 19 ∨ o = 20) := by
  intro q; apply h
  rcases q with rfl | rfl | rfl | rfl <;> decide
theorem wm_l6 {o : Int32} (h : o < (6 : Int32)) : ¬ (o = 17 ∨ o = 18 ∨ o = 19 ∨ o = 20) := by
  rintro (rfl | rfl | rfl | rfl) <;> exact absurd h (by decide)
theorem wm_le16 {o : Int32} (h : o ≤ (16 : Int32)) : ¬ (o = 17 ∨ o = 18 ∨ o = 19 ∨ o = 20) := by
  rintro (rfl | rfl | rfl | rfl) <;> exact absurd h (by decide)
def mN (S : XS) : Prop := ∃ N2 : Nat, gI S 0 = nI N2 ∧ N2 ≤ 64
theorem wl_sn {P : XS → Prop} {r : Int32} {S : XS} (h : P S) : P ((r, S) : Int32 × XS).2 := h

theorem mw_812 : (.code yX10_flip cX10_flip 2 (some .int) : Cond) ∈ AW := List.mem_filter.mpr ⟨List.mem_of_getElem? (i := 812) (by decide +kernel), rfl⟩
theorem mw_817 : (.methodLink RX10 157 yX10_flip : Cond) ∈ AW := List.mem_filter.mpr ⟨List.mem_of_getElem? (i := 817) (by decide +kernel), rfl⟩
theorem mw_810 : (.instanceMethod yX10_flip : Cond) ∈ AW := List.mem_filter.mpr ⟨List.mem_of_getElem? (i := 810) (by decide +kernel), rfl⟩
theorem mw_811 : (.selects RX10 yX10_flip yX10_flip : Cond) ∈ AW := List.mem_filter.mpr ⟨List.mem_of_getElem? (i := 811) (by decide +kernel), rfl⟩
theorem gX10_157 : GoodIn AW (wsV RX10 157 RX10 yX10_flip wsX10_flip) := aw_V mw_817 mw_810 mw_811 mw_46 mw_812
theorem dX10_search_0 : decode cX10_search 0 = .ok (.iload_n 1, 1) := by decide +kernel
theorem dX10_search_1 : decode cX10_search 1 = .ok (.ifCond .ge 7, 3) := by decide +kernel
theorem dX10_search_4 : decode cX10_search 4 = .ok (.iconst 0, 1) := by decide +kernel
theorem dX10_search_5 : decode cX10_search 5 = .ok (.goto 19, 3) := by decide +kernel
theorem dX10_search_8 : decode cX10_search 8 = .ok (.iload_n 1, 1) := by decide +kernel
theorem dX10_search_9 : decode cX10_search 9 = .ok (.aload_n 0, 1) := by decide +kernel
theorem dX10_search_10 : decode cX10_search 10 = .ok (.getfield 19, 3) := by decide +kernel
theorem dX10_search_13 : decode cX10_search 13 = .ok (.if_icmp .le 10, 3) := by decide +kernel
theorem dX10_search_16 : decode cX10_search 16 = .ok (.aload_n 0, 1) := by decide +kernel
theorem dX10_search_17 : decode cX10_search 17 = .ok (.getfield 19, 3) := by decide +kernel
theorem dX10_search_20 : decode cX10_search 20 = .ok (.goto 4, 3) := by decide +kernel
theorem dX10_search_23 : decode cX10_search 23 = .ok (.iload_n 1, 1) := by decide +kernel
theorem dX10_search_24 : decode cX10_search 24 = .ok (.istore_n 2, 1) := by decide +kernel
theorem dX10_search_25 : decode cX10_search 25 = .ok (.iload_n 2, 1) := by decide +kernel
theorem dX10_search_26 : decode cX10_search 26 = .ok (.iconst 1, 1) := by decide +kernel
theorem dX10_search_27 : decode cX10_search 27 = .ok (.isub, 1) := by decide +kernel
theorem dX10_search_28 : decode cX10_search 28 = .ok (.istore_n 3, 1) := by decide +kernel
theorem dX10_search_29 : decode cX10_search 29 = .ok (.iload_n 3, 1) := by decide +kernel
theorem dX10_search_30 : decode cX10_search 30 = .ok (.ifCond .lt 20, 3) := by decide +kernel
theorem dX10_search_33 : decode cX10_search 33 = .ok (.aload_n 0, 1) := by decide +kernel
theorem dX10_search_34 : decode cX10_search 34 = .ok (.iload_n 3, 1) := by decide +kernel
theorem dX10_search_35 : decode cX10_search 35 = .ok (.invokevirtual 157, 3) := by decide +kernel
theorem dX10_search_38 : decode cX10_search 38 = .ok (.iconst 1, 1) := by decide +kernel
theorem dX10_search_39 : decode cX10_search 39 = .ok (.if_icmp .ne 5, 3) := by decide +kernel
theorem dX10_search_42 : decode cX10_search 42 = .ok (.iload_n 3, 1) := by decide +kernel
theorem dX10_search_43 : decode cX10_search 43 = .ok (.ireturn, 1) := by decide +kernel
theorem dX10_search_44 : decode cX10_search 44 = .ok (.iinc 3 (-1), 3) := by decide +kernel
theorem dX10_search_47 : decode cX10_search 47 = .ok (.goto (-18), 3) := by decide +kernel
theorem dX10_search_50 : decode cX10_search 50 = .ok (.iconst (-1), 1) := by decide +kernel
theorem dX10_search_51 : decode cX10_search 51 = .ok (.ireturn, 1) := by decide +kernel
def fm_Mod_search_L29 (st : XS) (lim : Int32) : Nat → Int32 → XS → Int32 × XS
  | 0, x, S1 => (0, S1)
  | n + 1, x, S1 => 
    if x < (0 : Int32) then ((-1 : Int32), S1)
    else 
      if ((fm_Mod_flip S1 (x)).1) = (1 : Int32) then (x, ((fm_Mod_flip S1 (x)).2))
      else fm_Mod_search_L29 st lim n ((x) + (-1 : Int32)) (((fm_Mod_flip S1 (x)).2))
def fm_Mod_search (st : XS) (lim : Int32) : Int32 × XS := 
  if (0 : Int32) ≤ lim then 
    if lim ≤ gI st 3 then fm_Mod_search_L29 st lim 17 (lim - (1 : Int32)) st
    else fm_Mod_search_L29 st lim 17 ((gI st 3) - (1 : Int32)) st
  else fm_Mod_search_L29 st lim 17 ((0 : Int32) - (1 : Int32)) st
theorem fr_Mod_search_L29 {S0 : XS} (st : XS) (lim : Int32) : ∀ (n : Nat) (x : Int32) (S1 : XS), XF [4, 5, 6] [7, 8] [1] S0 S1 → XF [4, 5, 6] [7, 8] [1] S0 (fm_Mod_search_L29 st lim n x S1).2 := by
  intro n
  induction n with
  | zero => intro x S1 h; exact h
  | succ n ih =>
    intro x S1 h
    rw [fm_Mod_search_L29]
    exact (wl_ite (P := fun (q : Int32 × XS) => XF [4, 5, 6] [7, 8] [1] _ (q.2)) (wl_snd h) (wl_ite (P := fun (q : Int32 × XS) => XF [4, 5, 6] [7, 8] [1] _ (q.2)) (wl_snd (XF.tr h (XF.mono (ff_Mod_flip _ _) (by decide) (by decide) (by decide)))) (ih _ _ (XF.tr h (XF.mono (ff_Mod_flip _ _) (by decide) (by decide) (by decide))))))
theorem ff_Mod_search (st : XS) (lim : Int32) : XF [4, 5, 6] [7, 8] [1] st (fm_Mod_search st lim).2 := by
  rw [fm_Mod_search]
  exact (wl_ite (P := fun (q : Int32 × XS) => XF [4, 5, 6] [7, 8] [1] _ (q.2)) (wl_ite (P := fun (q : Int32 × XS) => XF [4, 5, 6] [7, 8] [1] _ (q.2)) (fr_Mod_search_L29 _ _ _ _ _ XF.rf) (fr_Mod_search_L29 _ _ _ _ _ XF.rf)) (fr_Mod_search_L29 _ _ _ _ _ XF.rf))
set_option maxHeartbeats 4000000 in
set_option maxRecDepth 100000 in
theorem km_Mod_search (l : Launch) (dC : Nat → ClassId) (dI : Nat → Nat → Nat) (a : Nat → Nat) (k : Nat → ClassId) (st : XS) (lim : Int32) (sz : Nat) (N : Nat) (hN : gI st 0 = nI N) (h64 : N ≤ 64) (V : Nat) (hV : gI st 2 = nI V) (hV4 : V ≤ 4) (hT : MT st N) (Bt : Nat) (hBt : bsum (fA st 5) V = nI Bt) (hBt10 : Bt ≤ 10) (E : Nat) (hEl : gI st 3 = nI E) (hE16 : E ≤ 16) (hcd : ∀ j : Nat, j < E → vp_in (fA st 11 j) 64) : Met l yX10_search wsX10_search ({ frames := 7, cells := 0, slots := 0, locals := 169 }) (va_Pc [.ref (a 0), .int lim] (wl_pre (dC, dI) vwCl (mt k) (mw a k) st sz)) (va_Qi (fun r9 u9 => (r9, u9) = fm_Mod_search st lim) (wl_at (dC, dI) vwCl (mt k) (mw a k) (va_A (mw a k st) sz)) (va_A (mw a k st) sz)) 0 0 (va_A (mw a k st) sz) := by
  refine Met.ofW (cc := cX10_search) (maxL := 4) (ret := (some .int)) (by decide) rfl ?_
  intro p e s m args below meth c s₁ B hml hv
  obtain ⟨rfl, hsz, hP, hK, hD0⟩ := hv
  have hx := B.exec
  have hb := B.bytes
  have hr := B.returns
  have hta := aw_hts (atoms_spec (ws := wsX10_search) B.pre)
  have hown : s.vm.findClass RX10 = some m.cls := findClass_of_methodNamed B.named
  have hlocks := B.notSynchronized
  have hf19 := hta _ mw_636
  subst hsz
  have hD := hD0.self (sz := s.heap.size)
  generalize hAe : va_A (mw a k st) s.heap.size = A at hD ⊢
  have hAz : ∀ q : Nat, s.heap.size ≤ q → A q := fun q h => by rw [← hAe]; exact Or.inr h
  have hS : va_S A s.heap s.heap [] := va_S.rf
  have hl := lv_entry ([.ref (a 0), .int lim]) (n := 4) (Nat.le_of_ble_eq_true rfl)
  rw [lg_entry_eq]
  generalize (lg_sl ([.ref (a 0), .int lim]) ++ List.replicate (4 - (lg_sl ([.ref (a 0), .int lim])).length) Slot.unset).toArray = ls at hl ⊢
  have hl : lv_has ls 4 [(0, .ref (a 0)), (1, .int lim)] := hl
  generalize hR : fm_Mod_search st lim = R
  rw [fm_Mod_search] at hR
  refine lv_iload_n hx hb dX10_search_0 rfl (lv_at hl 1 rfl) ?_
  refine lv_if_ge (tgt := 8) hx hb dX10_search_1 (by decide) (fun c1 => ?_) (fun c1 => ?_)
  · skip
    rw [if_pos c1] at hR
    refine lv_iload_n hx hb dX10_search_8 rfl (lv_at hl 1 rfl) ?_
    refine lv_aload_n hx hb dX10_search_9 rfl (lv_at hl 0 rfl) ?_
    refine va_get (D := (dC, dI)) (ci := 8) (v := .int (gI st 3)) (C := RX10) (T := TX10) (N := 21) hx hb hta inX10 hown hK hP 0 (mr_0 a k st) rfl 3 (by decide) hf19 (fun _ h9 => h9) rfl dX10_search_10 ?_
    refine lv_icmp_le (tgt := 23) hx hb dX10_search_13 (by decide) (fun c13 => ?_) (fun c13 => ?_)
    · skip
      rw [if_pos c13] at hR
      have hx0 : ∃ i : Nat, i ≤ E ∧ lim - (1 : Int32) = nI i - (1 : Int32) := wm_lim hEl hE16 c1 c13
      refine lv_iload_n hx hb dX10_search_23 rfl (lv_at hl 1 rfl) ?_
      refine lv_istore_n (lv' := [(2, .int lim), (0, .ref (a 0)), (1, .int lim)]) hx hb dX10_search_24 rfl hl (by decide) rfl (fun ls hl => ?_)
      refine lv_iload_n hx hb dX10_search_25 rfl (lv_at hl 0 rfl) ?_
      refine lv_iconst (v := (1 : Int32)) hx hb dX10_search_26 (by decide) ?_
      refine lv_isub hx hb dX10_search_27 ?_
      refine lv_istore_n (lv' := [(3, .int (lim - (1 : Int32))), (2, .int lim), (0, .ref (a 0)), (1, .int lim)]) hx hb dX10_search_28 rfl hl (by decide) rfl (fun ls hl => ?_)
      have L29 : ∀ (n : Nat) (x : Int32) (S1 : XS) (H : Heap) (locs : List Loc) (ls : Array Slot), fm_Mod_search_L29 st lim n x S1 = R → (∃ i : Nat, i ≤ E ∧ x = nI i - (1 : Int32)) → (XF [4, 5, 6] [7, 8] [1] st S1) → (x + (1 : Int32)).toNatClampNeg < n → va_P (dC, dI) vwCl (mw a k S1) H → va_D A (mw a k S1) → va_S A s.heap H locs → lv_has ls 4 [(3, .int x), (0, .ref (a 0))] → W p l e (headSpec wsX10_search ({ frames := 7, cells := 0, slots := 0, locals := 169 })).room s m ([.ref (a 0), .int lim] : List Value).toArray below meth c H locs 0 0 (MQ below (va_Qi (fun r9 u9 => (r9, u9) = R) (wl_at (dC, dI) vwCl (mt k) (mw a k) A) A) ([.ref (a 0), .int lim] : List Value).toArray s 0 0 A) (F0 m 29 ls []) := by
        intro n
        induction n with
        | zero =>
          intro x S1 H locs ls hR hxi hF hm hP hD hS hl
          exact absurd hm (Nat.not_lt_zero _)
        | succ n ih =>
          intro x S1 H locs ls hR hxi hF hm hP hD hS hl
          rw [fm_Mod_search_L29] at hR
          refine lv_iload_n hx hb dX10_search_29 rfl (lv_at hl 0 rfl) ?_
          refine lv_if_lt (tgt := 50) hx hb dX10_search_30 (by decide) (fun c30 => ?_) (fun c30 => ?_)
          · skip
            rw [if_pos c30] at hR
            refine lv_iconst (v := (-1 : Int32)) hx hb dX10_search_50 (by decide) ?_
            exact W.iret (v := (-1 : Int32)) hx hb hr (fun t ht hW => ⟨⟨_, _, rfl, hR, by rw [ht]; exact hP, va_K.moved hW.alike hK, hD⟩, hS.F ht⟩) hS.2.2 dX10_search_51
          · skip
            rw [if_neg c30] at hR
            obtain ⟨t, ht, rfl⟩ := wl_desc (by omega) hxi c30
            refine lv_aload_n hx hb dX10_search_33 rfl (lv_at hl 1 rfl) ?_
            refine lv_iload_n hx hb dX10_search_34 rfl (lv_at hl 0 rfl) ?_
            refine wl_mi (va_runV (As := [.int ((nI t))]) (rest := []) ⟨hx, hb, hml, hown, hta⟩ (km_Mod_flip l dC dI a k S1 ((nI t)) _ N ((hF.I 0 (by decide)).trans hN) h64 V ((hF.I 2 (by decide)).trans hV) hV4 (hT.fr hF (by decide)) Bt (by rw [hF.A 5 (by decide)]; exact hBt) hBt10 E ((hF.I 3 (by decide)).trans hEl) hE16 (fun j hj => by rw [hF.A 11 (by decide)]; exact hcd j hj)) (cwV 1 hta gX10_157 rfl rfl rfl (by decide +kernel) ⟨Nat.le_of_ble_eq_true rfl, Nat.le_of_ble_eq_true rfl⟩) (wl_pM (C := RX10) (ci := 8) (q0 := 0) hK hP hD rfl (mr_0 a k S1)) rfl rfl hl.1 rfl (lv_room (Nat.le_of_ble_eq_true rfl)) dX10_search_35 ⟨Nat.zero_le _, Nat.zero_le _⟩) hP hD hS hAz (fun r35 u35 H locs hw35 hP hD hS => ?_)
            have v35 : (fm_Mod_flip S1 ((nI t))).1 = r35 := congrArg Prod.fst hw35.symm
            have w35 : (fm_Mod_flip S1 ((nI t))).2 = u35 := congrArg Prod.snd hw35.symm
            have hf35 : XF [4, 5, 6] [7, 8] [1] S1 u35 := by rw [← w35]; exact ff_Mod_flip S1 ((nI t))
            try rw [v35] at hR
            try rw [w35] at hR
            refine lv_iconst (v := (1 : Int32)) hx hb dX10_search_38 (by decide) ?_
            refine lv_icmp_ne (tgt := 44) hx hb dX10_search_39 (by decide) (fun c39 => ?_) (fun c39 => ?_)
            · skip
              rw [if_neg c39] at hR
              refine lv_iinc (v := ((nI t)) + (-1 : Int32)) (lv' := [(3, .int (((nI t)) + (-1 : Int32))), (0, .ref (a 0))]) hx hb dX10_search_44 hl (k := 0) rfl rfl (by decide) rfl (fun ls hl => ?_)
              refine lv_goto (tgt := 29) hx hb dX10_search_47 (by decide) ?_
              exact ih (((nI t)) + (-1 : Int32)) (u35) _ _ ls hR ⟨t, by omega, wl_m1 t⟩ (XF.tr hF hf35) (by rw [wl_mA (by omega)]; rw [wl_mB (by omega)] at hm; omega) hP hD hS (lv_sub hl [0, 1] rfl)
            · skip
              rw [if_pos c39] at hR
              refine lv_iload_n hx hb dX10_search_42 rfl (lv_at hl 0 rfl) ?_
              exact W.iret (v := (nI t)) hx hb hr (fun t ht hW => ⟨⟨_, _, rfl, hR, by rw [ht]; exact hP, va_K.moved hW.alike hK, hD⟩, hS.F ht⟩) hS.2.2 dX10_search_43
      exact L29 17 (lim - (1 : Int32)) st _ _ ls hR hx0 XF.rf (wm_hm0 hE16 hx0) hP hD hS (lv_sub hl [0, 2] rfl)
    · skip
      rw [if_neg c13] at hR
      have hx0 : ∃ i : Nat, i ≤ E ∧ gI st 3 - (1 : Int32) = nI i - (1 : Int32) := ⟨E, Nat.le_refl _, by rw [hEl]⟩
      refine lv_aload_n hx hb dX10_search_16 rfl (lv_at hl 0 rfl) ?_
      refine va_get (D := (dC, dI)) (ci := 8) (v := .int (gI st 3)) (C := RX10) (T := TX10) (N := 21) hx hb hta inX10 hown hK hP 0 (mr_0 a k st) rfl 3 (by decide) hf19 (fun _ h9 => h9) rfl dX10_search_17 ?_
      refine lv_goto (tgt := 24) hx hb dX10_search_20 (by decide) ?_
      refine lv_istore_n (lv' := [(2, .int (gI st 3)), (0, .ref (a 0)), (1, .int lim)]) hx hb dX10_search_24 rfl hl (by decide) rfl (fun ls hl => ?_)
      refine lv_iload_n hx hb dX10_search_25 rfl (lv_at hl 0 rfl) ?_
      refine lv_iconst (v := (1 : Int32)) hx hb dX10_search_26 (by decide) ?_
      refine lv_isub hx hb dX10_search_27 ?_
      refine lv_istore_n (lv' := [(3, .int ((gI st 3) - (1 : Int32))), (2, .int (gI st 3)), (0, .ref (a 0)), (1, .int lim)]) hx hb dX10_search_28 rfl hl (by decide) rfl (fun ls hl => ?_)
      have L29 : ∀ (n : Nat) (x : Int32) (S1 : XS) (H : Heap) (locs : List Loc) (ls : Array Slot), fm_Mod_search_L29 st lim n x S1 = R → (∃ i : Nat, i ≤ E ∧ x = nI i - (1 : Int32)) → (XF [4, 5, 6] [7, 8] [1] st S1) → (x + (1 : Int32)).toNatClampNeg < n → va_P (dC, dI) vwCl (mw a k S1) H → va_D A (mw a k S1) → va_S A s.heap H locs → lv_has ls 4 [(3, .int x), (0, .ref (a 0))] → W p l e (headSpec wsX10_search ({ frames := 7, cells := 0, slots := 0, locals := 169 })).room s m ([.ref (a 0), .int lim] : List Value).toArray below meth c H locs 0 0 (MQ below (va_Qi (fun r9 u9 => (r9, u9) = R) (wl_at (dC, dI) vwCl (mt k) (mw a k) A) A) ([.ref (a 0), .int lim] : List Value).toArray s 0 0 A) (F0 m 29 ls []) := by
        intro n
        induction n with
        | zero =>
          intro x S1 H locs ls hR hxi hF hm hP hD hS hl
          exact absurd hm (Nat.not_lt_zero _)
        | succ n ih =>
          intro x S1 H locs ls hR hxi hF hm hP hD hS hl
          rw [fm_Mod_search_L29] at hR
          refine lv_iload_n hx hb dX10_search_29 rfl (lv_at hl 0 rfl) ?_
          refine lv_if_lt (tgt := 50) hx hb dX10_search_30 (by decide) (fun c30 => ?_) (fun c30 => ?_)
          · skip
            rw [if_pos c30] at hR
            refine lv_iconst (v := (-1 : Int32)) hx hb dX10_search_50 (by decide) ?_
            exact W.iret (v := (-1 : Int32)) hx hb hr (fun t ht hW => ⟨⟨_, _, rfl, hR, by rw [ht]; exact hP, va_K.moved hW.alike hK, hD⟩, hS.F ht⟩) hS.2.2 dX10_search_51
          · skip
            rw [if_neg c30] at hR
            obtain ⟨t, ht, rfl⟩ := wl_desc (by omega) hxi c30
            refine lv_aload_n hx hb dX10_search_33 rfl (lv_at hl 1 rfl) ?_
            refine lv_iload_n hx hb dX10_search_34 rfl (lv_at hl 0 rfl) ?_
            refine wl_mi (va_runV (As := [.int ((nI t))]) (rest := []) ⟨hx, hb, hml, hown, hta⟩ (km_Mod_flip l dC dI a k S1 ((nI t)) _ N ((hF.I 0 (by decide)).trans hN) h64 V ((hF.I 2 (by decide)).trans hV) hV4 (hT.fr hF (by decide)) Bt (by rw [hF.A 5 (by decide)]; exact hBt) hBt10 E ((hF.I 3 (by decide)).trans hEl) hE16 (fun j hj => by rw [hF.A 11 (by decide)]; exact hcd j hj)) (cwV 1 hta gX10_157 rfl rfl rfl (by decide +kernel) ⟨Nat.le_of_ble_eq_true rfl, Nat.le_of_ble_eq_true rfl⟩) (wl_pM (C := RX10) (ci := 8) (q0 := 0) hK hP hD rfl (mr_0 a k S1)) rfl rfl hl.1 rfl (lv_room (Nat.le_of_ble_eq_true rfl)) dX10_search_35 ⟨Nat.zero_le _, Nat.zero_le _⟩) hP hD hS hAz (fun r35 u35 H locs hw35 hP hD hS => ?_)
            have v35 : (fm_Mod_flip S1 ((nI t))).1 = r35 := congrArg Prod.fst hw35.symm
            have w35 : (fm_Mod_flip S1 ((nI t))).2 = u35 := congrArg Prod.snd hw35.symm
            have hf35 : XF [4, 5, 6] [7, 8] [1] S1 u35 := by rw [← w35]; exact ff_Mod_flip S1 ((nI t))
            try rw [v35] at hR
            try rw [w35] at hR
            refine lv_iconst (v := (1 : Int32)) hx hb dX10_search_38 (by decide) ?_
            refine lv_icmp_ne (tgt := 44) hx hb dX10_search_39 (by decide) (fun c39 => ?_) (fun c39 => ?_)
            · skip
              rw [if_neg c39] at hR
              refine lv_iinc (v := ((nI t)) + (-1 : Int32)) (lv' := [(3, .int (((nI t)) + (-1 : Int32))), (0, .ref (a 0))]) hx hb dX10_search_44 hl (k := 0) rfl rfl (by decide) rfl (fun ls hl => ?_)
              refine lv_goto (tgt := 29) hx hb dX10_search_47 (by decide) ?_
              exact ih (((nI t)) + (-1 : Int32)) (u35) _ _ ls hR ⟨t, by omega, wl_m1 t⟩ (XF.tr hF hf35) (by rw [wl_mA (by omega)]; rw [wl_mB (by omega)] at hm; omega) hP hD hS (lv_sub hl [0, 1] rfl)
            · skip
              rw [if_pos c39] at hR
              refine lv_iload_n hx hb dX10_search_42 rfl (lv_at hl 0 rfl) ?_
              exact W.iret (v := (nI t)) hx hb hr (fun t ht hW => ⟨⟨_, _, rfl, hR, by rw [ht]; exact hP, va_K.moved hW.alike hK, hD⟩, hS.F ht⟩) hS.2.2 dX10_search_43
      exact L29 17 ((gI st 3) - (1 : Int32)) st _ _ ls hR hx0 XF.rf (wm_hm0 hE16 hx0) hP hD hS (lv_sub hl [0, 2] rfl)
  · skip
    rw [if_neg c1] at hR
    have hx0 : ∃ i : Nat, i ≤ E ∧ (0 : Int32) - (1 : Int32) = nI i - (1 : Int32) := ⟨0, Nat.zero_le _, rfl⟩
    refine lv_iconst (v := (0 : Int32)) hx hb dX10_search_4 (by decide) ?_
    refine lv_goto (tgt := 24) hx hb dX10_search_5 (by decide) ?_
    refine lv_istore_n (lv' := [(2, .int (0 : Int32)), (0, .ref (a 0)), (1, .int lim)]) hx hb dX10_search_24 rfl hl (by decide) rfl (fun ls hl => ?_)
    refine lv_iload_n hx hb dX10_search_25 rfl (lv_at hl 0 rfl) ?_
    refine lv_iconst (v := (1 : Int32)) hx hb dX10_search_26 (by decide) ?_
    refine lv_isub hx hb dX10_search_27 ?_
    refine lv_istore_n (lv' := [(3, .int ((0 : Int32) - (1 : Int32))), (2, .int (0 : Int32)), (0, .ref (a 0)), (1, .int lim)]) hx hb dX10_search_28 rfl hl (by decide) rfl (fun ls hl => ?_)
    have L29 : ∀ (n : Nat) (x : Int32) (S1 : XS) (H : Heap) (locs : List Loc) (ls : Array Slot), fm_Mod_search_L29 st lim n x S1 = R → (∃ i : Nat, i ≤ E ∧ x = nI i - (1 : Int32)) → (XF [4, 5, 6] [7, 8] [1] st S1) → (x + (1 : Int32)).toNatClampNeg < n → va_P (dC, dI) vwCl (mw a k S1) H → va_D A (mw a k S1) → va_S A s.heap H locs → lv_has ls 4 [(3, .int x), (0, .ref (a 0))] → W p l e (headSpec wsX10_search ({ frames := 7, cells := 0, slots := 0, locals := 169 })).room s m ([.ref (a 0), .int lim] : List Value).toArray below meth c H locs 0 0 (MQ below (va_Qi (fun r9 u9 => (r9, u9) = R) (wl_at (dC, dI) vwCl (mt k) (mw a k) A) A) ([.ref (a 0), .int lim] : List Value).toArray s 0 0 A) (F0 m 29 ls []) := by
      intro n
      induction n with
      | zero =>
        intro x S1 H locs ls hR hxi hF hm hP hD hS hl
        exact absurd hm (Nat.not_lt_zero _)
      | succ n ih =>
        intro x S1 H locs ls hR hxi hF hm hP hD hS hl
        rw [fm_Mod_search_L29] at hR
        refine lv_iload_n hx hb dX10_search_29 rfl (lv_at hl 0 rfl) ?_
        refine lv_if_lt (tgt := 50) hx hb dX10_search_30 (by decide) (fun c30 => ?_) (fun c30 => ?_)
        · skip
          rw [if_pos c30] at hR
          refine lv_iconst (v := (-1 : Int32)) hx hb dX10_search_50 (by decide) ?_
          exact W.iret (v := (-1 : Int32)) hx hb hr (fun t ht hW => ⟨⟨_, _, rfl, hR, by rw [ht]; exact hP, va_K.moved hW.alike hK, hD⟩, hS.F ht⟩) hS.2.2 dX10_search_51
        · skip
          rw [if_neg c30] at hR
          obtain ⟨t, ht, rfl⟩ := wl_desc (by omega) hxi c30
          refine lv_aload_n hx hb dX10_search_33 rfl (lv_at hl 1 rfl) ?_
          refine lv_iload_n hx hb dX10_search_34 rfl (lv_at hl 0 rfl) ?_
          refine wl_mi (va_runV (As := [.int ((nI t))]) (rest := []) ⟨hx, hb, hml, hown, hta⟩ (km_Mod_flip l dC dI a k S1 ((nI t)) _ N ((hF.I 0 (by decide)).trans hN) h64 V ((hF.I 2 (by decide)).trans hV) hV4 (hT.fr hF (by decide)) Bt (by rw [hF.A 5 (by decide)]; exact hBt) hBt10 E ((hF.I 3 (by decide)).trans hEl) hE16 (fun j hj => by rw [hF.A 11 (by decide)]; exact hcd j hj)) (cwV 1 hta gX10_157 rfl rfl rfl (by decide +kernel) ⟨Nat.le_of_ble_eq_true rfl, Nat.le_of_ble_eq_true rfl⟩) (wl_pM (C := RX10) (ci := 8) (q0 := 0) hK hP hD rfl (mr_0 a k S1)) rfl rfl hl.1 rfl (lv_room (Nat.le_of_ble_eq_true rfl)) dX10_search_35 ⟨Nat.zero_le _, Nat.zero_le _⟩) hP hD hS hAz (fun r35 u35 H locs hw35 hP hD hS => ?_)
          have v35 : (fm_Mod_flip S1 ((nI t))).1 = r35 := congrArg Prod.fst hw35.symm
          have w35 : (fm_Mod_flip S1 ((nI t))).2 = u35 := congrArg Prod.snd hw35.symm
          have hf35 : XF [4, 5, 6] [7, 8] [1] S1 u35 := by rw [← w35]; exact ff_Mod_flip S1 ((nI t))
          try rw [v35] at hR
          try rw [w35] at hR
          refine lv_iconst (v := (1 : Int32)) hx hb dX10_search_38 (by decide) ?_
          refine lv_icmp_ne (tgt := 44) hx hb dX10_search_39 (by decide) (fun c39 => ?_) (fun c39 => ?_)
          · skip
            rw [if_neg c39] at hR
            refine lv_iinc (v := ((nI t)) + (-1 : Int32)) (lv' := [(3, .int (((nI t)) + (-1 : Int32))), (0, .ref (a 0))]) hx hb dX10_search_44 hl (k := 0) rfl rfl (by decide) rfl (fun ls hl => ?_)
            refine lv_goto (tgt := 29) hx hb dX10_search_47 (by decide) ?_
            exact ih (((nI t)) + (-1 : Int32)) (u35) _ _ ls hR ⟨t, by omega, wl_m1 t⟩ (XF.tr hF hf35) (by rw [wl_mA (by omega)]; rw [wl_mB (by omega)] at hm; omega) hP hD hS (lv_sub hl [0, 1] rfl)
          · skip
            rw [if_pos c39] at hR
            refine lv_iload_n hx hb dX10_search_42 rfl (lv_at hl 0 rfl) ?_
            exact W.iret (v := (nI t)) hx hb hr (fun t ht hW => ⟨⟨_, _, rfl, hR, by rw [ht]; exact hP, va_K.moved hW.alike hK, hD⟩, hS.F ht⟩) hS.2.2 dX10_search_43
    exact L29 17 ((0 : Int32) - (1 : Int32)) st _ _ ls hR hx0 XF.rf (wm_hm0 hE16 hx0) hP hD hS (lv_sub hl [0, 2] rfl)

theorem mw_780 : (.code yX10_isZero cX10_isZero 2 (some .boolean) : Cond) ∈ AW := List.mem_filter.mpr ⟨List.mem_of_getElem? (i := 780) (by decide +kernel), rfl⟩
theorem mw_777 : (.methodLink RX10 136 yX10_isZero : Cond) ∈ AW := List.mem_filter.mpr ⟨List.mem_of_getElem? (i := 777) (by decide +kernel), rfl⟩
theorem mw_779 : (.instanceMethod yX10_isZero : Cond) ∈ AW := List.mem_filter.mpr ⟨List.mem_of_getElem? (i := 779) (by decide +kernel), rfl⟩
theorem mw_31 : (.selects RX10 yX10_isZero yX10_isZero : Cond) ∈ AW := List.mem_filter.mpr ⟨List.mem_of_getElem? (i := 31) (by decide +kernel), rfl⟩
theorem mw_740 : (.code yX10_isConst cX10_isConst 2 (some .boolean) : Cond) ∈ AW := List.mem_filter.mpr ⟨List.mem_of_getElem? (i := 740) (by decide +kernel), rfl⟩
theorem mw_737 : (.methodLink RX10 121 yX10_isConst : Cond) ∈ AW := List.mem_filter.mpr ⟨List.mem_of_getElem? (i := 737) (by decide +kernel), rfl⟩
theorem mw_739 : (.instanceMethod yX10_isConst : Cond) ∈ AW := List.mem_filter.mpr ⟨List.mem_of_getElem? (i := 739) (by decide +kernel), rfl⟩
theorem mw_22 : (.selects RX10 yX10_isConst yX10_isConst : Cond) ∈ AW := List.mem_filter.mpr ⟨List.mem_of_getElem? (i := 22) (by decide +kernel), rfl⟩
theorem gX10_136 : GoodIn AW (wsV RX10 136 RX10 yX10_isZero wsX10_isZero) := aw_V mw_777 mw_779 mw_31 mw_46 mw_780
theorem gX10_121 : GoodIn AW (wsV RX10 121 RX10 yX10_isConst wsX10_isConst) := aw_V mw_737 mw_739 mw_22 mw_46 mw_740
theorem dX10_shorter_0 : decode cX10_shorter 0 = .ok (.aload_n 0, 1) := by decide +kernel
theorem dX10_shorter_1 : decode cX10_shorter 1 = .ok (.getfield 44, 3) := by decide +kernel
theorem dX10_shorter_4 : decode cX10_shorter 4 = .ok (.iload_n 2, 1) := by decide +kernel
theorem dX10_shorter_5 : decode cX10_shorter 5 = .ok (.iaload, 1) := by decide +kernel
theorem dX10_shorter_6 : decode cX10_shorter 6 = .ok (.istore 5, 2) := by decide +kernel
theorem dX10_shorter_8 : decode cX10_shorter 8 = .ok (.iload_n 1, 1) := by decide +kernel
theorem dX10_shorter_9 : decode cX10_shorter 9 = .ok (.bipush 16, 2) := by decide +kernel
theorem dX10_shorter_11 : decode cX10_shorter 11 = .ok (.if_icmp .ne 44, 3) := by decide +kernel
theorem dX10_shorter_14 : decode cX10_shorter 14 = .ok (.iload_n 3, 1) := by decide +kernel
theorem dX10_shorter_15 : decode cX10_shorter 15 = .ok (.iload 4, 2) := by decide +kernel
theorem dX10_shorter_17 : decode cX10_shorter 17 = .ok (.if_icmp .ne 7, 3) := by decide +kernel
theorem dX10_shorter_20 : decode cX10_shorter 20 = .ok (.iload_n 3, 1) := by decide +kernel
theorem dX10_shorter_21 : decode cX10_shorter 21 = .ok (.goto 33, 3) := by decide +kernel
theorem dX10_shorter_24 : decode cX10_shorter 24 = .ok (.aload_n 0, 1) := by decide +kernel
theorem dX10_shorter_25 : decode cX10_shorter 25 = .ok (.iload_n 2, 1) := by decide +kernel
theorem dX10_shorter_26 : decode cX10_shorter 26 = .ok (.invokevirtual 121, 3) := by decide +kernel
theorem dX10_shorter_29 : decode cX10_shorter 29 = .ok (.ifCond .eq 23, 3) := by decide +kernel
theorem dX10_shorter_32 : decode cX10_shorter 32 = .ok (.aload_n 0, 1) := by decide +kernel
theorem dX10_shorter_33 : decode cX10_shorter 33 = .ok (.getfield 47, 3) := by decide +kernel
theorem dX10_shorter_36 : decode cX10_shorter 36 = .ok (.iload_n 2, 1) := by decide +kernel
theorem dX10_shorter_37 : decode cX10_shorter 37 = .ok (.laload, 1) := by decide +kernel
theorem dX10_shorter_38 : decode cX10_shorter 38 = .ok (.lconst 1, 1) := by decide +kernel
theorem dX10_shorter_39 : decode cX10_shorter 39 = .ok (.lcmp, 1) := by decide +kernel
theorem dX10_shorter_40 : decode cX10_shorter 40 = .ok (.ifCond .ne 7, 3) := by decide +kernel
theorem dX10_shorter_43 : decode cX10_shorter 43 = .ok (.iload_n 3, 1) := by decide +kernel
theorem dX10_shorter_44 : decode cX10_shorter 44 = .ok (.goto 10, 3) := by decide +kernel
theorem dX10_shorter_47 : decode cX10_shorter 47 = .ok (.iload 4, 2) := by decide +kernel
theorem dX10_shorter_49 : decode cX10_shorter 49 = .ok (.goto 5, 3) := by decide +kernel
theorem dX10_shorter_52 : decode cX10_shorter 52 = .ok (.bipush (-9), 2) := by decide +kernel
theorem dX10_shorter_54 : decode cX10_shorter 54 = .ok (.ireturn, 1) := by decide +kernel
theorem dX10_shorter_55 : decode cX10_shorter 55 = .ok (.iload_n 1, 1) := by decide +kernel
theorem dX10_shorter_56 : decode cX10_shorter 56 = .ok (.iconst 2, 1) := by decide +kernel
theorem dX10_shorter_57 : decode cX10_shorter 57 = .ok (.if_icmp .ge 25, 3) := by decide +kernel
theorem dX10_shorter_60 : decode cX10_shorter 60 = .ok (.aload_n 0, 1) := by decide +kernel
theorem dX10_shorter_61 : decode cX10_shorter 61 = .ok (.getfield 31, 3) := by decide +kernel
theorem dX10_shorter_64 : decode cX10_shorter 64 = .ok (.iload_n 2, 1) := by decide +kernel
theorem dX10_shorter_65 : decode cX10_shorter 65 = .ok (.iaload, 1) := by decide +kernel
theorem dX10_shorter_66 : decode cX10_shorter 66 = .ok (.iload_n 1, 1) := by decide +kernel
theorem dX10_shorter_67 : decode cX10_shorter 67 = .ok (.if_icmp .ne 12, 3) := by decide +kernel
theorem dX10_shorter_70 : decode cX10_shorter 70 = .ok (.aload_n 0, 1) := by decide +kernel
theorem dX10_shorter_71 : decode cX10_shorter 71 = .ok (.getfield 35, 3) := by decide +kernel
theorem dX10_shorter_74 : decode cX10_shorter 74 = .ok (.iload_n 2, 1) := by decide +kernel
theorem dX10_shorter_75 : decode cX10_shorter 75 = .ok (.iaload, 1) := by decide +kernel
theorem dX10_shorter_76 : decode cX10_shorter 76 = .ok (.goto 5, 3) := by decide +kernel
theorem dX10_shorter_79 : decode cX10_shorter 79 = .ok (.bipush (-9), 2) := by decide +kernel
theorem dX10_shorter_81 : decode cX10_shorter 81 = .ok (.ireturn, 1) := by decide +kernel
theorem dX10_shorter_82 : decode cX10_shorter 82 = .ok (.iload_n 1, 1) := by decide +kernel
theorem dX10_shorter_83 : decode cX10_shorter 83 = .ok (.bipush 16, 2) := by decide +kernel
theorem dX10_shorter_85 : decode cX10_shorter 85 = .ok (.if_icmp .le 6, 3) := by decide +kernel
theorem dX10_shorter_88 : decode cX10_shorter 88 = .ok (.bipush (-9), 2) := by decide +kernel
theorem dX10_shorter_90 : decode cX10_shorter 90 = .ok (.ireturn, 1) := by decide +kernel
theorem dX10_shorter_91 : decode cX10_shorter 91 = .ok (.iload_n 2, 1) := by decide +kernel
theorem dX10_shorter_92 : decode cX10_shorter 92 = .ok (.iload_n 3, 1) := by decide +kernel
theorem dX10_shorter_93 : decode cX10_shorter 93 = .ok (.if_icmp .ne 52, 3) := by decide +kernel
theorem dX10_shorter_96 : decode cX10_shorter 96 = .ok (.iload_n 1, 1) := by decide +kernel
theorem dX10_shorter_97 : decode cX10_shorter 97 = .ok (.iconst 4, 1) := by decide +kernel
theorem dX10_shorter_98 : decode cX10_shorter 98 = .ok (.if_icmp .ge 5, 3) := by decide +kernel
theorem dX10_shorter_101 : decode cX10_shorter 101 = .ok (.iload_n 2, 1) := by decide +kernel
theorem dX10_shorter_102 : decode cX10_shorter 102 = .ok (.ireturn, 1) := by decide +kernel
theorem dX10_shorter_103 : decode cX10_shorter 103 = .ok (.iload_n 1, 1) := by decide +kernel
theorem dX10_shorter_104 : decode cX10_shorter 104 = .ok (.iconst 4, 1) := by decide +kernel
theorem dX10_shorter_105 : decode cX10_shorter 105 = .ok (.if_icmp .eq 9, 3) := by decide +kernel
theorem dX10_shorter_108 : decode cX10_shorter 108 = .ok (.iload_n 1, 1) := by decide +kernel
theorem dX10_shorter_109 : decode cX10_shorter 109 = .ok (.bipush 6, 2) := by decide +kernel
theorem dX10_shorter_111 : decode cX10_shorter 111 = .ok (.if_icmp .ne 11, 3) := by decide +kernel
theorem dX10_shorter_114 : decode cX10_shorter 114 = .ok (.aload_n 0, 1) := by decide +kernel
theorem dX10_shorter_115 : decode cX10_shorter 115 = .ok (.iload 5, 2) := by decide +kernel
theorem dX10_shorter_117 : decode cX10_shorter 117 = .ok (.lconst 0, 1) := by decide +kernel
theorem dX10_shorter_118 : decode cX10_shorter 118 = .ok (.invokevirtual 84, 3) := by decide +kernel
theorem dX10_shorter_121 : decode cX10_shorter 121 = .ok (.ireturn, 1) := by decide +kernel
theorem dX10_shorter_122 : decode cX10_shorter 122 = .ok (.iload_n 1, 1) := by decide +kernel
theorem dX10_shorter_123 : decode cX10_shorter 123 = .ok (.bipush 12, 2) := by decide +kernel
theorem dX10_shorter_125 : decode cX10_shorter 125 = .ok (.if_icmp .le 20, 3) := by decide +kernel
theorem dX10_shorter_128 : decode cX10_shorter 128 = .ok (.aload_n 0, 1) := by decide +kernel
theorem dX10_shorter_129 : decode cX10_shorter 129 = .ok (.iconst 1, 1) := by decide +kernel
theorem dX10_shorter_130 : decode cX10_shorter 130 = .ok (.iload_n 1, 1) := by decide +kernel
theorem dX10_shorter_131 : decode cX10_shorter 131 = .ok (.bipush 13, 2) := by decide +kernel
theorem dX10_shorter_133 : decode cX10_shorter 133 = .ok (.if_icmp .ne 7, 3) := by decide +kernel
theorem dX10_shorter_136 : decode cX10_shorter 136 = .ok (.lconst 1, 1) := by decide +kernel
theorem dX10_shorter_137 : decode cX10_shorter 137 = .ok (.goto 4, 3) := by decide +kernel
theorem dX10_shorter_140 : decode cX10_shorter 140 = .ok (.lconst 0, 1) := by decide +kernel
theorem dX10_shorter_141 : decode cX10_shorter 141 = .ok (.invokevirtual 84, 3) := by decide +kernel
theorem dX10_shorter_144 : decode cX10_shorter 144 = .ok (.ireturn, 1) := by decide +kernel
theorem dX10_shorter_145 : decode cX10_shorter 145 = .ok (.iload_n 1, 1) := by decide +kernel
theorem dX10_shorter_146 : decode cX10_shorter 146 = .ok (.iconst 2, 1) := by decide +kernel
theorem dX10_shorter_147 : decode cX10_shorter 147 = .ok (.if_icmp .le 19, 3) := by decide +kernel
theorem dX10_shorter_150 : decode cX10_shorter 150 = .ok (.iload_n 1, 1) := by decide +kernel
theorem dX10_shorter_151 : decode cX10_shorter 151 = .ok (.bipush 6, 2) := by decide +kernel
theorem dX10_shorter_153 : decode cX10_shorter 153 = .ok (.if_icmp .ge 13, 3) := by decide +kernel
theorem dX10_shorter_156 : decode cX10_shorter 156 = .ok (.aload_n 0, 1) := by decide +kernel
theorem dX10_shorter_157 : decode cX10_shorter 157 = .ok (.iload_n 2, 1) := by decide +kernel
theorem dX10_shorter_158 : decode cX10_shorter 158 = .ok (.invokevirtual 136, 3) := by decide +kernel
theorem dX10_shorter_161 : decode cX10_shorter 161 = .ok (.ifCond .eq 5, 3) := by decide +kernel
theorem dX10_shorter_164 : decode cX10_shorter 164 = .ok (.iload_n 3, 1) := by decide +kernel
theorem dX10_shorter_165 : decode cX10_shorter 165 = .ok (.ireturn, 1) := by decide +kernel
theorem dX10_shorter_166 : decode cX10_shorter 166 = .ok (.iload_n 1, 1) := by decide +kernel
theorem dX10_shorter_167 : decode cX10_shorter 167 = .ok (.iconst 2, 1) := by decide +kernel
theorem dX10_shorter_168 : decode cX10_shorter 168 = .ok (.if_icmp .le 19, 3) := by decide +kernel
theorem dX10_shorter_171 : decode cX10_shorter 171 = .ok (.iload_n 1, 1) := by decide +kernel
theorem dX10_shorter_172 : decode cX10_shorter 172 = .ok (.bipush 6, 2) := by decide +kernel
theorem dX10_shorter_174 : decode cX10_shorter 174 = .ok (.if_icmp .ge 13, 3) := by decide +kernel
theorem dX10_shorter_177 : decode cX10_shorter 177 = .ok (.aload_n 0, 1) := by decide +kernel
theorem dX10_shorter_178 : decode cX10_shorter 178 = .ok (.iload_n 3, 1) := by decide +kernel
theorem dX10_shorter_179 : decode cX10_shorter 179 = .ok (.invokevirtual 136, 3) := by decide +kernel
theorem dX10_shorter_182 : decode cX10_shorter 182 = .ok (.ifCond .eq 5, 3) := by decide +kernel
theorem dX10_shorter_185 : decode cX10_shorter 185 = .ok (.iload_n 2, 1) := by decide +kernel
theorem dX10_shorter_186 : decode cX10_shorter 186 = .ok (.ireturn, 1) := by decide +kernel
theorem dX10_shorter_187 : decode cX10_shorter 187 = .ok (.iload_n 1, 1) := by decide +kernel
theorem dX10_shorter_188 : decode cX10_shorter 188 = .ok (.iconst 2, 1) := by decide +kernel
theorem dX10_shorter_189 : decode cX10_shorter 189 = .ok (.if_icmp .eq 9, 3) := by decide +kernel
theorem dX10_shorter_192 : decode cX10_shorter 192 = .ok (.iload_n 1, 1) := by decide +kernel
theorem dX10_shorter_193 : decode cX10_shorter 193 = .ok (.bipush 7, 2) := by decide +kernel
theorem dX10_shorter_195 : decode cX10_shorter 195 = .ok (.if_icmp .ne 27, 3) := by decide +kernel
theorem dX10_shorter_198 : decode cX10_shorter 198 = .ok (.aload_n 0, 1) := by decide +kernel
theorem dX10_shorter_199 : decode cX10_shorter 199 = .ok (.iload_n 2, 1) := by decide +kernel
theorem dX10_shorter_200 : decode cX10_shorter 200 = .ok (.invokevirtual 136, 3) := by decide +kernel
theorem dX10_shorter_203 : decode cX10_shorter 203 = .ok (.ifCond .ne 11, 3) := by decide +kernel
theorem dX10_shorter_206 : decode cX10_shorter 206 = .ok (.aload_n 0, 1) := by decide +kernel
theorem dX10_shorter_207 : decode cX10_shorter 207 = .ok (.iload_n 3, 1) := by decide +kernel
theorem dX10_shorter_208 : decode cX10_shorter 208 = .ok (.invokevirtual 136, 3) := by decide +kernel
theorem dX10_shorter_211 : decode cX10_shorter 211 = .ok (.ifCond .eq 11, 3) := by decide +kernel
theorem dX10_shorter_214 : decode cX10_shorter 214 = .ok (.aload_n 0, 1) := by decide +kernel
theorem dX10_shorter_215 : decode cX10_shorter 215 = .ok (.iload 5, 2) := by decide +kernel
theorem dX10_shorter_217 : decode cX10_shorter 217 = .ok (.lconst 0, 1) := by decide +kernel
theorem dX10_shorter_218 : decode cX10_shorter 218 = .ok (.invokevirtual 84, 3) := by decide +kernel
theorem dX10_shorter_221 : decode cX10_shorter 221 = .ok (.ireturn, 1) := by decide +kernel
theorem dX10_shorter_222 : decode cX10_shorter 222 = .ok (.aload_n 0, 1) := by decide +kernel
theorem dX10_shorter_223 : decode cX10_shorter 223 = .ok (.iload_n 3, 1) := by decide +kernel
theorem dX10_shorter_224 : decode cX10_shorter 224 = .ok (.invokevirtual 136, 3) := by decide +kernel
theorem dX10_shorter_227 : decode cX10_shorter 227 = .ok (.ifCond .eq 25, 3) := by decide +kernel
theorem dX10_shorter_230 : decode cX10_shorter 230 = .ok (.iload_n 1, 1) := by decide +kernel
theorem dX10_shorter_231 : decode cX10_shorter 231 = .ok (.bipush 6, 2) := by decide +kernel
theorem dX10_shorter_233 : decode cX10_shorter 233 = .ok (.if_icmp .eq 15, 3) := by decide +kernel
theorem dX10_shorter_236 : decode cX10_shorter 236 = .ok (.iload_n 1, 1) := by decide +kernel
theorem dX10_shorter_237 : decode cX10_shorter 237 = .ok (.bipush 9, 2) := by decide +kernel
theorem dX10_shorter_239 : decode cX10_shorter 239 = .ok (.if_icmp .le 13, 3) := by decide +kernel
theorem dX10_shorter_242 : decode cX10_shorter 242 = .ok (.iload_n 1, 1) := by decide +kernel
theorem dX10_shorter_243 : decode cX10_shorter 243 = .ok (.bipush 13, 2) := by decide +kernel
theorem dX10_shorter_245 : decode cX10_shorter 245 = .ok (.if_icmp .ge 7, 3) := by decide +kernel
theorem dX10_shorter_248 : decode cX10_shorter 248 = .ok (.iload_n 2, 1) := by decide +kernel
theorem dX10_shorter_249 : decode cX10_shorter 249 = .ok (.goto 5, 3) := by decide +kernel
theorem dX10_shorter_252 : decode cX10_shorter 252 = .ok (.bipush (-9), 2) := by decide +kernel
theorem dX10_shorter_254 : decode cX10_shorter 254 = .ok (.ireturn, 1) := by decide +kernel
def fm_Mod_shorter (st : XS) (o : Int32) (x1 : Int32) (y1 : Int32) (z1 : Int32) : Int32 × XS := 
  if o = (16 : Int32) then 
    if y1 = z1 then (y1, st)
    else 
      if fm_Mod_isConst st x1 = (0 : Int32) then ((-9 : Int32), st)
      else 
        if lg_cmp (fL st 0 x1.toNatClampNeg) (1 : Int64) = (0 : Int32) then (y1, st)
        else (z1, st)
  else 
    if (2 : Int32) ≤ o then 
      if o ≤ (16 : Int32) then 
        if x1 = y1 then 
          if (4 : Int32) ≤ o then 
            if o = (4 : Int32) then (((fm_Mod_constantOf st (fA st 4 x1.toNatClampNeg) (0 : Int64)).1), ((fm_Mod_constantOf st (fA st 4 x1.toNatClampNeg) (0 : Int64)).2))
            else 
              if o = (6 : Int32) then (((fm_Mod_constantOf st (fA st 4 x1.toNatClampNeg) (0 : Int64)).1), ((fm_Mod_constantOf st (fA st 4 x1.toNatClampNeg) (0 : Int64)).2))
              else 
                if o ≤ (12 : Int32) then 
                  if o ≤ (2 : Int32) then 
                    if o = (2 : Int32) then 
                      if fm_Mod_isZero st x1 = (0 : Int32) then 
                        if fm_Mod_isZero st y1 = (0 : Int32) then ((-9 : Int32), st)
                        else (((fm_Mod_constantOf st (fA st 4 x1.toNatClampNeg) (0 : Int64)).1), ((fm_Mod_constantOf st (fA st 4 x1.toNatClampNeg) (0 : Int64)).2))
                      else (((fm_Mod_constantOf st (fA st 4 x1.toNatClampNeg) (0 : Int64)).1), ((fm_Mod_constantOf st (fA st 4 x1.toNatClampNeg) (0 : Int64)).2))
                    else 
                      if o = (7 : Int32) then 
                        if fm_Mod_isZero st x1 = (0 : Int32) then 
                          if fm_Mod_isZero st y1 = (0 : Int32) then ((-9 : Int32), st)
                          else (((fm_Mod_constantOf st (fA st 4 x1.toNatClampNeg) (0 : Int64)).1), ((fm_Mod_constantOf st (fA st 4 x1.toNatClampNeg) (0 : Int64)).2))
                        else (((fm_Mod_constantOf st (fA st 4 x1.toNatClampNeg) (0 : Int64)).1), ((fm_Mod_constantOf st (fA st 4 x1.toNatClampNeg) (0 : Int64)).2))
                      else 
                        if fm_Mod_isZero st y1 = (0 : Int32) then ((-9 : Int32), st)
                        else 
                          if o ≤ (9 : Int32) then ((-9 : Int32), st)
                          else 
                            if (13 : Int32) ≤ o then ((-9 : Int32), st)
                            else (x1, st)
                  else 
                    if (6 : Int32) ≤ o then 
                      if o = (2 : Int32) then 
                        if fm_Mod_isZero st x1 = (0 : Int32) then 
                          if fm_Mod_isZero st y1 = (0 : Int32) then ((-9 : Int32), st)
                          else (((fm_Mod_constantOf st (fA st 4 x1.toNatClampNeg) (0 : Int64)).1), ((fm_Mod_constantOf st (fA st 4 x1.toNatClampNeg) (0 : Int64)).2))
                        else (((fm_Mod_constantOf st (fA st 4 x1.toNatClampNeg) (0 : Int64)).1), ((fm_Mod_constantOf st (fA st 4 x1.toNatClampNeg) (0 : Int64)).2))
                      else 
                        if o = (7 : Int32) then 
                          if fm_Mod_isZero st x1 = (0 : Int32) then 
                            if fm_Mod_isZero st y1 = (0 : Int32) then ((-9 : Int32), st)
                            else (((fm_Mod_constantOf st (fA st 4 x1.toNatClampNeg) (0 : Int64)).1), ((fm_Mod_constantOf st (fA st 4 x1.toNatClampNeg) (0 : Int64)).2))
                          else (((fm_Mod_constantOf st (fA st 4 x1.toNatClampNeg) (0 : Int64)).1), ((fm_Mod_constantOf st (fA st 4 x1.toNatClampNeg) (0 : Int64)).2))
                        else 
                          if fm_Mod_isZero st y1 = (0 : Int32) then ((-9 : Int32), st)
                          else 
                            if o ≤ (9 : Int32) then ((-9 : Int32), st)
                            else 
                              if (13 : Int32) ≤ o then ((-9 : Int32), st)
                              else (x1, st)
                    else 
                      if fm_Mod_isZero st x1 = (0 : Int32) then 
                        if fm_Mod_isZero st y1 = (0 : Int32) then 
                          if o = (2 : Int32) then ((-9 : Int32), st)
                          else 
                            if o = (7 : Int32) then ((-9 : Int32), st)
                            else ((-9 : Int32), st)
                        else (x1, st)
                      else (y1, st)
                else 
                  if o = (13 : Int32) then (((fm_Mod_constantOf st (1 : Int32) (1 : Int64)).1), ((fm_Mod_constantOf st (1 : Int32) (1 : Int64)).2))
                  else (((fm_Mod_constantOf st (1 : Int32) (0 : Int64)).1), ((fm_Mod_constantOf st (1 : Int32) (0 : Int64)).2))
          else (x1, st)
        else 
          if o ≤ (2 : Int32) then 
            if o = (2 : Int32) then 
              if fm_Mod_isZero st x1 = (0 : Int32) then 
                if fm_Mod_isZero st y1 = (0 : Int32) then ((-9 : Int32), st)
                else (((fm_Mod_constantOf st (fA st 4 x1.toNatClampNeg) (0 : Int64)).1), ((fm_Mod_constantOf st (fA st 4 x1.toNatClampNeg) (0 : Int64)).2))
              else (((fm_Mod_constantOf st (fA st 4 x1.toNatClampNeg) (0 : Int64)).1), ((fm_Mod_constantOf st (fA st 4 x1.toNatClampNeg) (0 : Int64)).2))
            else 
              if o = (7 : Int32) then 
                if fm_Mod_isZero st x1 = (0 : Int32) then 
                  if fm_Mod_isZero st y1 = (0 : Int32) then ((-9 : Int32), st)
                  else (((fm_Mod_constantOf st (fA st 4 x1.toNatClampNeg) (0 : Int64)).1), ((fm_Mod_constantOf st (fA st 4 x1.toNatClampNeg) (0 : Int64)).2))
                else (((fm_Mod_constantOf st (fA st 4 x1.toNatClampNeg) (0 : Int64)).1), ((fm_Mod_constantOf st (fA st 4 x1.toNatClampNeg) (0 : Int64)).2))
              else 
                if fm_Mod_isZero st y1 = (0 : Int32) then ((-9 : Int32), st)
                else 
                  if o = (6 : Int32) then (x1, st)
                  else 
                    if o ≤ (9 : Int32) then ((-9 : Int32), st)
                    else 
                      if (13 : Int32) ≤ o then ((-9 : Int32), st)
                      else (x1, st)
          else 
            if (6 : Int32) ≤ o then 
              if o = (2 : Int32) then 
                if fm_Mod_isZero st x1 = (0 : Int32) then 
                  if fm_Mod_isZero st y1 = (0 : Int32) then ((-9 : Int32), st)
                  else (((fm_Mod_constantOf st (fA st 4 x1.toNatClampNeg) (0 : Int64)).1), ((fm_Mod_constantOf st (fA st 4 x1.toNatClampNeg) (0 : Int64)).2))
                else (((fm_Mod_constantOf st (fA st 4 x1.toNatClampNeg) (0 : Int64)).1), ((fm_Mod_constantOf st (fA st 4 x1.toNatClampNeg) (0 : Int64)).2))
              else 
                if o = (7 : Int32) then 
                  if fm_Mod_isZero st x1 = (0 : Int32) then 
                    if fm_Mod_isZero st y1 = (0 : Int32) then ((-9 : Int32), st)
                    else (((fm_Mod_constantOf st (fA st 4 x1.toNatClampNeg) (0 : Int64)).1), ((fm_Mod_constantOf st (fA st 4 x1.toNatClampNeg) (0 : Int64)).2))
                  else (((fm_Mod_constantOf st (fA st 4 x1.toNatClampNeg) (0 : Int64)).1), ((fm_Mod_constantOf st (fA st 4 x1.toNatClampNeg) (0 : Int64)).2))
                else 
                  if fm_Mod_isZero st y1 = (0 : Int32) then ((-9 : Int32), st)
                  else 
                    if o = (6 : Int32) then (x1, st)
                    else 
                      if o ≤ (9 : Int32) then ((-9 : Int32), st)
                      else 
                        if (13 : Int32) ≤ o then ((-9 : Int32), st)
                        else (x1, st)
            else 
              if fm_Mod_isZero st x1 = (0 : Int32) then 
                if fm_Mod_isZero st y1 = (0 : Int32) then 
                  if o = (2 : Int32) then ((-9 : Int32), st)
                  else 
                    if o = (7 : Int32) then ((-9 : Int32), st)
                    else ((-9 : Int32), st)
                else (x1, st)
              else (y1, st)
      else ((-9 : Int32), st)
    else 
      if fA st 0 x1.toNatClampNeg = o then (fA st 1 x1.toNatClampNeg, st)
      else ((-9 : Int32), st)
theorem ff_Mod_shorter (st : XS) (o : Int32) (x1 : Int32) (y1 : Int32) (z1 : Int32) : XF [0] [0, 1, 2, 3, 4] [0] st (fm_Mod_shorter st o x1 y1 z1).2 := by
  rw [fm_Mod_shorter]
  exact (wl_ite (P := fun (q : Int32 × XS) => XF [0] [0, 1, 2, 3, 4] [0] _ (q.2)) (wl_ite (P := fun (q : Int32 × XS) => XF [0] [0, 1, 2, 3, 4] [0] _ (q.2)) (wl_snd XF.rf) (wl_ite (P := fun (q : Int32 × XS) => XF [0] [0, 1, 2, 3, 4] [0] _ (q.2)) (wl_snd XF.rf) (wl_ite (P := fun (q : Int32 × XS) => XF [0] [0, 1, 2, 3, 4] [0] _ (q.2)) (wl_snd XF.rf) (wl_snd XF.rf)))) (wl_ite (P := fun (q : Int32 × XS) => XF [0] [0, 1, 2, 3, 4] [0] _ (q.2)) (wl_ite (P := fun (q : Int32 × XS) => XF [0] [0, 1, 2, 3, 4] [0] _ (q.2)) (wl_ite (P := fun (q : Int32 × XS) => XF [0] [0, 1, 2, 3, 4] [0] _ (q.2)) (wl_ite (P := fun (q : Int32 × XS) => XF [0] [0, 1, 2, 3, 4] [0] _ (q.2)) (wl_ite (P := fun (q : Int32 × XS) => XF [0] [0, 1, 2, 3, 4] [0] _ (q.2)) (wl_snd (XF.tr XF.rf (XF.mono (ff_Mod_constantOf _ _ _) (by decide) (by decide) (by decide)))) (wl_ite (P := fun (q : Int32 × XS) => XF [0] [0, 1, 2, 3, 4] [0] _ (q.2)) (wl_snd (XF.tr XF.rf (XF.mono (ff_Mod_constantOf _ _ _) (by decide) (by decide) (by decide)))) (wl_ite (P := fun (q : Int32 × XS) => XF [0] [0, 1, 2, 3, 4] [0] _ (q.2)) (wl_ite (P := fun (q : Int32 × XS) => XF [0] [0, 1, 2, 3, 4] [0] _ (q.2)) (wl_ite (P := fun (q : Int32 × XS) => XF [0] [0, 1, 2, 3, 4] [0] _ (q.2)) (wl_ite (P := fun (q : Int32 × XS) => XF [0] [0, 1, 2, 3, 4] [0] _ (q.2)) (wl_ite (P := fun (q : Int32 × XS) => XF [0] [0, 1, 2, 3, 4] [0] _ (q.2)) (wl_snd XF.rf) (wl_snd (XF.tr XF.rf (XF.mono (ff_Mod_constantOf _ _ _) (by decide) (by decide) (by decide))))) (wl_snd (XF.tr XF.rf (XF.mono (ff_Mod_constantOf _ _ _) (by decide) (by decide) (by decide))))) (wl_ite (P := fun (q : Int32 × XS) => XF [0] [0, 1, 2, 3, 4] [0] _ (q.2)) (wl_ite (P := fun (q : Int32 × XS) => XF [0] [0, 1, 2, 3, 4] [0] _ (q.2)) (wl_ite (P := fun (q : Int32 × XS) => XF [0] [0, 1, 2, 3, 4] [0] _ (q.2)) (wl_snd XF.rf) (wl_snd (XF.tr XF.rf (XF.mono (ff_Mod_constantOf _ _ _) (by decide) (by decide) (by decide))))) (wl_snd (XF.tr XF.rf (XF.mono (ff_Mod_constantOf _ _ _) (by decide) (by decide) (by decide))))) (wl_ite (P := fun (q : Int32 × XS) => XF [0] [0, 1, 2, 3, 4] [0] _ (q.2)) (wl_snd XF.rf) (wl_ite (P := fun (q : Int32 × XS) => XF [0] [0, 1, 2, 3, 4] [0] _ (q.2)) (wl_snd XF.rf) (wl_ite (P := fun (q : Int32 × XS) => XF [0] [0, 1, 2, 3, 4] [0] _ (q.2)) (wl_snd XF.rf) (wl_snd XF.rf)))))) (wl_ite (P := fun (q : Int32 × XS) => XF [0] [0, 1, 2, 3, 4] [0] _ (q.2)) (wl_ite (P := fun (q : Int32 × XS) => XF [0] [0, 1, 2, 3, 4] [0] _ (q.2)) (wl_ite (P := fun (q : Int32 × XS) => XF [0] [0, 1, 2, 3, 4] [0] _ (q.2)) (wl_ite (P := fun (q : Int32 × XS) => XF [0] [0, 1, 2, 3, 4] [0] _ (q.2)) (wl_snd XF.rf) (wl_snd (XF.tr XF.rf (XF.mono (ff_Mod_constantOf _ _ _) (by decide) (by decide) (by decide))))) (wl_snd (XF.tr XF.rf (XF.mono (ff_Mod_constantOf _ _ _) (by decide) (by decide) (by decide))))) (wl_ite (P := fun (q : Int32 × XS) => XF [0] [0, 1, 2, 3, 4] [0] _ (q.2)) (wl_ite (P := fun (q : Int32 × XS) => XF [0] [0, 1, 2, 3, 4] [0] _ (q.2)) (wl_ite (P := fun (q : Int32 × XS) => XF [0] [0, 1, 2, 3, 4] [0] _ (q.2)) (wl_snd XF.rf) (wl_snd (XF.tr XF.rf (XF.mono (ff_Mod_constantOf _ _ _) (by decide) (by decide) (by decide))))) (wl_snd (XF.tr XF.rf (XF.mono (ff_Mod_constantOf _ _ _) (by decide) (by decide) (by decide))))) (wl_ite (P := fun (q : Int32 × XS) => XF [0] [0, 1, 2, 3, 4] [0] _ (q.2)) (wl_snd XF.rf) (wl_ite (P := fun (q : Int32 × XS) => XF [0] [0, 1, 2, 3, 4] [0] _ (q.2)) (wl_snd XF.rf) (wl_ite (P := fun (q : Int32 × XS) => XF [0] [0, 1, 2, 3, 4] [0] _ (q.2)) (wl_snd XF.rf) (wl_snd XF.rf)))))) (wl_ite (P := fun (q : Int32 × XS) => XF [0] [0, 1, 2, 3, 4] [0] _ (q.2)) (wl_ite (P := fun (q : Int32 × XS) => XF [0] [0, 1, 2, 3, 4] [0] _ (q.2)) (wl_ite (P := fun (q : Int32 × XS) => XF [0] [0, 1, 2, 3, 4] [0] _ (q.2)) (wl_snd XF.rf) (wl_ite (P := fun (q : Int32 × XS) => XF [0] [0, 1, 2, 3, 4] [0] _ (q.2)) (wl_snd XF.rf) (wl_snd XF.rf))) (wl_snd XF.rf)) (wl_snd XF.rf)))) (wl_ite (P := fun (q : Int32 × XS) => XF [0] [0, 1, 2, 3, 4] [0] _ (q.2)) (wl_snd (XF.tr XF.rf (XF.mono (ff_Mod_constantOf _ _ _) (by decide) (by decide) (by decide)))) (wl_snd (XF.tr XF.rf (XF.mono (ff_Mod_constantOf _ _ _) (by decide) (by decide) (by decide)))))))) (wl_snd XF.rf)) (wl_ite (P := fun (q : Int32 × XS) => XF [0] [0, 1, 2, 3, 4] [0] _ (q.2)) (wl_ite (P := fun (q : Int32 × XS) => XF [0] [0, 1, 2, 3, 4] [0] _ (q.2)) (wl_ite (P := fun (q : Int32 × XS) => XF [0] [0, 1, 2, 3, 4] [0] _ (q.2)) (wl_ite (P := fun (q : Int32 × XS) => XF [0] [0, 1, 2, 3, 4] [0] _ (q.2)) (wl_snd XF.rf) (wl_snd (XF.tr XF.rf (XF.mono (ff_Mod_constantOf _ _ _) (by decide) (by decide) (by decide))))) (wl_snd (XF.tr XF.rf (XF.mono (ff_Mod_constantOf _ _ _) (by decide) (by decide) (by decide))))) (wl_ite (P := fun (q : Int32 × XS) => XF [0] [0, 1, 2, 3, 4] [0] _ (q.2)) (wl_ite (P := fun (q : Int32 × XS) => XF [0] [0, 1, 2, 3, 4] [0] _ (q.2)) (wl_ite (P := fun (q : Int32 × XS) => XF [0] [0, 1, 2, 3, 4] [0] _ (q.2)) (wl_snd XF.rf) (wl_snd (XF.tr XF.rf (XF.mono (ff_Mod_constantOf _ _ _) (by decide) (by decide) (by decide))))) (wl_snd (XF.tr XF.rf (XF.mono (ff_Mod_constantOf _ _ _) (by decide) (by decide) (by decide))))) (wl_ite (P := fun (q : Int32 × XS) => XF [0] [0, 1, 2, 3, 4] [0] _ (q.2)) (wl_snd XF.rf) (wl_ite (P := fun (q : Int32 × XS) => XF [0] [0, 1, 2, 3, 4] [0] _ (q.2)) (wl_snd XF.rf) (wl_ite (P := fun (q : Int32 × XS) => XF [0] [0, 1, 2, 3, 4] [0] _ (q.2)) (wl_snd XF.rf) (wl_ite (P := fun (q : Int32 × XS) => XF [0] [0, 1, 2, 3, 4] [0] _ (q.2)) (wl_snd XF.rf) (wl_snd XF.rf))))))) (wl_ite (P := fun (q : Int32 × XS) => XF [0] [0, 1, 2, 3, 4] [0] _ (q.2)) (wl_ite (P := fun (q : Int32 × XS) => XF [0] [0, 1, 2, 3, 4] [0] _ (q.2)) (wl_ite (P := fun (q : Int32 × XS) => XF [0] [0, 1, 2, 3, 4] [0] _ (q.2)) (wl_ite (P := fun (q : Int32 × XS) => XF [0] [0, 1, 2, 3, 4] [0] _ (q.2)) (wl_snd XF.rf) (wl_snd (XF.tr XF.rf (XF.mono (ff_Mod_constantOf _ _ _) (by decide) (by decide) (by decide))))) (wl_snd (XF.tr XF.rf (XF.mono (ff_Mod_constantOf _ _ _) (by decide) (by decide) (by decide))))) (wl_ite (P := fun (q : Int32 × XS) => XF [0] [0, 1, 2, 3, 4] [0] _ (q.2)) (wl_ite (P := fun (q : Int32 × XS) => XF [0] [0, 1, 2, 3, 4] [0] _ (q.2)) (wl_ite (P := fun (q : Int32 × XS) => XF [0] [0, 1, 2, 3, 4] [0] _ (q.2)) (wl_snd XF.rf) (wl_snd (XF.tr XF.rf (XF.mono (ff_Mod_constantOf _ _ _) (by decide) (by decide) (by decide))))) (wl_snd (XF.tr XF.rf (XF.mono (ff_Mod_constantOf _ _ _) (by decide) (by decide) (by decide))))) (wl_ite (P := fun (q : Int32 × XS) => XF [0] [0, 1, 2, 3, 4] [0] _ (q.2)) (wl_snd XF.rf) (wl_ite (P := fun (q : Int32 × XS) => XF [0] [0, 1, 2, 3, 4] [0] _ (q.2)) (wl_snd XF.rf) (wl_ite (P := fun (q : Int32 × XS) => XF [0] [0, 1, 2, 3, 4] [0] _ (q.2)) (wl_snd XF.rf) (wl_ite (P := fun (q : Int32 × XS) => XF [0] [0, 1, 2, 3, 4] [0] _ (q.2)) (wl_snd XF.rf) (wl_snd XF.rf))))))) (wl_ite (P := fun (q : Int32 × XS) => XF [0] [0, 1, 2, 3, 4] [0] _ (q.2)) (wl_ite (P := fun (q : Int32 × XS) => XF [0] [0, 1, 2, 3, 4] [0] _ (q.2)) (wl_ite (P := fun (q : Int32 × XS) => XF [0] [0, 1, 2, 3, 4] [0] _ (q.2)) (wl_snd XF.rf) (wl_ite (P := fun (q : Int32 × XS) => XF [0] [0, 1, 2, 3, 4] [0] _ (q.2)) (wl_snd XF.rf) (wl_snd XF.rf))) (wl_snd XF.rf)) (wl_snd XF.rf))))) (wl_snd XF.rf)) (wl_ite (P := fun (q : Int32 × XS) => XF [0] [0, 1, 2, 3, 4] [0] _ (q.2)) (wl_snd XF.rf) (wl_snd XF.rf))))
theorem wm_shN {st : XS} {N : Nat} {o x1 y1 z1 : Int32} (hN : gI st 0 = nI N) (h64 : N ≤ 64) : mN (fm_Mod_shorter st o x1 y1 z1).2 := by
  rw [fm_Mod_shorter]
  exact (wl_ite (P := fun (q : Int32 × XS) => mN q.2) (wl_ite (P := fun (q : Int32 × XS) => mN q.2) (wl_sn (P := mN) ⟨N, hN, h64⟩) (wl_ite (P := fun (q : Int32 × XS) => mN q.2) (wl_sn (P := mN) ⟨N, hN, h64⟩) (wl_ite (P := fun (q : Int32 × XS) => mN q.2) (wl_sn (P := mN) ⟨N, hN, h64⟩) (wl_sn (P := mN) ⟨N, hN, h64⟩)))) (wl_ite (P := fun (q : Int32 × XS) => mN q.2) (wl_ite (P := fun (q : Int32 × XS) => mN q.2) (wl_ite (P := fun (q : Int32 × XS) => mN q.2) (wl_ite (P := fun (q : Int32 × XS) => mN q.2) (wl_ite (P := fun (q : Int32 × XS) => mN q.2) (wl_sn (P := mN) (wm_coN _ _ hN h64)) (wl_ite (P := fun (q : Int32 × XS) => mN q.2) (wl_sn (P := mN) (wm_coN _ _ hN h64)) (wl_ite (P := fun (q : Int32 × XS) => mN q.2) (wl_ite (P := fun (q : Int32 × XS) => mN q.2) (wl_ite (P := fun (q : Int32 × XS) => mN q.2) (wl_ite (P := fun (q : Int32 × XS) => mN q.2) (wl_ite (P := fun (q : Int32 × XS) => mN q.2) (wl_sn (P := mN) ⟨N, hN, h64⟩) (wl_sn (P := mN) (wm_coN _ _ hN h64))) (wl_sn (P := mN) (wm_coN _ _ hN h64))) (wl_ite (P := fun (q : Int32 × XS) => mN q.2) (wl_ite (P := fun (q : Int32 × XS) => mN q.2) (wl_ite (P := fun (q : Int32 × XS) => mN q.2) (wl_sn (P := mN) ⟨N, hN, h64⟩) (wl_sn (P := mN) (wm_coN _ _ hN h64))) (wl_sn (P := mN) (wm_coN _ _ hN h64))) (wl_ite (P := fun (q : Int32 × XS) => mN q.2) (wl_sn (P := mN) ⟨N, hN, h64⟩) (wl_ite (P := fun (q : Int32 × XS) => mN q.2) (wl_sn (P := mN) ⟨N, hN, h64⟩) (wl_ite (P := fun (q : Int32 × XS) => mN q.2) (wl_sn (P := mN) ⟨N, hN, h64⟩) (wl_sn (P := mN) ⟨N, hN, h64⟩)))))) (wl_ite (P := fun (q : Int32 × XS) => mN q.2) (wl_ite (P := fun (q : Int32 × XS) => mN q.2) (wl_ite (P := fun (q : Int32 × XS) => mN q.2) (wl_ite (P := fun (q : Int32 × XS) => mN q.2) (wl_sn (P := mN) ⟨N, hN, h64⟩) (wl_sn (P := mN) (wm_coN _ _ hN h64))) (wl_sn (P := mN) (wm_coN _ _ hN h64))) (wl_ite (P := fun (q : Int32 × XS) => mN q.2) (wl_ite (P := fun (q : Int32 × XS) => mN q.2) (wl_ite (P := fun (q : Int32 × XS) => mN q.2) (wl_sn (P := mN) ⟨N, hN, h64⟩) (wl_sn (P := mN) (wm_coN _ _ hN h64))) (wl_sn (P := mN) (wm_coN _ _ hN h64))) (wl_ite (P := fun (q : Int32 × XS) => mN q.2) (wl_sn (P := mN) ⟨N, hN, h64⟩) (wl_ite (P := fun (q : Int32 × XS) => mN q.2) (wl_sn (P := mN) ⟨N, hN, h64⟩) (wl_ite (P := fun (q : Int32 × XS) => mN q.2) (wl_sn (P := mN) ⟨N, hN, h64⟩) (wl_sn (P := mN) ⟨N, hN, h64⟩)))))) (wl_ite (P := fun (q : Int32 × XS) => mN q.2) (wl_ite (P := fun (q : Int32 × XS) => mN q.2) (wl_ite (P := fun (q : Int32 × XS) => mN q.2) (wl_sn (P := mN) ⟨N, hN, h64⟩) (wl_ite (P := fun (q : Int32 × XS) => mN q.2) (wl_sn (P := mN) ⟨N, hN, h64⟩) (wl_sn (P := mN) ⟨N, hN, h64⟩))) (wl_sn (P := mN) ⟨N, hN, h64⟩)) (wl_sn (P := mN) ⟨N, hN, h64⟩)))) (wl_ite (P := fun (q : Int32 × XS) => mN q.2) (wl_sn (P := mN) (wm_coN _ _ hN h64)) (wl_sn (P := mN) (wm_coN _ _ hN h64)))))) (wl_sn (P := mN) ⟨N, hN, h64⟩)) (wl_ite (P := fun (q : Int32 × XS) => mN q.2) (wl_ite (P := fun (q : Int32 × XS) => mN q.2) (wl_ite (P := fun (q : Int32 × XS) => mN q.2) (wl_ite (P := fun (q : Int32 × XS) => mN q.2) (wl_sn (P := mN) ⟨N, hN, h64⟩) (wl_sn (P := mN) (wm_coN _ _ hN h64))) (wl_sn (P := mN) (wm_coN _ _ hN h64))) (wl_ite (P := fun (q : Int32 × XS) => mN q.2) (wl_ite (P := fun (q : Int32 × XS) => mN q.2) (wl_ite (P := fun (q : Int32 × XS) => mN q.2) (wl_sn (P := mN) ⟨N, hN, h64⟩) (wl_sn (P := mN) (wm_coN _ _ hN h64))) (wl_sn (P := mN) (wm_coN _ _ hN h64))) (wl_ite (P := fun (q : Int32 × XS) => mN q.2) (wl_sn (P := mN) ⟨N, hN, h64⟩) (wl_ite (P := fun (q : Int32 × XS) => mN q.2) (wl_sn (P := mN) ⟨N, hN, h64⟩) (wl_ite (P := fun (q : Int32 × XS) => mN q.2) (wl_sn (P := mN) ⟨N, hN, h64⟩) (wl_ite (P := fun (q : Int32 × XS) => mN q.2) (wl_sn (P := mN) ⟨N, hN, h64⟩) (wl_sn (P := mN) ⟨N, hN, h64⟩))))))) (wl_ite (P := fun (q : Int32 × XS) => mN q.2) (wl_ite (P := fun (q : Int32 × XS) => mN q.2) (wl_ite (P := fun (q : Int32 × XS) => mN q.2) (wl_ite (P := fun (q : Int32 × XS) => mN q.2) (wl_sn (P := mN) ⟨N, hN, h64⟩) (wl_sn (P := mN) (wm_coN _ _ hN h64))) (wl_sn (P := mN) (wm_coN _ _ hN h64))) (wl_ite (P := fun (q : Int32 × XS) => mN q.2) (wl_ite (P := fun (q : Int32 × XS) => mN q.2) (wl_ite (P := fun (q : Int32 × XS) => mN q.2) (wl_sn (P := mN) ⟨N, hN, h64⟩) (wl_sn (P := mN) (wm_coN _ _ hN h64))) (wl_sn (P := mN) (wm_coN _ _ hN h64))) (wl_ite (P := fun (q : Int32 × XS) => mN q.2) (wl_sn (P := mN) ⟨N, hN, h64⟩) (wl_ite (P := fun (q : Int32 × XS) => mN q.2) (wl_sn (P := mN) ⟨N, hN, h64⟩) (wl_ite (P := fun (q : Int32 × XS) => mN q.2) (wl_sn (P := mN) ⟨N, hN, h64⟩) (wl_ite (P := fun (q : Int32 × XS) => mN q.2) (wl_sn (P := mN) ⟨N, hN, h64⟩) (wl_sn (P := mN) ⟨N, hN, h64⟩))))))) (wl_ite (P := fun (q : Int32 × XS) => mN q.2) (wl_ite (P := fun (q : Int32 × XS) => mN q.2) (wl_ite (P := fun (q : Int32 × XS) => mN q.2) (wl_sn (P := mN) ⟨N, hN, h64⟩) (wl_ite (P := fun (q : Int32 × XS) => mN q.2) (wl_sn (P := mN) ⟨N, hN, h64⟩) (wl_sn (P := mN) ⟨N, hN, h64⟩))) (wl_sn (P := mN) ⟨N, hN, h64⟩)) (wl_sn (P := mN) ⟨N, hN, h64⟩))))) (wl_sn (P := mN) ⟨N, hN, h64⟩)) (wl_ite (P := fun (q : Int32 × XS) => mN q.2) (wl_sn (P := mN) ⟨N, hN, h64⟩) (wl_sn (P := mN) ⟨N, hN, h64⟩))))
set_option maxHeartbeats 4000000 in
set_option maxRecDepth 100000 in
theorem km_Mod_shorter (l : Launch) (dC : Nat → ClassId) (dI : Nat → Nat → Nat) (a : Nat → Nat) (k : Nat → ClassId) (st : XS) (o : Int32) (x1 : Int32) (y1 : Int32) (z1 : Int32) (sz : Nat) (N : Nat) (hN : gI st 0 = nI N) (h64 : N ≤ 64) (hA : vp_in x1 64) (hY : ¬ o < 2 → o ≤ 16 → ¬ o = 16 → vp_in y1 64) : Met l yX10_shorter wsX10_shorter ({ frames := 2, cells := 0, slots := 0, locals := 49 }) (va_Pc [.ref (a 0), .int o, .int x1, .int y1, .int z1] (wl_pre (dC, dI) vwCl (mt k) (mw a k) st sz)) (va_Qi (fun r9 u9 => (r9, u9) = fm_Mod_shorter st o x1 y1 z1) (wl_at (dC, dI) vwCl (mt k) (mw a k) (va_A (mw a k st) sz)) (va_A (mw a k st) sz)) 0 0 (va_A (mw a k st) sz) := by
  refine Met.ofW (cc := cX10_shorter) (maxL := 6) (ret := (some .int)) (by decide) rfl ?_
  intro p e s m args below meth c s₁ B hml hv
  obtain ⟨rfl, hsz, hP, hK, hD0⟩ := hv
  have hx := B.exec
  have hb := B.bytes
  have hr := B.returns
  have hta := aw_hts (atoms_spec (ws := wsX10_shorter) B.pre)
  have hown : s.vm.findClass RX10 = some m.cls := findClass_of_methodNamed B.named
  have hlocks := B.notSynchronized
  have hf44 := hta _ mw_644
  have hf31 := hta _ mw_640
  have hf35 := hta _ mw_641
  have hf47 := hta _ mw_645
  subst hsz
  have hD := hD0.self (sz := s.heap.size)
  generalize hAe : va_A (mw a k st) s.heap.size = A at hD ⊢
  have hAz : ∀ q : Nat, s.heap.size ≤ q → A q := fun q h => by rw [← hAe]; exact Or.inr h
  have hS : va_S A s.heap s.heap [] := va_S.rf
  have hl := lv_entry ([.ref (a 0), .int o, .int x1, .int y1, .int z1]) (n := 6) (Nat.le_of_ble_eq_true rfl)
  rw [lg_entry_eq]
  generalize (lg_sl ([.ref (a 0), .int o, .int x1, .int y1, .int z1]) ++ List.replicate (6 - (lg_sl ([.ref (a 0), .int o, .int x1, .int y1, .int z1])).length) Slot.unset).toArray = ls at hl ⊢
  have hl : lv_has ls 6 [(0, .ref (a 0)), (1, .int o), (2, .int x1), (3, .int y1), (4, .int z1)] := hl
  generalize hR : fm_Mod_shorter st o x1 y1 z1 = R
  rw [fm_Mod_shorter] at hR
  refine lv_aload_n hx hb dX10_shorter_0 rfl (lv_at hl 0 rfl) ?_
  refine va_get (D := (dC, dI)) (ci := 8) (v := .ref (a 5)) (C := RX10) (T := TX10) (N := 21) hx hb hta inX10 hown hK hP 0 (mr_0 a k st) rfl 11 (by decide) hf44 (fun _ h9 => h9) rfl dX10_shorter_1 ?_
  refine lv_iload_n hx hb dX10_shorter_4 rfl (lv_at hl 2 rfl) ?_
  refine va_iald hx hb hK hP 5 4 (mr_5 a k st) rfl hA dX10_shorter_5 ?_
  refine lv_istore (lv' := [(5, .int (fA st 4 x1.toNatClampNeg)), (0, .ref (a 0)), (1, .int o), (2, .int x1), (3, .int y1), (4, .int z1)]) hx hb dX10_shorter_6 hl (by decide) rfl (fun ls hl => ?_)
  refine lv_iload_n hx hb dX10_shorter_8 rfl (lv_at hl 2 rfl) ?_
  refine lv_bipush (v := (16 : Int32)) hx hb dX10_shorter_9 (by decide) ?_
  refine lv_icmp_ne (tgt := 55) hx hb dX10_shorter_11 (by decide) (fun c11 => ?_) (fun c11 => ?_)
  · skip
    rw [if_neg c11] at hR
    refine lv_iload_n hx hb dX10_shorter_55 rfl (lv_at hl 2 rfl) ?_
    refine lv_iconst (v := (2 : Int32)) hx hb dX10_shorter_56 (by decide) ?_
    refine lv_icmp_ge (tgt := 82) hx hb dX10_shorter_57 (by decide) (fun c57 => ?_) (fun c57 => ?_)
    · skip
      rw [if_pos c57] at hR
      refine lv_iload_n hx hb dX10_shorter_82 rfl (lv_at hl 2 rfl) ?_
      refine lv_bipush (v := (16 : Int32)) hx hb dX10_shorter_83 (by decide) ?_
      refine lv_icmp_le (tgt := 91) hx hb dX10_shorter_85 (by decide) (fun c85 => ?_) (fun c85 => ?_)
      · skip
        rw [if_pos c85] at hR
        refine lv_iload_n hx hb dX10_shorter_91 rfl (lv_at hl 3 rfl) ?_
        refine lv_iload_n hx hb dX10_shorter_92 rfl (lv_at hl 4 rfl) ?_
        refine lv_icmp_ne (tgt := 145) hx hb dX10_shorter_93 (by decide) (fun c93 => ?_) (fun c93 => ?_)
        · skip
          rw [if_neg c93] at hR
          refine lv_iload_n hx hb dX10_shorter_145 rfl (lv_at hl 2 rfl) ?_
          refine lv_iconst (v := (2 : Int32)) hx hb dX10_shorter_146 (by decide) ?_
          refine lv_icmp_le (tgt := 166) hx hb dX10_shorter_147 (by decide) (fun c147 => ?_) (fun c147 => ?_)
          · skip
            rw [if_pos c147] at hR
            refine lv_iload_n hx hb dX10_shorter_166 rfl (lv_at hl 2 rfl) ?_
            refine lv_iconst (v := (2 : Int32)) hx hb dX10_shorter_167 (by decide) ?_
            refine lv_icmp_le (tgt := 187) hx hb dX10_shorter_168 (by decide) (fun c168 => ?_) (fun c168 => ?_)
            · skip
              refine lv_iload_n hx hb dX10_shorter_187 rfl (lv_at hl 2 rfl) ?_
              refine lv_iconst (v := (2 : Int32)) hx hb dX10_shorter_188 (by decide) ?_
              refine lv_icmp_eq (tgt := 198) hx hb dX10_shorter_189 (by decide) (fun c189 => ?_) (fun c189 => ?_)
              · skip
                rw [if_pos c189] at hR
                refine lv_aload_n hx hb dX10_shorter_198 rfl (lv_at hl 1 rfl) ?_
                refine lv_iload_n hx hb dX10_shorter_199 rfl (lv_at hl 3 rfl) ?_
                refine wl_ci (va_runV (As := [.int x1]) (rest := []) ⟨hx, hb, hml, hown, hta⟩ (km_Mod_isZero l dC dI a k st x1 hA) (cwV 1 hta gX10_136 rfl rfl rfl (by decide +kernel) ⟨Nat.le_of_ble_eq_true rfl, Nat.le_of_ble_eq_true rfl⟩) (wl_pR (C := RX10) (ci := 8) (q0 := 0) hK hP rfl (mr_0 a k st)) rfl rfl hl.1 rfl (lv_room (Nat.le_of_ble_eq_true rfl)) dX10_shorter_200 ⟨Nat.zero_le _, Nat.zero_le _⟩) ?_
                refine lv_if_ne (tgt := 214) hx hb dX10_shorter_203 (by decide) (fun c203 => ?_) (fun c203 => ?_)
                · skip
                  rw [if_neg c203] at hR
                  refine lv_aload_n hx hb dX10_shorter_214 rfl (lv_at hl 1 rfl) ?_
                  refine lv_iload hx hb dX10_shorter_215 (lv_at hl 0 rfl) ?_
                  refine lv_lconst (v := (0 : Int64)) hx hb dX10_shorter_217 (by decide) ?_
                  refine wl_mi (va_runV (As := [.int (fA st 4 x1.toNatClampNeg), .long (0 : Int64)]) (rest := []) ⟨hx, hb, hml, hown, hta⟩ (km_Mod_constantOf l dC dI a k st (fA st 4 x1.toNatClampNeg) (0 : Int64) _ N hN h64) (cwV 2 hta gX10_84 rfl rfl rfl (by decide +kernel) ⟨Nat.le_of_ble_eq_true rfl, Nat.le_of_ble_eq_true rfl⟩) (wl_pM (C := RX10) (ci := 8) (q0 := 0) hK hP hD rfl (mr_0 a k st)) rfl rfl hl.1 rfl (lv_room (Nat.le_of_ble_eq_true rfl)) dX10_shorter_218 ⟨Nat.zero_le _, Nat.zero_le _⟩) hP hD hS hAz (fun r218 u218 H locs hw218 hP hD hS => ?_)
                  have v218 : (fm_Mod_constantOf st (fA st 4 x1.toNatClampNeg) (0 : Int64)).1 = r218 := congrArg Prod.fst hw218.symm
                  have w218 : (fm_Mod_constantOf st (fA st 4 x1.toNatClampNeg) (0 : Int64)).2 = u218 := congrArg Prod.snd hw218.symm
                  have hf218 : XF [0] [0, 1, 2, 3, 4] [0] st u218 := by rw [← w218]; exact ff_Mod_constantOf st (fA st 4 x1.toNatClampNeg) (0 : Int64)
                  try rw [v218] at hR
                  try rw [w218] at hR
                  exact W.iret (v := r218) hx hb hr (fun t ht hW => ⟨⟨_, _, rfl, hR, by rw [ht]; exact hP, va_K.moved hW.alike hK, hD⟩, hS.F ht⟩) hS.2.2 dX10_shorter_221
                · skip
                  rw [if_pos c203] at hR
                  refine lv_aload_n hx hb dX10_shorter_206 rfl (lv_at hl 1 rfl) ?_
                  refine lv_iload_n hx hb dX10_shorter_207 rfl (lv_at hl 4 rfl) ?_
                  refine wl_ci (va_runV (As := [.int y1]) (rest := []) ⟨hx, hb, hml, hown, hta⟩ (km_Mod_isZero l dC dI a k st y1 (hY (wl_ln c57) c85 c11)) (cwV 1 hta gX10_136 rfl rfl rfl (by decide +kernel) ⟨Nat.le_of_ble_eq_true rfl, Nat.le_of_ble_eq_true rfl⟩) (wl_pR (C := RX10) (ci := 8) (q0 := 0) hK hP rfl (mr_0 a k st)) rfl rfl hl.1 rfl (lv_room (Nat.le_of_ble_eq_true rfl)) dX10_shorter_208 ⟨Nat.zero_le _, Nat.zero_le _⟩) ?_
                  refine lv_if_eq (tgt := 222) hx hb dX10_shorter_211 (by decide) (fun c211 => ?_) (fun c211 => ?_)
                  · skip
                    rw [if_pos c211] at hR
                    refine lv_aload_n hx hb dX10_shorter_222 rfl (lv_at hl 1 rfl) ?_
                    refine lv_iload_n hx hb dX10_shorter_223 rfl (lv_at hl 4 rfl) ?_
                    refine wl_ci (va_runV (As := [.int y1]) (rest := []) ⟨hx, hb, hml, hown, hta⟩ (km_Mod_isZero l dC dI a k st y1 (hY (wl_ln c57) c85 c11)) (cwV 1 hta gX10_136 rfl rfl rfl (by decide +kernel) ⟨Nat.le_of_ble_eq_true rfl, Nat.le_of_ble_eq_true rfl⟩) (wl_pR (C := RX10) (ci := 8) (q0 := 0) hK hP rfl (mr_0 a k st)) rfl rfl hl.1 rfl (lv_room (Nat.le_of_ble_eq_true rfl)) dX10_shorter_224 ⟨Nat.zero_le _, Nat.zero_le _⟩) ?_
                    refine lv_if_eq (tgt := 252) hx hb dX10_shorter_227 (by decide) (fun c227 => ?_) (fun c227 => ?_)
                    · skip
                      refine lv_bipush (v := (-9 : Int32)) hx hb dX10_shorter_252 (by decide) ?_
                      exact W.iret (v := (-9 : Int32)) hx hb hr (fun t ht hW => ⟨⟨_, _, rfl, hR, by rw [ht]; exact hP, va_K.moved hW.alike hK, hD⟩, hS.F ht⟩) hS.2.2 dX10_shorter_254
                    · skip
                      exact absurd c211 c227
                  · skip
                    rw [if_neg c211] at hR
                    refine lv_aload_n hx hb dX10_shorter_214 rfl (lv_at hl 1 rfl) ?_
                    refine lv_iload hx hb dX10_shorter_215 (lv_at hl 0 rfl) ?_
                    refine lv_lconst (v := (0 : Int64)) hx hb dX10_shorter_217 (by decide) ?_
                    refine wl_mi (va_runV (As := [.int (fA st 4 x1.toNatClampNeg), .long (0 : Int64)]) (rest := []) ⟨hx, hb, hml, hown, hta⟩ (km_Mod_constantOf l dC dI a k st (fA st 4 x1.toNatClampNeg) (0 : Int64) _ N hN h64) (cwV 2 hta gX10_84 rfl rfl rfl (by decide +kernel) ⟨Nat.le_of_ble_eq_true rfl, Nat.le_of_ble_eq_true rfl⟩) (wl_pM (C := RX10) (ci := 8) (q0 := 0) hK hP hD rfl (mr_0 a k st)) rfl rfl hl.1 rfl (lv_room (Nat.le_of_ble_eq_true rfl)) dX10_shorter_218 ⟨Nat.zero_le _, Nat.zero_le _⟩) hP hD hS hAz (fun r218 u218 H locs hw218 hP hD hS => ?_)
                    have v218 : (fm_Mod_constantOf st (fA st 4 x1.toNatClampNeg) (0 : Int64)).1 = r218 := congrArg Prod.fst hw218.symm
                    have w218 : (fm_Mod_constantOf st (fA st 4 x1.toNatClampNeg) (0 : Int64)).2 = u218 := congrArg Prod.snd hw218.symm
                    have hf218 : XF [0] [0, 1, 2, 3, 4] [0] st u218 := by rw [← w218]; exact ff_Mod_constantOf st (fA st 4 x1.toNatClampNeg) (0 : Int64)
                    try rw [v218] at hR
                    try rw [w218] at hR
                    exact W.iret (v := r218) hx hb hr (fun t ht hW => ⟨⟨_, _, rfl, hR, by rw [ht]; exact hP, va_K.moved hW.alike hK, hD⟩, hS.F ht⟩) hS.2.2 dX10_shorter_221
              · skip
                rw [if_neg c189] at hR
                refine lv_iload_n hx hb dX10_shorter_192 rfl (lv_at hl 2 rfl) ?_
                refine lv_bipush (v := (7 : Int32)) hx hb dX10_shorter_193 (by decide) ?_
                refine lv_icmp_ne (tgt := 222) hx hb dX10_shorter_195 (by decide) (fun c195 => ?_) (fun c195 => ?_)
                · skip
                  rw [if_neg c195] at hR
                  refine lv_aload_n hx hb dX10_shorter_222 rfl (lv_at hl 1 rfl) ?_
                  refine lv_iload_n hx hb dX10_shorter_223 rfl (lv_at hl 4 rfl) ?_
                  refine wl_ci (va_runV (As := [.int y1]) (rest := []) ⟨hx, hb, hml, hown, hta⟩ (km_Mod_isZero l dC dI a k st y1 (hY (wl_ln c57) c85 c11)) (cwV 1 hta gX10_136 rfl rfl rfl (by decide +kernel) ⟨Nat.le_of_ble_eq_true rfl, Nat.le_of_ble_eq_true rfl⟩) (wl_pR (C := RX10) (ci := 8) (q0 := 0) hK hP rfl (mr_0 a k st)) rfl rfl hl.1 rfl (lv_room (Nat.le_of_ble_eq_true rfl)) dX10_shorter_224 ⟨Nat.zero_le _, Nat.zero_le _⟩) ?_
                  refine lv_if_eq (tgt := 252) hx hb dX10_shorter_227 (by decide) (fun c227 => ?_) (fun c227 => ?_)
                  · skip
                    rw [if_pos c227] at hR
                    refine lv_bipush (v := (-9 : Int32)) hx hb dX10_shorter_252 (by decide) ?_
                    exact W.iret (v := (-9 : Int32)) hx hb hr (fun t ht hW => ⟨⟨_, _, rfl, hR, by rw [ht]; exact hP, va_K.moved hW.alike hK, hD⟩, hS.F ht⟩) hS.2.2 dX10_shorter_254
                  · skip
                    rw [if_neg c227] at hR
                    refine lv_iload_n hx hb dX10_shorter_230 rfl (lv_at hl 2 rfl) ?_
                    refine lv_bipush (v := (6 : Int32)) hx hb dX10_shorter_231 (by decide) ?_
                    refine lv_icmp_eq (tgt := 248) hx hb dX10_shorter_233 (by decide) (fun c233 => ?_) (fun c233 => ?_)
                    · skip
                      rw [if_pos c233] at hR
                      refine lv_iload_n hx hb dX10_shorter_248 rfl (lv_at hl 3 rfl) ?_
                      refine lv_goto (tgt := 254) hx hb dX10_shorter_249 (by decide) ?_
                      exact W.iret (v := x1) hx hb hr (fun t ht hW => ⟨⟨_, _, rfl, hR, by rw [ht]; exact hP, va_K.moved hW.alike hK, hD⟩, hS.F ht⟩) hS.2.2 dX10_shorter_254
                    · skip
                      rw [if_neg c233] at hR
                      refine lv_iload_n hx hb dX10_shorter_236 rfl (lv_at hl 2 rfl) ?_
                      refine lv_bipush (v := (9 : Int32)) hx hb dX10_shorter_237 (by decide) ?_
                      refine lv_icmp_le (tgt := 252) hx hb dX10_shorter_239 (by decide) (fun c239 => ?_) (fun c239 => ?_)
                      · skip
                        rw [if_pos c239] at hR
                        refine lv_bipush (v := (-9 : Int32)) hx hb dX10_shorter_252 (by decide) ?_
                        exact W.iret (v := (-9 : Int32)) hx hb hr (fun t ht hW => ⟨⟨_, _, rfl, hR, by rw [ht]; exact hP, va_K.moved hW.alike hK, hD⟩, hS.F ht⟩) hS.2.2 dX10_shorter_254
                      · skip
                        rw [if_neg c239] at hR
                        refine lv_iload_n hx hb dX10_shorter_242 rfl (lv_at hl 2 rfl) ?_
                        refine lv_bipush (v := (13 : Int32)) hx hb dX10_shorter_243 (by decide) ?_
                        refine lv_icmp_ge (tgt := 252) hx hb dX10_shorter_245 (by decide) (fun c245 => ?_) (fun c245 => ?_)
                        · skip
                          rw [if_pos c245] at hR
                          refine lv_bipush (v := (-9 : Int32)) hx hb dX10_shorter_252 (by decide) ?_
                          exact W.iret (v := (-9 : Int32)) hx hb hr (fun t ht hW => ⟨⟨_, _, rfl, hR, by rw [ht]; exact hP, va_K.moved hW.alike hK, hD⟩, hS.F ht⟩) hS.2.2 dX10_shorter_254
                        · skip
                          rw [if_neg c245] at hR
                          refine lv_iload_n hx hb dX10_shorter_248 rfl (lv_at hl 3 rfl) ?_
                          refine lv_goto (tgt := 254) hx hb dX10_shorter_249 (by decide) ?_
                          exact W.iret (v := x1) hx hb hr (fun t ht hW => ⟨⟨_, _, rfl, hR, by rw [ht]; exact hP, va_K.moved hW.alike hK, hD⟩, hS.F ht⟩) hS.2.2 dX10_shorter_254
                · skip
                  rw [if_pos c195] at hR
                  refine lv_aload_n hx hb dX10_shorter_198 rfl (lv_at hl 1 rfl) ?_
                  refine lv_iload_n hx hb dX10_shorter_199 rfl (lv_at hl 3 rfl) ?_
                  refine wl_ci (va_runV (As := [.int x1]) (rest := []) ⟨hx, hb, hml, hown, hta⟩ (km_Mod_isZero l dC dI a k st x1 hA) (cwV 1 hta gX10_136 rfl rfl rfl (by decide +kernel) ⟨Nat.le_of_ble_eq_true rfl, Nat.le_of_ble_eq_true rfl⟩) (wl_pR (C := RX10) (ci := 8) (q0 := 0) hK hP rfl (mr_0 a k st)) rfl rfl hl.1 rfl (lv_room (Nat.le_of_ble_eq_true rfl)) dX10_shorter_200 ⟨Nat.zero_le _, Nat.zero_le _⟩) ?_
                  refine lv_if_ne (tgt := 214) hx hb dX10_shorter_203 (by decide) (fun c203 => ?_) (fun c203 => ?_)
                  · skip
                    rw [if_neg c203] at hR
                    refine lv_aload_n hx hb dX10_shorter_214 rfl (lv_at hl 1 rfl) ?_
                    refine lv_iload hx hb dX10_shorter_215 (lv_at hl 0 rfl) ?_
                    refine lv_lconst (v := (0 : Int64)) hx hb dX10_shorter_217 (by decide) ?_
                    refine wl_mi (va_runV (As := [.int (fA st 4 x1.toNatClampNeg), .long (0 : Int64)]) (rest := []) ⟨hx, hb, hml, hown, hta⟩ (km_Mod_constantOf l dC dI a k st (fA st 4 x1.toNatClampNeg) (0 : Int64) _ N hN h64) (cwV 2 hta gX10_84 rfl rfl rfl (by decide +kernel) ⟨Nat.le_of_ble_eq_true rfl, Nat.le_of_ble_eq_true rfl⟩) (wl_pM (C := RX10) (ci := 8) (q0 := 0) hK hP hD rfl (mr_0 a k st)) rfl rfl hl.1 rfl (lv_room (Nat.le_of_ble_eq_true rfl)) dX10_shorter_218 ⟨Nat.zero_le _, Nat.zero_le _⟩) hP hD hS hAz (fun r218 u218 H locs hw218 hP hD hS => ?_)
                    have v218 : (fm_Mod_constantOf st (fA st 4 x1.toNatClampNeg) (0 : Int64)).1 = r218 := congrArg Prod.fst hw218.symm
                    have w218 : (fm_Mod_constantOf st (fA st 4 x1.toNatClampNeg) (0 : Int64)).2 = u218 := congrArg Prod.snd hw218.symm
                    have hf218 : XF [0] [0, 1, 2, 3, 4] [0] st u218 := by rw [← w218]; exact ff_Mod_constantOf st (fA st 4 x1.toNatClampNeg) (0 : Int64)
                    try rw [v218] at hR
                    try rw [w218] at hR
                    exact W.iret (v := r218) hx hb hr (fun t ht hW => ⟨⟨_, _, rfl, hR, by rw [ht]; exact hP, va_K.moved hW.alike hK, hD⟩, hS.F ht⟩) hS.2.2 dX10_shorter_221
                  · skip
                    rw [if_pos c203] at hR
                    refine lv_aload_n hx hb dX10_shorter_206 rfl (lv_at hl 1 rfl) ?_
                    refine lv_iload_n hx hb dX10_shorter_207 rfl (lv_at hl 4 rfl) ?_
                    refine wl_ci (va_runV (As := [.int y1]) (rest := []) ⟨hx, hb, hml, hown, hta⟩ (km_Mod_isZero l dC dI a k st y1 (hY (wl_ln c57) c85 c11)) (cwV 1 hta gX10_136 rfl rfl rfl (by decide +kernel) ⟨Nat.le_of_ble_eq_true rfl, Nat.le_of_ble_eq_true rfl⟩) (wl_pR (C := RX10) (ci := 8) (q0 := 0) hK hP rfl (mr_0 a k st)) rfl rfl hl.1 rfl (lv_room (Nat.le_of_ble_eq_true rfl)) dX10_shorter_208 ⟨Nat.zero_le _, Nat.zero_le _⟩) ?_
                    refine lv_if_eq (tgt := 222) hx hb dX10_shorter_211 (by decide) (fun c211 => ?_) (fun c211 => ?_)
                    · skip
                      rw [if_pos c211] at hR
                      refine lv_aload_n hx hb dX10_shorter_222 rfl (lv_at hl 1 rfl) ?_
                      refine lv_iload_n hx hb dX10_shorter_223 rfl (lv_at hl 4 rfl) ?_
                      refine wl_ci (va_runV (As := [.int y1]) (rest := []) ⟨hx, hb, hml, hown, hta⟩ (km_Mod_isZero l dC dI a k st y1 (hY (wl_ln c57) c85 c11)) (cwV 1 hta gX10_136 rfl rfl rfl (by decide +kernel) ⟨Nat.le_of_ble_eq_true rfl, Nat.le_of_ble_eq_true rfl⟩) (wl_pR (C := RX10) (ci := 8) (q0 := 0) hK hP rfl (mr_0 a k st)) rfl rfl hl.1 rfl (lv_room (Nat.le_of_ble_eq_true rfl)) dX10_shorter_224 ⟨Nat.zero_le _, Nat.zero_le _⟩) ?_
                      refine lv_if_eq (tgt := 252) hx hb dX10_shorter_227 (by decide) (fun c227 => ?_) (fun c227 => ?_)
                      · skip
                        refine lv_bipush (v := (-9 : Int32)) hx hb dX10_shorter_252 (by decide) ?_
                        exact W.iret (v := (-9 : Int32)) hx hb hr (fun t ht hW => ⟨⟨_, _, rfl, hR, by rw [ht]; exact hP, va_K.moved hW.alike hK, hD⟩, hS.F ht⟩) hS.2.2 dX10_shorter_254
                      · skip
                        exact absurd c211 c227
                    · skip
                      rw [if_neg c211] at hR
                      refine lv_aload_n hx hb dX10_shorter_214 rfl (lv_at hl 1 rfl) ?_
                      refine lv_iload hx hb dX10_shorter_215 (lv_at hl 0 rfl) ?_
                      refine lv_lconst (v := (0 : Int64)) hx hb dX10_shorter_217 (by decide) ?_
                      refine wl_mi (va_runV (As := [.int (fA st 4 x1.toNatClampNeg), .long (0 : Int64)]) (rest := []) ⟨hx, hb, hml, hown, hta⟩ (km_Mod_constantOf l dC dI a k st (fA st 4 x1.toNatClampNeg) (0 : Int64) _ N hN h64) (cwV 2 hta gX10_84 rfl rfl rfl (by decide +kernel) ⟨Nat.le_of_ble_eq_true rfl, Nat.le_of_ble_eq_true rfl⟩) (wl_pM (C := RX10) (ci := 8) (q0 := 0) hK hP hD rfl (mr_0 a k st)) rfl rfl hl.1 rfl (lv_room (Nat.le_of_ble_eq_true rfl)) dX10_shorter_218 ⟨Nat.zero_le _, Nat.zero_le _⟩) hP hD hS hAz (fun r218 u218 H locs hw218 hP hD hS => ?_)
                      have v218 : (fm_Mod_constantOf st (fA st 4 x1.toNatClampNeg) (0 : Int64)).1 = r218 := congrArg Prod.fst hw218.symm
                      have w218 : (fm_Mod_constantOf st (fA st 4 x1.toNatClampNeg) (0 : Int64)).2 = u218 := congrArg Prod.snd hw218.symm
                      have hf218 : XF [0] [0, 1, 2, 3, 4] [0] st u218 := by rw [← w218]; exact ff_Mod_constantOf st (fA st 4 x1.toNatClampNeg) (0 : Int64)
                      try rw [v218] at hR
                      try rw [w218] at hR
                      exact W.iret (v := r218) hx hb hr (fun t ht hW => ⟨⟨_, _, rfl, hR, by rw [ht]; exact hP, va_K.moved hW.alike hK, hD⟩, hS.F ht⟩) hS.2.2 dX10_shorter_221
            · skip
              exact absurd c147 c168
          · skip
            rw [if_neg c147] at hR
            refine lv_iload_n hx hb dX10_shorter_150 rfl (lv_at hl 2 rfl) ?_
            refine lv_bipush (v := (6 : Int32)) hx hb dX10_shorter_151 (by decide) ?_
            refine lv_icmp_ge (tgt := 166) hx hb dX10_shorter_153 (by decide) (fun c153 => ?_) (fun c153 => ?_)
            · skip
              rw [if_pos c153] at hR
              refine lv_iload_n hx hb dX10_shorter_166 rfl (lv_at hl 2 rfl) ?_
              refine lv_iconst (v := (2 : Int32)) hx hb dX10_shorter_167 (by decide) ?_
              refine lv_icmp_le (tgt := 187) hx hb dX10_shorter_168 (by decide) (fun c168 => ?_) (fun c168 => ?_)
              · skip
                exact absurd c168 c147
              · skip
                refine lv_iload_n hx hb dX10_shorter_171 rfl (lv_at hl 2 rfl) ?_
                refine lv_bipush (v := (6 : Int32)) hx hb dX10_shorter_172 (by decide) ?_
                refine lv_icmp_ge (tgt := 187) hx hb dX10_shorter_174 (by decide) (fun c174 => ?_) (fun c174 => ?_)
                · skip
                  refine lv_iload_n hx hb dX10_shorter_187 rfl (lv_at hl 2 rfl) ?_
                  refine lv_iconst (v := (2 : Int32)) hx hb dX10_shorter_188 (by decide) ?_
                  refine lv_icmp_eq (tgt := 198) hx hb dX10_shorter_189 (by decide) (fun c189 => ?_) (fun c189 => ?_)
                  · skip
                    rw [if_pos c189] at hR
                    refine lv_aload_n hx hb dX10_shorter_198 rfl (lv_at hl 1 rfl) ?_
                    refine lv_iload_n hx hb dX10_shorter_199 rfl (lv_at hl 3 rfl) ?_
                    refine wl_ci (va_runV (As := [.int x1]) (rest := []) ⟨hx, hb, hml, hown, hta⟩ (km_Mod_isZero l dC dI a k st x1 hA) (cwV 1 hta gX10_136 rfl rfl rfl (by decide +kernel) ⟨Nat.le_of_ble_eq_true rfl, Nat.le_of_ble_eq_true rfl⟩) (wl_pR (C := RX10) (ci := 8) (q0 := 0) hK hP rfl (mr_0 a k st)) rfl rfl hl.1 rfl (lv_room (Nat.le_of_ble_eq_true rfl)) dX10_shorter_200 ⟨Nat.zero_le _, Nat.zero_le _⟩) ?_
                    refine lv_if_ne (tgt := 214) hx hb dX10_shorter_203 (by decide) (fun c203 => ?_) (fun c203 => ?_)
                    · skip
                      rw [if_neg c203] at hR
                      refine lv_aload_n hx hb dX10_shorter_214 rfl (lv_at hl 1 rfl) ?_
                      refine lv_iload hx hb dX10_shorter_215 (lv_at hl 0 rfl) ?_
                      refine lv_lconst (v := (0 : Int64)) hx hb dX10_shorter_217 (by decide) ?_
                      refine wl_mi (va_runV (As := [.int (fA st 4 x1.toNatClampNeg), .long (0 : Int64)]) (rest := []) ⟨hx, hb, hml, hown, hta⟩ (km_Mod_constantOf l dC dI a k st (fA st 4 x1.toNatClampNeg) (0 : Int64) _ N hN h64) (cwV 2 hta gX10_84 rfl rfl rfl (by decide +kernel) ⟨Nat.le_of_ble_eq_true rfl, Nat.le_of_ble_eq_true rfl⟩) (wl_pM (C := RX10) (ci := 8) (q0 := 0) hK hP hD rfl (mr_0 a k st)) rfl rfl hl.1 rfl (lv_room (Nat.le_of_ble_eq_true rfl)) dX10_shorter_218 ⟨Nat.zero_le _, Nat.zero_le _⟩) hP hD hS hAz (fun r218 u218 H locs hw218 hP hD hS => ?_)
                      have v218 : (fm_Mod_constantOf st (fA st 4 x1.toNatClampNeg) (0 : Int64)).1 = r218 := congrArg Prod.fst hw218.symm
                      have w218 : (fm_Mod_constantOf st (fA st 4 x1.toNatClampNeg) (0 : Int64)).2 = u218 := congrArg Prod.snd hw218.symm
                      have hf218 : XF [0] [0, 1, 2, 3, 4] [0] st u218 := by rw [← w218]; exact ff_Mod_constantOf st (fA st 4 x1.toNatClampNeg) (0 : Int64)
                      try rw [v218] at hR
                      try rw [w218] at hR
                      exact W.iret (v := r218) hx hb hr (fun t ht hW => ⟨⟨_, _, rfl, hR, by rw [ht]; exact hP, va_K.moved hW.alike hK, hD⟩, hS.F ht⟩) hS.2.2 dX10_shorter_221
                    · skip
                      rw [if_pos c203] at hR
                      refine lv_aload_n hx hb dX10_shorter_206 rfl (lv_at hl 1 rfl) ?_
                      refine lv_iload_n hx hb dX10_shorter_207 rfl (lv_at hl 4 rfl) ?_
                      refine wl_ci (va_runV (As := [.int y1]) (rest := []) ⟨hx, hb, hml, hown, hta⟩ (km_Mod_isZero l dC dI a k st y1 (hY (wl_ln c57) c85 c11)) (cwV 1 hta gX10_136 rfl rfl rfl (by decide +kernel) ⟨Nat.le_of_ble_eq_true rfl, Nat.le_of_ble_eq_true rfl⟩) (wl_pR (C := RX10) (ci := 8) (q0 := 0) hK hP rfl (mr_0 a k st)) rfl rfl hl.1 rfl (lv_room (Nat.le_of_ble_eq_true rfl)) dX10_shorter_208 ⟨Nat.zero_le _, Nat.zero_le _⟩) ?_
                      refine lv_if_eq (tgt := 222) hx hb dX10_shorter_211 (by decide) (fun c211 => ?_) (fun c211 => ?_)
                      · skip
                        rw [if_pos c211] at hR
                        refine lv_aload_n hx hb dX10_shorter_222 rfl (lv_at hl 1 rfl) ?_
                        refine lv_iload_n hx hb dX10_shorter_223 rfl (lv_at hl 4 rfl) ?_
                        refine wl_ci (va_runV (As := [.int y1]) (rest := []) ⟨hx, hb, hml, hown, hta⟩ (km_Mod_isZero l dC dI a k st y1 (hY (wl_ln c57) c85 c11)) (cwV 1 hta gX10_136 rfl rfl rfl (by decide +kernel) ⟨Nat.le_of_ble_eq_true rfl, Nat.le_of_ble_eq_true rfl⟩) (wl_pR (C := RX10) (ci := 8) (q0 := 0) hK hP rfl (mr_0 a k st)) rfl rfl hl.1 rfl (lv_room (Nat.le_of_ble_eq_true rfl)) dX10_shorter_224 ⟨Nat.zero_le _, Nat.zero_le _⟩) ?_
                        refine lv_if_eq (tgt := 252) hx hb dX10_shorter_227 (by decide) (fun c227 => ?_) (fun c227 => ?_)
                        · skip
                          refine lv_bipush (v := (-9 : Int32)) hx hb dX10_shorter_252 (by decide) ?_
                          exact W.iret (v := (-9 : Int32)) hx hb hr (fun t ht hW => ⟨⟨_, _, rfl, hR, by rw [ht]; exact hP, va_K.moved hW.alike hK, hD⟩, hS.F ht⟩) hS.2.2 dX10_shorter_254
                        · skip
                          exact absurd c211 c227
                      · skip
                        rw [if_neg c211] at hR
                        refine lv_aload_n hx hb dX10_shorter_214 rfl (lv_at hl 1 rfl) ?_
                        refine lv_iload hx hb dX10_shorter_215 (lv_at hl 0 rfl) ?_
                        refine lv_lconst (v := (0 : Int64)) hx hb dX10_shorter_217 (by decide) ?_
                        refine wl_mi (va_runV (As := [.int (fA st 4 x1.toNatClampNeg), .long (0 : Int64)]) (rest := []) ⟨hx, hb, hml, hown, hta⟩ (km_Mod_constantOf l dC dI a k st (fA st 4 x1.toNatClampNeg) (0 : Int64) _ N hN h64) (cwV 2 hta gX10_84 rfl rfl rfl (by decide +kernel) ⟨Nat.le_of_ble_eq_true rfl, Nat.le_of_ble_eq_true rfl⟩) (wl_pM (C := RX10) (ci := 8) (q0 := 0) hK hP hD rfl (mr_0 a k st)) rfl rfl hl.1 rfl (lv_room (Nat.le_of_ble_eq_true rfl)) dX10_shorter_218 ⟨Nat.zero_le _, Nat.zero_le _⟩) hP hD hS hAz (fun r218 u218 H locs hw218 hP hD hS => ?_)
                        have v218 : (fm_Mod_constantOf st (fA st 4 x1.toNatClampNeg) (0 : Int64)).1 = r218 := congrArg Prod.fst hw218.symm
                        have w218 : (fm_Mod_constantOf st (fA st 4 x1.toNatClampNeg) (0 : Int64)).2 = u218 := congrArg Prod.snd hw218.symm
                        have hf218 : XF [0] [0, 1, 2, 3, 4] [0] st u218 := by rw [← w218]; exact ff_Mod_constantOf st (fA st 4 x1.toNatClampNeg) (0 : Int64)
                        try rw [v218] at hR
                        try rw [w218] at hR
                        exact W.iret (v := r218) hx hb hr (fun t ht hW => ⟨⟨_, _, rfl, hR, by rw [ht]; exact hP, va_K.moved hW.alike hK, hD⟩, hS.F ht⟩) hS.2.2 dX10_shorter_221
                  · skip
                    rw [if_neg c189] at hR
                    refine lv_iload_n hx hb dX10_shorter_192 rfl (lv_at hl 2 rfl) ?_
                    refine lv_bipush (v := (7 : Int32)) hx hb dX10_shorter_193 (by decide) ?_
                    refine lv_icmp_ne (tgt := 222) hx hb dX10_shorter_195 (by decide) (fun c195 => ?_) (fun c195 => ?_)
                    · skip
                      rw [if_neg c195] at hR
                      refine lv_aload_n hx hb dX10_shorter_222 rfl (lv_at hl 1 rfl) ?_
                      refine lv_iload_n hx hb dX10_shorter_223 rfl (lv_at hl 4 rfl) ?_
                      refine wl_ci (va_runV (As := [.int y1]) (rest := []) ⟨hx, hb, hml, hown, hta⟩ (km_Mod_isZero l dC dI a k st y1 (hY (wl_ln c57) c85 c11)) (cwV 1 hta gX10_136 rfl rfl rfl (by decide +kernel) ⟨Nat.le_of_ble_eq_true rfl, Nat.le_of_ble_eq_true rfl⟩) (wl_pR (C := RX10) (ci := 8) (q0 := 0) hK hP rfl (mr_0 a k st)) rfl rfl hl.1 rfl (lv_room (Nat.le_of_ble_eq_true rfl)) dX10_shorter_224 ⟨Nat.zero_le _, Nat.zero_le _⟩) ?_
                      refine lv_if_eq (tgt := 252) hx hb dX10_shorter_227 (by decide) (fun c227 => ?_) (fun c227 => ?_)
                      · skip
                        rw [if_pos c227] at hR
                        refine lv_bipush (v := (-9 : Int32)) hx hb dX10_shorter_252 (by decide) ?_
                        exact W.iret (v := (-9 : Int32)) hx hb hr (fun t ht hW => ⟨⟨_, _, rfl, hR, by rw [ht]; exact hP, va_K.moved hW.alike hK, hD⟩, hS.F ht⟩) hS.2.2 dX10_shorter_254
                      · skip
                        rw [if_neg c227] at hR
                        refine lv_iload_n hx hb dX10_shorter_230 rfl (lv_at hl 2 rfl) ?_
                        refine lv_bipush (v := (6 : Int32)) hx hb dX10_shorter_231 (by decide) ?_
                        refine lv_icmp_eq (tgt := 248) hx hb dX10_shorter_233 (by decide) (fun c233 => ?_) (fun c233 => ?_)
                        · skip
                          rw [if_pos c233] at hR
                          refine lv_iload_n hx hb dX10_shorter_248 rfl (lv_at hl 3 rfl) ?_
                          refine lv_goto (tgt := 254) hx hb dX10_shorter_249 (by decide) ?_
                          exact W.iret (v := x1) hx hb hr (fun t ht hW => ⟨⟨_, _, rfl, hR, by rw [ht]; exact hP, va_K.moved hW.alike hK, hD⟩, hS.F ht⟩) hS.2.2 dX10_shorter_254
                        · skip
                          rw [if_neg c233] at hR
                          refine lv_iload_n hx hb dX10_shorter_236 rfl (lv_at hl 2 rfl) ?_
                          refine lv_bipush (v := (9 : Int32)) hx hb dX10_shorter_237 (by decide) ?_
                          refine lv_icmp_le (tgt := 252) hx hb dX10_shorter_239 (by decide) (fun c239 => ?_) (fun c239 => ?_)
                          · skip
                            rw [if_pos c239] at hR
                            refine lv_bipush (v := (-9 : Int32)) hx hb dX10_shorter_252 (by decide) ?_
                            exact W.iret (v := (-9 : Int32)) hx hb hr (fun t ht hW => ⟨⟨_, _, rfl, hR, by rw [ht]; exact hP, va_K.moved hW.alike hK, hD⟩, hS.F ht⟩) hS.2.2 dX10_shorter_254
                          · skip
                            rw [if_neg c239] at hR
                            refine lv_iload_n hx hb dX10_shorter_242 rfl (lv_at hl 2 rfl) ?_
                            refine lv_bipush (v := (13 : Int32)) hx hb dX10_shorter_243 (by decide) ?_
                            refine lv_icmp_ge (tgt := 252) hx hb dX10_shorter_245 (by decide) (fun c245 => ?_) (fun c245 => ?_)
                            · skip
                              rw [if_pos c245] at hR
                              refine lv_bipush (v := (-9 : Int32)) hx hb dX10_shorter_252 (by decide) ?_
                              exact W.iret (v := (-9 : Int32)) hx hb hr (fun t ht hW => ⟨⟨_, _, rfl, hR, by rw [ht]; exact hP, va_K.moved hW.alike hK, hD⟩, hS.F ht⟩) hS.2.2 dX10_shorter_254
                            · skip
                              rw [if_neg c245] at hR
                              refine lv_iload_n hx hb dX10_shorter_248 rfl (lv_at hl 3 rfl) ?_
                              refine lv_goto (tgt := 254) hx hb dX10_shorter_249 (by decide) ?_
                              exact W.iret (v := x1) hx hb hr (fun t ht hW => ⟨⟨_, _, rfl, hR, by rw [ht]; exact hP, va_K.moved hW.alike hK, hD⟩, hS.F ht⟩) hS.2.2 dX10_shorter_254
                    · skip
                      rw [if_pos c195] at hR
                      refine lv_aload_n hx hb dX10_shorter_198 rfl (lv_at hl 1 rfl) ?_
                      refine lv_iload_n hx hb dX10_shorter_199 rfl (lv_at hl 3 rfl) ?_
                      refine wl_ci (va_runV (As := [.int x1]) (rest := []) ⟨hx, hb, hml, hown, hta⟩ (km_Mod_isZero l dC dI a k st x1 hA) (cwV 1 hta gX10_136 rfl rfl rfl (by decide +kernel) ⟨Nat.le_of_ble_eq_true rfl, Nat.le_of_ble_eq_true rfl⟩) (wl_pR (C := RX10) (ci := 8) (q0 := 0) hK hP rfl (mr_0 a k st)) rfl rfl hl.1 rfl (lv_room (Nat.le_of_ble_eq_true rfl)) dX10_shorter_200 ⟨Nat.zero_le _, Nat.zero_le _⟩) ?_
                      refine lv_if_ne (tgt := 214) hx hb dX10_shorter_203 (by decide) (fun c203 => ?_) (fun c203 => ?_)
                      · skip
                        rw [if_neg c203] at hR
                        refine lv_aload_n hx hb dX10_shorter_214 rfl (lv_at hl 1 rfl) ?_
                        refine lv_iload hx hb dX10_shorter_215 (lv_at hl 0 rfl) ?_
                        refine lv_lconst (v := (0 : Int64)) hx hb dX10_shorter_217 (by decide) ?_
                        refine wl_mi (va_runV (As := [.int (fA st 4 x1.toNatClampNeg), .long (0 : Int64)]) (rest := []) ⟨hx, hb, hml, hown, hta⟩ (km_Mod_constantOf l dC dI a k st (fA st 4 x1.toNatClampNeg) (0 : Int64) _ N hN h64) (cwV 2 hta gX10_84 rfl rfl rfl (by decide +kernel) ⟨Nat.le_of_ble_eq_true rfl, Nat.le_of_ble_eq_true rfl⟩) (wl_pM (C := RX10) (ci := 8) (q0 := 0) hK hP hD rfl (mr_0 a k st)) rfl rfl hl.1 rfl (lv_room (Nat.le_of_ble_eq_true rfl)) dX10_shorter_218 ⟨Nat.zero_le _, Nat.zero_le _⟩) hP hD hS hAz (fun r218 u218 H locs hw218 hP hD hS => ?_)
                        have v218 : (fm_Mod_constantOf st (fA st 4 x1.toNatClampNeg) (0 : Int64)).1 = r218 := congrArg Prod.fst hw218.symm
                        have w218 : (fm_Mod_constantOf st (fA st 4 x1.toNatClampNeg) (0 : Int64)).2 = u218 := congrArg Prod.snd hw218.symm
                        have hf218 : XF [0] [0, 1, 2, 3, 4] [0] st u218 := by rw [← w218]; exact ff_Mod_constantOf st (fA st 4 x1.toNatClampNeg) (0 : Int64)
                        try rw [v218] at hR
                        try rw [w218] at hR
                        exact W.iret (v := r218) hx hb hr (fun t ht hW => ⟨⟨_, _, rfl, hR, by rw [ht]; exact hP, va_K.moved hW.alike hK, hD⟩, hS.F ht⟩) hS.2.2 dX10_shorter_221
                      · skip
                        rw [if_pos c203] at hR
                        refine lv_aload_n hx hb dX10_shorter_206 rfl (lv_at hl 1 rfl) ?_
                        refine lv_iload_n hx hb dX10_shorter_207 rfl (lv_at hl 4 rfl) ?_
                        refine wl_ci (va_runV (As := [.int y1]) (rest := []) ⟨hx, hb, hml, hown, hta⟩ (km_Mod_isZero l dC dI a k st y1 (hY (wl_ln c57) c85 c11)) (cwV 1 hta gX10_136 rfl rfl rfl (by decide +kernel) ⟨Nat.le_of_ble_eq_true rfl, Nat.le_of_ble_eq_true rfl⟩) (wl_pR (C := RX10) (ci := 8) (q0 := 0) hK hP rfl (mr_0 a k st)) rfl rfl hl.1 rfl (lv_room (Nat.le_of_ble_eq_true rfl)) dX10_shorter_208 ⟨Nat.zero_le _, Nat.zero_le _⟩) ?_
                        refine lv_if_eq (tgt := 222) hx hb dX10_shorter_211 (by decide) (fun c211 => ?_) (fun c211 => ?_)
                        · skip
                          rw [if_pos c211] at hR
                          refine lv_aload_n hx hb dX10_shorter_222 rfl (lv_at hl 1 rfl) ?_
                          refine lv_iload_n hx hb dX10_shorter_223 rfl (lv_at hl 4 rfl) ?_
                          refine wl_ci (va_runV (As := [.int y1]) (rest := []) ⟨hx, hb, hml, hown, hta⟩ (km_Mod_isZero l dC dI a k st y1 (hY (wl_ln c57) c85 c11)) (cwV 1 hta gX10_136 rfl rfl rfl (by decide +kernel) ⟨Nat.le_of_ble_eq_true rfl, Nat.le_of_ble_eq_true rfl⟩) (wl_pR (C := RX10) (ci := 8) (q0 := 0) hK hP rfl (mr_0 a k st)) rfl rfl hl.1 rfl (lv_room (Nat.le_of_ble_eq_true rfl)) dX10_shorter_224 ⟨Nat.zero_le _, Nat.zero_le _⟩) ?_
                          refine lv_if_eq (tgt := 252) hx hb dX10_shorter_227 (by decide) (fun c227 => ?_) (fun c227 => ?_)
                          · skip
                            refine lv_bipush (v := (-9 : Int32)) hx hb dX10_shorter_252 (by decide) ?_
                            exact W.iret (v := (-9 : Int32)) hx hb hr (fun t ht hW => ⟨⟨_, _, rfl, hR, by rw [ht]; exact hP, va_K.moved hW.alike hK, hD⟩, hS.F ht⟩) hS.2.2 dX10_shorter_254
                          · skip
                            exact absurd c211 c227
                        · skip
                          rw [if_neg c211] at hR
                          refine lv_aload_n hx hb dX10_shorter_214 rfl (lv_at hl 1 rfl) ?_
                          refine lv_iload hx hb dX10_shorter_215 (lv_at hl 0 rfl) ?_
                          refine lv_lconst (v := (0 : Int64)) hx hb dX10_shorter_217 (by decide) ?_
                          refine wl_mi (va_runV (As := [.int (fA st 4 x1.toNatClampNeg), .long (0 : Int64)]) (rest := []) ⟨hx, hb, hml, hown, hta⟩ (km_Mod_constantOf l dC dI a k st (fA st 4 x1.toNatClampNeg) (0 : Int64) _ N hN h64) (cwV 2 hta gX10_84 rfl rfl rfl (by decide +kernel) ⟨Nat.le_of_ble_eq_true rfl, Nat.le_of_ble_eq_true rfl⟩) (wl_pM (C := RX10) (ci := 8) (q0 := 0) hK hP hD rfl (mr_0 a k st)) rfl rfl hl.1 rfl (lv_room (Nat.le_of_ble_eq_true rfl)) dX10_shorter_218 ⟨Nat.zero_le _, Nat.zero_le _⟩) hP hD hS hAz (fun r218 u218 H locs hw218 hP hD hS => ?_)
                          have v218 : (fm_Mod_constantOf st (fA st 4 x1.toNatClampNeg) (0 : Int64)).1 = r218 := congrArg Prod.fst hw218.symm
                          have w218 : (fm_Mod_constantOf st (fA st 4 x1.toNatClampNeg) (0 : Int64)).2 = u218 := congrArg Prod.snd hw218.symm
                          have hf218 : XF [0] [0, 1, 2, 3, 4] [0] st u218 := by rw [← w218]; exact ff_Mod_constantOf st (fA st 4 x1.toNatClampNeg) (0 : Int64)
                          try rw [v218] at hR
                          try rw [w218] at hR
                          exact W.iret (v := r218) hx hb hr (fun t ht hW => ⟨⟨_, _, rfl, hR, by rw [ht]; exact hP, va_K.moved hW.alike hK, hD⟩, hS.F ht⟩) hS.2.2 dX10_shorter_221
                · skip
                  exact absurd c153 c174
            · skip
              rw [if_neg c153] at hR
              refine lv_aload_n hx hb dX10_shorter_156 rfl (lv_at hl 1 rfl) ?_
              refine lv_iload_n hx hb dX10_shorter_157 rfl (lv_at hl 3 rfl) ?_
              refine wl_ci (va_runV (As := [.int x1]) (rest := []) ⟨hx, hb, hml, hown, hta⟩ (km_Mod_isZero l dC dI a k st x1 hA) (cwV 1 hta gX10_136 rfl rfl rfl (by decide +kernel) ⟨Nat.le_of_ble_eq_true rfl, Nat.le_of_ble_eq_true rfl⟩) (wl_pR (C := RX10) (ci := 8) (q0 := 0) hK hP rfl (mr_0 a k st)) rfl rfl hl.1 rfl (lv_room (Nat.le_of_ble_eq_true rfl)) dX10_shorter_158 ⟨Nat.zero_le _, Nat.zero_le _⟩) ?_
              refine lv_if_eq (tgt := 166) hx hb dX10_shorter_161 (by decide) (fun c161 => ?_) (fun c161 => ?_)
              · skip
                rw [if_pos c161] at hR
                refine lv_iload_n hx hb dX10_shorter_166 rfl (lv_at hl 2 rfl) ?_
                refine lv_iconst (v := (2 : Int32)) hx hb dX10_shorter_167 (by decide) ?_
                refine lv_icmp_le (tgt := 187) hx hb dX10_shorter_168 (by decide) (fun c168 => ?_) (fun c168 => ?_)
                · skip
                  exact absurd c168 c147
                · skip
                  refine lv_iload_n hx hb dX10_shorter_171 rfl (lv_at hl 2 rfl) ?_
                  refine lv_bipush (v := (6 : Int32)) hx hb dX10_shorter_172 (by decide) ?_
                  refine lv_icmp_ge (tgt := 187) hx hb dX10_shorter_174 (by decide) (fun c174 => ?_) (fun c174 => ?_)
                  · skip
                    exact absurd c174 c153
                  · skip
                    refine lv_aload_n hx hb dX10_shorter_177 rfl (lv_at hl 1 rfl) ?_
                    refine lv_iload_n hx hb dX10_shorter_178 rfl (lv_at hl 4 rfl) ?_
                    refine wl_ci (va_runV (As := [.int y1]) (rest := []) ⟨hx, hb, hml, hown, hta⟩ (km_Mod_isZero l dC dI a k st y1 (hY (wl_ln c57) c85 c11)) (cwV 1 hta gX10_136 rfl rfl rfl (by decide +kernel) ⟨Nat.le_of_ble_eq_true rfl, Nat.le_of_ble_eq_true rfl⟩) (wl_pR (C := RX10) (ci := 8) (q0 := 0) hK hP rfl (mr_0 a k st)) rfl rfl hl.1 rfl (lv_room (Nat.le_of_ble_eq_true rfl)) dX10_shorter_179 ⟨Nat.zero_le _, Nat.zero_le _⟩) ?_
                    refine lv_if_eq (tgt := 187) hx hb dX10_shorter_182 (by decide) (fun c182 => ?_) (fun c182 => ?_)
                    · skip
                      rw [if_pos c182] at hR
                      refine lv_iload_n hx hb dX10_shorter_187 rfl (lv_at hl 2 rfl) ?_
                      refine lv_iconst (v := (2 : Int32)) hx hb dX10_shorter_188 (by decide) ?_
                      refine lv_icmp_eq (tgt := 198) hx hb dX10_shorter_189 (by decide) (fun c189 => ?_) (fun c189 => ?_)
                      · skip
                        rw [if_pos c189] at hR
                        refine lv_aload_n hx hb dX10_shorter_198 rfl (lv_at hl 1 rfl) ?_
                        refine lv_iload_n hx hb dX10_shorter_199 rfl (lv_at hl 3 rfl) ?_
                        refine wl_ci (va_runV (As := [.int x1]) (rest := []) ⟨hx, hb, hml, hown, hta⟩ (km_Mod_isZero l dC dI a k st x1 hA) (cwV 1 hta gX10_136 rfl rfl rfl (by decide +kernel) ⟨Nat.le_of_ble_eq_true rfl, Nat.le_of_ble_eq_true rfl⟩) (wl_pR (C := RX10) (ci := 8) (q0 := 0) hK hP rfl (mr_0 a k st)) rfl rfl hl.1 rfl (lv_room (Nat.le_of_ble_eq_true rfl)) dX10_shorter_200 ⟨Nat.zero_le _, Nat.zero_le _⟩) ?_
                        refine lv_if_ne (tgt := 214) hx hb dX10_shorter_203 (by decide) (fun c203 => ?_) (fun c203 => ?_)
                        · skip
                          exact absurd c161 c203
                        · skip
                          refine lv_aload_n hx hb dX10_shorter_206 rfl (lv_at hl 1 rfl) ?_
                          refine lv_iload_n hx hb dX10_shorter_207 rfl (lv_at hl 4 rfl) ?_
                          refine wl_ci (va_runV (As := [.int y1]) (rest := []) ⟨hx, hb, hml, hown, hta⟩ (km_Mod_isZero l dC dI a k st y1 (hY (wl_ln c57) c85 c11)) (cwV 1 hta gX10_136 rfl rfl rfl (by decide +kernel) ⟨Nat.le_of_ble_eq_true rfl, Nat.le_of_ble_eq_true rfl⟩) (wl_pR (C := RX10) (ci := 8) (q0 := 0) hK hP rfl (mr_0 a k st)) rfl rfl hl.1 rfl (lv_room (Nat.le_of_ble_eq_true rfl)) dX10_shorter_208 ⟨Nat.zero_le _, Nat.zero_le _⟩) ?_
                          refine lv_if_eq (tgt := 222) hx hb dX10_shorter_211 (by decide) (fun c211 => ?_) (fun c211 => ?_)
                          · skip
                            refine lv_aload_n hx hb dX10_shorter_222 rfl (lv_at hl 1 rfl) ?_
                            refine lv_iload_n hx hb dX10_shorter_223 rfl (lv_at hl 4 rfl) ?_
                            refine wl_ci (va_runV (As := [.int y1]) (rest := []) ⟨hx, hb, hml, hown, hta⟩ (km_Mod_isZero l dC dI a k st y1 (hY (wl_ln c57) c85 c11)) (cwV 1 hta gX10_136 rfl rfl rfl (by decide +kernel) ⟨Nat.le_of_ble_eq_true rfl, Nat.le_of_ble_eq_true rfl⟩) (wl_pR (C := RX10) (ci := 8) (q0 := 0) hK hP rfl (mr_0 a k st)) rfl rfl hl.1 rfl (lv_room (Nat.le_of_ble_eq_true rfl)) dX10_shorter_224 ⟨Nat.zero_le _, Nat.zero_le _⟩) ?_
                            refine lv_if_eq (tgt := 252) hx hb dX10_shorter_227 (by decide) (fun c227 => ?_) (fun c227 => ?_)
                            · skip
                              refine lv_bipush (v := (-9 : Int32)) hx hb dX10_shorter_252 (by decide) ?_
                              exact W.iret (v := (-9 : Int32)) hx hb hr (fun t ht hW => ⟨⟨_, _, rfl, hR, by rw [ht]; exact hP, va_K.moved hW.alike hK, hD⟩, hS.F ht⟩) hS.2.2 dX10_shorter_254
                            · skip
                              exact absurd c182 c227
                          · skip
                            exact absurd c182 c211
                      · skip
                        rw [if_neg c189] at hR
                        refine lv_iload_n hx hb dX10_shorter_192 rfl (lv_at hl 2 rfl) ?_
                        refine lv_bipush (v := (7 : Int32)) hx hb dX10_shorter_193 (by decide) ?_
                        refine lv_icmp_ne (tgt := 222) hx hb dX10_shorter_195 (by decide) (fun c195 => ?_) (fun c195 => ?_)
                        · skip
                          rw [if_neg c195] at hR
                          refine lv_aload_n hx hb dX10_shorter_222 rfl (lv_at hl 1 rfl) ?_
                          refine lv_iload_n hx hb dX10_shorter_223 rfl (lv_at hl 4 rfl) ?_
                          refine wl_ci (va_runV (As := [.int y1]) (rest := []) ⟨hx, hb, hml, hown, hta⟩ (km_Mod_isZero l dC dI a k st y1 (hY (wl_ln c57) c85 c11)) (cwV 1 hta gX10_136 rfl rfl rfl (by decide +kernel) ⟨Nat.le_of_ble_eq_true rfl, Nat.le_of_ble_eq_true rfl⟩) (wl_pR (C := RX10) (ci := 8) (q0 := 0) hK hP rfl (mr_0 a k st)) rfl rfl hl.1 rfl (lv_room (Nat.le_of_ble_eq_true rfl)) dX10_shorter_224 ⟨Nat.zero_le _, Nat.zero_le _⟩) ?_
                          refine lv_if_eq (tgt := 252) hx hb dX10_shorter_227 (by decide) (fun c227 => ?_) (fun c227 => ?_)
                          · skip
                            refine lv_bipush (v := (-9 : Int32)) hx hb dX10_shorter_252 (by decide) ?_
                            exact W.iret (v := (-9 : Int32)) hx hb hr (fun t ht hW => ⟨⟨_, _, rfl, hR, by rw [ht]; exact hP, va_K.moved hW.alike hK, hD⟩, hS.F ht⟩) hS.2.2 dX10_shorter_254
                          · skip
                            exact absurd c182 c227
                        · skip
                          rw [if_pos c195] at hR
                          refine lv_aload_n hx hb dX10_shorter_198 rfl (lv_at hl 1 rfl) ?_
                          refine lv_iload_n hx hb dX10_shorter_199 rfl (lv_at hl 3 rfl) ?_
                          refine wl_ci (va_runV (As := [.int x1]) (rest := []) ⟨hx, hb, hml, hown, hta⟩ (km_Mod_isZero l dC dI a k st x1 hA) (cwV 1 hta gX10_136 rfl rfl rfl (by decide +kernel) ⟨Nat.le_of_ble_eq_true rfl, Nat.le_of_ble_eq_true rfl⟩) (wl_pR (C := RX10) (ci := 8) (q0 := 0) hK hP rfl (mr_0 a k st)) rfl rfl hl.1 rfl (lv_room (Nat.le_of_ble_eq_true rfl)) dX10_shorter_200 ⟨Nat.zero_le _, Nat.zero_le _⟩) ?_
                          refine lv_if_ne (tgt := 214) hx hb dX10_shorter_203 (by decide) (fun c203 => ?_) (fun c203 => ?_)
                          · skip
                            exact absurd c161 c203
                          · skip
                            refine lv_aload_n hx hb dX10_shorter_206 rfl (lv_at hl 1 rfl) ?_
                            refine lv_iload_n hx hb dX10_shorter_207 rfl (lv_at hl 4 rfl) ?_
                            refine wl_ci (va_runV (As := [.int y1]) (rest := []) ⟨hx, hb, hml, hown, hta⟩ (km_Mod_isZero l dC dI a k st y1 (hY (wl_ln c57) c85 c11)) (cwV 1 hta gX10_136 rfl rfl rfl (by decide +kernel) ⟨Nat.le_of_ble_eq_true rfl, Nat.le_of_ble_eq_true rfl⟩) (wl_pR (C := RX10) (ci := 8) (q0 := 0) hK hP rfl (mr_0 a k st)) rfl rfl hl.1 rfl (lv_room (Nat.le_of_ble_eq_true rfl)) dX10_shorter_208 ⟨Nat.zero_le _, Nat.zero_le _⟩) ?_
                            refine lv_if_eq (tgt := 222) hx hb dX10_shorter_211 (by decide) (fun c211 => ?_) (fun c211 => ?_)
                            · skip
                              refine lv_aload_n hx hb dX10_shorter_222 rfl (lv_at hl 1 rfl) ?_
                              refine lv_iload_n hx hb dX10_shorter_223 rfl (lv_at hl 4 rfl) ?_
                              refine wl_ci (va_runV (As := [.int y1]) (rest := []) ⟨hx, hb, hml, hown, hta⟩ (km_Mod_isZero l dC dI a k st y1 (hY (wl_ln c57) c85 c11)) (cwV 1 hta gX10_136 rfl rfl rfl (by decide +kernel) ⟨Nat.le_of_ble_eq_true rfl, Nat.le_of_ble_eq_true rfl⟩) (wl_pR (C := RX10) (ci := 8) (q0 := 0) hK hP rfl (mr_0 a k st)) rfl rfl hl.1 rfl (lv_room (Nat.le_of_ble_eq_true rfl)) dX10_shorter_224 ⟨Nat.zero_le _, Nat.zero_le _⟩) ?_
                              refine lv_if_eq (tgt := 252) hx hb dX10_shorter_227 (by decide) (fun c227 => ?_) (fun c227 => ?_)
                              · skip
                                refine lv_bipush (v := (-9 : Int32)) hx hb dX10_shorter_252 (by decide) ?_
                                exact W.iret (v := (-9 : Int32)) hx hb hr (fun t ht hW => ⟨⟨_, _, rfl, hR, by rw [ht]; exact hP, va_K.moved hW.alike hK, hD⟩, hS.F ht⟩) hS.2.2 dX10_shorter_254
                              · skip
                                exact absurd c182 c227
                            · skip
                              exact absurd c182 c211
                    · skip
                      rw [if_neg c182] at hR
                      refine lv_iload_n hx hb dX10_shorter_185 rfl (lv_at hl 3 rfl) ?_
                      exact W.iret (v := x1) hx hb hr (fun t ht hW => ⟨⟨_, _, rfl, hR, by rw [ht]; exact hP, va_K.moved hW.alike hK, hD⟩, hS.F ht⟩) hS.2.2 dX10_shorter_186
              · skip
                rw [if_neg c161] at hR
                refine lv_iload_n hx hb dX10_shorter_164 rfl (lv_at hl 4 rfl) ?_
                exact W.iret (v := y1) hx hb hr (fun t ht hW => ⟨⟨_, _, rfl, hR, by rw [ht]; exact hP, va_K.moved hW.alike hK, hD⟩, hS.F ht⟩) hS.2.2 dX10_shorter_165
        · skip
          rw [if_pos c93] at hR
          refine lv_iload_n hx hb dX10_shorter_96 rfl (lv_at hl 2 rfl) ?_
          refine lv_iconst (v := (4 : Int32)) hx hb dX10_shorter_97 (by decide) ?_
          refine lv_icmp_ge (tgt := 103) hx hb dX10_shorter_98 (by decide) (fun c98 => ?_) (fun c98 => ?_)
          · skip
            rw [if_pos c98] at hR
            refine lv_iload_n hx hb dX10_shorter_103 rfl (lv_at hl 2 rfl) ?_
            refine lv_iconst (v := (4 : Int32)) hx hb dX10_shorter_104 (by decide) ?_
            refine lv_icmp_eq (tgt := 114) hx hb dX10_shorter_105 (by decide) (fun c105 => ?_) (fun c105 => ?_)
            · skip
              rw [if_pos c105] at hR
              refine lv_aload_n hx hb dX10_shorter_114 rfl (lv_at hl 1 rfl) ?_
              refine lv_iload hx hb dX10_shorter_115 (lv_at hl 0 rfl) ?_
              refine lv_lconst (v := (0 : Int64)) hx hb dX10_shorter_117 (by decide) ?_
              refine wl_mi (va_runV (As := [.int (fA st 4 x1.toNatClampNeg), .long (0 : Int64)]) (rest := []) ⟨hx, hb, hml, hown, hta⟩ (km_Mod_constantOf l dC dI a k st (fA st 4 x1.toNatClampNeg) (0 : Int64) _ N hN h64) (cwV 2 hta gX10_84 rfl rfl rfl (by decide +kernel) ⟨Nat.le_of_ble_eq_true rfl, Nat.le_of_ble_eq_true rfl⟩) (wl_pM (C := RX10) (ci := 8) (q0 := 0) hK hP hD rfl (mr_0 a k st)) rfl rfl hl.1 rfl (lv_room (Nat.le_of_ble_eq_true rfl)) dX10_shorter_118 ⟨Nat.zero_le _, Nat.zero_le _⟩) hP hD hS hAz (fun r118 u118 H locs hw118 hP hD hS => ?_)
              have v118 : (fm_Mod_constantOf st (fA st 4 x1.toNatClampNeg) (0 : Int64)).1 = r118 := congrArg Prod.fst hw118.symm
              have w118 : (fm_Mod_constantOf st (fA st 4 x1.toNatClampNeg) (0 : Int64)).2 = u118 := congrArg Prod.snd hw118.symm
              have hf118 : XF [0] [0, 1, 2, 3, 4] [0] st u118 := by rw [← w118]; exact ff_Mod_constantOf st (fA st 4 x1.toNatClampNeg) (0 : Int64)
              try rw [v118] at hR
              try rw [w118] at hR
              exact W.iret (v := r118) hx hb hr (fun t ht hW => ⟨⟨_, _, rfl, hR, by rw [ht]; exact hP, va_K.moved hW.alike hK, hD⟩, hS.F ht⟩) hS.2.2 dX10_shorter_121
            · skip
              rw [if_neg c105] at hR
              refine lv_iload_n hx hb dX10_shorter_108 rfl (lv_at hl 2 rfl) ?_
              refine lv_bipush (v := (6 : Int32)) hx hb dX10_shorter_109 (by decide) ?_
              refine lv_icmp_ne (tgt := 122) hx hb dX10_shorter_111 (by decide) (fun c111 => ?_) (fun c111 => ?_)
              · skip
                rw [if_neg c111] at hR
                refine lv_iload_n hx hb dX10_shorter_122 rfl (lv_at hl 2 rfl) ?_
                refine lv_bipush (v := (12 : Int32)) hx hb dX10_shorter_123 (by decide) ?_
                refine lv_icmp_le (tgt := 145) hx hb dX10_shorter_125 (by decide) (fun c125 => ?_) (fun c125 => ?_)
                · skip
                  rw [if_pos c125] at hR
                  refine lv_iload_n hx hb dX10_shorter_145 rfl (lv_at hl 2 rfl) ?_
                  refine lv_iconst (v := (2 : Int32)) hx hb dX10_shorter_146 (by decide) ?_
                  refine lv_icmp_le (tgt := 166) hx hb dX10_shorter_147 (by decide) (fun c147 => ?_) (fun c147 => ?_)
                  · skip
                    rw [if_pos c147] at hR
                    refine lv_iload_n hx hb dX10_shorter_166 rfl (lv_at hl 2 rfl) ?_
                    refine lv_iconst (v := (2 : Int32)) hx hb dX10_shorter_167 (by decide) ?_
                    refine lv_icmp_le (tgt := 187) hx hb dX10_shorter_168 (by decide) (fun c168 => ?_) (fun c168 => ?_)
                    · skip
                      refine lv_iload_n hx hb dX10_shorter_187 rfl (lv_at hl 2 rfl) ?_
                      refine lv_iconst (v := (2 : Int32)) hx hb dX10_shorter_188 (by decide) ?_
                      refine lv_icmp_eq (tgt := 198) hx hb dX10_shorter_189 (by decide) (fun c189 => ?_) (fun c189 => ?_)
                      · skip
                        rw [if_pos c189] at hR
                        refine lv_aload_n hx hb dX10_shorter_198 rfl (lv_at hl 1 rfl) ?_
                        refine lv_iload_n hx hb dX10_shorter_199 rfl (lv_at hl 3 rfl) ?_
                        refine wl_ci (va_runV (As := [.int x1]) (rest := []) ⟨hx, hb, hml, hown, hta⟩ (km_Mod_isZero l dC dI a k st x1 hA) (cwV 1 hta gX10_136 rfl rfl rfl (by decide +kernel) ⟨Nat.le_of_ble_eq_true rfl, Nat.le_of_ble_eq_true rfl⟩) (wl_pR (C := RX10) (ci := 8) (q0 := 0) hK hP rfl (mr_0 a k st)) rfl rfl hl.1 rfl (lv_room (Nat.le_of_ble_eq_true rfl)) dX10_shorter_200 ⟨Nat.zero_le _, Nat.zero_le _⟩) ?_
                        refine lv_if_ne (tgt := 214) hx hb dX10_shorter_203 (by decide) (fun c203 => ?_) (fun c203 => ?_)
                        · skip
                          rw [if_neg c203] at hR
                          refine lv_aload_n hx hb dX10_shorter_214 rfl (lv_at hl 1 rfl) ?_
                          refine lv_iload hx hb dX10_shorter_215 (lv_at hl 0 rfl) ?_
                          refine lv_lconst (v := (0 : Int64)) hx hb dX10_shorter_217 (by decide) ?_
                          refine wl_mi (va_runV (As := [.int (fA st 4 x1.toNatClampNeg), .long (0 : Int64)]) (rest := []) ⟨hx, hb, hml, hown, hta⟩ (km_Mod_constantOf l dC dI a k st (fA st 4 x1.toNatClampNeg) (0 : Int64) _ N hN h64) (cwV 2 hta gX10_84 rfl rfl rfl (by decide +kernel) ⟨Nat.le_of_ble_eq_true rfl, Nat.le_of_ble_eq_true rfl⟩) (wl_pM (C := RX10) (ci := 8) (q0 := 0) hK hP hD rfl (mr_0 a k st)) rfl rfl hl.1 rfl (lv_room (Nat.le_of_ble_eq_true rfl)) dX10_shorter_218 ⟨Nat.zero_le _, Nat.zero_le _⟩) hP hD hS hAz (fun r218 u218 H locs hw218 hP hD hS => ?_)
                          have v218 : (fm_Mod_constantOf st (fA st 4 x1.toNatClampNeg) (0 : Int64)).1 = r218 := congrArg Prod.fst hw218.symm
                          have w218 : (fm_Mod_constantOf st (fA st 4 x1.toNatClampNeg) (0 : Int64)).2 = u218 := congrArg Prod.snd hw218.symm
                          have hf218 : XF [0] [0, 1, 2, 3, 4] [0] st u218 := by rw [← w218]; exact ff_Mod_constantOf st (fA st 4 x1.toNatClampNeg) (0 : Int64)
                          try rw [v218] at hR
                          try rw [w218] at hR
                          exact W.iret (v := r218) hx hb hr (fun t ht hW => ⟨⟨_, _, rfl, hR, by rw [ht]; exact hP, va_K.moved hW.alike hK, hD⟩, hS.F ht⟩) hS.2.2 dX10_shorter_221
                        · skip
                          rw [if_pos c203] at hR
                          refine lv_aload_n hx hb dX10_shorter_206 rfl (lv_at hl 1 rfl) ?_
                          refine lv_iload_n hx hb dX10_shorter_207 rfl (lv_at hl 4 rfl) ?_
                          refine wl_ci (va_runV (As := [.int y1]) (rest := []) ⟨hx, hb, hml, hown, hta⟩ (km_Mod_isZero l dC dI a k st y1 (hY (wl_ln c57) c85 c11)) (cwV 1 hta gX10_136 rfl rfl rfl (by decide +kernel) ⟨Nat.le_of_ble_eq_true rfl, Nat.le_of_ble_eq_true rfl⟩) (wl_pR (C := RX10) (ci := 8) (q0 := 0) hK hP rfl (mr_0 a k st)) rfl rfl hl.1 rfl (lv_room (Nat.le_of_ble_eq_true rfl)) dX10_shorter_208 ⟨Nat.zero_le _, Nat.zero_le _⟩) ?_
                          refine lv_if_eq (tgt := 222) hx hb dX10_shorter_211 (by decide) (fun c211 => ?_) (fun c211 => ?_)
                          · skip
                            rw [if_pos c211] at hR
                            refine lv_aload_n hx hb dX10_shorter_222 rfl (lv_at hl 1 rfl) ?_
                            refine lv_iload_n hx hb dX10_shorter_223 rfl (lv_at hl 4 rfl) ?_
                            refine wl_ci (va_runV (As := [.int y1]) (rest := []) ⟨hx, hb, hml, hown, hta⟩ (km_Mod_isZero l dC dI a k st y1 (hY (wl_ln c57) c85 c11)) (cwV 1 hta gX10_136 rfl rfl rfl (by decide +kernel) ⟨Nat.le_of_ble_eq_true rfl, Nat.le_of_ble_eq_true rfl⟩) (wl_pR (C := RX10) (ci := 8) (q0 := 0) hK hP rfl (mr_0 a k st)) rfl rfl hl.1 rfl (lv_room (Nat.le_of_ble_eq_true rfl)) dX10_shorter_224 ⟨Nat.zero_le _, Nat.zero_le _⟩) ?_
                            refine lv_if_eq (tgt := 252) hx hb dX10_shorter_227 (by decide) (fun c227 => ?_) (fun c227 => ?_)
                            · skip
                              refine lv_bipush (v := (-9 : Int32)) hx hb dX10_shorter_252 (by decide) ?_
                              exact W.iret (v := (-9 : Int32)) hx hb hr (fun t ht hW => ⟨⟨_, _, rfl, hR, by rw [ht]; exact hP, va_K.moved hW.alike hK, hD⟩, hS.F ht⟩) hS.2.2 dX10_shorter_254
                            · skip
                              exact absurd c211 c227
                          · skip
                            rw [if_neg c211] at hR
                            refine lv_aload_n hx hb dX10_shorter_214 rfl (lv_at hl 1 rfl) ?_
                            refine lv_iload hx hb dX10_shorter_215 (lv_at hl 0 rfl) ?_
                            refine lv_lconst (v := (0 : Int64)) hx hb dX10_shorter_217 (by decide) ?_
                            refine wl_mi (va_runV (As := [.int (fA st 4 x1.toNatClampNeg), .long (0 : Int64)]) (rest := []) ⟨hx, hb, hml, hown, hta⟩ (km_Mod_constantOf l dC dI a k st (fA st 4 x1.toNatClampNeg) (0 : Int64) _ N hN h64) (cwV 2 hta gX10_84 rfl rfl rfl (by decide +kernel) ⟨Nat.le_of_ble_eq_true rfl, Nat.le_of_ble_eq_true rfl⟩) (wl_pM (C := RX10) (ci := 8) (q0 := 0) hK hP hD rfl (mr_0 a k st)) rfl rfl hl.1 rfl (lv_room (Nat.le_of_ble_eq_true rfl)) dX10_shorter_218 ⟨Nat.zero_le _, Nat.zero_le _⟩) hP hD hS hAz (fun r218 u218 H locs hw218 hP hD hS => ?_)
                            have v218 : (fm_Mod_constantOf st (fA st 4 x1.toNatClampNeg) (0 : Int64)).1 = r218 := congrArg Prod.fst hw218.symm
                            have w218 : (fm_Mod_constantOf st (fA st 4 x1.toNatClampNeg) (0 : Int64)).2 = u218 := congrArg Prod.snd hw218.symm
                            have hf218 : XF [0] [0, 1, 2, 3, 4] [0] st u218 := by rw [← w218]; exact ff_Mod_constantOf st (fA st 4 x1.toNatClampNeg) (0 : Int64)
                            try rw [v218] at hR
                            try rw [w218] at hR
                            exact W.iret (v := r218) hx hb hr (fun t ht hW => ⟨⟨_, _, rfl, hR, by rw [ht]; exact hP, va_K.moved hW.alike hK, hD⟩, hS.F ht⟩) hS.2.2 dX10_shorter_221
                      · skip
                        rw [if_neg c189] at hR
                        refine lv_iload_n hx hb dX10_shorter_192 rfl (lv_at hl 2 rfl) ?_
                        refine lv_bipush (v := (7 : Int32)) hx hb dX10_shorter_193 (by decide) ?_
                        refine lv_icmp_ne (tgt := 222) hx hb dX10_shorter_195 (by decide) (fun c195 => ?_) (fun c195 => ?_)
                        · skip
                          rw [if_neg c195] at hR
                          refine lv_aload_n hx hb dX10_shorter_222 rfl (lv_at hl 1 rfl) ?_
                          refine lv_iload_n hx hb dX10_shorter_223 rfl (lv_at hl 4 rfl) ?_
                          refine wl_ci (va_runV (As := [.int y1]) (rest := []) ⟨hx, hb, hml, hown, hta⟩ (km_Mod_isZero l dC dI a k st y1 (hY (wl_ln c57) c85 c11)) (cwV 1 hta gX10_136 rfl rfl rfl (by decide +kernel) ⟨Nat.le_of_ble_eq_true rfl, Nat.le_of_ble_eq_true rfl⟩) (wl_pR (C := RX10) (ci := 8) (q0 := 0) hK hP rfl (mr_0 a k st)) rfl rfl hl.1 rfl (lv_room (Nat.le_of_ble_eq_true rfl)) dX10_shorter_224 ⟨Nat.zero_le _, Nat.zero_le _⟩) ?_
                          refine lv_if_eq (tgt := 252) hx hb dX10_shorter_227 (by decide) (fun c227 => ?_) (fun c227 => ?_)
                          · skip
                            rw [if_pos c227] at hR
                            refine lv_bipush (v := (-9 : Int32)) hx hb dX10_shorter_252 (by decide) ?_
                            exact W.iret (v := (-9 : Int32)) hx hb hr (fun t ht hW => ⟨⟨_, _, rfl, hR, by rw [ht]; exact hP, va_K.moved hW.alike hK, hD⟩, hS.F ht⟩) hS.2.2 dX10_shorter_254
                          · skip
                            rw [if_neg c227] at hR
                            refine lv_iload_n hx hb dX10_shorter_230 rfl (lv_at hl 2 rfl) ?_
                            refine lv_bipush (v := (6 : Int32)) hx hb dX10_shorter_231 (by decide) ?_
                            refine lv_icmp_eq (tgt := 248) hx hb dX10_shorter_233 (by decide) (fun c233 => ?_) (fun c233 => ?_)
                            · skip
                              exact absurd c233 c111
                            · skip
                              refine lv_iload_n hx hb dX10_shorter_236 rfl (lv_at hl 2 rfl) ?_
                              refine lv_bipush (v := (9 : Int32)) hx hb dX10_shorter_237 (by decide) ?_
                              refine lv_icmp_le (tgt := 252) hx hb dX10_shorter_239 (by decide) (fun c239 => ?_) (fun c239 => ?_)
                              · skip
                                rw [if_pos c239] at hR
                                refine lv_bipush (v := (-9 : Int32)) hx hb dX10_shorter_252 (by decide) ?_
                                exact W.iret (v := (-9 : Int32)) hx hb hr (fun t ht hW => ⟨⟨_, _, rfl, hR, by rw [ht]; exact hP, va_K.moved hW.alike hK, hD⟩, hS.F ht⟩) hS.2.2 dX10_shorter_254
                              · skip
                                rw [if_neg c239] at hR
                                refine lv_iload_n hx hb dX10_shorter_242 rfl (lv_at hl 2 rfl) ?_
                                refine lv_bipush (v := (13 : Int32)) hx hb dX10_shorter_243 (by decide) ?_
                                refine lv_icmp_ge (tgt := 252) hx hb dX10_shorter_245 (by decide) (fun c245 => ?_) (fun c245 => ?_)
                                · skip
                                  rw [if_pos c245] at hR
                                  refine lv_bipush (v := (-9 : Int32)) hx hb dX10_shorter_252 (by decide) ?_
                                  exact W.iret (v := (-9 : Int32)) hx hb hr (fun t ht hW => ⟨⟨_, _, rfl, hR, by rw [ht]; exact hP, va_K.moved hW.alike hK, hD⟩, hS.F ht⟩) hS.2.2 dX10_shorter_254
                                · skip
                                  rw [if_neg c245] at hR
                                  refine lv_iload_n hx hb dX10_shorter_248 rfl (lv_at hl 3 rfl) ?_
                                  refine lv_goto (tgt := 254) hx hb dX10_shorter_249 (by decide) ?_
                                  exact W.iret (v := x1) hx hb hr (fun t ht hW => ⟨⟨_, _, rfl, hR, by rw [ht]; exact hP, va_K.moved hW.alike hK, hD⟩, hS.F ht⟩) hS.2.2 dX10_shorter_254
                        · skip
                          rw [if_pos c195] at hR
                          refine lv_aload_n hx hb dX10_shorter_198 rfl (lv_at hl 1 rfl) ?_
                          refine lv_iload_n hx hb dX10_shorter_199 rfl (lv_at hl 3 rfl) ?_
                          refine wl_ci (va_runV (As := [.int x1]) (rest := []) ⟨hx, hb, hml, hown, hta⟩ (km_Mod_isZero l dC dI a k st x1 hA) (cwV 1 hta gX10_136 rfl rfl rfl (by decide +kernel) ⟨Nat.le_of_ble_eq_true rfl, Nat.le_of_ble_eq_true rfl⟩) (wl_pR (C := RX10) (ci := 8) (q0 := 0) hK hP rfl (mr_0 a k st)) rfl rfl hl.1 rfl (lv_room (Nat.le_of_ble_eq_true rfl)) dX10_shorter_200 ⟨Nat.zero_le _, Nat.zero_le _⟩) ?_
                          refine lv_if_ne (tgt := 214) hx hb dX10_shorter_203 (by decide) (fun c203 => ?_) (fun c203 => ?_)
                          · skip
                            rw [if_neg c203] at hR
                            refine lv_aload_n hx hb dX10_shorter_214 rfl (lv_at hl 1 rfl) ?_
                            refine lv_iload hx hb dX10_shorter_215 (lv_at hl 0 rfl) ?_
                            refine lv_lconst (v := (0 : Int64)) hx hb dX10_shorter_217 (by decide) ?_
                            refine wl_mi (va_runV (As := [.int (fA st 4 x1.toNatClampNeg), .long (0 : Int64)]) (rest := []) ⟨hx, hb, hml, hown, hta⟩ (km_Mod_constantOf l dC dI a k st (fA st 4 x1.toNatClampNeg) (0 : Int64) _ N hN h64) (cwV 2 hta gX10_84 rfl rfl rfl (by decide +kernel) ⟨Nat.le_of_ble_eq_true rfl, Nat.le_of_ble_eq_true rfl⟩) (wl_pM (C := RX10) (ci := 8) (q0 := 0) hK hP hD rfl (mr_0 a k st)) rfl rfl hl.1 rfl (lv_room (Nat.le_of_ble_eq_true rfl)) dX10_shorter_218 ⟨Nat.zero_le _, Nat.zero_le _⟩) hP hD hS hAz (fun r218 u218 H locs hw218 hP hD hS => ?_)
                            have v218 : (fm_Mod_constantOf st (fA st 4 x1.toNatClampNeg) (0 : Int64)).1 = r218 := congrArg Prod.fst hw218.symm
                            have w218 : (fm_Mod_constantOf st (fA st 4 x1.toNatClampNeg) (0 : Int64)).2 = u218 := congrArg Prod.snd hw218.symm
                            have hf218 : XF [0] [0, 1, 2, 3, 4] [0] st u218 := by rw [← w218]; exact ff_Mod_constantOf st (fA st 4 x1.toNatClampNeg) (0 : Int64)
                            try rw [v218] at hR
                            try rw [w218] at hR
                            exact W.iret (v := r218) hx hb hr (fun t ht hW => ⟨⟨_, _, rfl, hR, by rw [ht]; exact hP, va_K.moved hW.alike hK, hD⟩, hS.F ht⟩) hS.2.2 dX10_shorter_221
                          · skip
                            rw [if_pos c203] at hR
                            refine lv_aload_n hx hb dX10_shorter_206 rfl (lv_at hl 1 rfl) ?_
                            refine lv_iload_n hx hb dX10_shorter_207 rfl (lv_at hl 4 rfl) ?_
                            refine wl_ci (va_runV (As := [.int y1]) (rest := []) ⟨hx, hb, hml, hown, hta⟩ (km_Mod_isZero l dC dI a k st y1 (hY (wl_ln c57) c85 c11)) (cwV 1 hta gX10_136 rfl rfl rfl (by decide +kernel) ⟨Nat.le_of_ble_eq_true rfl, Nat.le_of_ble_eq_true rfl⟩) (wl_pR (C := RX10) (ci := 8) (q0 := 0) hK hP rfl (mr_0 a k st)) rfl rfl hl.1 rfl (lv_room (Nat.le_of_ble_eq_true rfl)) dX10_shorter_208 ⟨Nat.zero_le _, Nat.zero_le _⟩) ?_
                            refine lv_if_eq (tgt := 222) hx hb dX10_shorter_211 (by decide) (fun c211 => ?_) (fun c211 => ?_)
                            · skip
                              rw [if_pos c211] at hR
                              refine lv_aload_n hx hb dX10_shorter_222 rfl (lv_at hl 1 rfl) ?_
                              refine lv_iload_n hx hb dX10_shorter_223 rfl (lv_at hl 4 rfl) ?_
                              refine wl_ci (va_runV (As := [.int y1]) (rest := []) ⟨hx, hb, hml, hown, hta⟩ (km_Mod_isZero l dC dI a k st y1 (hY (wl_ln c57) c85 c11)) (cwV 1 hta gX10_136 rfl rfl rfl (by decide +kernel) ⟨Nat.le_of_ble_eq_true rfl, Nat.le_of_ble_eq_true rfl⟩) (wl_pR (C := RX10) (ci := 8) (q0 := 0) hK hP rfl (mr_0 a k st)) rfl rfl hl.1 rfl (lv_room (Nat.le_of_ble_eq_true rfl)) dX10_shorter_224 ⟨Nat.zero_le _, Nat.zero_le _⟩) ?_
                              refine lv_if_eq (tgt := 252) hx hb dX10_shorter_227 (by decide) (fun c227 => ?_) (fun c227 => ?_)
                              · skip
                                refine lv_bipush (v := (-9 : Int32)) hx hb dX10_shorter_252 (by decide) ?_
                                exact W.iret (v := (-9 : Int32)) hx hb hr (fun t ht hW => ⟨⟨_, _, rfl, hR, by rw [ht]; exact hP, va_K.moved hW.alike hK, hD⟩, hS.F ht⟩) hS.2.2 dX10_shorter_254
                              · skip
                                exact absurd c211 c227
                            · skip
                              rw [if_neg c211] at hR
                              refine lv_aload_n hx hb dX10_shorter_214 rfl (lv_at hl 1 rfl) ?_
                              refine lv_iload hx hb dX10_shorter_215 (lv_at hl 0 rfl) ?_
                              refine lv_lconst (v := (0 : Int64)) hx hb dX10_shorter_217 (by decide) ?_
                              refine wl_mi (va_runV (As := [.int (fA st 4 x1.toNatClampNeg), .long (0 : Int64)]) (rest := []) ⟨hx, hb, hml, hown, hta⟩ (km_Mod_constantOf l dC dI a k st (fA st 4 x1.toNatClampNeg) (0 : Int64) _ N hN h64) (cwV 2 hta gX10_84 rfl rfl rfl (by decide +kernel) ⟨Nat.le_of_ble_eq_true rfl, Nat.le_of_ble_eq_true rfl⟩) (wl_pM (C := RX10) (ci := 8) (q0 := 0) hK hP hD rfl (mr_0 a k st)) rfl rfl hl.1 rfl (lv_room (Nat.le_of_ble_eq_true rfl)) dX10_shorter_218 ⟨Nat.zero_le _, Nat.zero_le _⟩) hP hD hS hAz (fun r218 u218 H locs hw218 hP hD hS => ?_)
                              have v218 : (fm_Mod_constantOf st (fA st 4 x1.toNatClampNeg) (0 : Int64)).1 = r218 := congrArg Prod.fst hw218.symm
                              have w218 : (fm_Mod_constantOf st (fA st 4 x1.toNatClampNeg) (0 : Int64)).2 = u218 := congrArg Prod.snd hw218.symm
                              have hf218 : XF [0] [0, 1, 2, 3, 4] [0] st u218 := by rw [← w218]; exact ff_Mod_constantOf st (fA st 4 x1.toNatClampNeg) (0 : Int64)
                              try rw [v218] at hR
                              try rw [w218] at hR
                              exact W.iret (v := r218) hx hb hr (fun t ht hW => ⟨⟨_, _, rfl, hR, by rw [ht]; exact hP, va_K.moved hW.alike hK, hD⟩, hS.F ht⟩) hS.2.2 dX10_shorter_221
                    · skip
                      exact absurd c147 c168
                  · skip
                    rw [if_neg c147] at hR
                    refine lv_iload_n hx hb dX10_shorter_150 rfl (lv_at hl 2 rfl) ?_
                    refine lv_bipush (v := (6 : Int32)) hx hb dX10_shorter_151 (by decide) ?_
                    refine lv_icmp_ge (tgt := 166) hx hb dX10_shorter_153 (by decide) (fun c153 => ?_) (fun c153 => ?_)
                    · skip
                      rw [if_pos c153] at hR
                      refine lv_iload_n hx hb dX10_shorter_166 rfl (lv_at hl 2 rfl) ?_
                      refine lv_iconst (v := (2 : Int32)) hx hb dX10_shorter_167 (by decide) ?_
                      refine lv_icmp_le (tgt := 187) hx hb dX10_shorter_168 (by decide) (fun c168 => ?_) (fun c168 => ?_)
                      · skip
                        exact absurd c168 c147
                      · skip
                        refine lv_iload_n hx hb dX10_shorter_171 rfl (lv_at hl 2 rfl) ?_
                        refine lv_bipush (v := (6 : Int32)) hx hb dX10_shorter_172 (by decide) ?_
                        refine lv_icmp_ge (tgt := 187) hx hb dX10_shorter_174 (by decide) (fun c174 => ?_) (fun c174 => ?_)
                        · skip
                          refine lv_iload_n hx hb dX10_shorter_187 rfl (lv_at hl 2 rfl) ?_
                          refine lv_iconst (v := (2 : Int32)) hx hb dX10_shorter_188 (by decide) ?_
                          refine lv_icmp_eq (tgt := 198) hx hb dX10_shorter_189 (by decide) (fun c189 => ?_) (fun c189 => ?_)
                          · skip
                            rw [if_pos c189] at hR
                            refine lv_aload_n hx hb dX10_shorter_198 rfl (lv_at hl 1 rfl) ?_
                            refine lv_iload_n hx hb dX10_shorter_199 rfl (lv_at hl 3 rfl) ?_
                            refine wl_ci (va_runV (As := [.int x1]) (rest := []) ⟨hx, hb, hml, hown, hta⟩ (km_Mod_isZero l dC dI a k st x1 hA) (cwV 1 hta gX10_136 rfl rfl rfl (by decide +kernel) ⟨Nat.le_of_ble_eq_true rfl, Nat.le_of_ble_eq_true rfl⟩) (wl_pR (C := RX10) (ci := 8) (q0 := 0) hK hP rfl (mr_0 a k st)) rfl rfl hl.1 rfl (lv_room (Nat.le_of_ble_eq_true rfl)) dX10_shorter_200 ⟨Nat.zero_le _, Nat.zero_le _⟩) ?_
                            refine lv_if_ne (tgt := 214) hx hb dX10_shorter_203 (by decide) (fun c203 => ?_) (fun c203 => ?_)
                            · skip
                              rw [if_neg c203] at hR
                              refine lv_aload_n hx hb dX10_shorter_214 rfl (lv_at hl 1 rfl) ?_
                              refine lv_iload hx hb dX10_shorter_215 (lv_at hl 0 rfl) ?_
                              refine lv_lconst (v := (0 : Int64)) hx hb dX10_shorter_217 (by decide) ?_
                              refine wl_mi (va_runV (As := [.int (fA st 4 x1.toNatClampNeg), .long (0 : Int64)]) (rest := []) ⟨hx, hb, hml, hown, hta⟩ (km_Mod_constantOf l dC dI a k st (fA st 4 x1.toNatClampNeg) (0 : Int64) _ N hN h64) (cwV 2 hta gX10_84 rfl rfl rfl (by decide +kernel) ⟨Nat.le_of_ble_eq_true rfl, Nat.le_of_ble_eq_true rfl⟩) (wl_pM (C := RX10) (ci := 8) (q0 := 0) hK hP hD rfl (mr_0 a k st)) rfl rfl hl.1 rfl (lv_room (Nat.le_of_ble_eq_true rfl)) dX10_shorter_218 ⟨Nat.zero_le _, Nat.zero_le _⟩) hP hD hS hAz (fun r218 u218 H locs hw218 hP hD hS => ?_)
                              have v218 : (fm_Mod_constantOf st (fA st 4 x1.toNatClampNeg) (0 : Int64)).1 = r218 := congrArg Prod.fst hw218.symm
                              have w218 : (fm_Mod_constantOf st (fA st 4 x1.toNatClampNeg) (0 : Int64)).2 = u218 := congrArg Prod.snd hw218.symm
                              have hf218 : XF [0] [0, 1, 2, 3, 4] [0] st u218 := by rw [← w218]; exact ff_Mod_constantOf st (fA st 4 x1.toNatClampNeg) (0 : Int64)
                              try rw [v218] at hR
                              try rw [w218] at hR
                              exact W.iret (v := r218) hx hb hr (fun t ht hW => ⟨⟨_, _, rfl, hR, by rw [ht]; exact hP, va_K.moved hW.alike hK, hD⟩, hS.F ht⟩) hS.2.2 dX10_shorter_221
                            · skip
                              rw [if_pos c203] at hR
                              refine lv_aload_n hx hb dX10_shorter_206 rfl (lv_at hl 1 rfl) ?_
                              refine lv_iload_n hx hb dX10_shorter_207 rfl (lv_at hl 4 rfl) ?_
                              refine wl_ci (va_runV (As := [.int y1]) (rest := []) ⟨hx, hb, hml, hown, hta⟩ (km_Mod_isZero l dC dI a k st y1 (hY (wl_ln c57) c85 c11)) (cwV 1 hta gX10_136 rfl rfl rfl (by decide +kernel) ⟨Nat.le_of_ble_eq_true rfl, Nat.le_of_ble_eq_true rfl⟩) (wl_pR (C := RX10) (ci := 8) (q0 := 0) hK hP rfl (mr_0 a k st)) rfl rfl hl.1 rfl (lv_room (Nat.le_of_ble_eq_true rfl)) dX10_shorter_208 ⟨Nat.zero_le _, Nat.zero_le _⟩) ?_
                              refine lv_if_eq (tgt := 222) hx hb dX10_shorter_211 (by decide) (fun c211 => ?_) (fun c211 => ?_)
                              · skip
                                rw [if_pos c211] at hR
                                refine lv_aload_n hx hb dX10_shorter_222 rfl (lv_at hl 1 rfl) ?_
                                refine lv_iload_n hx hb dX10_shorter_223 rfl (lv_at hl 4 rfl) ?_
                                refine wl_ci (va_runV (As := [.int y1]) (rest := []) ⟨hx, hb, hml, hown, hta⟩ (km_Mod_isZero l dC dI a k st y1 (hY (wl_ln c57) c85 c11)) (cwV 1 hta gX10_136 rfl rfl rfl (by decide +kernel) ⟨Nat.le_of_ble_eq_true rfl, Nat.le_of_ble_eq_true rfl⟩) (wl_pR (C := RX10) (ci := 8) (q0 := 0) hK hP rfl (mr_0 a k st)) rfl rfl hl.1 rfl (lv_room (Nat.le_of_ble_eq_true rfl)) dX10_shorter_224 ⟨Nat.zero_le _, Nat.zero_le _⟩) ?_
                                refine lv_if_eq (tgt := 252) hx hb dX10_shorter_227 (by decide) (fun c227 => ?_) (fun c227 => ?_)
                                · skip
                                  refine lv_bipush (v := (-9 : Int32)) hx hb dX10_shorter_252 (by decide) ?_
                                  exact W.iret (v := (-9 : Int32)) hx hb hr (fun t ht hW => ⟨⟨_, _, rfl, hR, by rw [ht]; exact hP, va_K.moved hW.alike hK, hD⟩, hS.F ht⟩) hS.2.2 dX10_shorter_254
                                · skip
                                  exact absurd c211 c227
                              · skip
                                rw [if_neg c211] at hR
                                refine lv_aload_n hx hb dX10_shorter_214 rfl (lv_at hl 1 rfl) ?_
                                refine lv_iload hx hb dX10_shorter_215 (lv_at hl 0 rfl) ?_
                                refine lv_lconst (v := (0 : Int64)) hx hb dX10_shorter_217 (by decide) ?_
                                refine wl_mi (va_runV (As := [.int (fA st 4 x1.toNatClampNeg), .long (0 : Int64)]) (rest := []) ⟨hx, hb, hml, hown, hta⟩ (km_Mod_constantOf l dC dI a k st (fA st 4 x1.toNatClampNeg) (0 : Int64) _ N hN h64) (cwV 2 hta gX10_84 rfl rfl rfl (by decide +kernel) ⟨Nat.le_of_ble_eq_true rfl, Nat.le_of_ble_eq_true rfl⟩) (wl_pM (C := RX10) (ci := 8) (q0 := 0) hK hP hD rfl (mr_0 a k st)) rfl rfl hl.1 rfl (lv_room (Nat.le_of_ble_eq_true rfl)) dX10_shorter_218 ⟨Nat.zero_le _, Nat.zero_le _⟩) hP hD hS hAz (fun r218 u218 H locs hw218 hP hD hS => ?_)
                                have v218 : (fm_Mod_constantOf st (fA st 4 x1.toNatClampNeg) (0 : Int64)).1 = r218 := congrArg Prod.fst hw218.symm
                                have w218 : (fm_Mod_constantOf st (fA st 4 x1.toNatClampNeg) (0 : Int64)).2 = u218 := congrArg Prod.snd hw218.symm
                                have hf218 : XF [0] [0, 1, 2, 3, 4] [0] st u218 := by rw [← w218]; exact ff_Mod_constantOf st (fA st 4 x1.toNatClampNeg) (0 : Int64)
                                try rw [v218] at hR
                                try rw [w218] at hR
                                exact W.iret (v := r218) hx hb hr (fun t ht hW => ⟨⟨_, _, rfl, hR, by rw [ht]; exact hP, va_K.moved hW.alike hK, hD⟩, hS.F ht⟩) hS.2.2 dX10_shorter_221
                          · skip
                            rw [if_neg c189] at hR
                            refine lv_iload_n hx hb dX10_shorter_192 rfl (lv_at hl 2 rfl) ?_
                            refine lv_bipush (v := (7 : Int32)) hx hb dX10_shorter_193 (by decide) ?_
                            refine lv_icmp_ne (tgt := 222) hx hb dX10_shorter_195 (by decide) (fun c195 => ?_) (fun c195 => ?_)
                            · skip
                              rw [if_neg c195] at hR
                              refine lv_aload_n hx hb dX10_shorter_222 rfl (lv_at hl 1 rfl) ?_
                              refine lv_iload_n hx hb dX10_shorter_223 rfl (lv_at hl 4 rfl) ?_
                              refine wl_ci (va_runV (As := [.int y1]) (rest := []) ⟨hx, hb, hml, hown, hta⟩ (km_Mod_isZero l dC dI a k st y1 (hY (wl_ln c57) c85 c11)) (cwV 1 hta gX10_136 rfl rfl rfl (by decide +kernel) ⟨Nat.le_of_ble_eq_true rfl, Nat.le_of_ble_eq_true rfl⟩) (wl_pR (C := RX10) (ci := 8) (q0 := 0) hK hP rfl (mr_0 a k st)) rfl rfl hl.1 rfl (lv_room (Nat.le_of_ble_eq_true rfl)) dX10_shorter_224 ⟨Nat.zero_le _, Nat.zero_le _⟩) ?_
                              refine lv_if_eq (tgt := 252) hx hb dX10_shorter_227 (by decide) (fun c227 => ?_) (fun c227 => ?_)
                              · skip
                                rw [if_pos c227] at hR
                                refine lv_bipush (v := (-9 : Int32)) hx hb dX10_shorter_252 (by decide) ?_
                                exact W.iret (v := (-9 : Int32)) hx hb hr (fun t ht hW => ⟨⟨_, _, rfl, hR, by rw [ht]; exact hP, va_K.moved hW.alike hK, hD⟩, hS.F ht⟩) hS.2.2 dX10_shorter_254
                              · skip
                                rw [if_neg c227] at hR
                                refine lv_iload_n hx hb dX10_shorter_230 rfl (lv_at hl 2 rfl) ?_
                                refine lv_bipush (v := (6 : Int32)) hx hb dX10_shorter_231 (by decide) ?_
                                refine lv_icmp_eq (tgt := 248) hx hb dX10_shorter_233 (by decide) (fun c233 => ?_) (fun c233 => ?_)
                                · skip
                                  exact absurd c233 c111
                                · skip
                                  refine lv_iload_n hx hb dX10_shorter_236 rfl (lv_at hl 2 rfl) ?_
                                  refine lv_bipush (v := (9 : Int32)) hx hb dX10_shorter_237 (by decide) ?_
                                  refine lv_icmp_le (tgt := 252) hx hb dX10_shorter_239 (by decide) (fun c239 => ?_) (fun c239 => ?_)
                                  · skip
                                    rw [if_pos c239] at hR
                                    refine lv_bipush (v := (-9 : Int32)) hx hb dX10_shorter_252 (by decide) ?_
                                    exact W.iret (v := (-9 : Int32)) hx hb hr (fun t ht hW => ⟨⟨_, _, rfl, hR, by rw [ht]; exact hP, va_K.moved hW.alike hK, hD⟩, hS.F ht⟩) hS.2.2 dX10_shorter_254
                                  · skip
                                    rw [if_neg c239] at hR
                                    refine lv_iload_n hx hb dX10_shorter_242 rfl (lv_at hl 2 rfl) ?_
                                    refine lv_bipush (v := (13 : Int32)) hx hb dX10_shorter_243 (by decide) ?_
                                    refine lv_icmp_ge (tgt := 252) hx hb dX10_shorter_245 (by decide) (fun c245 => ?_) (fun c245 => ?_)
                                    · skip
                                      rw [if_pos c245] at hR
                                      refine lv_bipush (v := (-9 : Int32)) hx hb dX10_shorter_252 (by decide) ?_
                                      exact W.iret (v := (-9 : Int32)) hx hb hr (fun t ht hW => ⟨⟨_, _, rfl, hR, by rw [ht]; exact hP, va_K.moved hW.alike hK, hD⟩, hS.F ht⟩) hS.2.2 dX10_shorter_254
                                    · skip
                                      rw [if_neg c245] at hR
                                      refine lv_iload_n hx hb dX10_shorter_248 rfl (lv_at hl 3 rfl) ?_
                                      refine lv_goto (tgt := 254) hx hb dX10_shorter_249 (by decide) ?_
                                      exact W.iret (v := x1) hx hb hr (fun t ht hW => ⟨⟨_, _, rfl, hR, by rw [ht]; exact hP, va_K.moved hW.alike hK, hD⟩, hS.F ht⟩) hS.2.2 dX10_shorter_254
                            · skip
                              rw [if_pos c195] at hR
                              refine lv_aload_n hx hb dX10_shorter_198 rfl (lv_at hl 1 rfl) ?_
                              refine lv_iload_n hx hb dX10_shorter_199 rfl (lv_at hl 3 rfl) ?_
                              refine wl_ci (va_runV (As := [.int x1]) (rest := []) ⟨hx, hb, hml, hown, hta⟩ (km_Mod_isZero l dC dI a k st x1 hA) (cwV 1 hta gX10_136 rfl rfl rfl (by decide +kernel) ⟨Nat.le_of_ble_eq_true rfl, Nat.le_of_ble_eq_true rfl⟩) (wl_pR (C := RX10) (ci := 8) (q0 := 0) hK hP rfl (mr_0 a k st)) rfl rfl hl.1 rfl (lv_room (Nat.le_of_ble_eq_true rfl)) dX10_shorter_200 ⟨Nat.zero_le _, Nat.zero_le _⟩) ?_
                              refine lv_if_ne (tgt := 214) hx hb dX10_shorter_203 (by decide) (fun c203 => ?_) (fun c203 => ?_)
                              · skip
                                rw [if_neg c203] at hR
                                refine lv_aload_n hx hb dX10_shorter_214 rfl (lv_at hl 1 rfl) ?_
                                refine lv_iload hx hb dX10_shorter_215 (lv_at hl 0 rfl) ?_
                                refine lv_lconst (v := (0 : Int64)) hx hb dX10_shorter_217 (by decide) ?_
                                refine wl_mi (va_runV (As := [.int (fA st 4 x1.toNatClampNeg), .long (0 : Int64)]) (rest := []) ⟨hx, hb, hml, hown, hta⟩ (km_Mod_constantOf l dC dI a k st (fA st 4 x1.toNatClampNeg) (0 : Int64) _ N hN h64) (cwV 2 hta gX10_84 rfl rfl rfl (by decide +kernel) ⟨Nat.le_of_ble_eq_true rfl, Nat.le_of_ble_eq_true rfl⟩) (wl_pM (C := RX10) (ci := 8) (q0 := 0) hK hP hD rfl (mr_0 a k st)) rfl rfl hl.1 rfl (lv_room (Nat.le_of_ble_eq_true rfl)) dX10_shorter_218 ⟨Nat.zero_le _, Nat.zero_le _⟩) hP hD hS hAz (fun r218 u218 H locs hw218 hP hD hS => ?_)
                                have v218 : (fm_Mod_constantOf st (fA st 4 x1.toNatClampNeg) (0 : Int64)).1 = r218 := congrArg Prod.fst hw218.symm
                                have w218 : (fm_Mod_constantOf st (fA st 4 x1.toNatClampNeg) (0 : Int64)).2 = u218 := congrArg Prod.snd hw218.symm
                                have hf218 : XF [0] [0, 1, 2, 3, 4] [0] st u218 := by rw [← w218]; exact ff_Mod_constantOf st (fA st 4 x1.toNatClampNeg) (0 : Int64)
                                try rw [v218] at hR
                                try rw [w218] at hR
                                exact W.iret (v := r218) hx hb hr (fun t ht hW => ⟨⟨_, _, rfl, hR, by rw [ht]; exact hP, va_K.moved hW.alike hK, hD⟩, hS.F ht⟩) hS.2.2 dX10_shorter_221
                              · skip
                                rw [if_pos c203] at hR
                                refine lv_aload_n hx hb dX10_shorter_206 rfl (lv_at hl 1 rfl) ?_
                                refine lv_iload_n hx hb dX10_shorter_207 rfl (lv_at hl 4 rfl) ?_
                                refine wl_ci (va_runV (As := [.int y1]) (rest := []) ⟨hx, hb, hml, hown, hta⟩ (km_Mod_isZero l dC dI a k st y1 (hY (wl_ln c57) c85 c11)) (cwV 1 hta gX10_136 rfl rfl rfl (by decide +kernel) ⟨Nat.le_of_ble_eq_true rfl, Nat.le_of_ble_eq_true rfl⟩) (wl_pR (C := RX10) (ci := 8) (q0 := 0) hK hP rfl (mr_0 a k st)) rfl rfl hl.1 rfl (lv_room (Nat.le_of_ble_eq_true rfl)) dX10_shorter_208 ⟨Nat.zero_le _, Nat.zero_le _⟩) ?_
                                refine lv_if_eq (tgt := 222) hx hb dX10_shorter_211 (by decide) (fun c211 => ?_) (fun c211 => ?_)
                                · skip
                                  rw [if_pos c211] at hR
                                  refine lv_aload_n hx hb dX10_shorter_222 rfl (lv_at hl 1 rfl) ?_
                                  refine lv_iload_n hx hb dX10_shorter_223 rfl (lv_at hl 4 rfl) ?_
                                  refine wl_ci (va_runV (As := [.int y1]) (rest := []) ⟨hx, hb, hml, hown, hta⟩ (km_Mod_isZero l dC dI a k st y1 (hY (wl_ln c57) c85 c11)) (cwV 1 hta gX10_136 rfl rfl rfl (by decide +kernel) ⟨Nat.le_of_ble_eq_true rfl, Nat.le_of_ble_eq_true rfl⟩) (wl_pR (C := RX10) (ci := 8) (q0 := 0) hK hP rfl (mr_0 a k st)) rfl rfl hl.1 rfl (lv_room (Nat.le_of_ble_eq_true rfl)) dX10_shorter_224 ⟨Nat.zero_le _, Nat.zero_le _⟩) ?_
                                  refine lv_if_eq (tgt := 252) hx hb dX10_shorter_227 (by decide) (fun c227 => ?_) (fun c227 => ?_)
                                  · skip
                                    refine lv_bipush (v := (-9 : Int32)) hx hb dX10_shorter_252 (by decide) ?_
                                    exact W.iret (v := (-9 : Int32)) hx hb hr (fun t ht hW => ⟨⟨_, _, rfl, hR, by rw [ht]; exact hP, va_K.moved hW.alike hK, hD⟩, hS.F ht⟩) hS.2.2 dX10_shorter_254
                                  · skip
                                    exact absurd c211 c227
                                · skip
                                  rw [if_neg c211] at hR
                                  refine lv_aload_n hx hb dX10_shorter_214 rfl (lv_at hl 1 rfl) ?_
                                  refine lv_iload hx hb dX10_shorter_215 (lv_at hl 0 rfl) ?_
                                  refine lv_lconst (v := (0 : Int64)) hx hb dX10_shorter_217 (by decide) ?_
                                  refine wl_mi (va_runV (As := [.int (fA st 4 x1.toNatClampNeg), .long (0 : Int64)]) (rest := []) ⟨hx, hb, hml, hown, hta⟩ (km_Mod_constantOf l dC dI a k st (fA st 4 x1.toNatClampNeg) (0 : Int64) _ N hN h64) (cwV 2 hta gX10_84 rfl rfl rfl (by decide +kernel) ⟨Nat.le_of_ble_eq_true rfl, Nat.le_of_ble_eq_true rfl⟩) (wl_pM (C := RX10) (ci := 8) (q0 := 0) hK hP hD rfl (mr_0 a k st)) rfl rfl hl.1 rfl (lv_room (Nat.le_of_ble_eq_true rfl)) dX10_shorter_218 ⟨Nat.zero_le _, Nat.zero_le _⟩) hP hD hS hAz (fun r218 u218 H locs hw218 hP hD hS => ?_)
                                  have v218 : (fm_Mod_constantOf st (fA st 4 x1.toNatClampNeg) (0 : Int64)).1 = r218 := congrArg Prod.fst hw218.symm
                                  have w218 : (fm_Mod_constantOf st (fA st 4 x1.toNatClampNeg) (0 : Int64)).2 = u218 := congrArg Prod.snd hw218.symm
                                  have hf218 : XF [0] [0, 1, 2, 3, 4] [0] st u218 := by rw [← w218]; exact ff_Mod_constantOf st (fA st 4 x1.toNatClampNeg) (0 : Int64)
                                  try rw [v218] at hR
                                  try rw [w218] at hR
                                  exact W.iret (v := r218) hx hb hr (fun t ht hW => ⟨⟨_, _, rfl, hR, by rw [ht]; exact hP, va_K.moved hW.alike hK, hD⟩, hS.F ht⟩) hS.2.2 dX10_shorter_221
                        · skip
                          exact absurd c153 c174
                    · skip
                      rw [if_neg c153] at hR
                      refine lv_aload_n hx hb dX10_shorter_156 rfl (lv_at hl 1 rfl) ?_
                      refine lv_iload_n hx hb dX10_shorter_157 rfl (lv_at hl 3 rfl) ?_
                      refine wl_ci (va_runV (As := [.int x1]) (rest := []) ⟨hx, hb, hml, hown, hta⟩ (km_Mod_isZero l dC dI a k st x1 hA) (cwV 1 hta gX10_136 rfl rfl rfl (by decide +kernel) ⟨Nat.le_of_ble_eq_true rfl, Nat.le_of_ble_eq_true rfl⟩) (wl_pR (C := RX10) (ci := 8) (q0 := 0) hK hP rfl (mr_0 a k st)) rfl rfl hl.1 rfl (lv_room (Nat.le_of_ble_eq_true rfl)) dX10_shorter_158 ⟨Nat.zero_le _, Nat.zero_le _⟩) ?_
                      refine lv_if_eq (tgt := 166) hx hb dX10_shorter_161 (by decide) (fun c161 => ?_) (fun c161 => ?_)
                      · skip
                        rw [if_pos c161] at hR
                        refine lv_iload_n hx hb dX10_shorter_166 rfl (lv_at hl 2 rfl) ?_
                        refine lv_iconst (v := (2 : Int32)) hx hb dX10_shorter_167 (by decide) ?_
                        refine lv_icmp_le (tgt := 187) hx hb dX10_shorter_168 (by decide) (fun c168 => ?_) (fun c168 => ?_)
                        · skip
                          exact absurd c168 c147
                        · skip
                          refine lv_iload_n hx hb dX10_shorter_171 rfl (lv_at hl 2 rfl) ?_
                          refine lv_bipush (v := (6 : Int32)) hx hb dX10_shorter_172 (by decide) ?_
                          refine lv_icmp_ge (tgt := 187) hx hb dX10_shorter_174 (by decide) (fun c174 => ?_) (fun c174 => ?_)
                          · skip
                            exact absurd c174 c153
                          · skip
                            refine lv_aload_n hx hb dX10_shorter_177 rfl (lv_at hl 1 rfl) ?_
                            refine lv_iload_n hx hb dX10_shorter_178 rfl (lv_at hl 4 rfl) ?_
                            refine wl_ci (va_runV (As := [.int y1]) (rest := []) ⟨hx, hb, hml, hown, hta⟩ (km_Mod_isZero l dC dI a k st y1 (hY (wl_ln c57) c85 c11)) (cwV 1 hta gX10_136 rfl rfl rfl (by decide +kernel) ⟨Nat.le_of_ble_eq_true rfl, Nat.le_of_ble_eq_true rfl⟩) (wl_pR (C := RX10) (ci := 8) (q0 := 0) hK hP rfl (mr_0 a k st)) rfl rfl hl.1 rfl (lv_room (Nat.le_of_ble_eq_true rfl)) dX10_shorter_179 ⟨Nat.zero_le _, Nat.zero_le _⟩) ?_
                            refine lv_if_eq (tgt := 187) hx hb dX10_shorter_182 (by decide) (fun c182 => ?_) (fun c182 => ?_)
                            · skip
                              rw [if_pos c182] at hR
                              refine lv_iload_n hx hb dX10_shorter_187 rfl (lv_at hl 2 rfl) ?_
                              refine lv_iconst (v := (2 : Int32)) hx hb dX10_shorter_188 (by decide) ?_
                              refine lv_icmp_eq (tgt := 198) hx hb dX10_shorter_189 (by decide) (fun c189 => ?_) (fun c189 => ?_)
                              · skip
                                rw [if_pos c189] at hR
                                refine lv_aload_n hx hb dX10_shorter_198 rfl (lv_at hl 1 rfl) ?_
                                refine lv_iload_n hx hb dX10_shorter_199 rfl (lv_at hl 3 rfl) ?_
                                refine wl_ci (va_runV (As := [.int x1]) (rest := []) ⟨hx, hb, hml, hown, hta⟩ (km_Mod_isZero l dC dI a k st x1 hA) (cwV 1 hta gX10_136 rfl rfl rfl (by decide +kernel) ⟨Nat.le_of_ble_eq_true rfl, Nat.le_of_ble_eq_true rfl⟩) (wl_pR (C := RX10) (ci := 8) (q0 := 0) hK hP rfl (mr_0 a k st)) rfl rfl hl.1 rfl (lv_room (Nat.le_of_ble_eq_true rfl)) dX10_shorter_200 ⟨Nat.zero_le _, Nat.zero_le _⟩) ?_
                                refine lv_if_ne (tgt := 214) hx hb dX10_shorter_203 (by decide) (fun c203 => ?_) (fun c203 => ?_)
                                · skip
                                  exact absurd c161 c203
                                · skip
                                  refine lv_aload_n hx hb dX10_shorter_206 rfl (lv_at hl 1 rfl) ?_
                                  refine lv_iload_n hx hb dX10_shorter_207 rfl (lv_at hl 4 rfl) ?_
                                  refine wl_ci (va_runV (As := [.int y1]) (rest := []) ⟨hx, hb, hml, hown, hta⟩ (km_Mod_isZero l dC dI a k st y1 (hY (wl_ln c57) c85 c11)) (cwV 1 hta gX10_136 rfl rfl rfl (by decide +kernel) ⟨Nat.le_of_ble_eq_true rfl, Nat.le_of_ble_eq_true rfl⟩) (wl_pR (C := RX10) (ci := 8) (q0 := 0) hK hP rfl (mr_0 a k st)) rfl rfl hl.1 rfl (lv_room (Nat.le_of_ble_eq_true rfl)) dX10_shorter_208 ⟨Nat.zero_le _, Nat.zero_le _⟩) ?_
                                  refine lv_if_eq (tgt := 222) hx hb dX10_shorter_211 (by decide) (fun c211 => ?_) (fun c211 => ?_)
                                  · skip
                                    refine lv_aload_n hx hb dX10_shorter_222 rfl (lv_at hl 1 rfl) ?_
                                    refine lv_iload_n hx hb dX10_shorter_223 rfl (lv_at hl 4 rfl) ?_
                                    refine wl_ci (va_runV (As := [.int y1]) (rest := []) ⟨hx, hb, hml, hown, hta⟩ (km_Mod_isZero l dC dI a k st y1 (hY (wl_ln c57) c85 c11)) (cwV 1 hta gX10_136 rfl rfl rfl (by decide +kernel) ⟨Nat.le_of_ble_eq_true rfl, Nat.le_of_ble_eq_true rfl⟩) (wl_pR (C := RX10) (ci := 8) (q0 := 0) hK hP rfl (mr_0 a k st)) rfl rfl hl.1 rfl (lv_room (Nat.le_of_ble_eq_true rfl)) dX10_shorter_224 ⟨Nat.zero_le _, Nat.zero_le _⟩) ?_
                                    refine lv_if_eq (tgt := 252) hx hb dX10_shorter_227 (by decide) (fun c227 => ?_) (fun c227 => ?_)
                                    · skip
                                      refine lv_bipush (v := (-9 : Int32)) hx hb dX10_shorter_252 (by decide) ?_
                                      exact W.iret (v := (-9 : Int32)) hx hb hr (fun t ht hW => ⟨⟨_, _, rfl, hR, by rw [ht]; exact hP, va_K.moved hW.alike hK, hD⟩, hS.F ht⟩) hS.2.2 dX10_shorter_254
                                    · skip
                                      exact absurd c182 c227
                                  · skip
                                    exact absurd c182 c211
                              · skip
                                rw [if_neg c189] at hR
                                refine lv_iload_n hx hb dX10_shorter_192 rfl (lv_at hl 2 rfl) ?_
                                refine lv_bipush (v := (7 : Int32)) hx hb dX10_shorter_193 (by decide) ?_
                                refine lv_icmp_ne (tgt := 222) hx hb dX10_shorter_195 (by decide) (fun c195 => ?_) (fun c195 => ?_)
                                · skip
                                  rw [if_neg c195] at hR
                                  refine lv_aload_n hx hb dX10_shorter_222 rfl (lv_at hl 1 rfl) ?_
                                  refine lv_iload_n hx hb dX10_shorter_223 rfl (lv_at hl 4 rfl) ?_
                                  refine wl_ci (va_runV (As := [.int y1]) (rest := []) ⟨hx, hb, hml, hown, hta⟩ (km_Mod_isZero l dC dI a k st y1 (hY (wl_ln c57) c85 c11)) (cwV 1 hta gX10_136 rfl rfl rfl (by decide +kernel) ⟨Nat.le_of_ble_eq_true rfl, Nat.le_of_ble_eq_true rfl⟩) (wl_pR (C := RX10) (ci := 8) (q0 := 0) hK hP rfl (mr_0 a k st)) rfl rfl hl.1 rfl (lv_room (Nat.le_of_ble_eq_true rfl)) dX10_shorter_224 ⟨Nat.zero_le _, Nat.zero_le _⟩) ?_
                                  refine lv_if_eq (tgt := 252) hx hb dX10_shorter_227 (by decide) (fun c227 => ?_) (fun c227 => ?_)
                                  · skip
                                    refine lv_bipush (v := (-9 : Int32)) hx hb dX10_shorter_252 (by decide) ?_
                                    exact W.iret (v := (-9 : Int32)) hx hb hr (fun t ht hW => ⟨⟨_, _, rfl, hR, by rw [ht]; exact hP, va_K.moved hW.alike hK, hD⟩, hS.F ht⟩) hS.2.2 dX10_shorter_254
                                  · skip
                                    exact absurd c182 c227
                                · skip
                                  rw [if_pos c195] at hR
                                  refine lv_aload_n hx hb dX10_shorter_198 rfl (lv_at hl 1 rfl) ?_
                                  refine lv_iload_n hx hb dX10_shorter_199 rfl (lv_at hl 3 rfl) ?_
                                  refine wl_ci (va_runV (As := [.int x1]) (rest := []) ⟨hx, hb, hml, hown, hta⟩ (km_Mod_isZero l dC dI a k st x1 hA) (cwV 1 hta gX10_136 rfl rfl rfl (by decide +kernel) ⟨Nat.le_of_ble_eq_true rfl, Nat.le_of_ble_eq_true rfl⟩) (wl_pR (C := RX10) (ci := 8) (q0 := 0) hK hP rfl (mr_0 a k st)) rfl rfl hl.1 rfl (lv_room (Nat.le_of_ble_eq_true rfl)) dX10_shorter_200 ⟨Nat.zero_le _, Nat.zero_le _⟩) ?_
                                  refine lv_if_ne (tgt := 214) hx hb dX10_shorter_203 (by decide) (fun c203 => ?_) (fun c203 => ?_)
                                  · skip
                                    exact absurd c161 c203
                                  · skip
                                    refine lv_aload_n hx hb dX10_shorter_206 rfl (lv_at hl 1 rfl) ?_
                                    refine lv_iload_n hx hb dX10_shorter_207 rfl (lv_at hl 4 rfl) ?_
                                    refine wl_ci (va_runV (As := [.int y1]) (rest := []) ⟨hx, hb, hml, hown, hta⟩ (km_Mod_isZero l dC dI a k st y1 (hY (wl_ln c57) c85 c11)) (cwV 1 hta gX10_136 rfl rfl rfl (by decide +kernel) ⟨Nat.le_of_ble_eq_true rfl, Nat.le_of_ble_eq_true rfl⟩) (wl_pR (C := RX10) (ci := 8) (q0 := 0) hK hP rfl (mr_0 a k st)) rfl rfl hl.1 rfl (lv_room (Nat.le_of_ble_eq_true rfl)) dX10_shorter_208 ⟨Nat.zero_le _, Nat.zero_le _⟩) ?_
                                    refine lv_if_eq (tgt := 222) hx hb dX10_shorter_211 (by decide) (fun c211 => ?_) (fun c211 => ?_)
                                    · skip
                                      refine lv_aload_n hx hb dX10_shorter_222 rfl (lv_at hl 1 rfl) ?_
                                      refine lv_iload_n hx hb dX10_shorter_223 rfl (lv_at hl 4 rfl) ?_
                                      refine wl_ci (va_runV (As := [.int y1]) (rest := []) ⟨hx, hb, hml, hown, hta⟩ (km_Mod_isZero l dC dI a k st y1 (hY (wl_ln c57) c85 c11)) (cwV 1 hta gX10_136 rfl rfl rfl (by decide +kernel) ⟨Nat.le_of_ble_eq_true rfl, Nat.le_of_ble_eq_true rfl⟩) (wl_pR (C := RX10) (ci := 8) (q0 := 0) hK hP rfl (mr_0 a k st)) rfl rfl hl.1 rfl (lv_room (Nat.le_of_ble_eq_true rfl)) dX10_shorter_224 ⟨Nat.zero_le _, Nat.zero_le _⟩) ?_
                                      refine lv_if_eq (tgt := 252) hx hb dX10_shorter_227 (by decide) (fun c227 => ?_) (fun c227 => ?_)
                                      · skip
                                        refine lv_bipush (v := (-9 : Int32)) hx hb dX10_shorter_252 (by decide) ?_
                                        exact W.iret (v := (-9 : Int32)) hx hb hr (fun t ht hW => ⟨⟨_, _, rfl, hR, by rw [ht]; exact hP, va_K.moved hW.alike hK, hD⟩, hS.F ht⟩) hS.2.2 dX10_shorter_254
                                      · skip
                                        exact absurd c182 c227
                                    · skip
                                      exact absurd c182 c211
                            · skip
                              rw [if_neg c182] at hR
                              refine lv_iload_n hx hb dX10_shorter_185 rfl (lv_at hl 3 rfl) ?_
                              exact W.iret (v := x1) hx hb hr (fun t ht hW => ⟨⟨_, _, rfl, hR, by rw [ht]; exact hP, va_K.moved hW.alike hK, hD⟩, hS.F ht⟩) hS.2.2 dX10_shorter_186
                      · skip
                        rw [if_neg c161] at hR
                        refine lv_iload_n hx hb dX10_shorter_164 rfl (lv_at hl 4 rfl) ?_
                        exact W.iret (v := y1) hx hb hr (fun t ht hW => ⟨⟨_, _, rfl, hR, by rw [ht]; exact hP, va_K.moved hW.alike hK, hD⟩, hS.F ht⟩) hS.2.2 dX10_shorter_165
                · skip
                  rw [if_neg c125] at hR
                  refine lv_aload_n hx hb dX10_shorter_128 rfl (lv_at hl 1 rfl) ?_
                  refine lv_iconst (v := (1 : Int32)) hx hb dX10_shorter_129 (by decide) ?_
                  refine lv_iload_n hx hb dX10_shorter_130 rfl (lv_at hl 2 rfl) ?_
                  refine lv_bipush (v := (13 : Int32)) hx hb dX10_shorter_131 (by decide) ?_
                  refine lv_icmp_ne (tgt := 140) hx hb dX10_shorter_133 (by decide) (fun c133 => ?_) (fun c133 => ?_)
                  · skip
                    rw [if_neg c133] at hR
                    refine lv_lconst (v := (0 : Int64)) hx hb dX10_shorter_140 (by decide) ?_
                    refine wl_mi (va_runV (As := [.int (1 : Int32), .long (0 : Int64)]) (rest := []) ⟨hx, hb, hml, hown, hta⟩ (km_Mod_constantOf l dC dI a k st (1 : Int32) (0 : Int64) _ N hN h64) (cwV 2 hta gX10_84 rfl rfl rfl (by decide +kernel) ⟨Nat.le_of_ble_eq_true rfl, Nat.le_of_ble_eq_true rfl⟩) (wl_pM (C := RX10) (ci := 8) (q0 := 0) hK hP hD rfl (mr_0 a k st)) rfl rfl hl.1 rfl (lv_room (Nat.le_of_ble_eq_true rfl)) dX10_shorter_141 ⟨Nat.zero_le _, Nat.zero_le _⟩) hP hD hS hAz (fun r141 u141 H locs hw141 hP hD hS => ?_)
                    have v141 : (fm_Mod_constantOf st (1 : Int32) (0 : Int64)).1 = r141 := congrArg Prod.fst hw141.symm
                    have w141 : (fm_Mod_constantOf st (1 : Int32) (0 : Int64)).2 = u141 := congrArg Prod.snd hw141.symm
                    have hf141 : XF [0] [0, 1, 2, 3, 4] [0] st u141 := by rw [← w141]; exact ff_Mod_constantOf st (1 : Int32) (0 : Int64)
                    try rw [v141] at hR
                    try rw [w141] at hR
                    exact W.iret (v := r141) hx hb hr (fun t ht hW => ⟨⟨_, _, rfl, hR, by rw [ht]; exact hP, va_K.moved hW.alike hK, hD⟩, hS.F ht⟩) hS.2.2 dX10_shorter_144
                  · skip
                    rw [if_pos c133] at hR
                    refine lv_lconst (v := (1 : Int64)) hx hb dX10_shorter_136 (by decide) ?_
                    refine lv_goto (tgt := 141) hx hb dX10_shorter_137 (by decide) ?_
                    refine wl_mi (va_runV (As := [.int (1 : Int32), .long (1 : Int64)]) (rest := []) ⟨hx, hb, hml, hown, hta⟩ (km_Mod_constantOf l dC dI a k st (1 : Int32) (1 : Int64) _ N hN h64) (cwV 2 hta gX10_84 rfl rfl rfl (by decide +kernel) ⟨Nat.le_of_ble_eq_true rfl, Nat.le_of_ble_eq_true rfl⟩) (wl_pM (C := RX10) (ci := 8) (q0 := 0) hK hP hD rfl (mr_0 a k st)) rfl rfl hl.1 rfl (lv_room (Nat.le_of_ble_eq_true rfl)) dX10_shorter_141 ⟨Nat.zero_le _, Nat.zero_le _⟩) hP hD hS hAz (fun r141 u141 H locs hw141 hP hD hS => ?_)
                    have v141 : (fm_Mod_constantOf st (1 : Int32) (1 : Int64)).1 = r141 := congrArg Prod.fst hw141.symm
                    have w141 : (fm_Mod_constantOf st (1 : Int32) (1 : Int64)).2 = u141 := congrArg Prod.snd hw141.symm
                    have hf141 : XF [0] [0, 1, 2, 3, 4] [0] st u141 := by rw [← w141]; exact ff_Mod_constantOf st (1 : Int32) (1 : Int64)
                    try rw [v141] at hR
                    try rw [w141] at hR
                    exact W.iret (v := r141) hx hb hr (fun t ht hW => ⟨⟨_, _, rfl, hR, by rw [ht]; exact hP, va_K.moved hW.alike hK, hD⟩, hS.F ht⟩) hS.2.2 dX10_shorter_144
              · skip
                rw [if_pos c111] at hR
                refine lv_aload_n hx hb dX10_shorter_114 rfl (lv_at hl 1 rfl) ?_
                refine lv_iload hx hb dX10_shorter_115 (lv_at hl 0 rfl) ?_
                refine lv_lconst (v := (0 : Int64)) hx hb dX10_shorter_117 (by decide) ?_
                refine wl_mi (va_runV (As := [.int (fA st 4 x1.toNatClampNeg), .long (0 : Int64)]) (rest := []) ⟨hx, hb, hml, hown, hta⟩ (km_Mod_constantOf l dC dI a k st (fA st 4 x1.toNatClampNeg) (0 : Int64) _ N hN h64) (cwV 2 hta gX10_84 rfl rfl rfl (by decide +kernel) ⟨Nat.le_of_ble_eq_true rfl, Nat.le_of_ble_eq_true rfl⟩) (wl_pM (C := RX10) (ci := 8) (q0 := 0) hK hP hD rfl (mr_0 a k st)) rfl rfl hl.1 rfl (lv_room (Nat.le_of_ble_eq_true rfl)) dX10_shorter_118 ⟨Nat.zero_le _, Nat.zero_le _⟩) hP hD hS hAz (fun r118 u118 H locs hw118 hP hD hS => ?_)
                have v118 : (fm_Mod_constantOf st (fA st 4 x1.toNatClampNeg) (0 : Int64)).1 = r118 := congrArg Prod.fst hw118.symm
                have w118 : (fm_Mod_constantOf st (fA st 4 x1.toNatClampNeg) (0 : Int64)).2 = u118 := congrArg Prod.snd hw118.symm
                have hf118 : XF [0] [0, 1, 2, 3, 4] [0] st u118 := by rw [← w118]; exact ff_Mod_constantOf st (fA st 4 x1.toNatClampNeg) (0 : Int64)
                try rw [v118] at hR
                try rw [w118] at hR
                exact W.iret (v := r118) hx hb hr (fun t ht hW => ⟨⟨_, _, rfl, hR, by rw [ht]; exact hP, va_K.moved hW.alike hK, hD⟩, hS.F ht⟩) hS.2.2 dX10_shorter_121
          · skip
            rw [if_neg c98] at hR
            refine lv_iload_n hx hb dX10_shorter_101 rfl (lv_at hl 3 rfl) ?_
            exact W.iret (v := x1) hx hb hr (fun t ht hW => ⟨⟨_, _, rfl, hR, by rw [ht]; exact hP, va_K.moved hW.alike hK, hD⟩, hS.F ht⟩) hS.2.2 dX10_shorter_102
      · skip
        rw [if_neg c85] at hR
        refine lv_bipush (v := (-9 : Int32)) hx hb dX10_shorter_88 (by decide) ?_
        exact W.iret (v := (-9 : Int32)) hx hb hr (fun t ht hW => ⟨⟨_, _, rfl, hR, by rw [ht]; exact hP, va_K.moved hW.alike hK, hD⟩, hS.F ht⟩) hS.2.2 dX10_shorter_90
    · skip
      rw [if_neg c57] at hR
      refine lv_aload_n hx hb dX10_shorter_60 rfl (lv_at hl 1 rfl) ?_
      refine va_get (D := (dC, dI)) (ci := 8) (v := .ref (a 1)) (C := RX10) (T := TX10) (N := 21) hx hb hta inX10 hown hK hP 0 (mr_0 a k st) rfl 7 (by decide) hf31 (fun _ h9 => h9) rfl dX10_shorter_61 ?_
      refine lv_iload_n hx hb dX10_shorter_64 rfl (lv_at hl 3 rfl) ?_
      refine va_iald hx hb hK hP 1 0 (mr_1 a k st) rfl hA dX10_shorter_65 ?_
      refine lv_iload_n hx hb dX10_shorter_66 rfl (lv_at hl 2 rfl) ?_
      refine lv_icmp_ne (tgt := 79) hx hb dX10_shorter_67 (by decide) (fun c67 => ?_) (fun c67 => ?_)
      · skip
        rw [if_neg c67] at hR
        refine lv_bipush (v := (-9 : Int32)) hx hb dX10_shorter_79 (by decide) ?_
        exact W.iret (v := (-9 : Int32)) hx hb hr (fun t ht hW => ⟨⟨_, _, rfl, hR, by rw [ht]; exact hP, va_K.moved hW.alike hK, hD⟩, hS.F ht⟩) hS.2.2 dX10_shorter_81
      · skip
        rw [if_pos c67] at hR
        refine lv_aload_n hx hb dX10_shorter_70 rfl (lv_at hl 1 rfl) ?_
        refine va_get (D := (dC, dI)) (ci := 8) (v := .ref (a 2)) (C := RX10) (T := TX10) (N := 21) hx hb hta inX10 hown hK hP 0 (mr_0 a k st) rfl 8 (by decide) hf35 (fun _ h9 => h9) rfl dX10_shorter_71 ?_
        refine lv_iload_n hx hb dX10_shorter_74 rfl (lv_at hl 3 rfl) ?_
        refine va_iald hx hb hK hP 2 1 (mr_2 a k st) rfl hA dX10_shorter_75 ?_
        refine lv_goto (tgt := 81) hx hb dX10_shorter_76 (by decide) ?_
        exact W.iret (v := fA st 1 x1.toNatClampNeg) hx hb hr (fun t ht hW => ⟨⟨_, _, rfl, hR, by rw [ht]; exact hP, va_K.moved hW.alike hK, hD⟩, hS.F ht⟩) hS.2.2 dX10_shorter_81
  · skip
    rw [if_pos c11] at hR
    refine lv_iload_n hx hb dX10_shorter_14 rfl (lv_at hl 4 rfl) ?_
    refine lv_iload hx hb dX10_shorter_15 (lv_at hl 5 rfl) ?_
    refine lv_icmp_ne (tgt := 24) hx hb dX10_shorter_17 (by decide) (fun c17 => ?_) (fun c17 => ?_)
    · skip
      rw [if_neg c17] at hR
      refine lv_aload_n hx hb dX10_shorter_24 rfl (lv_at hl 1 rfl) ?_
      refine lv_iload_n hx hb dX10_shorter_25 rfl (lv_at hl 3 rfl) ?_
      refine wl_ci (va_runV (As := [.int x1]) (rest := []) ⟨hx, hb, hml, hown, hta⟩ (km_Mod_isConst l dC dI a k st x1 hA) (cwV 1 hta gX10_121 rfl rfl rfl (by decide +kernel) ⟨Nat.le_of_ble_eq_true rfl, Nat.le_of_ble_eq_true rfl⟩) (wl_pR (C := RX10) (ci := 8) (q0 := 0) hK hP rfl (mr_0 a k st)) rfl rfl hl.1 rfl (lv_room (Nat.le_of_ble_eq_true rfl)) dX10_shorter_26 ⟨Nat.zero_le _, Nat.zero_le _⟩) ?_
      refine lv_if_eq (tgt := 52) hx hb dX10_shorter_29 (by decide) (fun c29 => ?_) (fun c29 => ?_)
      · skip
        rw [if_pos c29] at hR
        refine lv_bipush (v := (-9 : Int32)) hx hb dX10_shorter_52 (by decide) ?_
        exact W.iret (v := (-9 : Int32)) hx hb hr (fun t ht hW => ⟨⟨_, _, rfl, hR, by rw [ht]; exact hP, va_K.moved hW.alike hK, hD⟩, hS.F ht⟩) hS.2.2 dX10_shorter_54
      · skip
        rw [if_neg c29] at hR
        refine lv_aload_n hx hb dX10_shorter_32 rfl (lv_at hl 1 rfl) ?_
        refine va_get (D := (dC, dI)) (ci := 8) (v := .ref (a 6)) (C := RX10) (T := TX10) (N := 21) hx hb hta inX10 hown hK hP 0 (mr_0 a k st) rfl 12 (by decide) hf47 (fun _ h9 => h9) rfl dX10_shorter_33 ?_
        refine lv_iload_n hx hb dX10_shorter_36 rfl (lv_at hl 3 rfl) ?_
        refine va_lald hx hb hK hP 6 5 (mr_6 a k st) rfl hA dX10_shorter_37 ?_
        refine lv_lconst (v := (1 : Int64)) hx hb dX10_shorter_38 (by decide) ?_
        refine W.lcmp hx hb dX10_shorter_39 ?_
        refine lv_if_ne (tgt := 47) hx hb dX10_shorter_40 (by decide) (fun c40 => ?_) (fun c40 => ?_)
        · skip
          rw [if_neg c40] at hR
          refine lv_iload hx hb dX10_shorter_47 (lv_at hl 5 rfl) ?_
          refine lv_goto (tgt := 54) hx hb dX10_shorter_49 (by decide) ?_
          exact W.iret (v := z1) hx hb hr (fun t ht hW => ⟨⟨_, _, rfl, hR, by rw [ht]; exact hP, va_K.moved hW.alike hK, hD⟩, hS.F ht⟩) hS.2.2 dX10_shorter_54
        · skip
          rw [if_pos c40] at hR
          refine lv_iload_n hx hb dX10_shorter_43 rfl (lv_at hl 4 rfl) ?_
          refine lv_goto (tgt := 54) hx hb dX10_shorter_44 (by decide) ?_
          exact W.iret (v := y1) hx hb hr (fun t ht hW => ⟨⟨_, _, rfl, hR, by rw [ht]; exact hP, va_K.moved hW.alike hK, hD⟩, hS.F ht⟩) hS.2.2 dX10_shorter_54
    · skip
      rw [if_pos c17] at hR
      refine lv_iload_n hx hb dX10_shorter_20 rfl (lv_at hl 4 rfl) ?_
      refine lv_goto (tgt := 54) hx hb dX10_shorter_21 (by decide) ?_
      exact W.iret (v := y1) hx hb hr (fun t ht hW => ⟨⟨_, _, rfl, hR, by rw [ht]; exact hP, va_K.moved hW.alike hK, hD⟩, hS.F ht⟩) hS.2.2 dX10_shorter_54
