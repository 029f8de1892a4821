theorem wl_hasN {st : XS} {N : Nat} {t : Int32} (hN : gI st 6 = nI N) (h64 : N ≤ 64) (c : ¬ fx_Terms_has st t = 0) : vp_in t N := by
  rw [fx_Terms_has] at c
  by_cases h0 : t < (0 : Int32)
  · rw [if_pos h0] at c; exact absurd rfl c
  · rw [if_neg h0] at c
    by_cases h1 : gI st 6 ≤ t
    · rw [if_pos h1] at c; exact absurd rfl c
    · rw [hN, Int32.le_iff_toInt_le, nI_toInt (by omega)] at h1
      rw [Int32.lt_iff_toInt_lt, Int32.toInt_zero] at h0
      rw [vp_in_iff]; omega
theorem wl_has {st : XS} {N : Nat} {t : Int32} (hN : gI st 6 = nI N) (h64 : N ≤ 64) (c : ¬ fx_Terms_has st t = 0) : vp_in t 64 := vp_up (wl_hasN hN h64 c) h64
theorem wl_i3v {x : Int32} (h : vp_in x 64) : vp_in (x * (3 : Int32) + (0 : Int32)) 192 := by
  obtain ⟨t, ht, rfl⟩ := vp_in_of h (by decide)
  exact wl_i3 0 ht (by decide)
theorem wl_focL {st : XS} {N : Nat} {w : Int32} {x : Int64} (hN : gI st 6 = nI N) (h64 : N ≤ 64) : ∀ n i : Nat, ∃ N2 : Nat, gI (fx_Terms_findOrAddConstant_L10 st w x n i).2 6 = nI N2 ∧ N2 ≤ 64 := by
  intro n
  induction n with
  | zero => intro i; exact ⟨N, hN, h64⟩
  | succ n ih =>
    intro i
    have ret : ∀ r : Int32, ∃ N2 : Nat, gI ((r, st) : Int32 × XS).2 6 = nI N2 ∧ N2 ≤ 64 := fun r => ⟨N, hN, h64⟩
    have full : ∃ N2 : Nat, gI (if fx_Terms_isFull st = (0 : Int32) then ((fx_Terms_addPlain st (21 : Int32) w).1, wL (fx_Terms_addPlain st (21 : Int32) w).2 1 (fx_Terms_addPlain st (21 : Int32) w).1.toNatClampNeg (fx_Width_readSigned w x)) else ((-2 : Int32), st)).2 6 = nI N2 ∧ N2 ≤ 64 := by
      by_cases c : fx_Terms_isFull st = (0 : Int32)
      · rw [if_pos c]
        exact ⟨N + 1, (congrArg (· + (1 : Int32)) hN).trans (nI_1 N), wl_isFullN hN h64 c⟩
      · rw [if_neg c]; exact ⟨N, hN, h64⟩
    rw [fx_Terms_findOrAddConstant_L10]
    exact wl_ite (P := fun (q : Int32 × XS) => ∃ N2 : Nat, gI q.2 6 = nI N2 ∧ N2 ≤ 64) full (wl_ite (P := fun (q : Int32 × XS) => ∃ N2 : Nat, gI q.2 6 = nI N2 ∧ N2 ≤ 64) (ih _) (wl_ite (P := fun (q : Int32 × XS) => ∃ N2 : Nat, gI q.2 6 = nI N2 ∧ N2 ≤ 64) (wl_ite (P := fun (q : Int32 × XS) => ∃ N2 : Nat, gI q.2 6 = nI N2 ∧ N2 ≤ 64) (ret _) (ih _)) (ih _)))
theorem wl_focN {st : XS} {N : Nat} (w : Int32) (x : Int64) (hN : gI st 6 = nI N) (h64 : N ≤ 64) : ∃ N2 : Nat, gI (fx_Terms_findOrAddConstant st w x).2 6 = nI N2 ∧ N2 ≤ 64 := by
  rw [fx_Terms_findOrAddConstant]; exact wl_focL hN h64 65 0

theorem mw_149 : (.fieldLink RX6 9 RX6 "terms" "LPathSolver$Terms;" : Cond) ∈ AW := List.mem_filter.mpr ⟨List.mem_of_getElem? (i := 149) (by decide +kernel), rfl⟩
theorem mw_319 : (.code yX4_has cX4_has 2 (some .boolean) : Cond) ∈ AW := List.mem_filter.mpr ⟨List.mem_of_getElem? (i := 319) (by decide +kernel), rfl⟩
theorem mw_316 : (.methodLink RX6 21 yX4_has : Cond) ∈ AW := List.mem_filter.mpr ⟨List.mem_of_getElem? (i := 316) (by decide +kernel), rfl⟩
theorem mw_317 : (.instanceMethod yX4_has : Cond) ∈ AW := List.mem_filter.mpr ⟨List.mem_of_getElem? (i := 317) (by decide +kernel), rfl⟩
theorem mw_318 : (.selects RX4 yX4_has yX4_has : Cond) ∈ AW := List.mem_filter.mpr ⟨List.mem_of_getElem? (i := 318) (by decide +kernel), rfl⟩
theorem mw_320 : (.methodLink RX6 25 yX4_widthOf : Cond) ∈ AW := List.mem_filter.mpr ⟨List.mem_of_getElem? (i := 320) (by decide +kernel), rfl⟩
theorem gX6_21 : GoodIn AW (wsV RX6 21 RX4 yX4_has wsX4_has) := aw_V mw_316 mw_317 mw_318 mw_41 mw_319
theorem gX6_25 : GoodIn AW (wsV RX6 25 RX4 yX4_widthOf wsX4_widthOf) := aw_V mw_320 mw_321 mw_322 mw_41 mw_323
theorem dX6_areAlike_0 : decode cX6_areAlike 0 = .ok (.aload_n 0, 1) := by decide +kernel
theorem dX6_areAlike_1 : decode cX6_areAlike 1 = .ok (.getfield 9, 3) := by decide +kernel
theorem dX6_areAlike_4 : decode cX6_areAlike 4 = .ok (.iload_n 1, 1) := by decide +kernel
theorem dX6_areAlike_5 : decode cX6_areAlike 5 = .ok (.invokevirtual 21, 3) := by decide +kernel
theorem dX6_areAlike_8 : decode cX6_areAlike 8 = .ok (.ifCond .eq 37, 3) := by decide +kernel
theorem dX6_areAlike_11 : decode cX6_areAlike 11 = .ok (.aload_n 0, 1) := by decide +kernel
theorem dX6_areAlike_12 : decode cX6_areAlike 12 = .ok (.getfield 9, 3) := by decide +kernel
theorem dX6_areAlike_15 : decode cX6_areAlike 15 = .ok (.iload_n 2, 1) := by decide +kernel
theorem dX6_areAlike_16 : decode cX6_areAlike 16 = .ok (.invokevirtual 21, 3) := by decide +kernel
theorem dX6_areAlike_19 : decode cX6_areAlike 19 = .ok (.ifCond .eq 26, 3) := by decide +kernel
theorem dX6_areAlike_22 : decode cX6_areAlike 22 = .ok (.aload_n 0, 1) := by decide +kernel
theorem dX6_areAlike_23 : decode cX6_areAlike 23 = .ok (.getfield 9, 3) := by decide +kernel
theorem dX6_areAlike_26 : decode cX6_areAlike 26 = .ok (.iload_n 1, 1) := by decide +kernel
theorem dX6_areAlike_27 : decode cX6_areAlike 27 = .ok (.invokevirtual 25, 3) := by decide +kernel
theorem dX6_areAlike_30 : decode cX6_areAlike 30 = .ok (.aload_n 0, 1) := by decide +kernel
theorem dX6_areAlike_31 : decode cX6_areAlike 31 = .ok (.getfield 9, 3) := by decide +kernel
theorem dX6_areAlike_34 : decode cX6_areAlike 34 = .ok (.iload_n 2, 1) := by decide +kernel
theorem dX6_areAlike_35 : decode cX6_areAlike 35 = .ok (.invokevirtual 25, 3) := by decide +kernel
theorem dX6_areAlike_38 : decode cX6_areAlike 38 = .ok (.if_icmp .ne 7, 3) := by decide +kernel
theorem dX6_areAlike_41 : decode cX6_areAlike 41 = .ok (.iconst 1, 1) := by decide +kernel
theorem dX6_areAlike_42 : decode cX6_areAlike 42 = .ok (.goto 4, 3) := by decide +kernel
theorem dX6_areAlike_45 : decode cX6_areAlike 45 = .ok (.iconst 0, 1) := by decide +kernel
theorem dX6_areAlike_46 : decode cX6_areAlike 46 = .ok (.ireturn, 1) := by decide +kernel
def fx_Maker_areAlike (st : XS) (x1 : Int32) (y1 : Int32) : Int32 := 
  if fx_Terms_has st x1 = (0 : Int32) then (0 : Int32)
  else 
    if fx_Terms_has st y1 = (0 : Int32) then (0 : Int32)
    else 
      if fx_Terms_widthOf st x1 = fx_Terms_widthOf st y1 then (1 : Int32)
      else (0 : Int32)
set_option maxHeartbeats 4000000 in
set_option maxRecDepth 100000 in
theorem kx_Maker_areAlike (l : Launch) (dC : Nat → ClassId) (dI : Nat → Nat → Nat) (a : Nat → Nat) (k : Nat → ClassId) (st : XS) (x1 : Int32) (y1 : Int32) (N : Nat) (hN : gI st 6 = nI N) (h64 : N ≤ 64) : Met l yX6_areAlike wsX6_areAlike ({ frames := 1, cells := 0, slots := 0, locals := 21 }) (va_Pc [.ref (a 16), .int x1, .int y1] (wl_prR (dC, dI) vwCl (xt k) (xw a k st))) (vp_Si (fun r9 => r9 = fx_Maker_areAlike st x1 y1)) 0 0 (fun _ => False) := by
  refine Met.ofW (cc := cX6_areAlike) (maxL := 3) (ret := (some .boolean)) (by decide) rfl ?_
  intro p e s m args below meth c s₁ B hml hv
  obtain ⟨rfl, hP, hK⟩ := hv
  have hx := B.exec
  have hb := B.bytes
  have hr := B.returns
  have hta := aw_hts (atoms_spec (ws := wsX6_areAlike) B.pre)
  have hown : s.vm.findClass RX6 = some m.cls := findClass_of_methodNamed B.named
  have hlocks := B.notSynchronized
  have hf9 := hta _ mw_149
  have hl := lv_entry ([.ref (a 16), .int x1, .int y1]) (n := 3) (Nat.le_of_ble_eq_true rfl)
  rw [lg_entry_eq]
  generalize (lg_sl ([.ref (a 16), .int x1, .int y1]) ++ List.replicate (3 - (lg_sl ([.ref (a 16), .int x1, .int y1])).length) Slot.unset).toArray = ls at hl ⊢
  have hl : lv_has ls 3 [(0, .ref (a 16)), (1, .int x1), (2, .int y1)] := hl
  generalize hR : fx_Maker_areAlike st x1 y1 = R
  rw [fx_Maker_areAlike] at hR
  refine lv_aload_n hx hb dX6_areAlike_0 rfl (lv_at hl 0 rfl) ?_
  refine va_get (D := (dC, dI)) (ci := 4) (v := .ref (a 7)) (C := RX6) (T := TX6) (N := 2) hx hb hta inX6 hown hK hP 16 (xr_16 a k st) rfl 0 (by decide) hf9 (fun _ h9 => h9) rfl dX6_areAlike_1 ?_
  refine lv_iload_n hx hb dX6_areAlike_4 rfl (lv_at hl 1 rfl) ?_
  refine wl_ci (va_runV (As := [.int x1]) (rest := []) ⟨hx, hb, hml, hown, hta⟩ (kx_Terms_has l dC dI a k st x1) (cwV 1 hta gX6_21 rfl rfl rfl (by decide +kernel) ⟨Nat.le_of_ble_eq_true rfl, Nat.le_of_ble_eq_true rfl⟩) (wl_pR (C := RX4) (ci := 2) (q0 := 7) hK hP rfl (xr_7 a k st)) rfl rfl hl.1 rfl (lv_room (Nat.le_of_ble_eq_true rfl)) dX6_areAlike_5 ⟨Nat.zero_le _, Nat.zero_le _⟩) ?_
  refine lv_if_eq (tgt := 45) hx hb dX6_areAlike_8 (by decide) (fun c8 => ?_) (fun c8 => ?_)
  · skip
    rw [if_pos c8] at hR
    refine lv_iconst (v := (0 : Int32)) hx hb dX6_areAlike_45 (by decide) ?_
    exact W.zret (v := (0 : Int32)) (ty := .boolean) hx hb hr rfl (fun t ht hW => ⟨_, rfl, hR, ht⟩) (fun q h => by cases h) dX6_areAlike_46
  · skip
    rw [if_neg c8] at hR
    refine lv_aload_n hx hb dX6_areAlike_11 rfl (lv_at hl 0 rfl) ?_
    refine va_get (D := (dC, dI)) (ci := 4) (v := .ref (a 7)) (C := RX6) (T := TX6) (N := 2) hx hb hta inX6 hown hK hP 16 (xr_16 a k st) rfl 0 (by decide) hf9 (fun _ h9 => h9) rfl dX6_areAlike_12 ?_
    refine lv_iload_n hx hb dX6_areAlike_15 rfl (lv_at hl 2 rfl) ?_
    refine wl_ci (va_runV (As := [.int y1]) (rest := []) ⟨hx, hb, hml, hown, hta⟩ (kx_Terms_has l dC dI a k st y1) (cwV 1 hta gX6_21 rfl rfl rfl (by decide +kernel) ⟨Nat.le_of_ble_eq_true rfl, Nat.le_of_ble_eq_true rfl⟩) (wl_pR (C := RX4) (ci := 2) (q0 := 7) hK hP rfl (xr_7 a k st)) rfl rfl hl.1 rfl (lv_room (Nat.le_of_ble_eq_true rfl)) dX6_areAlike_16 ⟨Nat.zero_le _, Nat.zero_le _⟩) ?_
    refine lv_if_eq (tgt := 45) hx hb dX6_areAlike_19 (by decide) (fun c19 => ?_) (fun c19 => ?_)
    · skip
      rw [if_pos c19] at hR
      refine lv_iconst (v := (0 : Int32)) hx hb dX6_areAlike_45 (by decide) ?_
      exact W.zret (v := (0 : Int32)) (ty := .boolean) hx hb hr rfl (fun t ht hW => ⟨_, rfl, hR, ht⟩) (fun q h => by cases h) dX6_areAlike_46
    · skip
      rw [if_neg c19] at hR
      refine lv_aload_n hx hb dX6_areAlike_22 rfl (lv_at hl 0 rfl) ?_
      refine va_get (D := (dC, dI)) (ci := 4) (v := .ref (a 7)) (C := RX6) (T := TX6) (N := 2) hx hb hta inX6 hown hK hP 16 (xr_16 a k st) rfl 0 (by decide) hf9 (fun _ h9 => h9) rfl dX6_areAlike_23 ?_
      refine lv_iload_n hx hb dX6_areAlike_26 rfl (lv_at hl 1 rfl) ?_
      refine wl_ci (va_runV (As := [.int x1]) (rest := []) ⟨hx, hb, hml, hown, hta⟩ (kx_Terms_widthOf l dC dI a k st x1 (wl_has hN h64 c8)) (cwV 1 hta gX6_25 rfl rfl rfl (by decide +kernel) ⟨Nat.le_of_ble_eq_true rfl, Nat.le_of_ble_eq_true rfl⟩) (wl_pR (C := RX4) (ci := 2) (q0 := 7) hK hP rfl (xr_7 a k st)) rfl rfl hl.1 rfl (lv_room (Nat.le_of_ble_eq_true rfl)) dX6_areAlike_27 ⟨Nat.zero_le _, Nat.zero_le _⟩) ?_
      refine lv_aload_n hx hb dX6_areAlike_30 rfl (lv_at hl 0 rfl) ?_
      refine va_get (D := (dC, dI)) (ci := 4) (v := .ref (a 7)) (C := RX6) (T := TX6) (N := 2) hx hb hta inX6 hown hK hP 16 (xr_16 a k st) rfl 0 (by decide) hf9 (fun _ h9 => h9) rfl dX6_areAlike_31 ?_
      refine lv_iload_n hx hb dX6_areAlike_34 rfl (lv_at hl 2 rfl) ?_
      refine wl_ci (va_runV (As := [.int y1]) (rest := [.int (fx_Terms_widthOf st x1)]) ⟨hx, hb, hml, hown, hta⟩ (kx_Terms_widthOf l dC dI a k st y1 (wl_has hN h64 c19)) (cwV 1 hta gX6_25 rfl rfl rfl (by decide +kernel) ⟨Nat.le_of_ble_eq_true rfl, Nat.le_of_ble_eq_true rfl⟩) (wl_pR (C := RX4) (ci := 2) (q0 := 7) hK hP rfl (xr_7 a k st)) rfl rfl hl.1 rfl (lv_room (Nat.le_of_ble_eq_true rfl)) dX6_areAlike_35 ⟨Nat.zero_le _, Nat.zero_le _⟩) ?_
      refine lv_icmp_ne (tgt := 45) hx hb dX6_areAlike_38 (by decide) (fun c38 => ?_) (fun c38 => ?_)
      · skip
        rw [if_neg c38] at hR
        refine lv_iconst (v := (0 : Int32)) hx hb dX6_areAlike_45 (by decide) ?_
        exact W.zret (v := (0 : Int32)) (ty := .boolean) hx hb hr rfl (fun t ht hW => ⟨_, rfl, hR, ht⟩) (fun q h => by cases h) dX6_areAlike_46
      · skip
        rw [if_pos c38] at hR
        refine lv_iconst (v := (1 : Int32)) hx hb dX6_areAlike_41 (by decide) ?_
        refine lv_goto (tgt := 46) hx hb dX6_areAlike_42 (by decide) ?_
        exact W.zret (v := (1 : Int32)) (ty := .boolean) hx hb hr rfl (fun t ht hW => ⟨_, rfl, hR, ht⟩) (fun q h => by cases h) dX6_areAlike_46

theorem mw_348 : (.methodLink RX6 93 yX4_isConstant : Cond) ∈ AW := List.mem_filter.mpr ⟨List.mem_of_getElem? (i := 348) (by decide +kernel), rfl⟩
theorem gX6_93 : GoodIn AW (wsV RX6 93 RX4 yX4_isConstant wsX4_isConstant) := aw_V mw_348 mw_277 mw_278 mw_41 mw_279
theorem dX6_areConstants_0 : decode cX6_areConstants 0 = .ok (.aload_n 0, 1) := by decide +kernel
theorem dX6_areConstants_1 : decode cX6_areConstants 1 = .ok (.getfield 9, 3) := by decide +kernel
theorem dX6_areConstants_4 : decode cX6_areConstants 4 = .ok (.iload_n 2, 1) := by decide +kernel
theorem dX6_areConstants_5 : decode cX6_areConstants 5 = .ok (.invokevirtual 93, 3) := by decide +kernel
theorem dX6_areConstants_8 : decode cX6_areConstants 8 = .ok (.ifCond .eq 40, 3) := by decide +kernel
theorem dX6_areConstants_11 : decode cX6_areConstants 11 = .ok (.iload_n 1, 1) := by decide +kernel
theorem dX6_areConstants_12 : decode cX6_areConstants 12 = .ok (.iconst 2, 1) := by decide +kernel
theorem dX6_areConstants_13 : decode cX6_areConstants 13 = .ok (.if_icmp .lt 14, 3) := by decide +kernel
theorem dX6_areConstants_16 : decode cX6_areConstants 16 = .ok (.aload_n 0, 1) := by decide +kernel
theorem dX6_areConstants_17 : decode cX6_areConstants 17 = .ok (.getfield 9, 3) := by decide +kernel
theorem dX6_areConstants_20 : decode cX6_areConstants 20 = .ok (.iload_n 3, 1) := by decide +kernel
theorem dX6_areConstants_21 : decode cX6_areConstants 21 = .ok (.invokevirtual 93, 3) := by decide +kernel
theorem dX6_areConstants_24 : decode cX6_areConstants 24 = .ok (.ifCond .eq 24, 3) := by decide +kernel
theorem dX6_areConstants_27 : decode cX6_areConstants 27 = .ok (.iload_n 1, 1) := by decide +kernel
theorem dX6_areConstants_28 : decode cX6_areConstants 28 = .ok (.iconst 3, 1) := by decide +kernel
theorem dX6_areConstants_29 : decode cX6_areConstants 29 = .ok (.if_icmp .lt 15, 3) := by decide +kernel
theorem dX6_areConstants_32 : decode cX6_areConstants 32 = .ok (.aload_n 0, 1) := by decide +kernel
theorem dX6_areConstants_33 : decode cX6_areConstants 33 = .ok (.getfield 9, 3) := by decide +kernel
theorem dX6_areConstants_36 : decode cX6_areConstants 36 = .ok (.iload 4, 2) := by decide +kernel
theorem dX6_areConstants_38 : decode cX6_areConstants 38 = .ok (.invokevirtual 93, 3) := by decide +kernel
theorem dX6_areConstants_41 : decode cX6_areConstants 41 = .ok (.ifCond .eq 7, 3) := by decide +kernel
theorem dX6_areConstants_44 : decode cX6_areConstants 44 = .ok (.iconst 1, 1) := by decide +kernel
theorem dX6_areConstants_45 : decode cX6_areConstants 45 = .ok (.goto 4, 3) := by decide +kernel
theorem dX6_areConstants_48 : decode cX6_areConstants 48 = .ok (.iconst 0, 1) := by decide +kernel
theorem dX6_areConstants_49 : decode cX6_areConstants 49 = .ok (.ireturn, 1) := by decide +kernel
def fx_Maker_areConstants (st : XS) (nm : Int32) (a1 : Int32) (b1 : Int32) (c1 : Int32) : Int32 := 
  if fx_Terms_isConstant st a1 = (0 : Int32) then (0 : Int32)
  else 
    if nm < (2 : Int32) then 
      if nm < (3 : Int32) then (1 : Int32)
      else 
        if fx_Terms_isConstant st c1 = (0 : Int32) then (0 : Int32)
        else (1 : Int32)
    else 
      if fx_Terms_isConstant st b1 = (0 : Int32) then (0 : Int32)
      else 
        if nm < (3 : Int32) then (1 : Int32)
        else 
          if fx_Terms_isConstant st c1 = (0 : Int32) then (0 : Int32)
          else (1 : Int32)
set_option maxHeartbeats 4000000 in
set_option maxRecDepth 100000 in
theorem kx_Maker_areConstants (l : Launch) (dC : Nat → ClassId) (dI : Nat → Nat → Nat) (a : Nat → Nat) (k : Nat → ClassId) (st : XS) (nm : Int32) (a1 : Int32) (b1 : Int32) (c1 : Int32) (hA : vp_in a1 64) (hB : ¬ nm < (2 : Int32) → vp_in b1 64) (hC : ¬ nm < (3 : Int32) → vp_in c1 64) : Met l yX6_areConstants wsX6_areConstants ({ frames := 1, cells := 0, slots := 0, locals := 21 }) (va_Pc [.ref (a 16), .int nm, .int a1, .int b1, .int c1] (wl_prR (dC, dI) vwCl (xt k) (xw a k st))) (vp_Si (fun r9 => r9 = fx_Maker_areConstants st nm a1 b1 c1)) 0 0 (fun _ => False) := by
  refine Met.ofW (cc := cX6_areConstants) (maxL := 5) (ret := (some .boolean)) (by decide) rfl ?_
  intro p e s m args below meth c s₁ B hml hv
  obtain ⟨rfl, hP, hK⟩ := hv
  have hx := B.exec
  have hb := B.bytes
  have hr := B.returns
  have hta := aw_hts (atoms_spec (ws := wsX6_areConstants) B.pre)
  have hown : s.vm.findClass RX6 = some m.cls := findClass_of_methodNamed B.named
  have hlocks := B.notSynchronized
  have hf9 := hta _ mw_149
  have hl := lv_entry ([.ref (a 16), .int nm, .int a1, .int b1, .int c1]) (n := 5) (Nat.le_of_ble_eq_true rfl)
  rw [lg_entry_eq]
  generalize (lg_sl ([.ref (a 16), .int nm, .int a1, .int b1, .int c1]) ++ List.replicate (5 - (lg_sl ([.ref (a 16), .int nm, .int a1, .int b1, .int c1])).length) Slot.unset).toArray = ls at hl ⊢
  have hl : lv_has ls 5 [(0, .ref (a 16)), (1, .int nm), (2, .int a1), (3, .int b1), (4, .int c1)] := hl
  generalize hR : fx_Maker_areConstants st nm a1 b1 c1 = R
  rw [fx_Maker_areConstants] at hR
  refine lv_aload_n hx hb dX6_areConstants_0 rfl (lv_at hl 0 rfl) ?_
  refine va_get (D := (dC, dI)) (ci := 4) (v := .ref (a 7)) (C := RX6) (T := TX6) (N := 2) hx hb hta inX6 hown hK hP 16 (xr_16 a k st) rfl 0 (by decide) hf9 (fun _ h9 => h9) rfl dX6_areConstants_1 ?_
  refine lv_iload_n hx hb dX6_areConstants_4 rfl (lv_at hl 2 rfl) ?_
  refine wl_ci (va_runV (As := [.int a1]) (rest := []) ⟨hx, hb, hml, hown, hta⟩ (kx_Terms_isConstant l dC dI a k st a1 hA) (cwV 1 hta gX6_93 rfl rfl rfl (by decide +kernel) ⟨Nat.le_of_ble_eq_true rfl, Nat.le_of_ble_eq_true rfl⟩) (wl_pR (C := RX4) (ci := 2) (q0 := 7) hK hP rfl (xr_7 a k st)) rfl rfl hl.1 rfl (lv_room (Nat.le_of_ble_eq_true rfl)) dX6_areConstants_5 ⟨Nat.zero_le _, Nat.zero_le _⟩) ?_
  refine lv_if_eq (tgt := 48) hx hb dX6_areConstants_8 (by decide) (fun c8 => ?_) (fun c8 => ?_)
  · skip
    rw [if_pos c8] at hR
    refine lv_iconst (v := (0 : Int32)) hx hb dX6_areConstants_48 (by decide) ?_
    exact W.zret (v := (0 : Int32)) (ty := .boolean) hx hb hr rfl (fun t ht hW => ⟨_, rfl, hR, ht⟩) (fun q h => by cases h) dX6_areConstants_49
  · skip
    rw [if_neg c8] at hR
    refine lv_iload_n hx hb dX6_areConstants_11 rfl (lv_at hl 1 rfl) ?_
    refine lv_iconst (v := (2 : Int32)) hx hb dX6_areConstants_12 (by decide) ?_
    refine lv_icmp_lt (tgt := 27) hx hb dX6_areConstants_13 (by decide) (fun c13 => ?_) (fun c13 => ?_)
    · skip
      rw [if_pos c13] at hR
      refine lv_iload_n hx hb dX6_areConstants_27 rfl (lv_at hl 1 rfl) ?_
      refine lv_iconst (v := (3 : Int32)) hx hb dX6_areConstants_28 (by decide) ?_
      refine lv_icmp_lt (tgt := 44) hx hb dX6_areConstants_29 (by decide) (fun c29 => ?_) (fun c29 => ?_)
      · skip
        rw [if_pos c29] at hR
        refine lv_iconst (v := (1 : Int32)) hx hb dX6_areConstants_44 (by decide) ?_
        refine lv_goto (tgt := 49) hx hb dX6_areConstants_45 (by decide) ?_
        exact W.zret (v := (1 : Int32)) (ty := .boolean) hx hb hr rfl (fun t ht hW => ⟨_, rfl, hR, ht⟩) (fun q h => by cases h) dX6_areConstants_49
      · skip
        rw [if_neg c29] at hR
        refine lv_aload_n hx hb dX6_areConstants_32 rfl (lv_at hl 0 rfl) ?_
        refine va_get (D := (dC, dI)) (ci := 4) (v := .ref (a 7)) (C := RX6) (T := TX6) (N := 2) hx hb hta inX6 hown hK hP 16 (xr_16 a k st) rfl 0 (by decide) hf9 (fun _ h9 => h9) rfl dX6_areConstants_33 ?_
        refine lv_iload hx hb dX6_areConstants_36 (lv_at hl 4 rfl) ?_
        refine wl_ci (va_runV (As := [.int c1]) (rest := []) ⟨hx, hb, hml, hown, hta⟩ (kx_Terms_isConstant l dC dI a k st c1 (hC c29)) (cwV 1 hta gX6_93 rfl rfl rfl (by decide +kernel) ⟨Nat.le_of_ble_eq_true rfl, Nat.le_of_ble_eq_true rfl⟩) (wl_pR (C := RX4) (ci := 2) (q0 := 7) hK hP rfl (xr_7 a k st)) rfl rfl hl.1 rfl (lv_room (Nat.le_of_ble_eq_true rfl)) dX6_areConstants_38 ⟨Nat.zero_le _, Nat.zero_le _⟩) ?_
        refine lv_if_eq (tgt := 48) hx hb dX6_areConstants_41 (by decide) (fun c41 => ?_) (fun c41 => ?_)
        · skip
          rw [if_pos c41] at hR
          refine lv_iconst (v := (0 : Int32)) hx hb dX6_areConstants_48 (by decide) ?_
          exact W.zret (v := (0 : Int32)) (ty := .boolean) hx hb hr rfl (fun t ht hW => ⟨_, rfl, hR, ht⟩) (fun q h => by cases h) dX6_areConstants_49
        · skip
          rw [if_neg c41] at hR
          refine lv_iconst (v := (1 : Int32)) hx hb dX6_areConstants_44 (by decide) ?_
          refine lv_goto (tgt := 49) hx hb dX6_areConstants_45 (by decide) ?_
          exact W.zret (v := (1 : Int32)) (ty := .boolean) hx hb hr rfl (fun t ht hW => ⟨_, rfl, hR, ht⟩) (fun q h => by cases h) dX6_areConstants_49
    · skip
      rw [if_neg c13] at hR
      refine lv_aload_n hx hb dX6_areConstants_16 rfl (lv_at hl 0 rfl) ?_
      refine va_get (D := (dC, dI)) (ci := 4) (v := .ref (a 7)) (C := RX6) (T := TX6) (N := 2) hx hb hta inX6 hown hK hP 16 (xr_16 a k st) rfl 0 (by decide) hf9 (fun _ h9 => h9) rfl dX6_areConstants_17 ?_
      refine lv_iload_n hx hb dX6_areConstants_20 rfl (lv_at hl 3 rfl) ?_
      refine wl_ci (va_runV (As := [.int b1]) (rest := []) ⟨hx, hb, hml, hown, hta⟩ (kx_Terms_isConstant l dC dI a k st b1 (hB c13)) (cwV 1 hta gX6_93 rfl rfl rfl (by decide +kernel) ⟨Nat.le_of_ble_eq_true rfl, Nat.le_of_ble_eq_true rfl⟩) (wl_pR (C := RX4) (ci := 2) (q0 := 7) hK hP rfl (xr_7 a k st)) rfl rfl hl.1 rfl (lv_room (Nat.le_of_ble_eq_true rfl)) dX6_areConstants_21 ⟨Nat.zero_le _, Nat.zero_le _⟩) ?_
      refine lv_if_eq (tgt := 48) hx hb dX6_areConstants_24 (by decide) (fun c24 => ?_) (fun c24 => ?_)
      · skip
        rw [if_pos c24] at hR
        refine lv_iconst (v := (0 : Int32)) hx hb dX6_areConstants_48 (by decide) ?_
        exact W.zret (v := (0 : Int32)) (ty := .boolean) hx hb hr rfl (fun t ht hW => ⟨_, rfl, hR, ht⟩) (fun q h => by cases h) dX6_areConstants_49
      · skip
        rw [if_neg c24] at hR
        refine lv_iload_n hx hb dX6_areConstants_27 rfl (lv_at hl 1 rfl) ?_
        refine lv_iconst (v := (3 : Int32)) hx hb dX6_areConstants_28 (by decide) ?_
        refine lv_icmp_lt (tgt := 44) hx hb dX6_areConstants_29 (by decide) (fun c29 => ?_) (fun c29 => ?_)
        · skip
          rw [if_pos c29] at hR
          refine lv_iconst (v := (1 : Int32)) hx hb dX6_areConstants_44 (by decide) ?_
          refine lv_goto (tgt := 49) hx hb dX6_areConstants_45 (by decide) ?_
          exact W.zret (v := (1 : Int32)) (ty := .boolean) hx hb hr rfl (fun t ht hW => ⟨_, rfl, hR, ht⟩) (fun q h => by cases h) dX6_areConstants_49
        · skip
          rw [if_neg c29] at hR
          refine lv_aload_n hx hb dX6_areConstants_32 rfl (lv_at hl 0 rfl) ?_
          refine va_get (D := (dC, dI)) (ci := 4) (v := .ref (a 7)) (C := RX6) (T := TX6) (N := 2) hx hb hta inX6 hown hK hP 16 (xr_16 a k st) rfl 0 (by decide) hf9 (fun _ h9 => h9) rfl dX6_areConstants_33 ?_
          refine lv_iload hx hb dX6_areConstants_36 (lv_at hl 4 rfl) ?_
          refine wl_ci (va_runV (As := [.int c1]) (rest := []) ⟨hx, hb, hml, hown, hta⟩ (kx_Terms_isConstant l dC dI a k st c1 (hC c29)) (cwV 1 hta gX6_93 rfl rfl rfl (by decide +kernel) ⟨Nat.le_of_ble_eq_true rfl, Nat.le_of_ble_eq_true rfl⟩) (wl_pR (C := RX4) (ci := 2) (q0 := 7) hK hP rfl (xr_7 a k st)) rfl rfl hl.1 rfl (lv_room (Nat.le_of_ble_eq_true rfl)) dX6_areConstants_38 ⟨Nat.zero_le _, Nat.zero_le _⟩) ?_
          refine lv_if_eq (tgt := 48) hx hb dX6_areConstants_41 (by decide) (fun c41 => ?_) (fun c41 => ?_)
          · skip
            rw [if_pos c41] at hR
            refine lv_iconst (v := (0 : Int32)) hx hb dX6_areConstants_48 (by decide) ?_
            exact W.zret (v := (0 : Int32)) (ty := .boolean) hx hb hr rfl (fun t ht hW => ⟨_, rfl, hR, ht⟩) (fun q h => by cases h) dX6_areConstants_49
          · skip
            rw [if_neg c41] at hR
            refine lv_iconst (v := (1 : Int32)) hx hb dX6_areConstants_44 (by decide) ?_
            refine lv_goto (tgt := 49) hx hb dX6_areConstants_45 (by decide) ?_
            exact W.zret (v := (1 : Int32)) (ty := .boolean) hx hb hr rfl (fun t ht hW => ⟨_, rfl, hR, ht⟩) (fun q h => by cases h) dX6_areConstants_49

theorem mw_327 : (.code yX6_areAlike cX6_areAlike 3 (some .boolean) : Cond) ∈ AW := List.mem_filter.mpr ⟨List.mem_of_getElem? (i := 327) (by decide +kernel), rfl⟩
theorem mw_324 : (.methodLink RX6 29 yX6_areAlike : Cond) ∈ AW := List.mem_filter.mpr ⟨List.mem_of_getElem? (i := 324) (by decide +kernel), rfl⟩
theorem mw_43 : (.initialized RX6 : Cond) ∈ AW := List.mem_filter.mpr ⟨List.mem_of_getElem? (i := 43) (by decide +kernel), rfl⟩
theorem mw_326 : (.instanceMethod yX6_areAlike : Cond) ∈ AW := List.mem_filter.mpr ⟨List.mem_of_getElem? (i := 326) (by decide +kernel), rfl⟩
theorem mw_1 : (.selects RX6 yX6_areAlike yX6_areAlike : Cond) ∈ AW := List.mem_filter.mpr ⟨List.mem_of_getElem? (i := 1) (by decide +kernel), rfl⟩
theorem mw_268 : (.code yX0_isOne cX0_isOne 1 (some .boolean) : Cond) ∈ AW := List.mem_filter.mpr ⟨List.mem_of_getElem? (i := 268) (by decide +kernel), rfl⟩
theorem mw_328 : (.methodLink RX6 33 yX0_isOne : Cond) ∈ AW := List.mem_filter.mpr ⟨List.mem_of_getElem? (i := 328) (by decide +kernel), rfl⟩
theorem mw_267 : (.static yX0_isOne : Cond) ∈ AW := List.mem_filter.mpr ⟨List.mem_of_getElem? (i := 267) (by decide +kernel), rfl⟩
theorem mw_287 : (.code yX3_isTable cX3_isTable 1 (some .boolean) : Cond) ∈ AW := List.mem_filter.mpr ⟨List.mem_of_getElem? (i := 287) (by decide +kernel), rfl⟩
theorem mw_329 : (.methodLink RX6 38 yX3_isTable : Cond) ∈ AW := List.mem_filter.mpr ⟨List.mem_of_getElem? (i := 329) (by decide +kernel), rfl⟩
theorem mw_286 : (.static yX3_isTable : Cond) ∈ AW := List.mem_filter.mpr ⟨List.mem_of_getElem? (i := 286) (by decide +kernel), rfl⟩
theorem mw_332 : (.code yX1_isThereFor cX1_isThereFor 2 (some .boolean) : Cond) ∈ AW := List.mem_filter.mpr ⟨List.mem_of_getElem? (i := 332) (by decide +kernel), rfl⟩
theorem mw_330 : (.methodLink RX6 43 yX1_isThereFor : Cond) ∈ AW := List.mem_filter.mpr ⟨List.mem_of_getElem? (i := 330) (by decide +kernel), rfl⟩
theorem mw_331 : (.static yX1_isThereFor : Cond) ∈ AW := List.mem_filter.mpr ⟨List.mem_of_getElem? (i := 331) (by decide +kernel), rfl⟩
theorem gX6_29 : GoodIn AW (wsV RX6 29 RX6 yX6_areAlike wsX6_areAlike) := aw_V mw_324 mw_326 mw_1 mw_43 mw_327
theorem gX6_33 : GoodIn AW (va_wsS RX6 33 yX0_isOne wsX0_isOne) := aw_S mw_328 mw_267 mw_47 mw_268
theorem gX6_38 : GoodIn AW (va_wsS RX6 38 yX3_isTable wsX3_isTable) := aw_S mw_329 mw_286 mw_40 mw_287
theorem gX6_43 : GoodIn AW (va_wsS RX6 43 yX1_isThereFor wsX1_isThereFor) := aw_S mw_330 mw_331 mw_48 mw_332
theorem dX6_accepts_0 : decode cX6_accepts 0 = .ok (.iload_n 1, 1) := by decide +kernel
theorem dX6_accepts_1 : decode cX6_accepts 1 = .ok (.ifCond .lt 20, 3) := by decide +kernel
theorem dX6_accepts_4 : decode cX6_accepts 4 = .ok (.iload_n 1, 1) := by decide +kernel
theorem dX6_accepts_5 : decode cX6_accepts 5 = .ok (.bipush 20, 2) := by decide +kernel
theorem dX6_accepts_7 : decode cX6_accepts 7 = .ok (.if_icmp .gt 14, 3) := by decide +kernel
theorem dX6_accepts_10 : decode cX6_accepts 10 = .ok (.aload_n 0, 1) := by decide +kernel
theorem dX6_accepts_11 : decode cX6_accepts 11 = .ok (.getfield 9, 3) := by decide +kernel
theorem dX6_accepts_14 : decode cX6_accepts 14 = .ok (.iload_n 2, 1) := by decide +kernel
theorem dX6_accepts_15 : decode cX6_accepts 15 = .ok (.invokevirtual 21, 3) := by decide +kernel
theorem dX6_accepts_18 : decode cX6_accepts 18 = .ok (.ifCond .ne 5, 3) := by decide +kernel
theorem dX6_accepts_21 : decode cX6_accepts 21 = .ok (.iconst 0, 1) := by decide +kernel
theorem dX6_accepts_22 : decode cX6_accepts 22 = .ok (.ireturn, 1) := by decide +kernel
theorem dX6_accepts_23 : decode cX6_accepts 23 = .ok (.aload_n 0, 1) := by decide +kernel
theorem dX6_accepts_24 : decode cX6_accepts 24 = .ok (.getfield 9, 3) := by decide +kernel
theorem dX6_accepts_27 : decode cX6_accepts 27 = .ok (.iload_n 2, 1) := by decide +kernel
theorem dX6_accepts_28 : decode cX6_accepts 28 = .ok (.invokevirtual 25, 3) := by decide +kernel
theorem dX6_accepts_31 : decode cX6_accepts 31 = .ok (.istore 5, 2) := by decide +kernel
theorem dX6_accepts_33 : decode cX6_accepts 33 = .ok (.iload_n 1, 1) := by decide +kernel
theorem dX6_accepts_34 : decode cX6_accepts 34 = .ok (.tableswitch 180 0 20 #[98, 98, 180, 180, 180, 180, 180, 180, 180, 180, 180, 180, 180, 180, 180, 180, 100, 122, 122, 141, 160], 98) := by decide +kernel
theorem dX6_accepts_132 : decode cX6_accepts 132 = .ok (.iconst 1, 1) := by decide +kernel
theorem dX6_accepts_133 : decode cX6_accepts 133 = .ok (.ireturn, 1) := by decide +kernel
theorem dX6_accepts_134 : decode cX6_accepts 134 = .ok (.iload 5, 2) := by decide +kernel
theorem dX6_accepts_136 : decode cX6_accepts 136 = .ok (.iconst 1, 1) := by decide +kernel
theorem dX6_accepts_137 : decode cX6_accepts 137 = .ok (.if_icmp .ne 17, 3) := by decide +kernel
theorem dX6_accepts_140 : decode cX6_accepts 140 = .ok (.aload_n 0, 1) := by decide +kernel
theorem dX6_accepts_141 : decode cX6_accepts 141 = .ok (.iload_n 3, 1) := by decide +kernel
theorem dX6_accepts_142 : decode cX6_accepts 142 = .ok (.iload 4, 2) := by decide +kernel
theorem dX6_accepts_144 : decode cX6_accepts 144 = .ok (.invokevirtual 29, 3) := by decide +kernel
theorem dX6_accepts_147 : decode cX6_accepts 147 = .ok (.ifCond .eq 7, 3) := by decide +kernel
theorem dX6_accepts_150 : decode cX6_accepts 150 = .ok (.iconst 1, 1) := by decide +kernel
theorem dX6_accepts_151 : decode cX6_accepts 151 = .ok (.goto 4, 3) := by decide +kernel
theorem dX6_accepts_154 : decode cX6_accepts 154 = .ok (.iconst 0, 1) := by decide +kernel
theorem dX6_accepts_155 : decode cX6_accepts 155 = .ok (.ireturn, 1) := by decide +kernel
theorem dX6_accepts_156 : decode cX6_accepts 156 = .ok (.iload_n 3, 1) := by decide +kernel
theorem dX6_accepts_157 : decode cX6_accepts 157 = .ok (.invokestatic 33, 3) := by decide +kernel
theorem dX6_accepts_160 : decode cX6_accepts 160 = .ok (.ifCond .eq 13, 3) := by decide +kernel
theorem dX6_accepts_163 : decode cX6_accepts 163 = .ok (.iload_n 3, 1) := by decide +kernel
theorem dX6_accepts_164 : decode cX6_accepts 164 = .ok (.iload 5, 2) := by decide +kernel
theorem dX6_accepts_166 : decode cX6_accepts 166 = .ok (.if_icmp .le 7, 3) := by decide +kernel
theorem dX6_accepts_169 : decode cX6_accepts 169 = .ok (.iconst 1, 1) := by decide +kernel
theorem dX6_accepts_170 : decode cX6_accepts 170 = .ok (.goto 4, 3) := by decide +kernel
theorem dX6_accepts_173 : decode cX6_accepts 173 = .ok (.iconst 0, 1) := by decide +kernel
theorem dX6_accepts_174 : decode cX6_accepts 174 = .ok (.ireturn, 1) := by decide +kernel
theorem dX6_accepts_175 : decode cX6_accepts 175 = .ok (.iload_n 3, 1) := by decide +kernel
theorem dX6_accepts_176 : decode cX6_accepts 176 = .ok (.invokestatic 33, 3) := by decide +kernel
theorem dX6_accepts_179 : decode cX6_accepts 179 = .ok (.ifCond .eq 13, 3) := by decide +kernel
theorem dX6_accepts_182 : decode cX6_accepts 182 = .ok (.iload_n 3, 1) := by decide +kernel
theorem dX6_accepts_183 : decode cX6_accepts 183 = .ok (.iload 5, 2) := by decide +kernel
theorem dX6_accepts_185 : decode cX6_accepts 185 = .ok (.if_icmp .ge 7, 3) := by decide +kernel
theorem dX6_accepts_188 : decode cX6_accepts 188 = .ok (.iconst 1, 1) := by decide +kernel
theorem dX6_accepts_189 : decode cX6_accepts 189 = .ok (.goto 4, 3) := by decide +kernel
theorem dX6_accepts_192 : decode cX6_accepts 192 = .ok (.iconst 0, 1) := by decide +kernel
theorem dX6_accepts_193 : decode cX6_accepts 193 = .ok (.ireturn, 1) := by decide +kernel
theorem dX6_accepts_194 : decode cX6_accepts 194 = .ok (.iload 5, 2) := by decide +kernel
theorem dX6_accepts_196 : decode cX6_accepts 196 = .ok (.bipush 8, 2) := by decide +kernel
theorem dX6_accepts_198 : decode cX6_accepts 198 = .ok (.if_icmp .ne 14, 3) := by decide +kernel
theorem dX6_accepts_201 : decode cX6_accepts 201 = .ok (.iload_n 3, 1) := by decide +kernel
theorem dX6_accepts_202 : decode cX6_accepts 202 = .ok (.invokestatic 38, 3) := by decide +kernel
theorem dX6_accepts_205 : decode cX6_accepts 205 = .ok (.ifCond .eq 7, 3) := by decide +kernel
theorem dX6_accepts_208 : decode cX6_accepts 208 = .ok (.iconst 1, 1) := by decide +kernel
theorem dX6_accepts_209 : decode cX6_accepts 209 = .ok (.goto 4, 3) := by decide +kernel
theorem dX6_accepts_212 : decode cX6_accepts 212 = .ok (.iconst 0, 1) := by decide +kernel
theorem dX6_accepts_213 : decode cX6_accepts 213 = .ok (.ireturn, 1) := by decide +kernel
theorem dX6_accepts_214 : decode cX6_accepts 214 = .ok (.aload_n 0, 1) := by decide +kernel
theorem dX6_accepts_215 : decode cX6_accepts 215 = .ok (.iload_n 2, 1) := by decide +kernel
theorem dX6_accepts_216 : decode cX6_accepts 216 = .ok (.iload_n 3, 1) := by decide +kernel
theorem dX6_accepts_217 : decode cX6_accepts 217 = .ok (.invokevirtual 29, 3) := by decide +kernel
theorem dX6_accepts_220 : decode cX6_accepts 220 = .ok (.ifCond .eq 16, 3) := by decide +kernel
theorem dX6_accepts_223 : decode cX6_accepts 223 = .ok (.iload_n 1, 1) := by decide +kernel
theorem dX6_accepts_224 : decode cX6_accepts 224 = .ok (.iload 5, 2) := by decide +kernel
theorem dX6_accepts_226 : decode cX6_accepts 226 = .ok (.invokestatic 43, 3) := by decide +kernel
theorem dX6_accepts_229 : decode cX6_accepts 229 = .ok (.ifCond .eq 7, 3) := by decide +kernel
theorem dX6_accepts_232 : decode cX6_accepts 232 = .ok (.iconst 1, 1) := by decide +kernel
theorem dX6_accepts_233 : decode cX6_accepts 233 = .ok (.goto 4, 3) := by decide +kernel
theorem dX6_accepts_236 : decode cX6_accepts 236 = .ok (.iconst 0, 1) := by decide +kernel
theorem dX6_accepts_237 : decode cX6_accepts 237 = .ok (.ireturn, 1) := by decide +kernel
def fx_Maker_accepts (st : XS) (o : Int32) (a1 : Int32) (b1 : Int32) (d1 : Int32) : Int32 := 
  if o < (0 : Int32) then (0 : Int32)
  else 
    if (20 : Int32) < o then (0 : Int32)
    else 
      if fx_Terms_has st a1 = (0 : Int32) then (0 : Int32)
      else 
        if o = (0 : Int32) then (1 : Int32)
        else 
          if o = (1 : Int32) then (1 : Int32)
          else 
            if o = (16 : Int32) then 
              if fx_Terms_widthOf st a1 = (1 : Int32) then 
                if fx_Maker_areAlike st b1 d1 = (0 : Int32) then (0 : Int32)
                else (1 : Int32)
              else (0 : Int32)
            else 
              if o = (17 : Int32) then 
                if fx_Width_isOne b1 = (0 : Int32) then (0 : Int32)
                else 
                  if b1 ≤ fx_Terms_widthOf st a1 then (0 : Int32)
                  else (1 : Int32)
              else 
                if o = (18 : Int32) then 
                  if fx_Width_isOne b1 = (0 : Int32) then (0 : Int32)
                  else 
                    if b1 ≤ fx_Terms_widthOf st a1 then (0 : Int32)
                    else (1 : Int32)
                else 
                  if o = (19 : Int32) then 
                    if fx_Width_isOne b1 = (0 : Int32) then (0 : Int32)
                    else 
                      if fx_Terms_widthOf st a1 ≤ b1 then (0 : Int32)
                      else (1 : Int32)
                  else 
                    if o = (20 : Int32) then 
                      if fx_Terms_widthOf st a1 = (8 : Int32) then 
                        if fx_Tabs_isTable b1 = (0 : Int32) then (0 : Int32)
                        else (1 : Int32)
                      else (0 : Int32)
                    else 
                      if fx_Maker_areAlike st a1 b1 = (0 : Int32) then (0 : Int32)
                      else 
                        if fx_Op_isThereFor o (fx_Terms_widthOf st a1) = (0 : Int32) then (0 : Int32)
                        else (1 : Int32)
set_option maxHeartbeats 4000000 in
set_option maxRecDepth 100000 in
theorem kx_Maker_accepts (l : Launch) (dC : Nat → ClassId) (dI : Nat → Nat → Nat) (a : Nat → Nat) (k : Nat → ClassId) (st : XS) (o : Int32) (a1 : Int32) (b1 : Int32) (d1 : Int32) (N : Nat) (hN : gI st 6 = nI N) (h64 : N ≤ 64) : Met l yX6_accepts wsX6_accepts ({ frames := 2, cells := 0, slots := 0, locals := 43 }) (va_Pc [.ref (a 16), .int o, .int a1, .int b1, .int d1] (wl_prR (dC, dI) vwCl (xt k) (xw a k st))) (vp_Si (fun r9 => r9 = fx_Maker_accepts st o a1 b1 d1)) 0 0 (fun _ => False) := by
  refine Met.ofW (cc := cX6_accepts) (maxL := 6) (ret := (some .boolean)) (by decide) rfl ?_
  intro p e s m args below meth c s₁ B hml hv
  obtain ⟨rfl, hP, hK⟩ := hv
  have hx := B.exec
  have hb := B.bytes
  have hr := B.returns
  have hta := aw_hts (atoms_spec (ws := wsX6_accepts) B.pre)
  have hown : s.vm.findClass RX6 = some m.cls := findClass_of_methodNamed B.named
  have hlocks := B.notSynchronized
  have hf9 := hta _ mw_149
  have hl := lv_entry ([.ref (a 16), .int o, .int a1, .int b1, .int d1]) (n := 6) (Nat.le_of_ble_eq_true rfl)
  rw [lg_entry_eq]
  generalize (lg_sl ([.ref (a 16), .int o, .int a1, .int b1, .int d1]) ++ List.replicate (6 - (lg_sl ([.ref (a 16), .int o, .int a1, .int b1, .int d1])).length) Slot.unset).toArray = ls at hl ⊢
  have hl : lv_has ls 6 [(0, .ref (a 16)), (1, .int o), (2, .int a1), (3, .int b1), (4, .int d1)] := hl
  generalize hR : fx_Maker_accepts st o a1 b1 d1 = R
  rw [fx_Maker_accepts] at hR
  refine lv_iload_n hx hb dX6_accepts_0 rfl (lv_at hl 1 rfl) ?_
  refine lv_if_lt (tgt := 21) hx hb dX6_accepts_1 (by decide) (fun c1 => ?_) (fun c1 => ?_)
  · skip
    rw [if_pos c1] at hR
    refine lv_iconst (v := (0 : Int32)) hx hb dX6_accepts_21 (by decide) ?_
    exact W.zret (v := (0 : Int32)) (ty := .boolean) hx hb hr rfl (fun t ht hW => ⟨_, rfl, hR, ht⟩) (fun q h => by cases h) dX6_accepts_22
  · skip
    rw [if_neg c1] at hR
    refine lv_iload_n hx hb dX6_accepts_4 rfl (lv_at hl 1 rfl) ?_
    refine lv_bipush (v := (20 : Int32)) hx hb dX6_accepts_5 (by decide) ?_
    refine lv_icmp_gt (tgt := 21) hx hb dX6_accepts_7 (by decide) (fun c7 => ?_) (fun c7 => ?_)
    · skip
      rw [if_pos c7] at hR
      refine lv_iconst (v := (0 : Int32)) hx hb dX6_accepts_21 (by decide) ?_
      exact W.zret (v := (0 : Int32)) (ty := .boolean) hx hb hr rfl (fun t ht hW => ⟨_, rfl, hR, ht⟩) (fun q h => by cases h) dX6_accepts_22
    · skip
      rw [if_neg c7] at hR
      refine lv_aload_n hx hb dX6_accepts_10 rfl (lv_at hl 0 rfl) ?_
      refine va_get (D := (dC, dI)) (ci := 4) (v := .ref (a 7)) (C := RX6) (T := TX6) (N := 2) hx hb hta inX6 hown hK hP 16 (xr_16 a k st) rfl 0 (by decide) hf9 (fun _ h9 => h9) rfl dX6_accepts_11 ?_
      refine lv_iload_n hx hb dX6_accepts_14 rfl (lv_at hl 2 rfl) ?_
      refine wl_ci (va_runV (As := [.int a1]) (rest := []) ⟨hx, hb, hml, hown, hta⟩ (kx_Terms_has l dC dI a k st a1) (cwV 1 hta gX6_21 rfl rfl rfl (by decide +kernel) ⟨Nat.le_of_ble_eq_true rfl, Nat.le_of_ble_eq_true rfl⟩) (wl_pR (C := RX4) (ci := 2) (q0 := 7) hK hP rfl (xr_7 a k st)) rfl rfl hl.1 rfl (lv_room (Nat.le_of_ble_eq_true rfl)) dX6_accepts_15 ⟨Nat.zero_le _, Nat.zero_le _⟩) ?_
      refine lv_if_ne (tgt := 23) hx hb dX6_accepts_18 (by decide) (fun c18 => ?_) (fun c18 => ?_)
      · skip
        rw [if_neg c18] at hR
        refine lv_aload_n hx hb dX6_accepts_23 rfl (lv_at hl 0 rfl) ?_
        refine va_get (D := (dC, dI)) (ci := 4) (v := .ref (a 7)) (C := RX6) (T := TX6) (N := 2) hx hb hta inX6 hown hK hP 16 (xr_16 a k st) rfl 0 (by decide) hf9 (fun _ h9 => h9) rfl dX6_accepts_24 ?_
        refine lv_iload_n hx hb dX6_accepts_27 rfl (lv_at hl 2 rfl) ?_
        refine wl_ci (va_runV (As := [.int a1]) (rest := []) ⟨hx, hb, hml, hown, hta⟩ (kx_Terms_widthOf l dC dI a k st a1 (wl_has hN h64 c18)) (cwV 1 hta gX6_25 rfl rfl rfl (by decide +kernel) ⟨Nat.le_of_ble_eq_true rfl, Nat.le_of_ble_eq_true rfl⟩) (wl_pR (C := RX4) (ci := 2) (q0 := 7) hK hP rfl (xr_7 a k st)) rfl rfl hl.1 rfl (lv_room (Nat.le_of_ble_eq_true rfl)) dX6_accepts_28 ⟨Nat.zero_le _, Nat.zero_le _⟩) ?_
        refine lv_istore (lv' := [(5, .int (fx_Terms_widthOf st a1)), (0, .ref (a 16)), (1, .int o), (2, .int a1), (3, .int b1), (4, .int d1)]) hx hb dX6_accepts_31 hl (by decide) rfl (fun ls hl => ?_)
        refine lv_iload_n hx hb dX6_accepts_33 rfl (lv_at hl 2 rfl) ?_
        by_cases c34_0 : o = (0 : Int32)
        · skip
          rw [if_pos c34_0] at hR
          refine lv_tableIn (tgt := 132) hx hb dX6_accepts_34 (by rw [c34_0]; decide) (by rw [c34_0]; decide) (by rw [c34_0] <;> rfl) (by decide) ?_
          refine lv_iconst (v := (1 : Int32)) hx hb dX6_accepts_132 (by decide) ?_
          exact W.zret (v := (1 : Int32)) (ty := .boolean) hx hb hr rfl (fun t ht hW => ⟨_, rfl, hR, ht⟩) (fun q h => by cases h) dX6_accepts_133
        · skip
          rw [if_neg c34_0] at hR
          by_cases c34_1 : o = (1 : Int32)
          · skip
            rw [if_pos c34_1] at hR
            refine lv_tableIn (tgt := 132) hx hb dX6_accepts_34 (by rw [c34_1]; decide) (by rw [c34_1]; decide) (by rw [c34_1] <;> rfl) (by decide) ?_
            refine lv_iconst (v := (1 : Int32)) hx hb dX6_accepts_132 (by decide) ?_
            exact W.zret (v := (1 : Int32)) (ty := .boolean) hx hb hr rfl (fun t ht hW => ⟨_, rfl, hR, ht⟩) (fun q h => by cases h) dX6_accepts_133
          · skip
            rw [if_neg c34_1] at hR
            by_cases c34_16 : o = (16 : Int32)
            · skip
              rw [if_pos c34_16] at hR
              refine lv_tableIn (tgt := 134) hx hb dX6_accepts_34 (by rw [c34_16]; decide) (by rw [c34_16]; decide) (by rw [c34_16] <;> rfl) (by decide) ?_
              refine lv_iload hx hb dX6_accepts_134 (lv_at hl 0 rfl) ?_
              refine lv_iconst (v := (1 : Int32)) hx hb dX6_accepts_136 (by decide) ?_
              refine lv_icmp_ne (tgt := 154) hx hb dX6_accepts_137 (by decide) (fun c137 => ?_) (fun c137 => ?_)
              · skip
                rw [if_neg c137] at hR
                refine lv_iconst (v := (0 : Int32)) hx hb dX6_accepts_154 (by decide) ?_
                exact W.zret (v := (0 : Int32)) (ty := .boolean) hx hb hr rfl (fun t ht hW => ⟨_, rfl, hR, ht⟩) (fun q h => by cases h) dX6_accepts_155
              · skip
                rw [if_pos c137] at hR
                refine lv_aload_n hx hb dX6_accepts_140 rfl (lv_at hl 1 rfl) ?_
                refine lv_iload_n hx hb dX6_accepts_141 rfl (lv_at hl 4 rfl) ?_
                refine lv_iload hx hb dX6_accepts_142 (lv_at hl 5 rfl) ?_
                refine wl_ci (va_runV (As := [.int b1, .int d1]) (rest := []) ⟨hx, hb, hml, hown, hta⟩ (kx_Maker_areAlike l dC dI a k st b1 d1 N hN h64) (cwV 2 hta gX6_29 rfl rfl rfl (by decide +kernel) ⟨Nat.le_of_ble_eq_true rfl, Nat.le_of_ble_eq_true rfl⟩) (wl_pR (C := RX6) (ci := 4) (q0 := 16) hK hP rfl (xr_16 a k st)) rfl rfl hl.1 rfl (lv_room (Nat.le_of_ble_eq_true rfl)) dX6_accepts_144 ⟨Nat.zero_le _, Nat.zero_le _⟩) ?_
                refine lv_if_eq (tgt := 154) hx hb dX6_accepts_147 (by decide) (fun c147 => ?_) (fun c147 => ?_)
                · skip
                  rw [if_pos c147] at hR
                  refine lv_iconst (v := (0 : Int32)) hx hb dX6_accepts_154 (by decide) ?_
                  exact W.zret (v := (0 : Int32)) (ty := .boolean) hx hb hr rfl (fun t ht hW => ⟨_, rfl, hR, ht⟩) (fun q h => by cases h) dX6_accepts_155
                · skip
                  rw [if_neg c147] at hR
                  refine lv_iconst (v := (1 : Int32)) hx hb dX6_accepts_150 (by decide) ?_
                  refine lv_goto (tgt := 155) hx hb dX6_accepts_151 (by decide) ?_
                  exact W.zret (v := (1 : Int32)) (ty := .boolean) hx hb hr rfl (fun t ht hW => ⟨_, rfl, hR, ht⟩) (fun q h => by cases h) dX6_accepts_155
            · skip
              rw [if_neg c34_16] at hR
              by_cases c34_17 : o = (17 : Int32)
              · skip
                rw [if_pos c34_17] at hR
                refine lv_tableIn (tgt := 156) hx hb dX6_accepts_34 (by rw [c34_17]; decide) (by rw [c34_17]; decide) (by rw [c34_17] <;> rfl) (by decide) ?_
                refine lv_iload_n hx hb dX6_accepts_156 rfl (lv_at hl 4 rfl) ?_
                refine wl_ci (va_runS (As := [.int b1]) (rest := []) ⟨hx, hb, hml, hown, hta⟩ (kx_Width_isOne l b1) (va_cwS 1 hta gX6_33 rfl rfl rfl (by decide +kernel) ⟨Nat.le_of_ble_eq_true rfl, Nat.le_of_ble_eq_true rfl⟩) preEq rfl rfl hl.1 rfl (lv_room (Nat.le_of_ble_eq_true rfl)) dX6_accepts_157 ⟨Nat.zero_le _, Nat.zero_le _⟩) ?_
                refine lv_if_eq (tgt := 173) hx hb dX6_accepts_160 (by decide) (fun c160 => ?_) (fun c160 => ?_)
                · skip
                  rw [if_pos c160] at hR
                  refine lv_iconst (v := (0 : Int32)) hx hb dX6_accepts_173 (by decide) ?_
                  exact W.zret (v := (0 : Int32)) (ty := .boolean) hx hb hr rfl (fun t ht hW => ⟨_, rfl, hR, ht⟩) (fun q h => by cases h) dX6_accepts_174
                · skip
                  rw [if_neg c160] at hR
                  refine lv_iload_n hx hb dX6_accepts_163 rfl (lv_at hl 4 rfl) ?_
                  refine lv_iload hx hb dX6_accepts_164 (lv_at hl 0 rfl) ?_
                  refine lv_icmp_le (tgt := 173) hx hb dX6_accepts_166 (by decide) (fun c166 => ?_) (fun c166 => ?_)
                  · skip
                    rw [if_pos c166] at hR
                    refine lv_iconst (v := (0 : Int32)) hx hb dX6_accepts_173 (by decide) ?_
                    exact W.zret (v := (0 : Int32)) (ty := .boolean) hx hb hr rfl (fun t ht hW => ⟨_, rfl, hR, ht⟩) (fun q h => by cases h) dX6_accepts_174
                  · skip
                    rw [if_neg c166] at hR
                    refine lv_iconst (v := (1 : Int32)) hx hb dX6_accepts_169 (by decide) ?_
                    refine lv_goto (tgt := 174) hx hb dX6_accepts_170 (by decide) ?_
                    exact W.zret (v := (1 : Int32)) (ty := .boolean) hx hb hr rfl (fun t ht hW => ⟨_, rfl, hR, ht⟩) (fun q h => by cases h) dX6_accepts_174
              · skip
                rw [if_neg c34_17] at hR
                by_cases c34_18 : o = (18 : Int32)
                · skip
                  rw [if_pos c34_18] at hR
                  refine lv_tableIn (tgt := 156) hx hb dX6_accepts_34 (by rw [c34_18]; decide) (by rw [c34_18]; decide) (by rw [c34_18] <;> rfl) (by decide) ?_
                  refine lv_iload_n hx hb dX6_accepts_156 rfl (lv_at hl 4 rfl) ?_
                  refine wl_ci (va_runS (As := [.int b1]) (rest := []) ⟨hx, hb, hml, hown, hta⟩ (kx_Width_isOne l b1) (va_cwS 1 hta gX6_33 rfl rfl rfl (by decide +kernel) ⟨Nat.le_of_ble_eq_true rfl, Nat.le_of_ble_eq_true rfl⟩) preEq rfl rfl hl.1 rfl (lv_room (Nat.le_of_ble_eq_true rfl)) dX6_accepts_157 ⟨Nat.zero_le _, Nat.zero_le _⟩) ?_
                  refine lv_if_eq (tgt := 173) hx hb dX6_accepts_160 (by decide) (fun c160 => ?_) (fun c160 => ?_)
                  · skip
                    rw [if_pos c160] at hR
                    refine lv_iconst (v := (0 : Int32)) hx hb dX6_accepts_173 (by decide) ?_
                    exact W.zret (v := (0 : Int32)) (ty := .boolean) hx hb hr rfl (fun t ht hW => ⟨_, rfl, hR, ht⟩) (fun q h => by cases h) dX6_accepts_174
                  · skip
                    rw [if_neg c160] at hR
                    refine lv_iload_n hx hb dX6_accepts_163 rfl (lv_at hl 4 rfl) ?_
                    refine lv_iload hx hb dX6_accepts_164 (lv_at hl 0 rfl) ?_
                    refine lv_icmp_le (tgt := 173) hx hb dX6_accepts_166 (by decide) (fun c166 => ?_) (fun c166 => ?_)
                    · skip
                      rw [if_pos c166] at hR
                      refine lv_iconst (v := (0 : Int32)) hx hb dX6_accepts_173 (by decide) ?_
                      exact W.zret (v := (0 : Int32)) (ty := .boolean) hx hb hr rfl (fun t ht hW => ⟨_, rfl, hR, ht⟩) (fun q h => by cases h) dX6_accepts_174
                    · skip
                      rw [if_neg c166] at hR
                      refine lv_iconst (v := (1 : Int32)) hx hb dX6_accepts_169 (by decide) ?_
                      refine lv_goto (tgt := 174) hx hb dX6_accepts_170 (by decide) ?_
                      exact W.zret (v := (1 : Int32)) (ty := .boolean) hx hb hr rfl (fun t ht hW => ⟨_, rfl, hR, ht⟩) (fun q h => by cases h) dX6_accepts_174
                · skip
                  rw [if_neg c34_18] at hR
                  by_cases c34_19 : o = (19 : Int32)
                  · skip
                    rw [if_pos c34_19] at hR
                    refine lv_tableIn (tgt := 175) hx hb dX6_accepts_34 (by rw [c34_19]; decide) (by rw [c34_19]; decide) (by rw [c34_19] <;> rfl) (by decide) ?_
                    refine lv_iload_n hx hb dX6_accepts_175 rfl (lv_at hl 4 rfl) ?_
                    refine wl_ci (va_runS (As := [.int b1]) (rest := []) ⟨hx, hb, hml, hown, hta⟩ (kx_Width_isOne l b1) (va_cwS 1 hta gX6_33 rfl rfl rfl (by decide +kernel) ⟨Nat.le_of_ble_eq_true rfl, Nat.le_of_ble_eq_true rfl⟩) preEq rfl rfl hl.1 rfl (lv_room (Nat.le_of_ble_eq_true rfl)) dX6_accepts_176 ⟨Nat.zero_le _, Nat.zero_le _⟩) ?_
                    refine lv_if_eq (tgt := 192) hx hb dX6_accepts_179 (by decide) (fun c179 => ?_) (fun c179 => ?_)
                    · skip
                      rw [if_pos c179] at hR
                      refine lv_iconst (v := (0 : Int32)) hx hb dX6_accepts_192 (by decide) ?_
                      exact W.zret (v := (0 : Int32)) (ty := .boolean) hx hb hr rfl (fun t ht hW => ⟨_, rfl, hR, ht⟩) (fun q h => by cases h) dX6_accepts_193
                    · skip
                      rw [if_neg c179] at hR
                      refine lv_iload_n hx hb dX6_accepts_182 rfl (lv_at hl 4 rfl) ?_
                      refine lv_iload hx hb dX6_accepts_183 (lv_at hl 0 rfl) ?_
                      refine lv_icmp_ge (tgt := 192) hx hb dX6_accepts_185 (by decide) (fun c185 => ?_) (fun c185 => ?_)
                      · skip
                        rw [if_pos c185] at hR
                        refine lv_iconst (v := (0 : Int32)) hx hb dX6_accepts_192 (by decide) ?_
                        exact W.zret (v := (0 : Int32)) (ty := .boolean) hx hb hr rfl (fun t ht hW => ⟨_, rfl, hR, ht⟩) (fun q h => by cases h) dX6_accepts_193
                      · skip
                        rw [if_neg c185] at hR
                        refine lv_iconst (v := (1 : Int32)) hx hb dX6_accepts_188 (by decide) ?_
                        refine lv_goto (tgt := 193) hx hb dX6_accepts_189 (by decide) ?_
                        exact W.zret (v := (1 : Int32)) (ty := .boolean) hx hb hr rfl (fun t ht hW => ⟨_, rfl, hR, ht⟩) (fun q h => by cases h) dX6_accepts_193
                  · skip
                    rw [if_neg c34_19] at hR
                    by_cases c34_20 : o = (20 : Int32)
                    · skip
                      rw [if_pos c34_20] at hR
                      refine lv_tableIn (tgt := 194) hx hb dX6_accepts_34 (by rw [c34_20]; decide) (by rw [c34_20]; decide) (by rw [c34_20] <;> rfl) (by decide) ?_
                      refine lv_iload hx hb dX6_accepts_194 (lv_at hl 0 rfl) ?_
                      refine lv_bipush (v := (8 : Int32)) hx hb dX6_accepts_196 (by decide) ?_
                      refine lv_icmp_ne (tgt := 212) hx hb dX6_accepts_198 (by decide) (fun c198 => ?_) (fun c198 => ?_)
                      · skip
                        rw [if_neg c198] at hR
                        refine lv_iconst (v := (0 : Int32)) hx hb dX6_accepts_212 (by decide) ?_
                        exact W.zret (v := (0 : Int32)) (ty := .boolean) hx hb hr rfl (fun t ht hW => ⟨_, rfl, hR, ht⟩) (fun q h => by cases h) dX6_accepts_213
                      · skip
                        rw [if_pos c198] at hR
                        refine lv_iload_n hx hb dX6_accepts_201 rfl (lv_at hl 4 rfl) ?_
                        refine wl_ci (va_runS (As := [.int b1]) (rest := []) ⟨hx, hb, hml, hown, hta⟩ (kx_Tabs_isTable l b1) (va_cwS 1 hta gX6_38 rfl rfl rfl (by decide +kernel) ⟨Nat.le_of_ble_eq_true rfl, Nat.le_of_ble_eq_true rfl⟩) preEq rfl rfl hl.1 rfl (lv_room (Nat.le_of_ble_eq_true rfl)) dX6_accepts_202 ⟨Nat.zero_le _, Nat.zero_le _⟩) ?_
                        refine lv_if_eq (tgt := 212) hx hb dX6_accepts_205 (by decide) (fun c205 => ?_) (fun c205 => ?_)
                        · skip
                          rw [if_pos c205] at hR
                          refine lv_iconst (v := (0 : Int32)) hx hb dX6_accepts_212 (by decide) ?_
                          exact W.zret (v := (0 : Int32)) (ty := .boolean) hx hb hr rfl (fun t ht hW => ⟨_, rfl, hR, ht⟩) (fun q h => by cases h) dX6_accepts_213
                        · skip
                          rw [if_neg c205] at hR
                          refine lv_iconst (v := (1 : Int32)) hx hb dX6_accepts_208 (by decide) ?_
                          refine lv_goto (tgt := 213) hx hb dX6_accepts_209 (by decide) ?_
                          exact W.zret (v := (1 : Int32)) (ty := .boolean) hx hb hr rfl (fun t ht hW => ⟨_, rfl, hR, ht⟩) (fun q h => by cases h) dX6_accepts_213
                    · skip
                      rw [if_neg c34_20] at hR
                      have t34_0 := lv_neT (a := 0) c34_0 (by decide)
                      have t34_1 := lv_neT (a := 1) c34_1 (by decide)
                      have t34_16 := lv_neT (a := 16) c34_16 (by decide)
                      have t34_17 := lv_neT (a := 17) c34_17 (by decide)
                      have t34_18 := lv_neT (a := 18) c34_18 (by decide)
                      have t34_19 := lv_neT (a := 19) c34_19 (by decide)
                      have t34_20 := lv_neT (a := 20) c34_20 (by decide)
                      refine wl_tabD (tgt := 214) (ks := [0, 1, 16, 17, 18, 19, 20]) hx hb dX6_accepts_34 (by decide) (by decide +kernel) (by intro k hk; simp only [List.mem_cons, List.not_mem_nil, or_false] at hk; rcases hk with rfl | rfl | rfl | rfl | rfl | rfl | rfl <;> assumption) (by decide) ?_
                      refine lv_aload_n hx hb dX6_accepts_214 rfl (lv_at hl 1 rfl) ?_
                      refine lv_iload_n hx hb dX6_accepts_215 rfl (lv_at hl 3 rfl) ?_
                      refine lv_iload_n hx hb dX6_accepts_216 rfl (lv_at hl 4 rfl) ?_
                      refine wl_ci (va_runV (As := [.int a1, .int b1]) (rest := []) ⟨hx, hb, hml, hown, hta⟩ (kx_Maker_areAlike l dC dI a k st a1 b1 N hN h64) (cwV 2 hta gX6_29 rfl rfl rfl (by decide +kernel) ⟨Nat.le_of_ble_eq_true rfl, Nat.le_of_ble_eq_true rfl⟩) (wl_pR (C := RX6) (ci := 4) (q0 := 16) hK hP rfl (xr_16 a k st)) rfl rfl hl.1 rfl (lv_room (Nat.le_of_ble_eq_true rfl)) dX6_accepts_217 ⟨Nat.zero_le _, Nat.zero_le _⟩) ?_
                      refine lv_if_eq (tgt := 236) hx hb dX6_accepts_220 (by decide) (fun c220 => ?_) (fun c220 => ?_)
                      · skip
                        rw [if_pos c220] at hR
                        refine lv_iconst (v := (0 : Int32)) hx hb dX6_accepts_236 (by decide) ?_
                        exact W.zret (v := (0 : Int32)) (ty := .boolean) hx hb hr rfl (fun t ht hW => ⟨_, rfl, hR, ht⟩) (fun q h => by cases h) dX6_accepts_237
                      · skip
                        rw [if_neg c220] at hR
                        refine lv_iload_n hx hb dX6_accepts_223 rfl (lv_at hl 2 rfl) ?_
                        refine lv_iload hx hb dX6_accepts_224 (lv_at hl 0 rfl) ?_
                        refine wl_ci (va_runS (As := [.int o, .int (fx_Terms_widthOf st a1)]) (rest := []) ⟨hx, hb, hml, hown, hta⟩ (kx_Op_isThereFor l o (fx_Terms_widthOf st a1)) (va_cwS 2 hta gX6_43 rfl rfl rfl (by decide +kernel) ⟨Nat.le_of_ble_eq_true rfl, Nat.le_of_ble_eq_true rfl⟩) preEq rfl rfl hl.1 rfl (lv_room (Nat.le_of_ble_eq_true rfl)) dX6_accepts_226 ⟨Nat.zero_le _, Nat.zero_le _⟩) ?_
                        refine lv_if_eq (tgt := 236) hx hb dX6_accepts_229 (by decide) (fun c229 => ?_) (fun c229 => ?_)
                        · skip
                          rw [if_pos c229] at hR
                          refine lv_iconst (v := (0 : Int32)) hx hb dX6_accepts_236 (by decide) ?_
                          exact W.zret (v := (0 : Int32)) (ty := .boolean) hx hb hr rfl (fun t ht hW => ⟨_, rfl, hR, ht⟩) (fun q h => by cases h) dX6_accepts_237
                        · skip
                          rw [if_neg c229] at hR
                          refine lv_iconst (v := (1 : Int32)) hx hb dX6_accepts_232 (by decide) ?_
                          refine lv_goto (tgt := 237) hx hb dX6_accepts_233 (by decide) ?_
                          exact W.zret (v := (1 : Int32)) (ty := .boolean) hx hb hr rfl (fun t ht hW => ⟨_, rfl, hR, ht⟩) (fun q h => by cases h) dX6_accepts_237
      · skip
        rw [if_pos c18] at hR
        refine lv_iconst (v := (0 : Int32)) hx hb dX6_accepts_21 (by decide) ?_
        exact W.zret (v := (0 : Int32)) (ty := .boolean) hx hb hr rfl (fun t ht hW => ⟨_, rfl, hR, ht⟩) (fun q h => by cases h) dX6_accepts_22

theorem mw_414 : (.code yX4_isZero cX4_isZero 2 (some .boolean) : Cond) ∈ AW := List.mem_filter.mpr ⟨List.mem_of_getElem? (i := 414) (by decide +kernel), rfl⟩
theorem mw_411 : (.methodLink RX6 99 yX4_isZero : Cond) ∈ AW := List.mem_filter.mpr ⟨List.mem_of_getElem? (i := 411) (by decide +kernel), rfl⟩
theorem mw_412 : (.instanceMethod yX4_isZero : Cond) ∈ AW := List.mem_filter.mpr ⟨List.mem_of_getElem? (i := 412) (by decide +kernel), rfl⟩
theorem mw_413 : (.selects RX4 yX4_isZero yX4_isZero : Cond) ∈ AW := List.mem_filter.mpr ⟨List.mem_of_getElem? (i := 413) (by decide +kernel), rfl⟩
theorem gX6_99 : GoodIn AW (wsV RX6 99 RX4 yX4_isZero wsX4_isZero) := aw_V mw_411 mw_412 mw_413 mw_41 mw_414
theorem dX6_ofSettledChoice_0 : decode cX6_ofSettledChoice 0 = .ok (.iload_n 2, 1) := by decide +kernel
theorem dX6_ofSettledChoice_1 : decode cX6_ofSettledChoice 1 = .ok (.iload_n 3, 1) := by decide +kernel
theorem dX6_ofSettledChoice_2 : decode cX6_ofSettledChoice 2 = .ok (.if_icmp .ne 5, 3) := by decide +kernel
theorem dX6_ofSettledChoice_5 : decode cX6_ofSettledChoice 5 = .ok (.iload_n 2, 1) := by decide +kernel
theorem dX6_ofSettledChoice_6 : decode cX6_ofSettledChoice 6 = .ok (.ireturn, 1) := by decide +kernel
theorem dX6_ofSettledChoice_7 : decode cX6_ofSettledChoice 7 = .ok (.aload_n 0, 1) := by decide +kernel
theorem dX6_ofSettledChoice_8 : decode cX6_ofSettledChoice 8 = .ok (.getfield 9, 3) := by decide +kernel
theorem dX6_ofSettledChoice_11 : decode cX6_ofSettledChoice 11 = .ok (.iload_n 1, 1) := by decide +kernel
theorem dX6_ofSettledChoice_12 : decode cX6_ofSettledChoice 12 = .ok (.invokevirtual 93, 3) := by decide +kernel
theorem dX6_ofSettledChoice_15 : decode cX6_ofSettledChoice 15 = .ok (.ifCond .ne 6, 3) := by decide +kernel
theorem dX6_ofSettledChoice_18 : decode cX6_ofSettledChoice 18 = .ok (.bipush (-3), 2) := by decide +kernel
theorem dX6_ofSettledChoice_20 : decode cX6_ofSettledChoice 20 = .ok (.ireturn, 1) := by decide +kernel
theorem dX6_ofSettledChoice_21 : decode cX6_ofSettledChoice 21 = .ok (.aload_n 0, 1) := by decide +kernel
theorem dX6_ofSettledChoice_22 : decode cX6_ofSettledChoice 22 = .ok (.getfield 9, 3) := by decide +kernel
theorem dX6_ofSettledChoice_25 : decode cX6_ofSettledChoice 25 = .ok (.iload_n 1, 1) := by decide +kernel
theorem dX6_ofSettledChoice_26 : decode cX6_ofSettledChoice 26 = .ok (.invokevirtual 99, 3) := by decide +kernel
theorem dX6_ofSettledChoice_29 : decode cX6_ofSettledChoice 29 = .ok (.ifCond .eq 7, 3) := by decide +kernel
theorem dX6_ofSettledChoice_32 : decode cX6_ofSettledChoice 32 = .ok (.iload_n 3, 1) := by decide +kernel
theorem dX6_ofSettledChoice_33 : decode cX6_ofSettledChoice 33 = .ok (.goto 4, 3) := by decide +kernel
theorem dX6_ofSettledChoice_36 : decode cX6_ofSettledChoice 36 = .ok (.iload_n 2, 1) := by decide +kernel
theorem dX6_ofSettledChoice_37 : decode cX6_ofSettledChoice 37 = .ok (.ireturn, 1) := by decide +kernel
def fx_Maker_ofSettledChoice (st : XS) (a1 : Int32) (b1 : Int32) (c1 : Int32) : Int32 := 
  if b1 = c1 then b1
  else 
    if fx_Terms_isConstant st a1 = (0 : Int32) then (-3 : Int32)
    else 
      if fx_Terms_isZero st a1 = (0 : Int32) then b1
      else c1
set_option maxHeartbeats 4000000 in
set_option maxRecDepth 100000 in
theorem kx_Maker_ofSettledChoice (l : Launch) (dC : Nat → ClassId) (dI : Nat → Nat → Nat) (a : Nat → Nat) (k : Nat → ClassId) (st : XS) (a1 : Int32) (b1 : Int32) (c1 : Int32) (hA : vp_in a1 64) : Met l yX6_ofSettledChoice wsX6_ofSettledChoice ({ frames := 2, cells := 0, slots := 0, locals := 42 }) (va_Pc [.ref (a 16), .int a1, .int b1, .int c1] (wl_prR (dC, dI) vwCl (xt k) (xw a k st))) (vp_Si (fun r9 => r9 = fx_Maker_ofSettledChoice st a1 b1 c1)) 0 0 (fun _ => False) := by
  refine Met.ofW (cc := cX6_ofSettledChoice) (maxL := 4) (ret := (some .int)) (by decide) rfl ?_
  intro p e s m args below meth c s₁ B hml hv
  obtain ⟨rfl, hP, hK⟩ := hv
  have hx := B.exec
  have hb := B.bytes
  have hr := B.returns
  have hta := aw_hts (atoms_spec (ws := wsX6_ofSettledChoice) B.pre)
  have hown : s.vm.findClass RX6 = some m.cls := findClass_of_methodNamed B.named
  have hlocks := B.notSynchronized
  have hf9 := hta _ mw_149
  have hl := lv_entry ([.ref (a 16), .int a1, .int b1, .int c1]) (n := 4) (Nat.le_of_ble_eq_true rfl)
  rw [lg_entry_eq]
  generalize (lg_sl ([.ref (a 16), .int a1, .int b1, .int c1]) ++ List.replicate (4 - (lg_sl ([.ref (a 16), .int a1, .int b1, .int c1])).length) Slot.unset).toArray = ls at hl ⊢
  have hl : lv_has ls 4 [(0, .ref (a 16)), (1, .int a1), (2, .int b1), (3, .int c1)] := hl
  generalize hR : fx_Maker_ofSettledChoice st a1 b1 c1 = R
  rw [fx_Maker_ofSettledChoice] at hR
  refine lv_iload_n hx hb dX6_ofSettledChoice_0 rfl (lv_at hl 2 rfl) ?_
  refine lv_iload_n hx hb dX6_ofSettledChoice_1 rfl (lv_at hl 3 rfl) ?_
  refine lv_icmp_ne (tgt := 7) hx hb dX6_ofSettledChoice_2 (by decide) (fun c2 => ?_) (fun c2 => ?_)
  · skip
    rw [if_neg c2] at hR
    refine lv_aload_n hx hb dX6_ofSettledChoice_7 rfl (lv_at hl 0 rfl) ?_
    refine va_get (D := (dC, dI)) (ci := 4) (v := .ref (a 7)) (C := RX6) (T := TX6) (N := 2) hx hb hta inX6 hown hK hP 16 (xr_16 a k st) rfl 0 (by decide) hf9 (fun _ h9 => h9) rfl dX6_ofSettledChoice_8 ?_
    refine lv_iload_n hx hb dX6_ofSettledChoice_11 rfl (lv_at hl 1 rfl) ?_
    refine wl_ci (va_runV (As := [.int a1]) (rest := []) ⟨hx, hb, hml, hown, hta⟩ (kx_Terms_isConstant l dC dI a k st a1 hA) (cwV 1 hta gX6_93 rfl rfl rfl (by decide +kernel) ⟨Nat.le_of_ble_eq_true rfl, Nat.le_of_ble_eq_true rfl⟩) (wl_pR (C := RX4) (ci := 2) (q0 := 7) hK hP rfl (xr_7 a k st)) rfl rfl hl.1 rfl (lv_room (Nat.le_of_ble_eq_true rfl)) dX6_ofSettledChoice_12 ⟨Nat.zero_le _, Nat.zero_le _⟩) ?_
    refine lv_if_ne (tgt := 21) hx hb dX6_ofSettledChoice_15 (by decide) (fun c15 => ?_) (fun c15 => ?_)
    · skip
      rw [if_neg c15] at hR
      refine lv_aload_n hx hb dX6_ofSettledChoice_21 rfl (lv_at hl 0 rfl) ?_
      refine va_get (D := (dC, dI)) (ci := 4) (v := .ref (a 7)) (C := RX6) (T := TX6) (N := 2) hx hb hta inX6 hown hK hP 16 (xr_16 a k st) rfl 0 (by decide) hf9 (fun _ h9 => h9) rfl dX6_ofSettledChoice_22 ?_
      refine lv_iload_n hx hb dX6_ofSettledChoice_25 rfl (lv_at hl 1 rfl) ?_
      refine wl_ci (va_runV (As := [.int a1]) (rest := []) ⟨hx, hb, hml, hown, hta⟩ (kx_Terms_isZero l dC dI a k st a1 hA) (cwV 1 hta gX6_99 rfl rfl rfl (by decide +kernel) ⟨Nat.le_of_ble_eq_true rfl, Nat.le_of_ble_eq_true rfl⟩) (wl_pR (C := RX4) (ci := 2) (q0 := 7) hK hP rfl (xr_7 a k st)) rfl rfl hl.1 rfl (lv_room (Nat.le_of_ble_eq_true rfl)) dX6_ofSettledChoice_26 ⟨Nat.zero_le _, Nat.zero_le _⟩) ?_
      refine lv_if_eq (tgt := 36) hx hb dX6_ofSettledChoice_29 (by decide) (fun c29 => ?_) (fun c29 => ?_)
      · skip
        rw [if_pos c29] at hR
        refine lv_iload_n hx hb dX6_ofSettledChoice_36 rfl (lv_at hl 2 rfl) ?_
        exact W.iret (v := b1) hx hb hr (fun t ht hW => ⟨_, rfl, hR, ht⟩) (fun q h => by cases h) dX6_ofSettledChoice_37
      · skip
        rw [if_neg c29] at hR
        refine lv_iload_n hx hb dX6_ofSettledChoice_32 rfl (lv_at hl 3 rfl) ?_
        refine lv_goto (tgt := 37) hx hb dX6_ofSettledChoice_33 (by decide) ?_
        exact W.iret (v := c1) hx hb hr (fun t ht hW => ⟨_, rfl, hR, ht⟩) (fun q h => by cases h) dX6_ofSettledChoice_37
    · skip
      rw [if_pos c15] at hR
      refine lv_bipush (v := (-3 : Int32)) hx hb dX6_ofSettledChoice_18 (by decide) ?_
      exact W.iret (v := (-3 : Int32)) hx hb hr (fun t ht hW => ⟨_, rfl, hR, ht⟩) (fun q h => by cases h) dX6_ofSettledChoice_20
  · skip
    rw [if_pos c2] at hR
    refine lv_iload_n hx hb dX6_ofSettledChoice_5 rfl (lv_at hl 2 rfl) ?_
    exact W.iret (v := b1) hx hb hr (fun t ht hW => ⟨_, rfl, hR, ht⟩) (fun q h => by cases h) dX6_ofSettledChoice_6

theorem mw_272 : (.code yX4_findOrAddConstant cX4_findOrAddConstant 7 (some .int) : Cond) ∈ AW := List.mem_filter.mpr ⟨List.mem_of_getElem? (i := 272) (by decide +kernel), rfl⟩
theorem mw_395 : (.methodLink RX6 66 yX4_findOrAddConstant : Cond) ∈ AW := List.mem_filter.mpr ⟨List.mem_of_getElem? (i := 395) (by decide +kernel), rfl⟩
theorem mw_270 : (.instanceMethod yX4_findOrAddConstant : Cond) ∈ AW := List.mem_filter.mpr ⟨List.mem_of_getElem? (i := 270) (by decide +kernel), rfl⟩
theorem mw_271 : (.selects RX4 yX4_findOrAddConstant yX4_findOrAddConstant : Cond) ∈ AW := List.mem_filter.mpr ⟨List.mem_of_getElem? (i := 271) (by decide +kernel), rfl⟩
theorem mw_410 : (.code yX6_ofSettledChoice cX6_ofSettledChoice 4 (some .int) : Cond) ∈ AW := List.mem_filter.mpr ⟨List.mem_of_getElem? (i := 410) (by decide +kernel), rfl⟩
theorem mw_407 : (.methodLink RX6 96 yX6_ofSettledChoice : Cond) ∈ AW := List.mem_filter.mpr ⟨List.mem_of_getElem? (i := 407) (by decide +kernel), rfl⟩
theorem mw_409 : (.instanceMethod yX6_ofSettledChoice : Cond) ∈ AW := List.mem_filter.mpr ⟨List.mem_of_getElem? (i := 409) (by decide +kernel), rfl⟩
theorem mw_6 : (.selects RX6 yX6_ofSettledChoice yX6_ofSettledChoice : Cond) ∈ AW := List.mem_filter.mpr ⟨List.mem_of_getElem? (i := 6) (by decide +kernel), rfl⟩
theorem gX6_66 : GoodIn AW (wsV RX6 66 RX4 yX4_findOrAddConstant wsX4_findOrAddConstant) := aw_V mw_395 mw_270 mw_271 mw_41 mw_272
theorem gX6_96 : GoodIn AW (wsV RX6 96 RX6 yX6_ofSettledChoice wsX6_ofSettledChoice) := aw_V mw_407 mw_409 mw_6 mw_43 mw_410
theorem dX6_ofSameOperands_0 : decode cX6_ofSameOperands 0 = .ok (.iload_n 1, 1) := by decide +kernel
theorem dX6_ofSameOperands_1 : decode cX6_ofSameOperands 1 = .ok (.bipush 16, 2) := by decide +kernel
theorem dX6_ofSameOperands_3 : decode cX6_ofSameOperands 3 = .ok (.if_icmp .ne 12, 3) := by decide +kernel
theorem dX6_ofSameOperands_6 : decode cX6_ofSameOperands 6 = .ok (.aload_n 0, 1) := by decide +kernel
theorem dX6_ofSameOperands_7 : decode cX6_ofSameOperands 7 = .ok (.iload_n 2, 1) := by decide +kernel
theorem dX6_ofSameOperands_8 : decode cX6_ofSameOperands 8 = .ok (.iload_n 3, 1) := by decide +kernel
theorem dX6_ofSameOperands_9 : decode cX6_ofSameOperands 9 = .ok (.iload 4, 2) := by decide +kernel
theorem dX6_ofSameOperands_11 : decode cX6_ofSameOperands 11 = .ok (.invokevirtual 96, 3) := by decide +kernel
theorem dX6_ofSameOperands_14 : decode cX6_ofSameOperands 14 = .ok (.ireturn, 1) := by decide +kernel
theorem dX6_ofSameOperands_15 : decode cX6_ofSameOperands 15 = .ok (.iload_n 2, 1) := by decide +kernel
theorem dX6_ofSameOperands_16 : decode cX6_ofSameOperands 16 = .ok (.iload_n 3, 1) := by decide +kernel
theorem dX6_ofSameOperands_17 : decode cX6_ofSameOperands 17 = .ok (.if_icmp .eq 6, 3) := by decide +kernel
theorem dX6_ofSameOperands_20 : decode cX6_ofSameOperands 20 = .ok (.bipush (-3), 2) := by decide +kernel
theorem dX6_ofSameOperands_22 : decode cX6_ofSameOperands 22 = .ok (.ireturn, 1) := by decide +kernel
theorem dX6_ofSameOperands_23 : decode cX6_ofSameOperands 23 = .ok (.iload_n 1, 1) := by decide +kernel
theorem dX6_ofSameOperands_24 : decode cX6_ofSameOperands 24 = .ok (.tableswitch 111 2 15 #[72, 72, 74, 111, 74, 111, 111, 111, 111, 111, 111, 91, 101, 101], 72) := by decide +kernel
theorem dX6_ofSameOperands_96 : decode cX6_ofSameOperands 96 = .ok (.iload_n 2, 1) := by decide +kernel
theorem dX6_ofSameOperands_97 : decode cX6_ofSameOperands 97 = .ok (.ireturn, 1) := by decide +kernel
theorem dX6_ofSameOperands_98 : decode cX6_ofSameOperands 98 = .ok (.aload_n 0, 1) := by decide +kernel
theorem dX6_ofSameOperands_99 : decode cX6_ofSameOperands 99 = .ok (.getfield 9, 3) := by decide +kernel
theorem dX6_ofSameOperands_102 : decode cX6_ofSameOperands 102 = .ok (.aload_n 0, 1) := by decide +kernel
theorem dX6_ofSameOperands_103 : decode cX6_ofSameOperands 103 = .ok (.getfield 9, 3) := by decide +kernel
theorem dX6_ofSameOperands_106 : decode cX6_ofSameOperands 106 = .ok (.iload_n 2, 1) := by decide +kernel
theorem dX6_ofSameOperands_107 : decode cX6_ofSameOperands 107 = .ok (.invokevirtual 25, 3) := by decide +kernel
theorem dX6_ofSameOperands_110 : decode cX6_ofSameOperands 110 = .ok (.lconst 0, 1) := by decide +kernel
theorem dX6_ofSameOperands_111 : decode cX6_ofSameOperands 111 = .ok (.invokevirtual 66, 3) := by decide +kernel
theorem dX6_ofSameOperands_114 : decode cX6_ofSameOperands 114 = .ok (.ireturn, 1) := by decide +kernel
theorem dX6_ofSameOperands_115 : decode cX6_ofSameOperands 115 = .ok (.aload_n 0, 1) := by decide +kernel
theorem dX6_ofSameOperands_116 : decode cX6_ofSameOperands 116 = .ok (.getfield 9, 3) := by decide +kernel
theorem dX6_ofSameOperands_119 : decode cX6_ofSameOperands 119 = .ok (.iconst 1, 1) := by decide +kernel
theorem dX6_ofSameOperands_120 : decode cX6_ofSameOperands 120 = .ok (.lconst 1, 1) := by decide +kernel
theorem dX6_ofSameOperands_121 : decode cX6_ofSameOperands 121 = .ok (.invokevirtual 66, 3) := by decide +kernel
theorem dX6_ofSameOperands_124 : decode cX6_ofSameOperands 124 = .ok (.ireturn, 1) := by decide +kernel
theorem dX6_ofSameOperands_125 : decode cX6_ofSameOperands 125 = .ok (.aload_n 0, 1) := by decide +kernel
theorem dX6_ofSameOperands_126 : decode cX6_ofSameOperands 126 = .ok (.getfield 9, 3) := by decide +kernel
theorem dX6_ofSameOperands_129 : decode cX6_ofSameOperands 129 = .ok (.iconst 1, 1) := by decide +kernel
theorem dX6_ofSameOperands_130 : decode cX6_ofSameOperands 130 = .ok (.lconst 0, 1) := by decide +kernel
theorem dX6_ofSameOperands_131 : decode cX6_ofSameOperands 131 = .ok (.invokevirtual 66, 3) := by decide +kernel
theorem dX6_ofSameOperands_134 : decode cX6_ofSameOperands 134 = .ok (.ireturn, 1) := by decide +kernel
theorem dX6_ofSameOperands_135 : decode cX6_ofSameOperands 135 = .ok (.bipush (-3), 2) := by decide +kernel
theorem dX6_ofSameOperands_137 : decode cX6_ofSameOperands 137 = .ok (.ireturn, 1) := by decide +kernel
def fx_Maker_ofSameOperands (st : XS) (o : Int32) (a1 : Int32) (b1 : Int32) (c1 : Int32) : Int32 × XS := 
  if o = (16 : Int32) then (fx_Maker_ofSettledChoice st a1 b1 c1, st)
  else 
    if a1 = b1 then 
      if o = (2 : Int32) then (a1, st)
      else 
        if o = (3 : Int32) then (a1, st)
        else 
          if o = (4 : Int32) then (((fx_Terms_findOrAddConstant st (fx_Terms_widthOf st a1) (0 : Int64)).1), ((fx_Terms_findOrAddConstant st (fx_Terms_widthOf st a1) (0 : Int64)).2))
          else 
            if o = (6 : Int32) then (((fx_Terms_findOrAddConstant st (fx_Terms_widthOf st a1) (0 : Int64)).1), ((fx_Terms_findOrAddConstant st (fx_Terms_widthOf st a1) (0 : Int64)).2))
            else 
              if o = (13 : Int32) then (((fx_Terms_findOrAddConstant st (1 : Int32) (1 : Int64)).1), ((fx_Terms_findOrAddConstant st (1 : Int32) (1 : Int64)).2))
              else 
                if o = (14 : Int32) then (((fx_Terms_findOrAddConstant st (1 : Int32) (0 : Int64)).1), ((fx_Terms_findOrAddConstant st (1 : Int32) (0 : Int64)).2))
                else 
                  if o = (15 : Int32) then (((fx_Terms_findOrAddConstant st (1 : Int32) (0 : Int64)).1), ((fx_Terms_findOrAddConstant st (1 : Int32) (0 : Int64)).2))
                  else ((-3 : Int32), st)
    else ((-3 : Int32), st)
theorem ff_Maker_ofSameOperands (st : XS) (o : Int32) (a1 : Int32) (b1 : Int32) (c1 : Int32) : XF [6] [3, 4] [1] st (fx_Maker_ofSameOperands st o a1 b1 c1).2 := by
  rw [fx_Maker_ofSameOperands]
  exact (wl_ite (P := fun (q : Int32 × XS) => XF [6] [3, 4] [1] _ (q.2)) XF.rf (wl_ite (P := fun (q : Int32 × XS) => XF [6] [3, 4] [1] _ (q.2)) (wl_ite (P := fun (q : Int32 × XS) => XF [6] [3, 4] [1] _ (q.2)) XF.rf (wl_ite (P := fun (q : Int32 × XS) => XF [6] [3, 4] [1] _ (q.2)) XF.rf (wl_ite (P := fun (q : Int32 × XS) => XF [6] [3, 4] [1] _ (q.2)) (XF.tr XF.rf (XF.mono (ff_Terms_findOrAddConstant _ _ _) (by decide) (by decide) (by decide))) (wl_ite (P := fun (q : Int32 × XS) => XF [6] [3, 4] [1] _ (q.2)) (XF.tr XF.rf (XF.mono (ff_Terms_findOrAddConstant _ _ _) (by decide) (by decide) (by decide))) (wl_ite (P := fun (q : Int32 × XS) => XF [6] [3, 4] [1] _ (q.2)) (XF.tr XF.rf (XF.mono (ff_Terms_findOrAddConstant _ _ _) (by decide) (by decide) (by decide))) (wl_ite (P := fun (q : Int32 × XS) => XF [6] [3, 4] [1] _ (q.2)) (XF.tr XF.rf (XF.mono (ff_Terms_findOrAddConstant _ _ _) (by decide) (by decide) (by decide))) (wl_ite (P := fun (q : Int32 × XS) => XF [6] [3, 4] [1] _ (q.2)) (XF.tr XF.rf (XF.mono (ff_Terms_findOrAddConstant _ _ _) (by decide) (by decide) (by decide))) XF.rf))))))) XF.rf))
set_option maxHeartbeats 4000000 in
set_option maxRecDepth 100000 in
theorem kx_Maker_ofSameOperands (l : Launch) (dC : Nat → ClassId) (dI : Nat → Nat → Nat) (a : Nat → Nat) (k : Nat → ClassId) (st : XS) (o : Int32) (a1 : Int32) (b1 : Int32) (c1 : Int32) (sz : Nat) (N : Nat) (hN : gI st 6 = nI N) (h64 : N ≤ 64) (hA : vp_in a1 64) : Met l yX6_ofSameOperands wsX6_ofSameOperands ({ frames := 3, cells := 0, slots := 0, locals := 65 }) (va_Pc [.ref (a 16), .int o, .int a1, .int b1, .int c1] (wl_pre (dC, dI) vwCl (xt k) (xw a k) st sz)) (va_Qi (fun r9 u9 => (r9, u9) = fx_Maker_ofSameOperands st o a1 b1 c1) (wl_at (dC, dI) vwCl (xt k) (xw a k) (va_A (xw a k st) sz)) (va_A (xw a k st) sz)) 0 0 (va_A (xw a k st) sz) := by
  refine Met.ofW (cc := cX6_ofSameOperands) (maxL := 5) (ret := (some .int)) (by decide) rfl ?_
  intro p e s m args below meth c s₁ B hml hv
  obtain ⟨rfl, hsz, hP, hK, hD0⟩ := hv
  have hx := B.exec
  have hb := B.bytes
  have hr := B.returns
  have hta := aw_hts (atoms_spec (ws := wsX6_ofSameOperands) B.pre)
  have hown : s.vm.findClass RX6 = some m.cls := findClass_of_methodNamed B.named
  have hlocks := B.notSynchronized
  have hf9 := hta _ mw_149
  subst hsz
  have hD := hD0.self (sz := s.heap.size)
  generalize hAe : va_A (xw a k st) s.heap.size = A at hD ⊢
  have hAz : ∀ q : Nat, s.heap.size ≤ q → A q := fun q h => by rw [← hAe]; exact Or.inr h
  have hS : va_S A s.heap s.heap [] := va_S.rf
  have hl := lv_entry ([.ref (a 16), .int o, .int a1, .int b1, .int c1]) (n := 5) (Nat.le_of_ble_eq_true rfl)
  rw [lg_entry_eq]
  generalize (lg_sl ([.ref (a 16), .int o, .int a1, .int b1, .int c1]) ++ List.replicate (5 - (lg_sl ([.ref (a 16), .int o, .int a1, .int b1, .int c1])).length) Slot.unset).toArray = ls at hl ⊢
  have hl : lv_has ls 5 [(0, .ref (a 16)), (1, .int o), (2, .int a1), (3, .int b1), (4, .int c1)] := hl
  generalize hR : fx_Maker_ofSameOperands st o a1 b1 c1 = R
  rw [fx_Maker_ofSameOperands] at hR
  refine lv_iload_n hx hb dX6_ofSameOperands_0 rfl (lv_at hl 1 rfl) ?_
  refine lv_bipush (v := (16 : Int32)) hx hb dX6_ofSameOperands_1 (by decide) ?_
  refine lv_icmp_ne (tgt := 15) hx hb dX6_ofSameOperands_3 (by decide) (fun c3 => ?_) (fun c3 => ?_)
  · skip
    rw [if_neg c3] at hR
    refine lv_iload_n hx hb dX6_ofSameOperands_15 rfl (lv_at hl 2 rfl) ?_
    refine lv_iload_n hx hb dX6_ofSameOperands_16 rfl (lv_at hl 3 rfl) ?_
    refine lv_icmp_eq (tgt := 23) hx hb dX6_ofSameOperands_17 (by decide) (fun c17 => ?_) (fun c17 => ?_)
    · skip
      rw [if_pos c17] at hR
      refine lv_iload_n hx hb dX6_ofSameOperands_23 rfl (lv_at hl 1 rfl) ?_
      by_cases c24_2 : o = (2 : Int32)
      · skip
        rw [if_pos c24_2] at hR
        refine lv_tableIn (tgt := 96) hx hb dX6_ofSameOperands_24 (by rw [c24_2]; decide) (by rw [c24_2]; decide) (by rw [c24_2] <;> rfl) (by decide) ?_
        refine lv_iload_n hx hb dX6_ofSameOperands_96 rfl (lv_at hl 2 rfl) ?_
        exact W.iret (v := a1) hx hb hr (fun t ht hW => ⟨⟨_, _, rfl, hR, by rw [ht]; exact hP, va_K.moved hW.alike hK, hD⟩, hS.F ht⟩) hS.2.2 dX6_ofSameOperands_97
      · skip
        rw [if_neg c24_2] at hR
        by_cases c24_3 : o = (3 : Int32)
        · skip
          rw [if_pos c24_3] at hR
          refine lv_tableIn (tgt := 96) hx hb dX6_ofSameOperands_24 (by rw [c24_3]; decide) (by rw [c24_3]; decide) (by rw [c24_3] <;> rfl) (by decide) ?_
          refine lv_iload_n hx hb dX6_ofSameOperands_96 rfl (lv_at hl 2 rfl) ?_
          exact W.iret (v := a1) hx hb hr (fun t ht hW => ⟨⟨_, _, rfl, hR, by rw [ht]; exact hP, va_K.moved hW.alike hK, hD⟩, hS.F ht⟩) hS.2.2 dX6_ofSameOperands_97
        · skip
          rw [if_neg c24_3] at hR
          by_cases c24_4 : o = (4 : Int32)
          · skip
            rw [if_pos c24_4] at hR
            refine lv_tableIn (tgt := 98) hx hb dX6_ofSameOperands_24 (by rw [c24_4]; decide) (by rw [c24_4]; decide) (by rw [c24_4] <;> rfl) (by decide) ?_
            refine lv_aload_n hx hb dX6_ofSameOperands_98 rfl (lv_at hl 0 rfl) ?_
            refine va_get (D := (dC, dI)) (ci := 4) (v := .ref (a 7)) (C := RX6) (T := TX6) (N := 2) hx hb hta inX6 hown hK hP 16 (xr_16 a k st) rfl 0 (by decide) hf9 (fun _ h9 => h9) rfl dX6_ofSameOperands_99 ?_
            refine lv_aload_n hx hb dX6_ofSameOperands_102 rfl (lv_at hl 0 rfl) ?_
            refine va_get (D := (dC, dI)) (ci := 4) (v := .ref (a 7)) (C := RX6) (T := TX6) (N := 2) hx hb hta inX6 hown hK hP 16 (xr_16 a k st) rfl 0 (by decide) hf9 (fun _ h9 => h9) rfl dX6_ofSameOperands_103 ?_
            refine lv_iload_n hx hb dX6_ofSameOperands_106 rfl (lv_at hl 2 rfl) ?_
            refine wl_ci (va_runV (As := [.int a1]) (rest := [.ref (a 7)]) ⟨hx, hb, hml, hown, hta⟩ (kx_Terms_widthOf l dC dI a k st a1 hA) (cwV 1 hta gX6_25 rfl rfl rfl (by decide +kernel) ⟨Nat.le_of_ble_eq_true rfl, Nat.le_of_ble_eq_true rfl⟩) (wl_pR (C := RX4) (ci := 2) (q0 := 7) hK hP rfl (xr_7 a k st)) rfl rfl hl.1 rfl (lv_room (Nat.le_of_ble_eq_true rfl)) dX6_ofSameOperands_107 ⟨Nat.zero_le _, Nat.zero_le _⟩) ?_
            refine lv_lconst (v := (0 : Int64)) hx hb dX6_ofSameOperands_110 (by decide) ?_
            refine wl_mi (va_runV (As := [.int (fx_Terms_widthOf st a1), .long (0 : Int64)]) (rest := []) ⟨hx, hb, hml, hown, hta⟩ (kx_Terms_findOrAddConstant l dC dI a k st (fx_Terms_widthOf st a1) (0 : Int64) _ N hN h64) (cwV 2 hta gX6_66 rfl rfl rfl (by decide +kernel) ⟨Nat.le_of_ble_eq_true rfl, Nat.le_of_ble_eq_true rfl⟩) (wl_pM (C := RX4) (ci := 2) (q0 := 7) hK hP hD rfl (xr_7 a k st)) rfl rfl hl.1 rfl (lv_room (Nat.le_of_ble_eq_true rfl)) dX6_ofSameOperands_111 ⟨Nat.zero_le _, Nat.zero_le _⟩) hP hD hS hAz (fun r111 u111 H locs hw111 hP hD hS => ?_)
            have v111 : (fx_Terms_findOrAddConstant st (fx_Terms_widthOf st a1) (0 : Int64)).1 = r111 := congrArg Prod.fst hw111.symm
            have w111 : (fx_Terms_findOrAddConstant st (fx_Terms_widthOf st a1) (0 : Int64)).2 = u111 := congrArg Prod.snd hw111.symm
            have hf111 : XF [6] [3, 4] [1] st u111 := by rw [← w111]; exact ff_Terms_findOrAddConstant st (fx_Terms_widthOf st a1) (0 : Int64)
            try rw [v111] at hR
            try rw [w111] at hR
            exact W.iret (v := r111) hx hb hr (fun t ht hW => ⟨⟨_, _, rfl, hR, by rw [ht]; exact hP, va_K.moved hW.alike hK, hD⟩, hS.F ht⟩) hS.2.2 dX6_ofSameOperands_114
          · skip
            rw [if_neg c24_4] at hR
            by_cases c24_6 : o = (6 : Int32)
            · skip
              rw [if_pos c24_6] at hR
              refine lv_tableIn (tgt := 98) hx hb dX6_ofSameOperands_24 (by rw [c24_6]; decide) (by rw [c24_6]; decide) (by rw [c24_6] <;> rfl) (by decide) ?_
              refine lv_aload_n hx hb dX6_ofSameOperands_98 rfl (lv_at hl 0 rfl) ?_
              refine va_get (D := (dC, dI)) (ci := 4) (v := .ref (a 7)) (C := RX6) (T := TX6) (N := 2) hx hb hta inX6 hown hK hP 16 (xr_16 a k st) rfl 0 (by decide) hf9 (fun _ h9 => h9) rfl dX6_ofSameOperands_99 ?_
              refine lv_aload_n hx hb dX6_ofSameOperands_102 rfl (lv_at hl 0 rfl) ?_
              refine va_get (D := (dC, dI)) (ci := 4) (v := .ref (a 7)) (C := RX6) (T := TX6) (N := 2) hx hb hta inX6 hown hK hP 16 (xr_16 a k st) rfl 0 (by decide) hf9 (fun _ h9 => h9) rfl dX6_ofSameOperands_103 ?_
              refine lv_iload_n hx hb dX6_ofSameOperands_106 rfl (lv_at hl 2 rfl) ?_
              refine wl_ci (va_runV (As := [.int a1]) (rest := [.ref (a 7)]) ⟨hx, hb, hml, hown, hta⟩ (kx_Terms_widthOf l dC dI a k st a1 hA) (cwV 1 hta gX6_25 rfl rfl rfl (by decide +kernel) ⟨Nat.le_of_ble_eq_true rfl, Nat.le_of_ble_eq_true rfl⟩) (wl_pR (C := RX4) (ci := 2) (q0 := 7) hK hP rfl (xr_7 a k st)) rfl rfl hl.1 rfl (lv_room (Nat.le_of_ble_eq_true rfl)) dX6_ofSameOperands_107 ⟨Nat.zero_le _, Nat.zero_le _⟩) ?_
              refine lv_lconst (v := (0 : Int64)) hx hb dX6_ofSameOperands_110 (by decide) ?_
              refine wl_mi (va_runV (As := [.int (fx_Terms_widthOf st a1), .long (0 : Int64)]) (rest := []) ⟨hx, hb, hml, hown, hta⟩ (kx_Terms_findOrAddConstant l dC dI a k st (fx_Terms_widthOf st a1) (0 : Int64) _ N hN h64) (cwV 2 hta gX6_66 rfl rfl rfl (by decide +kernel) ⟨Nat.le_of_ble_eq_true rfl, Nat.le_of_ble_eq_true rfl⟩) (wl_pM (C := RX4) (ci := 2) (q0 := 7) hK hP hD rfl (xr_7 a k st)) rfl rfl hl.1 rfl (lv_room (Nat.le_of_ble_eq_true rfl)) dX6_ofSameOperands_111 ⟨Nat.zero_le _, Nat.zero_le _⟩) hP hD hS hAz (fun r111 u111 H locs hw111 hP hD hS => ?_)
              have v111 : (fx_Terms_findOrAddConstant st (fx_Terms_widthOf st a1) (0 : Int64)).1 = r111 := congrArg Prod.fst hw111.symm
              have w111 : (fx_Terms_findOrAddConstant st (fx_Terms_widthOf st a1) (0 : Int64)).2 = u111 := congrArg Prod.snd hw111.symm
              have hf111 : XF [6] [3, 4] [1] st u111 := by rw [← w111]; exact ff_Terms_findOrAddConstant st (fx_Terms_widthOf st a1) (0 : Int64)
              try rw [v111] at hR
              try rw [w111] at hR
              exact W.iret (v := r111) hx hb hr (fun t ht hW => ⟨⟨_, _, rfl, hR, by rw [ht]; exact hP, va_K.moved hW.alike hK, hD⟩, hS.F ht⟩) hS.2.2 dX6_ofSameOperands_114
            · skip
              rw [if_neg c24_6] at hR
              by_cases c24_13 : o = (13 : Int32)
              · skip
                rw [if_pos c24_13] at hR
                refine lv_tableIn (tgt := 115) hx hb dX6_ofSameOperands_24 (by rw [c24_13]; decide) (by rw [c24_13]; decide) (by rw [c24_13] <;> rfl) (by decide) ?_
                refine lv_aload_n hx hb dX6_ofSameOperands_115 rfl (lv_at hl 0 rfl) ?_
                refine va_get (D := (dC, dI)) (ci := 4) (v := .ref (a 7)) (C := RX6) (T := TX6) (N := 2) hx hb hta inX6 hown hK hP 16 (xr_16 a k st) rfl 0 (by decide) hf9 (fun _ h9 => h9) rfl dX6_ofSameOperands_116 ?_
                refine lv_iconst (v := (1 : Int32)) hx hb dX6_ofSameOperands_119 (by decide) ?_
                refine lv_lconst (v := (1 : Int64)) hx hb dX6_ofSameOperands_120 (by decide) ?_
                refine wl_mi (va_runV (As := [.int (1 : Int32), .long (1 : Int64)]) (rest := []) ⟨hx, hb, hml, hown, hta⟩ (kx_Terms_findOrAddConstant l dC dI a k st (1 : Int32) (1 : Int64) _ N hN h64) (cwV 2 hta gX6_66 rfl rfl rfl (by decide +kernel) ⟨Nat.le_of_ble_eq_true rfl, Nat.le_of_ble_eq_true rfl⟩) (wl_pM (C := RX4) (ci := 2) (q0 := 7) hK hP hD rfl (xr_7 a k st)) rfl rfl hl.1 rfl (lv_room (Nat.le_of_ble_eq_true rfl)) dX6_ofSameOperands_121 ⟨Nat.zero_le _, Nat.zero_le _⟩) hP hD hS hAz (fun r121 u121 H locs hw121 hP hD hS => ?_)
                have v121 : (fx_Terms_findOrAddConstant st (1 : Int32) (1 : Int64)).1 = r121 := congrArg Prod.fst hw121.symm
                have w121 : (fx_Terms_findOrAddConstant st (1 : Int32) (1 : Int64)).2 = u121 := congrArg Prod.snd hw121.symm
                have hf121 : XF [6] [3, 4] [1] st u121 := by rw [← w121]; exact ff_Terms_findOrAddConstant st (1 : Int32) (1 : Int64)
                try rw [v121] at hR
                try rw [w121] at hR
                exact W.iret (v := r121) hx hb hr (fun t ht hW => ⟨⟨_, _, rfl, hR, by rw [ht]; exact hP, va_K.moved hW.alike hK, hD⟩, hS.F ht⟩) hS.2.2 dX6_ofSameOperands_124
              · skip
                rw [if_neg c24_13] at hR
                by_cases c24_14 : o = (14 : Int32)
                · skip
                  rw [if_pos c24_14] at hR
                  refine lv_tableIn (tgt := 125) hx hb dX6_ofSameOperands_24 (by rw [c24_14]; decide) (by rw [c24_14]; decide) (by rw [c24_14] <;> rfl) (by decide) ?_
                  refine lv_aload_n hx hb dX6_ofSameOperands_125 rfl (lv_at hl 0 rfl) ?_
                  refine va_get (D := (dC, dI)) (ci := 4) (v := .ref (a 7)) (C := RX6) (T := TX6) (N := 2) hx hb hta inX6 hown hK hP 16 (xr_16 a k st) rfl 0 (by decide) hf9 (fun _ h9 => h9) rfl dX6_ofSameOperands_126 ?_
                  refine lv_iconst (v := (1 : Int32)) hx hb dX6_ofSameOperands_129 (by decide) ?_
                  refine lv_lconst (v := (0 : Int64)) hx hb dX6_ofSameOperands_130 (by decide) ?_
                  refine wl_mi (va_runV (As := [.int (1 : Int32), .long (0 : Int64)]) (rest := []) ⟨hx, hb, hml, hown, hta⟩ (kx_Terms_findOrAddConstant l dC dI a k st (1 : Int32) (0 : Int64) _ N hN h64) (cwV 2 hta gX6_66 rfl rfl rfl (by decide +kernel) ⟨Nat.le_of_ble_eq_true rfl, Nat.le_of_ble_eq_true rfl⟩) (wl_pM (C := RX4) (ci := 2) (q0 := 7) hK hP hD rfl (xr_7 a k st)) rfl rfl hl.1 rfl (lv_room (Nat.le_of_ble_eq_true rfl)) dX6_ofSameOperands_131 ⟨Nat.zero_le _, Nat.zero_le _⟩) hP hD hS hAz (fun r131 u131 H locs hw131 hP hD hS => ?_)
                  have v131 : (fx_Terms_findOrAddConstant st (1 : Int32) (0 : Int64)).1 = r131 := congrArg Prod.fst hw131.symm
                  have w131 : (fx_Terms_findOrAddConstant st (1 : Int32) (0 : Int64)).2 = u131 := congrArg Prod.snd hw131.symm
                  have hf131 : XF [6] [3, 4] [1] st u131 := by rw [← w131]; exact ff_Terms_findOrAddConstant st (1 : Int32) (0 : Int64)
                  try rw [v131] at hR
                  try rw [w131] at hR
                  exact W.iret (v := r131) hx hb hr (fun t ht hW => ⟨⟨_, _, rfl, hR, by rw [ht]; exact hP, va_K.moved hW.alike hK, hD⟩, hS.F ht⟩) hS.2.2 dX6_ofSameOperands_134
                · skip
                  rw [if_neg c24_14] at hR
                  by_cases c24_15 : o = (15 : Int32)
                  · skip
                    rw [if_pos c24_15] at hR
                    refine lv_tableIn (tgt := 125) hx hb dX6_ofSameOperands_24 (by rw [c24_15]; decide) (by rw [c24_15]; decide) (by rw [c24_15] <;> rfl) (by decide) ?_
                    refine lv_aload_n hx hb dX6_ofSameOperands_125 rfl (lv_at hl 0 rfl) ?_
                    refine va_get (D := (dC, dI)) (ci := 4) (v := .ref (a 7)) (C := RX6) (T := TX6) (N := 2) hx hb hta inX6 hown hK hP 16 (xr_16 a k st) rfl 0 (by decide) hf9 (fun _ h9 => h9) rfl dX6_ofSameOperands_126 ?_
                    refine lv_iconst (v := (1 : Int32)) hx hb dX6_ofSameOperands_129 (by decide) ?_
                    refine lv_lconst (v := (0 : Int64)) hx hb dX6_ofSameOperands_130 (by decide) ?_
                    refine wl_mi (va_runV (As := [.int (1 : Int32), .long (0 : Int64)]) (rest := []) ⟨hx, hb, hml, hown, hta⟩ (kx_Terms_findOrAddConstant l dC dI a k st (1 : Int32) (0 : Int64) _ N hN h64) (cwV 2 hta gX6_66 rfl rfl rfl (by decide +kernel) ⟨Nat.le_of_ble_eq_true rfl, Nat.le_of_ble_eq_true rfl⟩) (wl_pM (C := RX4) (ci := 2) (q0 := 7) hK hP hD rfl (xr_7 a k st)) rfl rfl hl.1 rfl (lv_room (Nat.le_of_ble_eq_true rfl)) dX6_ofSameOperands_131 ⟨Nat.zero_le _, Nat.zero_le _⟩) hP hD hS hAz (fun r131 u131 H locs hw131 hP hD hS => ?_)
                    have v131 : (fx_Terms_findOrAddConstant st (1 : Int32) (0 : Int64)).1 = r131 := congrArg Prod.fst hw131.symm
                    have w131 : (fx_Terms_findOrAddConstant st (1 : Int32) (0 : Int64)).2 = u131 := congrArg Prod.snd hw131.symm
                    have hf131 : XF [6] [3, 4] [1] st u131 := by rw [← w131]; exact ff_Terms_findOrAddConstant st (1 : Int32) (0 : Int64)
                    try rw [v131] at hR
                    try rw [w131] at hR
                    exact W.iret (v := r131) hx hb hr (fun t ht hW => ⟨⟨_, _, rfl, hR, by rw [ht]; exact hP, va_K.moved hW.alike hK, hD⟩, hS.F ht⟩) hS.2.2 dX6_ofSameOperands_134
                  · skip
                    rw [if_neg c24_15] at hR
                    have t24_2 := lv_neT (a := 2) c24_2 (by decide)
                    have t24_3 := lv_neT (a := 3) c24_3 (by decide)
                    have t24_4 := lv_neT (a := 4) c24_4 (by decide)
                    have t24_6 := lv_neT (a := 6) c24_6 (by decide)
                    have t24_13 := lv_neT (a := 13) c24_13 (by decide)
                    have t24_14 := lv_neT (a := 14) c24_14 (by decide)
                    have t24_15 := lv_neT (a := 15) c24_15 (by decide)
                    refine wl_tabD (tgt := 135) (ks := [2, 3, 4, 6, 13, 14, 15]) hx hb dX6_ofSameOperands_24 (by decide) (by decide +kernel) (by intro k hk; simp only [List.mem_cons, List.not_mem_nil, or_false] at hk; rcases hk with rfl | rfl | rfl | rfl | rfl | rfl | rfl <;> assumption) (by decide) ?_
                    refine lv_bipush (v := (-3 : Int32)) hx hb dX6_ofSameOperands_135 (by decide) ?_
                    exact W.iret (v := (-3 : Int32)) hx hb hr (fun t ht hW => ⟨⟨_, _, rfl, hR, by rw [ht]; exact hP, va_K.moved hW.alike hK, hD⟩, hS.F ht⟩) hS.2.2 dX6_ofSameOperands_137
    · skip
      rw [if_neg c17] at hR
      refine lv_bipush (v := (-3 : Int32)) hx hb dX6_ofSameOperands_20 (by decide) ?_
      exact W.iret (v := (-3 : Int32)) hx hb hr (fun t ht hW => ⟨⟨_, _, rfl, hR, by rw [ht]; exact hP, va_K.moved hW.alike hK, hD⟩, hS.F ht⟩) hS.2.2 dX6_ofSameOperands_22
  · skip
    rw [if_pos c3] at hR
    refine lv_aload_n hx hb dX6_ofSameOperands_6 rfl (lv_at hl 0 rfl) ?_
    refine lv_iload_n hx hb dX6_ofSameOperands_7 rfl (lv_at hl 2 rfl) ?_
    refine lv_iload_n hx hb dX6_ofSameOperands_8 rfl (lv_at hl 3 rfl) ?_
    refine lv_iload hx hb dX6_ofSameOperands_9 (lv_at hl 4 rfl) ?_
    refine wl_ci (va_runV (As := [.int a1, .int b1, .int c1]) (rest := []) ⟨hx, hb, hml, hown, hta⟩ (kx_Maker_ofSettledChoice l dC dI a k st a1 b1 c1 hA) (cwV 3 hta gX6_96 rfl rfl rfl (by decide +kernel) ⟨Nat.le_of_ble_eq_true rfl, Nat.le_of_ble_eq_true rfl⟩) (wl_pR (C := RX6) (ci := 4) (q0 := 16) hK hP rfl (xr_16 a k st)) rfl rfl hl.1 rfl (lv_room (Nat.le_of_ble_eq_true rfl)) dX6_ofSameOperands_11 ⟨Nat.zero_le _, Nat.zero_le _⟩) ?_
    exact W.iret (v := fx_Maker_ofSettledChoice st a1 b1 c1) hx hb hr (fun t ht hW => ⟨⟨_, _, rfl, hR, by rw [ht]; exact hP, va_K.moved hW.alike hK, hD⟩, hS.F ht⟩) hS.2.2 dX6_ofSameOperands_14

theorem wl_soN {st : XS} {N : Nat} {o a1 b1 c1 : Int32} (hN : gI st 6 = nI N) (h64 : N ≤ 64) : ∃ N2 : Nat, gI (fx_Maker_ofSameOperands st o a1 b1 c1).2 6 = nI N2 ∧ N2 ≤ 64 := by
  have ret : ∀ r : Int32, ∃ N2 : Nat, gI ((r, st) : Int32 × XS).2 6 = nI N2 ∧ N2 ≤ 64 := fun r => ⟨N, hN, h64⟩
  have foc : ∀ (w : Int32) (x : Int64), ∃ N2 : Nat, gI (((fx_Terms_findOrAddConstant st w x).1, (fx_Terms_findOrAddConstant st w x).2) : Int32 × XS).2 6 = nI N2 ∧ N2 ≤ 64 := fun w x => wl_focN w x hN h64
  rw [fx_Maker_ofSameOperands]
  (repeat' split) <;> first | exact ret _ | exact foc _ _
theorem wl_in0 : vp_in (0 : Int32) 64 := wl_in (j := 0) (by decide) (by decide)
theorem wl_in02 : vp_in (0 : Int32) 2 := wl_in (j := 0) (by decide) (by decide)
theorem wl_nl {x y : Int32} (h : ¬ x < y) : y ≤ x := Int32.not_lt.mp h
theorem wl_ln {x y : Int32} (h : y ≤ x) : ¬ x < y := Int32.not_lt.mpr h
theorem wl_hv2 {st : XS} {o a b c : Int32} {P : Prop} (hV9 : o = 8 ∨ o = 9 → ¬ fx_Terms_isConstant st b = 0 → P) (c46 : ¬ fx_Maker_areConstants st (fx_Op_namedTerms o) a b c = 0) (h : o = 8 ∨ o = 9) : P := by
  refine hV9 h (fun hb => c46 ?_)
  rw [fx_Maker_areConstants]
  have h2 : ¬ fx_Op_namedTerms o < (2 : Int32) := by rcases h with h | h <;> (rw [h]; decide)
  by_cases c8 : fx_Terms_isConstant st a = (0 : Int32)
  · rw [if_pos c8]
  · rw [if_neg c8, if_neg h2, if_pos hb]
theorem wl_chp {o : Int32} (h : ¬ fx_Op_changesPlaces o = 0) (h0 : ¬ o < 0) (h20 : ¬ (20 : Int32) < o) : ¬ fx_Op_namedTerms o < (2 : Int32) := by
  have key : ∀ k, k < 21 → ¬ fx_Op_changesPlaces (nI k) = 0 → ¬ fx_Op_namedTerms (nI k) < (2 : Int32) := by decide +kernel
  obtain ⟨k, hk, rfl⟩ := nI_of2 (x := o) (M := 20) (n := 20) (by decide) h0 (Int32.not_lt.mp h20)
  exact key k (by omega) h
theorem wl_bz {o : Int32} (h : o = 2 ∨ o = 3 ∨ o = 4 ∨ o = 5 ∨ o = 6 ∨ o = 7 ∨ o = 10 ∨ o = 11 ∨ o = 12) : ¬ fx_Op_namedTerms o < (2 : Int32) := by
  rcases h with h | h | h | h | h | h | h | h | h <;> (rw [h]; decide)
theorem wl_nb2 {o : Int32} (h0 : ¬ o < 0) (h20 : ¬ (20 : Int32) < o) (h : ¬ (o = 0 ∨ o = 1 ∨ o = 17 ∨ o = 18 ∨ o = 19 ∨ o = 20)) : ¬ fx_Op_namedTerms o < (2 : Int32) := by
  have key : ∀ k, k < 21 → ¬ (nI k = 0 ∨ nI k = 1 ∨ nI k = 17 ∨ nI k = 18 ∨ nI k = 19 ∨ nI k = 20) → ¬ fx_Op_namedTerms (nI k) < (2 : Int32) := by decide +kernel
  obtain ⟨k, hk, rfl⟩ := nI_of2 (x := o) (M := 20) (n := 20) (by decide) h0 (Int32.not_lt.mp h20)
  exact key k (by omega) h

theorem dX6_ofZero_0 : decode cX6_ofZero 0 = .ok (.iload_n 1, 1) := by decide +kernel
theorem dX6_ofZero_1 : decode cX6_ofZero 1 = .ok (.tableswitch 139 2 12 #[90, 59, 59, 59, 121, 90, 139, 139, 121, 121, 121], 59) := by decide +kernel
theorem dX6_ofZero_60 : decode cX6_ofZero 60 = .ok (.aload_n 0, 1) := by decide +kernel
theorem dX6_ofZero_61 : decode cX6_ofZero 61 = .ok (.getfield 9, 3) := by decide +kernel
theorem dX6_ofZero_64 : decode cX6_ofZero 64 = .ok (.iload_n 2, 1) := by decide +kernel
theorem dX6_ofZero_65 : decode cX6_ofZero 65 = .ok (.invokevirtual 99, 3) := by decide +kernel
theorem dX6_ofZero_68 : decode cX6_ofZero 68 = .ok (.ifCond .eq 5, 3) := by decide +kernel
theorem dX6_ofZero_71 : decode cX6_ofZero 71 = .ok (.iload_n 3, 1) := by decide +kernel
theorem dX6_ofZero_72 : decode cX6_ofZero 72 = .ok (.ireturn, 1) := by decide +kernel
theorem dX6_ofZero_73 : decode cX6_ofZero 73 = .ok (.aload_n 0, 1) := by decide +kernel
theorem dX6_ofZero_74 : decode cX6_ofZero 74 = .ok (.getfield 9, 3) := by decide +kernel
theorem dX6_ofZero_77 : decode cX6_ofZero 77 = .ok (.iload_n 3, 1) := by decide +kernel
theorem dX6_ofZero_78 : decode cX6_ofZero 78 = .ok (.invokevirtual 99, 3) := by decide +kernel
theorem dX6_ofZero_81 : decode cX6_ofZero 81 = .ok (.ifCond .eq 7, 3) := by decide +kernel
theorem dX6_ofZero_84 : decode cX6_ofZero 84 = .ok (.iload_n 2, 1) := by decide +kernel
theorem dX6_ofZero_85 : decode cX6_ofZero 85 = .ok (.goto 5, 3) := by decide +kernel
theorem dX6_ofZero_88 : decode cX6_ofZero 88 = .ok (.bipush (-3), 2) := by decide +kernel
theorem dX6_ofZero_90 : decode cX6_ofZero 90 = .ok (.ireturn, 1) := by decide +kernel
theorem dX6_ofZero_91 : decode cX6_ofZero 91 = .ok (.aload_n 0, 1) := by decide +kernel
theorem dX6_ofZero_92 : decode cX6_ofZero 92 = .ok (.getfield 9, 3) := by decide +kernel
theorem dX6_ofZero_95 : decode cX6_ofZero 95 = .ok (.iload_n 2, 1) := by decide +kernel
theorem dX6_ofZero_96 : decode cX6_ofZero 96 = .ok (.invokevirtual 99, 3) := by decide +kernel
theorem dX6_ofZero_99 : decode cX6_ofZero 99 = .ok (.ifCond .eq 5, 3) := by decide +kernel
theorem dX6_ofZero_102 : decode cX6_ofZero 102 = .ok (.iload_n 2, 1) := by decide +kernel
theorem dX6_ofZero_103 : decode cX6_ofZero 103 = .ok (.ireturn, 1) := by decide +kernel
theorem dX6_ofZero_104 : decode cX6_ofZero 104 = .ok (.aload_n 0, 1) := by decide +kernel
theorem dX6_ofZero_105 : decode cX6_ofZero 105 = .ok (.getfield 9, 3) := by decide +kernel
theorem dX6_ofZero_108 : decode cX6_ofZero 108 = .ok (.iload_n 3, 1) := by decide +kernel
theorem dX6_ofZero_109 : decode cX6_ofZero 109 = .ok (.invokevirtual 99, 3) := by decide +kernel
theorem dX6_ofZero_112 : decode cX6_ofZero 112 = .ok (.ifCond .eq 7, 3) := by decide +kernel
theorem dX6_ofZero_115 : decode cX6_ofZero 115 = .ok (.iload_n 3, 1) := by decide +kernel
theorem dX6_ofZero_116 : decode cX6_ofZero 116 = .ok (.goto 5, 3) := by decide +kernel
theorem dX6_ofZero_119 : decode cX6_ofZero 119 = .ok (.bipush (-3), 2) := by decide +kernel
theorem dX6_ofZero_121 : decode cX6_ofZero 121 = .ok (.ireturn, 1) := by decide +kernel
theorem dX6_ofZero_122 : decode cX6_ofZero 122 = .ok (.aload_n 0, 1) := by decide +kernel
theorem dX6_ofZero_123 : decode cX6_ofZero 123 = .ok (.getfield 9, 3) := by decide +kernel
theorem dX6_ofZero_126 : decode cX6_ofZero 126 = .ok (.iload_n 3, 1) := by decide +kernel
theorem dX6_ofZero_127 : decode cX6_ofZero 127 = .ok (.invokevirtual 99, 3) := by decide +kernel
theorem dX6_ofZero_130 : decode cX6_ofZero 130 = .ok (.ifCond .eq 7, 3) := by decide +kernel
theorem dX6_ofZero_133 : decode cX6_ofZero 133 = .ok (.iload_n 2, 1) := by decide +kernel
theorem dX6_ofZero_134 : decode cX6_ofZero 134 = .ok (.goto 5, 3) := by decide +kernel
theorem dX6_ofZero_137 : decode cX6_ofZero 137 = .ok (.bipush (-3), 2) := by decide +kernel
theorem dX6_ofZero_139 : decode cX6_ofZero 139 = .ok (.ireturn, 1) := by decide +kernel
theorem dX6_ofZero_140 : decode cX6_ofZero 140 = .ok (.bipush (-3), 2) := by decide +kernel
theorem dX6_ofZero_142 : decode cX6_ofZero 142 = .ok (.ireturn, 1) := by decide +kernel
def fx_Maker_ofZero (st : XS) (o : Int32) (a1 : Int32) (b1 : Int32) : Int32 := 
  if o = (2 : Int32) then 
    if fx_Terms_isZero st a1 = (0 : Int32) then 
      if fx_Terms_isZero st b1 = (0 : Int32) then (-3 : Int32)
      else b1
    else a1
  else 
    if o = (3 : Int32) then 
      if fx_Terms_isZero st a1 = (0 : Int32) then 
        if fx_Terms_isZero st b1 = (0 : Int32) then (-3 : Int32)
        else a1
      else b1
    else 
      if o = (4 : Int32) then 
        if fx_Terms_isZero st a1 = (0 : Int32) then 
          if fx_Terms_isZero st b1 = (0 : Int32) then (-3 : Int32)
          else a1
        else b1
      else 
        if o = (5 : Int32) then 
          if fx_Terms_isZero st a1 = (0 : Int32) then 
            if fx_Terms_isZero st b1 = (0 : Int32) then (-3 : Int32)
            else a1
          else b1
        else 
          if o = (6 : Int32) then 
            if fx_Terms_isZero st b1 = (0 : Int32) then (-3 : Int32)
            else a1
          else 
            if o = (7 : Int32) then 
              if fx_Terms_isZero st a1 = (0 : Int32) then 
                if fx_Terms_isZero st b1 = (0 : Int32) then (-3 : Int32)
                else b1
              else a1
            else 
              if o = (10 : Int32) then 
                if fx_Terms_isZero st b1 = (0 : Int32) then (-3 : Int32)
                else a1
              else 
                if o = (11 : Int32) then 
                  if fx_Terms_isZero st b1 = (0 : Int32) then (-3 : Int32)
                  else a1
                else 
                  if o = (12 : Int32) then 
                    if fx_Terms_isZero st b1 = (0 : Int32) then (-3 : Int32)
                    else a1
                  else (-3 : Int32)
set_option maxHeartbeats 4000000 in
set_option maxRecDepth 100000 in
theorem kx_Maker_ofZero (l : Launch) (dC : Nat → ClassId) (dI : Nat → Nat → Nat) (a : Nat → Nat) (k : Nat → ClassId) (st : XS) (o : Int32) (a1 : Int32) (b1 : Int32) (hA : vp_in a1 64) (hBz : (o = 2 ∨ o = 3 ∨ o = 4 ∨ o = 5 ∨ o = 6 ∨ o = 7 ∨ o = 10 ∨ o = 11 ∨ o = 12) → vp_in b1 64) : Met l yX6_ofZero wsX6_ofZero ({ frames := 2, cells := 0, slots := 0, locals := 42 }) (va_Pc [.ref (a 16), .int o, .int a1, .int b1] (wl_prR (dC, dI) vwCl (xt k) (xw a k st))) (vp_Si (fun r9 => r9 = fx_Maker_ofZero st o a1 b1)) 0 0 (fun _ => False) := by
  refine Met.ofW (cc := cX6_ofZero) (maxL := 4) (ret := (some .int)) (by decide) rfl ?_
  intro p e s m args below meth c s₁ B hml hv
  obtain ⟨rfl, hP, hK⟩ := hv
  have hx := B.exec
  have hb := B.bytes
  have hr := B.returns
  have hta := aw_hts (atoms_spec (ws := wsX6_ofZero) B.pre)
  have hown : s.vm.findClass RX6 = some m.cls := findClass_of_methodNamed B.named
  have hlocks := B.notSynchronized
  have hf9 := hta _ mw_149
  have hl := lv_entry ([.ref (a 16), .int o, .int a1, .int b1]) (n := 4) (Nat.le_of_ble_eq_true rfl)
  rw [lg_entry_eq]
  generalize (lg_sl ([.ref (a 16), .int o, .int a1, .int b1]) ++ List.replicate (4 - (lg_sl ([.ref (a 16), .int o, .int a1, .int b1])).length) Slot.unset).toArray = ls at hl ⊢
  have hl : lv_has ls 4 [(0, .ref (a 16)), (1, .int o), (2, .int a1), (3, .int b1)] := hl
  generalize hR : fx_Maker_ofZero st o a1 b1 = R
  rw [fx_Maker_ofZero] at hR
  refine lv_iload_n hx hb dX6_ofZero_0 rfl (lv_at hl 1 rfl) ?_
  by_cases c1_2 : o = (2 : Int32)
  · skip
    rw [if_pos c1_2] at hR
    refine lv_tableIn (tgt := 91) hx hb dX6_ofZero_1 (by rw [c1_2]; decide) (by rw [c1_2]; decide) (by rw [c1_2] <;> rfl) (by decide) ?_
    refine lv_aload_n hx hb dX6_ofZero_91 rfl (lv_at hl 0 rfl) ?_
    refine va_get (D := (dC, dI)) (ci := 4) (v := .ref (a 7)) (C := RX6) (T := TX6) (N := 2) hx hb hta inX6 hown hK hP 16 (xr_16 a k st) rfl 0 (by decide) hf9 (fun _ h9 => h9) rfl dX6_ofZero_92 ?_
    refine lv_iload_n hx hb dX6_ofZero_95 rfl (lv_at hl 2 rfl) ?_
    refine wl_ci (va_runV (As := [.int a1]) (rest := []) ⟨hx, hb, hml, hown, hta⟩ (kx_Terms_isZero l dC dI a k st a1 hA) (cwV 1 hta gX6_99 rfl rfl rfl (by decide +kernel) ⟨Nat.le_of_ble_eq_true rfl, Nat.le_of_ble_eq_true rfl⟩) (wl_pR (C := RX4) (ci := 2) (q0 := 7) hK hP rfl (xr_7 a k st)) rfl rfl hl.1 rfl (lv_room (Nat.le_of_ble_eq_true rfl)) dX6_ofZero_96 ⟨Nat.zero_le _, Nat.zero_le _⟩) ?_
    refine lv_if_eq (tgt := 104) hx hb dX6_ofZero_99 (by decide) (fun c99 => ?_) (fun c99 => ?_)
    · skip
      rw [if_pos c99] at hR
      refine lv_aload_n hx hb dX6_ofZero_104 rfl (lv_at hl 0 rfl) ?_
      refine va_get (D := (dC, dI)) (ci := 4) (v := .ref (a 7)) (C := RX6) (T := TX6) (N := 2) hx hb hta inX6 hown hK hP 16 (xr_16 a k st) rfl 0 (by decide) hf9 (fun _ h9 => h9) rfl dX6_ofZero_105 ?_
      refine lv_iload_n hx hb dX6_ofZero_108 rfl (lv_at hl 3 rfl) ?_
      refine wl_ci (va_runV (As := [.int b1]) (rest := []) ⟨hx, hb, hml, hown, hta⟩ (kx_Terms_isZero l dC dI a k st b1 (hBz (by first | (rw [c1_2]; decide) | (rw [c1_7]; decide)))) (cwV 1 hta gX6_99 rfl rfl rfl (by decide +kernel) ⟨Nat.le_of_ble_eq_true rfl, Nat.le_of_ble_eq_true rfl⟩) (wl_pR (C := RX4) (ci := 2) (q0 := 7) hK hP rfl (xr_7 a k st)) rfl rfl hl.1 rfl (lv_room (Nat.le_of_ble_eq_true rfl)) dX6_ofZero_109 ⟨Nat.zero_le _, Nat.zero_le _⟩) ?_
      refine lv_if_eq (tgt := 119) hx hb dX6_ofZero_112 (by decide) (fun c112 => ?_) (fun c112 => ?_)
      · skip
        rw [if_pos c112] at hR
        refine lv_bipush (v := (-3 : Int32)) hx hb dX6_ofZero_119 (by decide) ?_
        exact W.iret (v := (-3 : Int32)) hx hb hr (fun t ht hW => ⟨_, rfl, hR, ht⟩) (fun q h => by cases h) dX6_ofZero_121
      · skip
        rw [if_neg c112] at hR
        refine lv_iload_n hx hb dX6_ofZero_115 rfl (lv_at hl 3 rfl) ?_
        refine lv_goto (tgt := 121) hx hb dX6_ofZero_116 (by decide) ?_
        exact W.iret (v := b1) hx hb hr (fun t ht hW => ⟨_, rfl, hR, ht⟩) (fun q h => by cases h) dX6_ofZero_121
    · skip
      rw [if_neg c99] at hR
      refine lv_iload_n hx hb dX6_ofZero_102 rfl (lv_at hl 2 rfl) ?_
      exact W.iret (v := a1) hx hb hr (fun t ht hW => ⟨_, rfl, hR, ht⟩) (fun q h => by cases h) dX6_ofZero_103
  · skip
    rw [if_neg c1_2] at hR
    by_cases c1_3 : o = (3 : Int32)
    · skip
      rw [if_pos c1_3] at hR
      refine lv_tableIn (tgt := 60) hx hb dX6_ofZero_1 (by rw [c1_3]; decide) (by rw [c1_3]; decide) (by rw [c1_3] <;> rfl) (by decide) ?_
      refine lv_aload_n hx hb dX6_ofZero_60 rfl (lv_at hl 0 rfl) ?_
      refine va_get (D := (dC, dI)) (ci := 4) (v := .ref (a 7)) (C := RX6) (T := TX6) (N := 2) hx hb hta inX6 hown hK hP 16 (xr_16 a k st) rfl 0 (by decide) hf9 (fun _ h9 => h9) rfl dX6_ofZero_61 ?_
      refine lv_iload_n hx hb dX6_ofZero_64 rfl (lv_at hl 2 rfl) ?_
      refine wl_ci (va_runV (As := [.int a1]) (rest := []) ⟨hx, hb, hml, hown, hta⟩ (kx_Terms_isZero l dC dI a k st a1 hA) (cwV 1 hta gX6_99 rfl rfl rfl (by decide +kernel) ⟨Nat.le_of_ble_eq_true rfl, Nat.le_of_ble_eq_true rfl⟩) (wl_pR (C := RX4) (ci := 2) (q0 := 7) hK hP rfl (xr_7 a k st)) rfl rfl hl.1 rfl (lv_room (Nat.le_of_ble_eq_true rfl)) dX6_ofZero_65 ⟨Nat.zero_le _, Nat.zero_le _⟩) ?_
      refine lv_if_eq (tgt := 73) hx hb dX6_ofZero_68 (by decide) (fun c68 => ?_) (fun c68 => ?_)
      · skip
        rw [if_pos c68] at hR
        refine lv_aload_n hx hb dX6_ofZero_73 rfl (lv_at hl 0 rfl) ?_
        refine va_get (D := (dC, dI)) (ci := 4) (v := .ref (a 7)) (C := RX6) (T := TX6) (N := 2) hx hb hta inX6 hown hK hP 16 (xr_16 a k st) rfl 0 (by decide) hf9 (fun _ h9 => h9) rfl dX6_ofZero_74 ?_
        refine lv_iload_n hx hb dX6_ofZero_77 rfl (lv_at hl 3 rfl) ?_
        refine wl_ci (va_runV (As := [.int b1]) (rest := []) ⟨hx, hb, hml, hown, hta⟩ (kx_Terms_isZero l dC dI a k st b1 (hBz (by first | (rw [c1_3]; decide) | (rw [c1_4]; decide) | (rw [c1_5]; decide)))) (cwV 1 hta gX6_99 rfl rfl rfl (by decide +kernel) ⟨Nat.le_of_ble_eq_true rfl, Nat.le_of_ble_eq_true rfl⟩) (wl_pR (C := RX4) (ci := 2) (q0 := 7) hK hP rfl (xr_7 a k st)) rfl rfl hl.1 rfl (lv_room (Nat.le_of_ble_eq_true rfl)) dX6_ofZero_78 ⟨Nat.zero_le _, Nat.zero_le _⟩) ?_
        refine lv_if_eq (tgt := 88) hx hb dX6_ofZero_81 (by decide) (fun c81 => ?_) (fun c81 => ?_)
        · skip
          rw [if_pos c81] at hR
          refine lv_bipush (v := (-3 : Int32)) hx hb dX6_ofZero_88 (by decide) ?_
          exact W.iret (v := (-3 : Int32)) hx hb hr (fun t ht hW => ⟨_, rfl, hR, ht⟩) (fun q h => by cases h) dX6_ofZero_90
        · skip
          rw [if_neg c81] at hR
          refine lv_iload_n hx hb dX6_ofZero_84 rfl (lv_at hl 2 rfl) ?_
          refine lv_goto (tgt := 90) hx hb dX6_ofZero_85 (by decide) ?_
          exact W.iret (v := a1) hx hb hr (fun t ht hW => ⟨_, rfl, hR, ht⟩) (fun q h => by cases h) dX6_ofZero_90
      · skip
        rw [if_neg c68] at hR
        refine lv_iload_n hx hb dX6_ofZero_71 rfl (lv_at hl 3 rfl) ?_
        exact W.iret (v := b1) hx hb hr (fun t ht hW => ⟨_, rfl, hR, ht⟩) (fun q h => by cases h) dX6_ofZero_72
    · skip
      rw [if_neg c1_3] at hR
      by_cases c1_4 : o = (4 : Int32)
      · skip
        rw [if_pos c1_4] at hR
        refine lv_tableIn (tgt := 60) hx hb dX6_ofZero_1 (by rw [c1_4]; decide) (by rw [c1_4]; decide) (by rw [c1_4] <;> rfl) (by decide) ?_
        refine lv_aload_n hx hb dX6_ofZero_60 rfl (lv_at hl 0 rfl) ?_
        refine va_get (D := (dC, dI)) (ci := 4) (v := .ref (a 7)) (C := RX6) (T := TX6) (N := 2) hx hb hta inX6 hown hK hP 16 (xr_16 a k st) rfl 0 (by decide) hf9 (fun _ h9 => h9) rfl dX6_ofZero_61 ?_
        refine lv_iload_n hx hb dX6_ofZero_64 rfl (lv_at hl 2 rfl) ?_
        refine wl_ci (va_runV (As := [.int a1]) (rest := []) ⟨hx, hb, hml, hown, hta⟩ (kx_Terms_isZero l dC dI a k st a1 hA) (cwV 1 hta gX6_99 rfl rfl rfl (by decide +kernel) ⟨Nat.le_of_ble_eq_true rfl, Nat.le_of_ble_eq_true rfl⟩) (wl_pR (C := RX4) (ci := 2) (q0 := 7) hK hP rfl (xr_7 a k st)) rfl rfl hl.1 rfl (lv_room (Nat.le_of_ble_eq_true rfl)) dX6_ofZero_65 ⟨Nat.zero_le _, Nat.zero_le _⟩) ?_
        refine lv_if_eq (tgt := 73) hx hb dX6_ofZero_68 (by decide) (fun c68 => ?_) (fun c68 => ?_)
        · skip
          rw [if_pos c68] at hR
          refine lv_aload_n hx hb dX6_ofZero_73 rfl (lv_at hl 0 rfl) ?_
          refine va_get (D := (dC, dI)) (ci := 4) (v := .ref (a 7)) (C := RX6) (T := TX6) (N := 2) hx hb hta inX6 hown hK hP 16 (xr_16 a k st) rfl 0 (by decide) hf9 (fun _ h9 => h9) rfl dX6_ofZero_74 ?_
          refine lv_iload_n hx hb dX6_ofZero_77 rfl (lv_at hl 3 rfl) ?_
          refine wl_ci (va_runV (As := [.int b1]) (rest := []) ⟨hx, hb, hml, hown, hta⟩ (kx_Terms_isZero l dC dI a k st b1 (hBz (by first | (rw [c1_3]; decide) | (rw [c1_4]; decide) | (rw [c1_5]; decide)))) (cwV 1 hta gX6_99 rfl rfl rfl (by decide +kernel) ⟨Nat.le_of_ble_eq_true rfl, Nat.le_of_ble_eq_true rfl⟩) (wl_pR (C := RX4) (ci := 2) (q0 := 7) hK hP rfl (xr_7 a k st)) rfl rfl hl.1 rfl (lv_room (Nat.le_of_ble_eq_true rfl)) dX6_ofZero_78 ⟨Nat.zero_le _, Nat.zero_le _⟩) ?_
          refine lv_if_eq (tgt := 88) hx hb dX6_ofZero_81 (by decide) (fun c81 => ?_) (fun c81 => ?_)
          · skip
            rw [if_pos c81] at hR
            refine lv_bipush (v := (-3 : Int32)) hx hb dX6_ofZero_88 (by decide) ?_
            exact W.iret (v := (-3 : Int32)) hx hb hr (fun t ht hW => ⟨_, rfl, hR, ht⟩) (fun q h => by cases h) dX6_ofZero_90
          · skip
            rw [if_neg c81] at hR
            refine lv_iload_n hx hb dX6_ofZero_84 rfl (lv_at hl 2 rfl) ?_
            refine lv_goto (tgt := 90) hx hb dX6_ofZero_85 (by decide) ?_
            exact W.iret (v := a1) hx hb hr (fun t ht hW => ⟨_, rfl, hR, ht⟩) (fun q h => by cases h) dX6_ofZero_90
        · skip
          rw [if_neg c68] at hR
          refine lv_iload_n hx hb dX6_ofZero_71 rfl (lv_at hl 3 rfl) ?_
          exact W.iret (v := b1) hx hb hr (fun t ht hW => ⟨_, rfl, hR, ht⟩) (fun q h => by cases h) dX6_ofZero_72
      · skip
        rw [if_neg c1_4] at hR
        by_cases c1_5 : o = (5 : Int32)
        · skip
          rw [if_pos c1_5] at hR
          refine lv_tableIn (tgt := 60) hx hb dX6_ofZero_1 (by rw [c1_5]; decide) (by rw [c1_5]; decide) (by rw [c1_5] <;> rfl) (by decide) ?_
          refine lv_aload_n hx hb dX6_ofZero_60 rfl (lv_at hl 0 rfl) ?_
          refine va_get (D := (dC, dI)) (ci := 4) (v := .ref (a 7)) (C := RX6) (T := TX6) (N := 2) hx hb hta inX6 hown hK hP 16 (xr_16 a k st) rfl 0 (by decide) hf9 (fun _ h9 => h9) rfl dX6_ofZero_61 ?_
          refine lv_iload_n hx hb dX6_ofZero_64 rfl (lv_at hl 2 rfl) ?_
          refine wl_ci (va_runV (As := [.int a1]) (rest := []) ⟨hx, hb, hml, hown, hta⟩ (kx_Terms_isZero l dC dI a k st a1 hA) (cwV 1 hta gX6_99 rfl rfl rfl (by decide +kernel) ⟨Nat.le_of_ble_eq_true rfl, Nat.le_of_ble_eq_true rfl⟩) (wl_pR (C := RX4) (ci := 2) (q0 := 7) hK hP rfl (xr_7 a k st)) rfl rfl hl.1 rfl (lv_room (Nat.le_of_ble_eq_true rfl)) dX6_ofZero_65 ⟨Nat.zero_le _, Nat.zero_le _⟩) ?_
          refine lv_if_eq (tgt := 73) hx hb dX6_ofZero_68 (by decide) (fun c68 => ?_) (fun c68 => ?_)
          · skip
            rw [if_pos c68] at hR
            refine lv_aload_n hx hb dX6_ofZero_73 rfl (lv_at hl 0 rfl) ?_
            refine va_get (D := (dC, dI)) (ci := 4) (v := .ref (a 7)) (C := RX6) (T := TX6) (N := 2) hx hb hta inX6 hown hK hP 16 (xr_16 a k st) rfl 0 (by decide) hf9 (fun _ h9 => h9) rfl dX6_ofZero_74 ?_
            refine lv_iload_n hx hb dX6_ofZero_77 rfl (lv_at hl 3 rfl) ?_
            refine wl_ci (va_runV (As := [.int b1]) (rest := []) ⟨hx, hb, hml, hown, hta⟩ (kx_Terms_isZero l dC dI a k st b1 (hBz (by first | (rw [c1_3]; decide) | (rw [c1_4]; decide) | (rw [c1_5]; decide)))) (cwV 1 hta gX6_99 rfl rfl rfl (by decide +kernel) ⟨Nat.le_of_ble_eq_true rfl, Nat.le_of_ble_eq_true rfl⟩) (wl_pR (C := RX4) (ci := 2) (q0 := 7) hK hP rfl (xr_7 a k st)) rfl rfl hl.1 rfl (lv_room (Nat.le_of_ble_eq_true rfl)) dX6_ofZero_78 ⟨Nat.zero_le _, Nat.zero_le _⟩) ?_
            refine lv_if_eq (tgt := 88) hx hb dX6_ofZero_81 (by decide) (fun c81 => ?_) (fun c81 => ?_)
            · skip
              rw [if_pos c81] at hR
              refine lv_bipush (v := (-3 : Int32)) hx hb dX6_ofZero_88 (by decide) ?_
              exact W.iret (v := (-3 : Int32)) hx hb hr (fun t ht hW => ⟨_, rfl, hR, ht⟩) (fun q h => by cases h) dX6_ofZero_90
            · skip
              rw [if_neg c81] at hR
              refine lv_iload_n hx hb dX6_ofZero_84 rfl (lv_at hl 2 rfl) ?_
              refine lv_goto (tgt := 90) hx hb dX6_ofZero_85 (by decide) ?_
              exact W.iret (v := a1) hx hb hr (fun t ht hW => ⟨_, rfl, hR, ht⟩) (fun q h => by cases h) dX6_ofZero_90
          · skip
            rw [if_neg c68] at hR
            refine lv_iload_n hx hb dX6_ofZero_71 rfl (lv_at hl 3 rfl) ?_
            exact W.iret (v := b1) hx hb hr (fun t ht hW => ⟨_, rfl, hR, ht⟩) (fun q h => by cases h) dX6_ofZero_72
        · skip
          rw [if_neg c1_5] at hR
          by_cases c1_6 : o = (6 : Int32)
          · skip
            rw [if_pos c1_6] at hR
            refine lv_tableIn (tgt := 122) hx hb dX6_ofZero_1 (by rw [c1_6]; decide) (by rw [c1_6]; decide) (by rw [c1_6] <;> rfl) (by decide) ?_
            refine lv_aload_n hx hb dX6_ofZero_122 rfl (lv_at hl 0 rfl) ?_
            refine va_get (D := (dC, dI)) (ci := 4) (v := .ref (a 7)) (C := RX6) (T := TX6) (N := 2) hx hb hta inX6 hown hK hP 16 (xr_16 a k st) rfl 0 (by decide) hf9 (fun _ h9 => h9) rfl dX6_ofZero_123 ?_
            refine lv_iload_n hx hb dX6_ofZero_126 rfl (lv_at hl 3 rfl) ?_
            refine wl_ci (va_runV (As := [.int b1]) (rest := []) ⟨hx, hb, hml, hown, hta⟩ (kx_Terms_isZero l dC dI a k st b1 (hBz (by first | (rw [c1_6]; decide) | (rw [c1_10]; decide) | (rw [c1_11]; decide) | (rw [c1_12]; decide)))) (cwV 1 hta gX6_99 rfl rfl rfl (by decide +kernel) ⟨Nat.le_of_ble_eq_true rfl, Nat.le_of_ble_eq_true rfl⟩) (wl_pR (C := RX4) (ci := 2) (q0 := 7) hK hP rfl (xr_7 a k st)) rfl rfl hl.1 rfl (lv_room (Nat.le_of_ble_eq_true rfl)) dX6_ofZero_127 ⟨Nat.zero_le _, Nat.zero_le _⟩) ?_
            refine lv_if_eq (tgt := 137) hx hb dX6_ofZero_130 (by decide) (fun c130 => ?_) (fun c130 => ?_)
            · skip
              rw [if_pos c130] at hR
              refine lv_bipush (v := (-3 : Int32)) hx hb dX6_ofZero_137 (by decide) ?_
              exact W.iret (v := (-3 : Int32)) hx hb hr (fun t ht hW => ⟨_, rfl, hR, ht⟩) (fun q h => by cases h) dX6_ofZero_139
            · skip
              rw [if_neg c130] at hR
              refine lv_iload_n hx hb dX6_ofZero_133 rfl (lv_at hl 2 rfl) ?_
              refine lv_goto (tgt := 139) hx hb dX6_ofZero_134 (by decide) ?_
              exact W.iret (v := a1) hx hb hr (fun t ht hW => ⟨_, rfl, hR, ht⟩) (fun q h => by cases h) dX6_ofZero_139
          · skip
            rw [if_neg c1_6] at hR
            by_cases c1_7 : o = (7 : Int32)
            · skip
              rw [if_pos c1_7] at hR
              refine lv_tableIn (tgt := 91) hx hb dX6_ofZero_1 (by rw [c1_7]; decide) (by rw [c1_7]; decide) (by rw [c1_7] <;> rfl) (by decide) ?_
              refine lv_aload_n hx hb dX6_ofZero_91 rfl (lv_at hl 0 rfl) ?_
              refine va_get (D := (dC, dI)) (ci := 4) (v := .ref (a 7)) (C := RX6) (T := TX6) (N := 2) hx hb hta inX6 hown hK hP 16 (xr_16 a k st) rfl 0 (by decide) hf9 (fun _ h9 => h9) rfl dX6_ofZero_92 ?_
              refine lv_iload_n hx hb dX6_ofZero_95 rfl (lv_at hl 2 rfl) ?_
              refine wl_ci (va_runV (As := [.int a1]) (rest := []) ⟨hx, hb, hml, hown, hta⟩ (kx_Terms_isZero l dC dI a k st a1 hA) (cwV 1 hta gX6_99 rfl rfl rfl (by decide +kernel) ⟨Nat.le_of_ble_eq_true rfl, Nat.le_of_ble_eq_true rfl⟩) (wl_pR (C := RX4) (ci := 2) (q0 := 7) hK hP rfl (xr_7 a k st)) rfl rfl hl.1 rfl (lv_room (Nat.le_of_ble_eq_true rfl)) dX6_ofZero_96 ⟨Nat.zero_le _, Nat.zero_le _⟩) ?_
              refine lv_if_eq (tgt := 104) hx hb dX6_ofZero_99 (by decide) (fun c99 => ?_) (fun c99 => ?_)
              · skip
                rw [if_pos c99] at hR
                refine lv_aload_n hx hb dX6_ofZero_104 rfl (lv_at hl 0 rfl) ?_
                refine va_get (D := (dC, dI)) (ci := 4) (v := .ref (a 7)) (C := RX6) (T := TX6) (N := 2) hx hb hta inX6 hown hK hP 16 (xr_16 a k st) rfl 0 (by decide) hf9 (fun _ h9 => h9) rfl dX6_ofZero_105 ?_
                refine lv_iload_n hx hb dX6_ofZero_108 rfl (lv_at hl 3 rfl) ?_
                refine wl_ci (va_runV (As := [.int b1]) (rest := []) ⟨hx, hb, hml, hown, hta⟩ (kx_Terms_isZero l dC dI a k st b1 (hBz (by first | (rw [c1_2]; decide) | (rw [c1_7]; decide)))) (cwV 1 hta gX6_99 rfl rfl rfl (by decide +kernel) ⟨Nat.le_of_ble_eq_true rfl, Nat.le_of_ble_eq_true rfl⟩) (wl_pR (C := RX4) (ci := 2) (q0 := 7) hK hP rfl (xr_7 a k st)) rfl rfl hl.1 rfl (lv_room (Nat.le_of_ble_eq_true rfl)) dX6_ofZero_109 ⟨Nat.zero_le _, Nat.zero_le _⟩) ?_
                refine lv_if_eq (tgt := 119) hx hb dX6_ofZero_112 (by decide) (fun c112 => ?_) (fun c112 => ?_)
                · skip
                  rw [if_pos c112] at hR
                  refine lv_bipush (v := (-3 : Int32)) hx hb dX6_ofZero_119 (by decide) ?_
                  exact W.iret (v := (-3 : Int32)) hx hb hr (fun t ht hW => ⟨_, rfl, hR, ht⟩) (fun q h => by cases h) dX6_ofZero_121
                · skip
                  rw [if_neg c112] at hR
                  refine lv_iload_n hx hb dX6_ofZero_115 rfl (lv_at hl 3 rfl) ?_
                  refine lv_goto (tgt := 121) hx hb dX6_ofZero_116 (by decide) ?_
                  exact W.iret (v := b1) hx hb hr (fun t ht hW => ⟨_, rfl, hR, ht⟩) (fun q h => by cases h) dX6_ofZero_121
              · skip
                rw [if_neg c99] at hR
                refine lv_iload_n hx hb dX6_ofZero_102 rfl (lv_at hl 2 rfl) ?_
                exact W.iret (v := a1) hx hb hr (fun t ht hW => ⟨_, rfl, hR, ht⟩) (fun q h => by cases h) dX6_ofZero_103
            · skip
              rw [if_neg c1_7] at hR
              by_cases c1_10 : o = (10 : Int32)
              · skip
                rw [if_pos c1_10] at hR
                refine lv_tableIn (tgt := 122) hx hb dX6_ofZero_1 (by rw [c1_10]; decide) (by rw [c1_10]; decide) (by rw [c1_10] <;> rfl) (by decide) ?_
                refine lv_aload_n hx hb dX6_ofZero_122 rfl (lv_at hl 0 rfl) ?_
                refine va_get (D := (dC, dI)) (ci := 4) (v := .ref (a 7)) (C := RX6) (T := TX6) (N := 2) hx hb hta inX6 hown hK hP 16 (xr_16 a k st) rfl 0 (by decide) hf9 (fun _ h9 => h9) rfl dX6_ofZero_123 ?_
                refine lv_iload_n hx hb dX6_ofZero_126 rfl (lv_at hl 3 rfl) ?_
                refine wl_ci (va_runV (As := [.int b1]) (rest := []) ⟨hx, hb, hml, hown, hta⟩ (kx_Terms_isZero l dC dI a k st b1 (hBz (by first | (rw [c1_6]; decide) | (rw [c1_10]; decide) | (rw [c1_11]; decide) | (rw [c1_12]; decide)))) (cwV 1 hta gX6_99 rfl rfl rfl (by decide +kernel) ⟨Nat.le_of_ble_eq_true rfl, Nat.le_of_ble_eq_true rfl⟩) (wl_pR (C := RX4) (ci := 2) (q0 := 7) hK hP rfl (xr_7 a k st)) rfl rfl hl.1 rfl (lv_room (Nat.le_of_ble_eq_true rfl)) dX6_ofZero_127 ⟨Nat.zero_le _, Nat.zero_le _⟩) ?_
                refine lv_if_eq (tgt := 137) hx hb dX6_ofZero_130 (by decide) (fun c130 => ?_) (fun c130 => ?_)
                · skip
                  rw [if_pos c130] at hR
                  refine lv_bipush (v := (-3 : Int32)) hx hb dX6_ofZero_137 (by decide) ?_
                  exact W.iret (v := (-3 : Int32)) hx hb hr (fun t ht hW => ⟨_, rfl, hR, ht⟩) (fun q h => by cases h) dX6_ofZero_139
                · skip
                  rw [if_neg c130] at hR
                  refine lv_iload_n hx hb dX6_ofZero_133 rfl (lv_at hl 2 rfl) ?_
                  refine lv_goto (tgt := 139) hx hb dX6_ofZero_134 (by decide) ?_
                  exact W.iret (v := a1) hx hb hr (fun t ht hW => ⟨_, rfl, hR, ht⟩) (fun q h => by cases h) dX6_ofZero_139
              · skip
                rw [if_neg c1_10] at hR
                by_cases c1_11 : o = (11 : Int32)
                · skip
                  rw [if_pos c1_11] at hR
                  refine lv_tableIn (tgt := 122) hx hb dX6_ofZero_1 (by rw [c1_11]; decide) (by rw [c1_11]; decide) (by rw [c1_11] <;> rfl) (by decide) ?_
                  refine lv_aload_n hx hb dX6_ofZero_122 rfl (lv_at hl 0 rfl) ?_
                  refine va_get (D := (dC, dI)) (ci := 4) (v := .ref (a 7)) (C := RX6) (T := TX6) (N := 2) hx hb hta inX6 hown hK hP 16 (xr_16 a k st) rfl 0 (by decide) hf9 (fun _ h9 => h9) rfl dX6_ofZero_123 ?_
                  refine lv_iload_n hx hb dX6_ofZero_126 rfl (lv_at hl 3 rfl) ?_
                  refine wl_ci (va_runV (As := [.int b1]) (rest := []) ⟨hx, hb, hml, hown, hta⟩ (kx_Terms_isZero l dC dI a k st b1 (hBz (by first | (rw [c1_6]; decide) | (rw [c1_10]; decide) | (rw [c1_11]; decide) | (rw [c1_12]; decide)))) (cwV 1 hta gX6_99 rfl rfl rfl (by decide +kernel) ⟨Nat.le_of_ble_eq_true rfl, Nat.le_of_ble_eq_true rfl⟩) (wl_pR (C := RX4) (ci := 2) (q0 := 7) hK hP rfl (xr_7 a k st)) rfl rfl hl.1 rfl (lv_room (Nat.le_of_ble_eq_true rfl)) dX6_ofZero_127 ⟨Nat.zero_le _, Nat.zero_le _⟩) ?_
                  refine lv_if_eq (tgt := 137) hx hb dX6_ofZero_130 (by decide) (fun c130 => ?_) (fun c130 => ?_)
                  · skip
                    rw [if_pos c130] at hR
                    refine lv_bipush (v := (-3 : Int32)) hx hb dX6_ofZero_137 (by decide) ?_
                    exact W.iret (v := (-3 : Int32)) hx hb hr (fun t ht hW => ⟨_, rfl, hR, ht⟩) (fun q h => by cases h) dX6_ofZero_139
                  · skip
                    rw [if_neg c130] at hR
                    refine lv_iload_n hx hb dX6_ofZero_133 rfl (lv_at hl 2 rfl) ?_
                    refine lv_goto (tgt := 139) hx hb dX6_ofZero_134 (by decide) ?_
                    exact W.iret (v := a1) hx hb hr (fun t ht hW => ⟨_, rfl, hR, ht⟩) (fun q h => by cases h) dX6_ofZero_139
                · skip
                  rw [if_neg c1_11] at hR
                  by_cases c1_12 : o = (12 : Int32)
                  · skip
                    rw [if_pos c1_12] at hR
                    refine lv_tableIn (tgt := 122) hx hb dX6_ofZero_1 (by rw [c1_12]; decide) (by rw [c1_12]; decide) (by rw [c1_12] <;> rfl) (by decide) ?_
                    refine lv_aload_n hx hb dX6_ofZero_122 rfl (lv_at hl 0 rfl) ?_
                    refine va_get (D := (dC, dI)) (ci := 4) (v := .ref (a 7)) (C := RX6) (T := TX6) (N := 2) hx hb hta inX6 hown hK hP 16 (xr_16 a k st) rfl 0 (by decide) hf9 (fun _ h9 => h9) rfl dX6_ofZero_123 ?_
                    refine lv_iload_n hx hb dX6_ofZero_126 rfl (lv_at hl 3 rfl) ?_
                    refine wl_ci (va_runV (As := [.int b1]) (rest := []) ⟨hx, hb, hml, hown, hta⟩ (kx_Terms_isZero l dC dI a k st b1 (hBz (by first | (rw [c1_6]; decide) | (rw [c1_10]; decide) | (rw [c1_11]; decide) | (rw [c1_12]; decide)))) (cwV 1 hta gX6_99 rfl rfl rfl (by decide +kernel) ⟨Nat.le_of_ble_eq_true rfl, Nat.le_of_ble_eq_true rfl⟩) (wl_pR (C := RX4) (ci := 2) (q0 := 7) hK hP rfl (xr_7 a k st)) rfl rfl hl.1 rfl (lv_room (Nat.le_of_ble_eq_true rfl)) dX6_ofZero_127 ⟨Nat.zero_le _, Nat.zero_le _⟩) ?_
                    refine lv_if_eq (tgt := 137) hx hb dX6_ofZero_130 (by decide) (fun c130 => ?_) (fun c130 => ?_)
                    · skip
                      rw [if_pos c130] at hR
                      refine lv_bipush (v := (-3 : Int32)) hx hb dX6_ofZero_137 (by decide) ?_
                      exact W.iret (v := (-3 : Int32)) hx hb hr (fun t ht hW => ⟨_, rfl, hR, ht⟩) (fun q h => by cases h) dX6_ofZero_139
                    · skip
                      rw [if_neg c130] at hR
                      refine lv_iload_n hx hb dX6_ofZero_133 rfl (lv_at hl 2 rfl) ?_
                      refine lv_goto (tgt := 139) hx hb dX6_ofZero_134 (by decide) ?_
                      exact W.iret (v := a1) hx hb hr (fun t ht hW => ⟨_, rfl, hR, ht⟩) (fun q h => by cases h) dX6_ofZero_139
                  · skip
                    rw [if_neg c1_12] at hR
                    have t1_2 := lv_neT (a := 2) c1_2 (by decide)
                    have t1_3 := lv_neT (a := 3) c1_3 (by decide)
                    have t1_4 := lv_neT (a := 4) c1_4 (by decide)
                    have t1_5 := lv_neT (a := 5) c1_5 (by decide)
                    have t1_6 := lv_neT (a := 6) c1_6 (by decide)
                    have t1_7 := lv_neT (a := 7) c1_7 (by decide)
                    have t1_10 := lv_neT (a := 10) c1_10 (by decide)
                    have t1_11 := lv_neT (a := 11) c1_11 (by decide)
                    have t1_12 := lv_neT (a := 12) c1_12 (by decide)
                    refine wl_tabD (tgt := 140) (ks := [2, 3, 4, 5, 6, 7, 10, 11, 12]) hx hb dX6_ofZero_1 (by decide) (by decide +kernel) (by intro k hk; simp only [List.mem_cons, List.not_mem_nil, or_false] at hk; rcases hk with rfl | rfl | rfl | rfl | rfl | rfl | rfl | rfl | rfl <;> assumption) (by decide) ?_
                    refine lv_bipush (v := (-3 : Int32)) hx hb dX6_ofZero_140 (by decide) ?_
                    exact W.iret (v := (-3 : Int32)) hx hb hr (fun t ht hW => ⟨_, rfl, hR, ht⟩) (fun q h => by cases h) dX6_ofZero_142

theorem mw_423 : (.methodLink RX6 102 yX4_operationOf : Cond) ∈ AW := List.mem_filter.mpr ⟨List.mem_of_getElem? (i := 423) (by decide +kernel), rfl⟩
theorem mw_427 : (.methodLink RX6 105 yX4_operandOf : Cond) ∈ AW := List.mem_filter.mpr ⟨List.mem_of_getElem? (i := 427) (by decide +kernel), rfl⟩
theorem gX6_102 : GoodIn AW (wsV RX6 102 RX4 yX4_operationOf wsX4_operationOf) := aw_V mw_423 mw_424 mw_425 mw_41 mw_426
theorem gX6_105 : GoodIn AW (wsV RX6 105 RX4 yX4_operandOf wsX4_operandOf) := aw_V mw_427 mw_428 mw_429 mw_41 mw_430
theorem dX6_ofUndoing_0 : decode cX6_ofUndoing 0 = .ok (.iload_n 1, 1) := by decide +kernel
theorem dX6_ofUndoing_1 : decode cX6_ofUndoing 1 = .ok (.iconst 1, 1) := by decide +kernel
theorem dX6_ofUndoing_2 : decode cX6_ofUndoing 2 = .ok (.if_icmp .gt 19, 3) := by decide +kernel
theorem dX6_ofUndoing_5 : decode cX6_ofUndoing 5 = .ok (.aload_n 0, 1) := by decide +kernel
theorem dX6_ofUndoing_6 : decode cX6_ofUndoing 6 = .ok (.getfield 9, 3) := by decide +kernel
theorem dX6_ofUndoing_9 : decode cX6_ofUndoing 9 = .ok (.iload_n 2, 1) := by decide +kernel
theorem dX6_ofUndoing_10 : decode cX6_ofUndoing 10 = .ok (.invokevirtual 102, 3) := by decide +kernel
theorem dX6_ofUndoing_13 : decode cX6_ofUndoing 13 = .ok (.iload_n 1, 1) := by decide +kernel
theorem dX6_ofUndoing_14 : decode cX6_ofUndoing 14 = .ok (.if_icmp .ne 7, 3) := by decide +kernel
theorem dX6_ofUndoing_17 : decode cX6_ofUndoing 17 = .ok (.iconst 1, 1) := by decide +kernel
theorem dX6_ofUndoing_18 : decode cX6_ofUndoing 18 = .ok (.goto 4, 3) := by decide +kernel
theorem dX6_ofUndoing_21 : decode cX6_ofUndoing 21 = .ok (.iconst 0, 1) := by decide +kernel
theorem dX6_ofUndoing_22 : decode cX6_ofUndoing 22 = .ok (.istore_n 3, 1) := by decide +kernel
theorem dX6_ofUndoing_23 : decode cX6_ofUndoing 23 = .ok (.iload_n 3, 1) := by decide +kernel
theorem dX6_ofUndoing_24 : decode cX6_ofUndoing 24 = .ok (.ifCond .eq 15, 3) := by decide +kernel
theorem dX6_ofUndoing_27 : decode cX6_ofUndoing 27 = .ok (.aload_n 0, 1) := by decide +kernel
theorem dX6_ofUndoing_28 : decode cX6_ofUndoing 28 = .ok (.getfield 9, 3) := by decide +kernel
theorem dX6_ofUndoing_31 : decode cX6_ofUndoing 31 = .ok (.iload_n 2, 1) := by decide +kernel
theorem dX6_ofUndoing_32 : decode cX6_ofUndoing 32 = .ok (.iconst 0, 1) := by decide +kernel
theorem dX6_ofUndoing_33 : decode cX6_ofUndoing 33 = .ok (.invokevirtual 105, 3) := by decide +kernel
theorem dX6_ofUndoing_36 : decode cX6_ofUndoing 36 = .ok (.goto 5, 3) := by decide +kernel
theorem dX6_ofUndoing_39 : decode cX6_ofUndoing 39 = .ok (.bipush (-3), 2) := by decide +kernel
theorem dX6_ofUndoing_41 : decode cX6_ofUndoing 41 = .ok (.ireturn, 1) := by decide +kernel
def fx_Maker_ofUndoing (st : XS) (o : Int32) (a1 : Int32) : Int32 := 
  if (1 : Int32) < o then (-3 : Int32)
  else 
    if fx_Terms_operationOf st a1 = o then fx_Terms_operandOf st a1 (0 : Int32)
    else (-3 : Int32)
set_option maxHeartbeats 4000000 in
set_option maxRecDepth 100000 in
theorem kx_Maker_ofUndoing (l : Launch) (dC : Nat → ClassId) (dI : Nat → Nat → Nat) (a : Nat → Nat) (k : Nat → ClassId) (st : XS) (o : Int32) (a1 : Int32) (hA : vp_in a1 64) : Met l yX6_ofUndoing wsX6_ofUndoing ({ frames := 1, cells := 0, slots := 0, locals := 22 }) (va_Pc [.ref (a 16), .int o, .int a1] (wl_prR (dC, dI) vwCl (xt k) (xw a k st))) (vp_Si (fun r9 => r9 = fx_Maker_ofUndoing st o a1)) 0 0 (fun _ => False) := by
  refine Met.ofW (cc := cX6_ofUndoing) (maxL := 4) (ret := (some .int)) (by decide) rfl ?_
  intro p e s m args below meth c s₁ B hml hv
  obtain ⟨rfl, hP, hK⟩ := hv
  have hx := B.exec
  have hb := B.bytes
  have hr := B.returns
  have hta := aw_hts (atoms_spec (ws := wsX6_ofUndoing) B.pre)
  have hown : s.vm.findClass RX6 = some m.cls := findClass_of_methodNamed B.named
  have hlocks := B.notSynchronized
  have hf9 := hta _ mw_149
  have hl := lv_entry ([.ref (a 16), .int o, .int a1]) (n := 4) (Nat.le_of_ble_eq_true rfl)
  rw [lg_entry_eq]
  generalize (lg_sl ([.ref (a 16), .int o, .int a1]) ++ List.replicate (4 - (lg_sl ([.ref (a 16), .int o, .int a1])).length) Slot.unset).toArray = ls at hl ⊢
  have hl : lv_has ls 4 [(0, .ref (a 16)), (1, .int o), (2, .int a1)] := hl
  generalize hR : fx_Maker_ofUndoing st o a1 = R
  rw [fx_Maker_ofUndoing] at hR
  refine lv_iload_n hx hb dX6_ofUndoing_0 rfl (lv_at hl 1 rfl) ?_
  refine lv_iconst (v := (1 : Int32)) hx hb dX6_ofUndoing_1 (by decide) ?_
  refine lv_icmp_gt (tgt := 21) hx hb dX6_ofUndoing_2 (by decide) (fun c2 => ?_) (fun c2 => ?_)
  · skip
    rw [if_pos c2] at hR
    refine lv_iconst (v := (0 : Int32)) hx hb dX6_ofUndoing_21 (by decide) ?_
    refine lv_istore_n (lv' := [(3, .int (0 : Int32)), (0, .ref (a 16)), (1, .int o), (2, .int a1)]) hx hb dX6_ofUndoing_22 rfl hl (by decide) rfl (fun ls hl => ?_)
    refine lv_iload_n hx hb dX6_ofUndoing_23 rfl (lv_at hl 0 rfl) ?_
    refine lv_if_eq (tgt := 39) hx hb dX6_ofUndoing_24 (by decide) (fun c24 => ?_) (fun c24 => ?_)
    · skip
      refine lv_bipush (v := (-3 : Int32)) hx hb dX6_ofUndoing_39 (by decide) ?_
      exact W.iret (v := (-3 : Int32)) hx hb hr (fun t ht hW => ⟨_, rfl, hR, ht⟩) (fun q h => by cases h) dX6_ofUndoing_41
    · skip
      exact absurd c24 (by decide)
  · skip
    rw [if_neg c2] at hR
    refine lv_aload_n hx hb dX6_ofUndoing_5 rfl (lv_at hl 0 rfl) ?_
    refine va_get (D := (dC, dI)) (ci := 4) (v := .ref (a 7)) (C := RX6) (T := TX6) (N := 2) hx hb hta inX6 hown hK hP 16 (xr_16 a k st) rfl 0 (by decide) hf9 (fun _ h9 => h9) rfl dX6_ofUndoing_6 ?_
    refine lv_iload_n hx hb dX6_ofUndoing_9 rfl (lv_at hl 2 rfl) ?_
    refine wl_ci (va_runV (As := [.int a1]) (rest := []) ⟨hx, hb, hml, hown, hta⟩ (kx_Terms_operationOf l dC dI a k st a1 hA) (cwV 1 hta gX6_102 rfl rfl rfl (by decide +kernel) ⟨Nat.le_of_ble_eq_true rfl, Nat.le_of_ble_eq_true rfl⟩) (wl_pR (C := RX4) (ci := 2) (q0 := 7) hK hP rfl (xr_7 a k st)) rfl rfl hl.1 rfl (lv_room (Nat.le_of_ble_eq_true rfl)) dX6_ofUndoing_10 ⟨Nat.zero_le _, Nat.zero_le _⟩) ?_
    refine lv_iload_n hx hb dX6_ofUndoing_13 rfl (lv_at hl 1 rfl) ?_
    refine lv_icmp_ne (tgt := 21) hx hb dX6_ofUndoing_14 (by decide) (fun c14 => ?_) (fun c14 => ?_)
    · skip
      rw [if_neg c14] at hR
      refine lv_iconst (v := (0 : Int32)) hx hb dX6_ofUndoing_21 (by decide) ?_
      refine lv_istore_n (lv' := [(3, .int (0 : Int32)), (0, .ref (a 16)), (1, .int o), (2, .int a1)]) hx hb dX6_ofUndoing_22 rfl hl (by decide) rfl (fun ls hl => ?_)
      refine lv_iload_n hx hb dX6_ofUndoing_23 rfl (lv_at hl 0 rfl) ?_
      refine lv_if_eq (tgt := 39) hx hb dX6_ofUndoing_24 (by decide) (fun c24 => ?_) (fun c24 => ?_)
      · skip
        refine lv_bipush (v := (-3 : Int32)) hx hb dX6_ofUndoing_39 (by decide) ?_
        exact W.iret (v := (-3 : Int32)) hx hb hr (fun t ht hW => ⟨_, rfl, hR, ht⟩) (fun q h => by cases h) dX6_ofUndoing_41
      · skip
        exact absurd c24 (by decide)
    · skip
      rw [if_pos c14] at hR
      refine lv_iconst (v := (1 : Int32)) hx hb dX6_ofUndoing_17 (by decide) ?_
      refine lv_goto (tgt := 22) hx hb dX6_ofUndoing_18 (by decide) ?_
      refine lv_istore_n (lv' := [(3, .int (1 : Int32)), (0, .ref (a 16)), (1, .int o), (2, .int a1)]) hx hb dX6_ofUndoing_22 rfl hl (by decide) rfl (fun ls hl => ?_)
      refine lv_iload_n hx hb dX6_ofUndoing_23 rfl (lv_at hl 0 rfl) ?_
      refine lv_if_eq (tgt := 39) hx hb dX6_ofUndoing_24 (by decide) (fun c24 => ?_) (fun c24 => ?_)
      · skip
        exact absurd c24 (by decide)
      · skip
        refine lv_aload_n hx hb dX6_ofUndoing_27 rfl (lv_at hl 1 rfl) ?_
        refine va_get (D := (dC, dI)) (ci := 4) (v := .ref (a 7)) (C := RX6) (T := TX6) (N := 2) hx hb hta inX6 hown hK hP 16 (xr_16 a k st) rfl 0 (by decide) hf9 (fun _ h9 => h9) rfl dX6_ofUndoing_28 ?_
        refine lv_iload_n hx hb dX6_ofUndoing_31 rfl (lv_at hl 3 rfl) ?_
        refine lv_iconst (v := (0 : Int32)) hx hb dX6_ofUndoing_32 (by decide) ?_
        refine wl_ci (va_runV (As := [.int a1, .int (0 : Int32)]) (rest := []) ⟨hx, hb, hml, hown, hta⟩ (kx_Terms_operandOf l dC dI a k st a1 (0 : Int32) (wl_i3v hA)) (cwV 2 hta gX6_105 rfl rfl rfl (by decide +kernel) ⟨Nat.le_of_ble_eq_true rfl, Nat.le_of_ble_eq_true rfl⟩) (wl_pR (C := RX4) (ci := 2) (q0 := 7) hK hP rfl (xr_7 a k st)) rfl rfl hl.1 rfl (lv_room (Nat.le_of_ble_eq_true rfl)) dX6_ofUndoing_33 ⟨Nat.zero_le _, Nat.zero_le _⟩) ?_
        refine lv_goto (tgt := 41) hx hb dX6_ofUndoing_36 (by decide) ?_
        exact W.iret (v := fx_Terms_operandOf st a1 (0 : Int32)) hx hb hr (fun t ht hW => ⟨_, rfl, hR, ht⟩) (fun q h => by cases h) dX6_ofUndoing_41

theorem mw_406 : (.code yX6_ofSameOperands cX6_ofSameOperands 5 (some .int) : Cond) ∈ AW := List.mem_filter.mpr ⟨List.mem_of_getElem? (i := 406) (by decide +kernel), rfl⟩
theorem mw_403 : (.methodLink RX6 77 yX6_ofSameOperands : Cond) ∈ AW := List.mem_filter.mpr ⟨List.mem_of_getElem? (i := 403) (by decide +kernel), rfl⟩
theorem mw_405 : (.instanceMethod yX6_ofSameOperands : Cond) ∈ AW := List.mem_filter.mpr ⟨List.mem_of_getElem? (i := 405) (by decide +kernel), rfl⟩
theorem mw_5 : (.selects RX6 yX6_ofSameOperands yX6_ofSameOperands : Cond) ∈ AW := List.mem_filter.mpr ⟨List.mem_of_getElem? (i := 5) (by decide +kernel), rfl⟩
theorem mw_418 : (.code yX6_ofZero cX6_ofZero 4 (some .int) : Cond) ∈ AW := List.mem_filter.mpr ⟨List.mem_of_getElem? (i := 418) (by decide +kernel), rfl⟩
theorem mw_415 : (.methodLink RX6 80 yX6_ofZero : Cond) ∈ AW := List.mem_filter.mpr ⟨List.mem_of_getElem? (i := 415) (by decide +kernel), rfl⟩
theorem mw_417 : (.instanceMethod yX6_ofZero : Cond) ∈ AW := List.mem_filter.mpr ⟨List.mem_of_getElem? (i := 417) (by decide +kernel), rfl⟩
theorem mw_7 : (.selects RX6 yX6_ofZero yX6_ofZero : Cond) ∈ AW := List.mem_filter.mpr ⟨List.mem_of_getElem? (i := 7) (by decide +kernel), rfl⟩
theorem mw_422 : (.code yX6_ofUndoing cX6_ofUndoing 4 (some .int) : Cond) ∈ AW := List.mem_filter.mpr ⟨List.mem_of_getElem? (i := 422) (by decide +kernel), rfl⟩
theorem mw_419 : (.methodLink RX6 83 yX6_ofUndoing : Cond) ∈ AW := List.mem_filter.mpr ⟨List.mem_of_getElem? (i := 419) (by decide +kernel), rfl⟩
theorem mw_421 : (.instanceMethod yX6_ofUndoing : Cond) ∈ AW := List.mem_filter.mpr ⟨List.mem_of_getElem? (i := 421) (by decide +kernel), rfl⟩
theorem mw_8 : (.selects RX6 yX6_ofUndoing yX6_ofUndoing : Cond) ∈ AW := List.mem_filter.mpr ⟨List.mem_of_getElem? (i := 8) (by decide +kernel), rfl⟩
theorem mw_434 : (.code yX4_find cX4_find 6 (some .int) : Cond) ∈ AW := List.mem_filter.mpr ⟨List.mem_of_getElem? (i := 434) (by decide +kernel), rfl⟩
theorem mw_431 : (.methodLink RX6 87 yX4_find : Cond) ∈ AW := List.mem_filter.mpr ⟨List.mem_of_getElem? (i := 431) (by decide +kernel), rfl⟩
theorem mw_432 : (.instanceMethod yX4_find : Cond) ∈ AW := List.mem_filter.mpr ⟨List.mem_of_getElem? (i := 432) (by decide +kernel), rfl⟩
theorem mw_433 : (.selects RX4 yX4_find yX4_find : Cond) ∈ AW := List.mem_filter.mpr ⟨List.mem_of_getElem? (i := 433) (by decide +kernel), rfl⟩
theorem mw_439 : (.code yX4_add cX4_add 8 (some .int) : Cond) ∈ AW := List.mem_filter.mpr ⟨List.mem_of_getElem? (i := 439) (by decide +kernel), rfl⟩
theorem mw_436 : (.methodLink RX6 90 yX4_add : Cond) ∈ AW := List.mem_filter.mpr ⟨List.mem_of_getElem? (i := 436) (by decide +kernel), rfl⟩
theorem mw_437 : (.instanceMethod yX4_add : Cond) ∈ AW := List.mem_filter.mpr ⟨List.mem_of_getElem? (i := 437) (by decide +kernel), rfl⟩
theorem mw_438 : (.selects RX4 yX4_add yX4_add : Cond) ∈ AW := List.mem_filter.mpr ⟨List.mem_of_getElem? (i := 438) (by decide +kernel), rfl⟩
theorem gX6_77 : GoodIn AW (wsV RX6 77 RX6 yX6_ofSameOperands wsX6_ofSameOperands) := aw_V mw_403 mw_405 mw_5 mw_43 mw_406
theorem gX6_80 : GoodIn AW (wsV RX6 80 RX6 yX6_ofZero wsX6_ofZero) := aw_V mw_415 mw_417 mw_7 mw_43 mw_418
theorem gX6_83 : GoodIn AW (wsV RX6 83 RX6 yX6_ofUndoing wsX6_ofUndoing) := aw_V mw_419 mw_421 mw_8 mw_43 mw_422
theorem gX6_87 : GoodIn AW (wsV RX6 87 RX4 yX4_find wsX4_find) := aw_V mw_431 mw_432 mw_433 mw_41 mw_434
theorem gX6_90 : GoodIn AW (wsV RX6 90 RX4 yX4_add wsX4_add) := aw_V mw_436 mw_437 mw_438 mw_41 mw_439
theorem dX6_makeInPlace_0 : decode cX6_makeInPlace 0 = .ok (.aload_n 0, 1) := by decide +kernel
theorem dX6_makeInPlace_1 : decode cX6_makeInPlace 1 = .ok (.iload_n 1, 1) := by decide +kernel
theorem dX6_makeInPlace_2 : decode cX6_makeInPlace 2 = .ok (.iload_n 2, 1) := by decide +kernel
theorem dX6_makeInPlace_3 : decode cX6_makeInPlace 3 = .ok (.iload_n 3, 1) := by decide +kernel
theorem dX6_makeInPlace_4 : decode cX6_makeInPlace 4 = .ok (.iload 4, 2) := by decide +kernel
theorem dX6_makeInPlace_6 : decode cX6_makeInPlace 6 = .ok (.invokevirtual 77, 3) := by decide +kernel
theorem dX6_makeInPlace_9 : decode cX6_makeInPlace 9 = .ok (.istore 5, 2) := by decide +kernel
theorem dX6_makeInPlace_11 : decode cX6_makeInPlace 11 = .ok (.iload 5, 2) := by decide +kernel
theorem dX6_makeInPlace_13 : decode cX6_makeInPlace 13 = .ok (.bipush (-3), 2) := by decide +kernel
theorem dX6_makeInPlace_15 : decode cX6_makeInPlace 15 = .ok (.if_icmp .ne 12, 3) := by decide +kernel
theorem dX6_makeInPlace_18 : decode cX6_makeInPlace 18 = .ok (.aload_n 0, 1) := by decide +kernel
theorem dX6_makeInPlace_19 : decode cX6_makeInPlace 19 = .ok (.iload_n 1, 1) := by decide +kernel
theorem dX6_makeInPlace_20 : decode cX6_makeInPlace 20 = .ok (.iload_n 2, 1) := by decide +kernel
theorem dX6_makeInPlace_21 : decode cX6_makeInPlace 21 = .ok (.iload_n 3, 1) := by decide +kernel
theorem dX6_makeInPlace_22 : decode cX6_makeInPlace 22 = .ok (.invokevirtual 80, 3) := by decide +kernel
theorem dX6_makeInPlace_25 : decode cX6_makeInPlace 25 = .ok (.istore 5, 2) := by decide +kernel
theorem dX6_makeInPlace_27 : decode cX6_makeInPlace 27 = .ok (.iload 5, 2) := by decide +kernel
theorem dX6_makeInPlace_29 : decode cX6_makeInPlace 29 = .ok (.bipush (-3), 2) := by decide +kernel
theorem dX6_makeInPlace_31 : decode cX6_makeInPlace 31 = .ok (.if_icmp .ne 11, 3) := by decide +kernel
theorem dX6_makeInPlace_34 : decode cX6_makeInPlace 34 = .ok (.aload_n 0, 1) := by decide +kernel
theorem dX6_makeInPlace_35 : decode cX6_makeInPlace 35 = .ok (.iload_n 1, 1) := by decide +kernel
theorem dX6_makeInPlace_36 : decode cX6_makeInPlace 36 = .ok (.iload_n 2, 1) := by decide +kernel
theorem dX6_makeInPlace_37 : decode cX6_makeInPlace 37 = .ok (.invokevirtual 83, 3) := by decide +kernel
theorem dX6_makeInPlace_40 : decode cX6_makeInPlace 40 = .ok (.istore 5, 2) := by decide +kernel
theorem dX6_makeInPlace_42 : decode cX6_makeInPlace 42 = .ok (.iload 5, 2) := by decide +kernel
theorem dX6_makeInPlace_44 : decode cX6_makeInPlace 44 = .ok (.bipush (-3), 2) := by decide +kernel
theorem dX6_makeInPlace_46 : decode cX6_makeInPlace 46 = .ok (.if_icmp .ne 17, 3) := by decide +kernel
theorem dX6_makeInPlace_49 : decode cX6_makeInPlace 49 = .ok (.aload_n 0, 1) := by decide +kernel
theorem dX6_makeInPlace_50 : decode cX6_makeInPlace 50 = .ok (.getfield 9, 3) := by decide +kernel
theorem dX6_makeInPlace_53 : decode cX6_makeInPlace 53 = .ok (.iload_n 1, 1) := by decide +kernel
theorem dX6_makeInPlace_54 : decode cX6_makeInPlace 54 = .ok (.iload_n 2, 1) := by decide +kernel
theorem dX6_makeInPlace_55 : decode cX6_makeInPlace 55 = .ok (.iload_n 3, 1) := by decide +kernel
theorem dX6_makeInPlace_56 : decode cX6_makeInPlace 56 = .ok (.iload 4, 2) := by decide +kernel
theorem dX6_makeInPlace_58 : decode cX6_makeInPlace 58 = .ok (.invokevirtual 87, 3) := by decide +kernel
theorem dX6_makeInPlace_61 : decode cX6_makeInPlace 61 = .ok (.istore 5, 2) := by decide +kernel
theorem dX6_makeInPlace_63 : decode cX6_makeInPlace 63 = .ok (.iload 5, 2) := by decide +kernel
theorem dX6_makeInPlace_65 : decode cX6_makeInPlace 65 = .ok (.bipush (-3), 2) := by decide +kernel
theorem dX6_makeInPlace_67 : decode cX6_makeInPlace 67 = .ok (.if_icmp .ne 18, 3) := by decide +kernel
theorem dX6_makeInPlace_70 : decode cX6_makeInPlace 70 = .ok (.aload_n 0, 1) := by decide +kernel
theorem dX6_makeInPlace_71 : decode cX6_makeInPlace 71 = .ok (.getfield 9, 3) := by decide +kernel
theorem dX6_makeInPlace_74 : decode cX6_makeInPlace 74 = .ok (.iload_n 1, 1) := by decide +kernel
theorem dX6_makeInPlace_75 : decode cX6_makeInPlace 75 = .ok (.iload_n 2, 1) := by decide +kernel
theorem dX6_makeInPlace_76 : decode cX6_makeInPlace 76 = .ok (.iload_n 3, 1) := by decide +kernel
theorem dX6_makeInPlace_77 : decode cX6_makeInPlace 77 = .ok (.iload 4, 2) := by decide +kernel
theorem dX6_makeInPlace_79 : decode cX6_makeInPlace 79 = .ok (.invokevirtual 90, 3) := by decide +kernel
theorem dX6_makeInPlace_82 : decode cX6_makeInPlace 82 = .ok (.goto 5, 3) := by decide +kernel
theorem dX6_makeInPlace_85 : decode cX6_makeInPlace 85 = .ok (.iload 5, 2) := by decide +kernel
theorem dX6_makeInPlace_87 : decode cX6_makeInPlace 87 = .ok (.ireturn, 1) := by decide +kernel
def fx_Maker_makeInPlace (st : XS) (o : Int32) (a1 : Int32) (b1 : Int32) (c1 : Int32) : Int32 × XS := 
  if ((fx_Maker_ofSameOperands st o a1 b1 c1).1) = (-3 : Int32) then 
    if fx_Maker_ofZero (((fx_Maker_ofSameOperands st o a1 b1 c1).2)) o a1 b1 = (-3 : Int32) then 
      if fx_Maker_ofUndoing (((fx_Maker_ofSameOperands st o a1 b1 c1).2)) o a1 = (-3 : Int32) then 
        if fx_Terms_find (((fx_Maker_ofSameOperands st o a1 b1 c1).2)) o a1 b1 c1 = (-3 : Int32) then (((fx_Terms_add (((fx_Maker_ofSameOperands st o a1 b1 c1).2)) o a1 b1 c1).1), ((fx_Terms_add (((fx_Maker_ofSameOperands st o a1 b1 c1).2)) o a1 b1 c1).2))
        else (fx_Terms_find (((fx_Maker_ofSameOperands st o a1 b1 c1).2)) o a1 b1 c1, ((fx_Maker_ofSameOperands st o a1 b1 c1).2))
      else (fx_Maker_ofUndoing (((fx_Maker_ofSameOperands st o a1 b1 c1).2)) o a1, ((fx_Maker_ofSameOperands st o a1 b1 c1).2))
    else (fx_Maker_ofZero (((fx_Maker_ofSameOperands st o a1 b1 c1).2)) o a1 b1, ((fx_Maker_ofSameOperands st o a1 b1 c1).2))
  else (((fx_Maker_ofSameOperands st o a1 b1 c1).1), ((fx_Maker_ofSameOperands st o a1 b1 c1).2))
theorem ff_Maker_makeInPlace (st : XS) (o : Int32) (a1 : Int32) (b1 : Int32) (c1 : Int32) : XF [6, 7] [3, 4, 5, 6] [1] st (fx_Maker_makeInPlace st o a1 b1 c1).2 := by
  rw [fx_Maker_makeInPlace]
  exact (wl_ite (P := fun (q : Int32 × XS) => XF [6, 7] [3, 4, 5, 6] [1] _ (q.2)) (wl_ite (P := fun (q : Int32 × XS) => XF [6, 7] [3, 4, 5, 6] [1] _ (q.2)) (wl_ite (P := fun (q : Int32 × XS) => XF [6, 7] [3, 4, 5, 6] [1] _ (q.2)) (wl_ite (P := fun (q : Int32 × XS) => XF [6, 7] [3, 4, 5, 6] [1] _ (q.2)) (XF.tr (XF.tr XF.rf (XF.mono (ff_Maker_ofSameOperands _ _ _ _ _) (by decide) (by decide) (by decide))) (XF.mono (ff_Terms_add _ _ _ _ _) (by decide) (by decide) (by decide))) (XF.tr XF.rf (XF.mono (ff_Maker_ofSameOperands _ _ _ _ _) (by decide) (by decide) (by decide)))) (XF.tr XF.rf (XF.mono (ff_Maker_ofSameOperands _ _ _ _ _) (by decide) (by decide) (by decide)))) (XF.tr XF.rf (XF.mono (ff_Maker_ofSameOperands _ _ _ _ _) (by decide) (by decide) (by decide)))) (XF.tr XF.rf (XF.mono (ff_Maker_ofSameOperands _ _ _ _ _) (by decide) (by decide) (by decide))))
set_option maxHeartbeats 4000000 in
set_option maxRecDepth 100000 in
theorem kx_Maker_makeInPlace (l : Launch) (dC : Nat → ClassId) (dI : Nat → Nat → Nat) (a : Nat → Nat) (k : Nat → ClassId) (st : XS) (o : Int32) (a1 : Int32) (b1 : Int32) (c1 : Int32) (sz : Nat) (N : Nat) (hN : gI st 6 = nI N) (h64 : N ≤ 64) (hA : vp_in a1 64) (hBz : (o = 2 ∨ o = 3 ∨ o = 4 ∨ o = 5 ∨ o = 6 ∨ o = 7 ∨ o = 10 ∨ o = 11 ∨ o = 12) → vp_in b1 64) (hB : (2 : Int32) ≤ fx_Op_namedTerms o → vp_in b1 64) (hC : (3 : Int32) ≤ fx_Op_namedTerms o → vp_in c1 64) : Met l yX6_makeInPlace wsX6_makeInPlace ({ frames := 4, cells := 0, slots := 0, locals := 91 }) (va_Pc [.ref (a 16), .int o, .int a1, .int b1, .int c1] (wl_pre (dC, dI) vwCl (xt k) (xw a k) st sz)) (va_Qi (fun r9 u9 => (r9, u9) = fx_Maker_makeInPlace st o a1 b1 c1) (wl_at (dC, dI) vwCl (xt k) (xw a k) (va_A (xw a k st) sz)) (va_A (xw a k st) sz)) 0 0 (va_A (xw a k st) sz) := by
  refine Met.ofW (cc := cX6_makeInPlace) (maxL := 6) (ret := (some .int)) (by decide) rfl ?_
  intro p e s m args below meth c s₁ B hml hv
  obtain ⟨rfl, hsz, hP, hK, hD0⟩ := hv
  have hx := B.exec
  have hb := B.bytes
  have hr := B.returns
  have hta := aw_hts (atoms_spec (ws := wsX6_makeInPlace) B.pre)
  have hown : s.vm.findClass RX6 = some m.cls := findClass_of_methodNamed B.named
  have hlocks := B.notSynchronized
  have hf9 := hta _ mw_149
  subst hsz
  have hD := hD0.self (sz := s.heap.size)
  generalize hAe : va_A (xw a k st) s.heap.size = A at hD ⊢
  have hAz : ∀ q : Nat, s.heap.size ≤ q → A q := fun q h => by rw [← hAe]; exact Or.inr h
  have hS : va_S A s.heap s.heap [] := va_S.rf
  have hl := lv_entry ([.ref (a 16), .int o, .int a1, .int b1, .int c1]) (n := 6) (Nat.le_of_ble_eq_true rfl)
  rw [lg_entry_eq]
  generalize (lg_sl ([.ref (a 16), .int o, .int a1, .int b1, .int c1]) ++ List.replicate (6 - (lg_sl ([.ref (a 16), .int o, .int a1, .int b1, .int c1])).length) Slot.unset).toArray = ls at hl ⊢
  have hl : lv_has ls 6 [(0, .ref (a 16)), (1, .int o), (2, .int a1), (3, .int b1), (4, .int c1)] := hl
  generalize hR : fx_Maker_makeInPlace st o a1 b1 c1 = R
  rw [fx_Maker_makeInPlace] at hR
  refine lv_aload_n hx hb dX6_makeInPlace_0 rfl (lv_at hl 0 rfl) ?_
  refine lv_iload_n hx hb dX6_makeInPlace_1 rfl (lv_at hl 1 rfl) ?_
  refine lv_iload_n hx hb dX6_makeInPlace_2 rfl (lv_at hl 2 rfl) ?_
  refine lv_iload_n hx hb dX6_makeInPlace_3 rfl (lv_at hl 3 rfl) ?_
  refine lv_iload hx hb dX6_makeInPlace_4 (lv_at hl 4 rfl) ?_
  refine wl_mi (va_runV (As := [.int o, .int a1, .int b1, .int c1]) (rest := []) ⟨hx, hb, hml, hown, hta⟩ (kx_Maker_ofSameOperands l dC dI a k st o a1 b1 c1 _ N hN h64 hA) (cwV 4 hta gX6_77 rfl rfl rfl (by decide +kernel) ⟨Nat.le_of_ble_eq_true rfl, Nat.le_of_ble_eq_true rfl⟩) (wl_pM (C := RX6) (ci := 4) (q0 := 16) hK hP hD rfl (xr_16 a k st)) rfl rfl hl.1 rfl (lv_room (Nat.le_of_ble_eq_true rfl)) dX6_makeInPlace_6 ⟨Nat.zero_le _, Nat.zero_le _⟩) hP hD hS hAz (fun r6 u6 H locs hw6 hP hD hS => ?_)
  have v6 : (fx_Maker_ofSameOperands st o a1 b1 c1).1 = r6 := congrArg Prod.fst hw6.symm
  have w6 : (fx_Maker_ofSameOperands st o a1 b1 c1).2 = u6 := congrArg Prod.snd hw6.symm
  have hf6 : XF [6] [3, 4] [1] st u6 := by rw [← w6]; exact ff_Maker_ofSameOperands st o a1 b1 c1
  try rw [v6] at hR
  try rw [w6] at hR
  obtain ⟨N2, hN2, hN264⟩ := wl_soN (o := o) (a1 := a1) (b1 := b1) (c1 := c1) hN h64
  rw [w6] at hN2
  refine lv_istore (lv' := [(5, .int (r6)), (0, .ref (a 16)), (1, .int o), (2, .int a1), (3, .int b1), (4, .int c1)]) hx hb dX6_makeInPlace_9 hl (by decide) rfl (fun ls hl => ?_)
  refine lv_iload hx hb dX6_makeInPlace_11 (lv_at hl 0 rfl) ?_
  refine lv_bipush (v := (-3 : Int32)) hx hb dX6_makeInPlace_13 (by decide) ?_
  refine lv_icmp_ne (tgt := 27) hx hb dX6_makeInPlace_15 (by decide) (fun c15 => ?_) (fun c15 => ?_)
  · skip
    rw [if_neg c15] at hR
    refine lv_iload hx hb dX6_makeInPlace_27 (lv_at hl 0 rfl) ?_
    refine lv_bipush (v := (-3 : Int32)) hx hb dX6_makeInPlace_29 (by decide) ?_
    refine lv_icmp_ne (tgt := 42) hx hb dX6_makeInPlace_31 (by decide) (fun c31 => ?_) (fun c31 => ?_)
    · skip
      refine lv_iload hx hb dX6_makeInPlace_42 (lv_at hl 0 rfl) ?_
      refine lv_bipush (v := (-3 : Int32)) hx hb dX6_makeInPlace_44 (by decide) ?_
      refine lv_icmp_ne (tgt := 63) hx hb dX6_makeInPlace_46 (by decide) (fun c46 => ?_) (fun c46 => ?_)
      · skip
        refine lv_iload hx hb dX6_makeInPlace_63 (lv_at hl 0 rfl) ?_
        refine lv_bipush (v := (-3 : Int32)) hx hb dX6_makeInPlace_65 (by decide) ?_
        refine lv_icmp_ne (tgt := 85) hx hb dX6_makeInPlace_67 (by decide) (fun c67 => ?_) (fun c67 => ?_)
        · skip
          refine lv_iload hx hb dX6_makeInPlace_85 (lv_at hl 0 rfl) ?_
          exact W.iret (v := r6) hx hb hr (fun t ht hW => ⟨⟨_, _, rfl, hR, by rw [ht]; exact hP, va_K.moved hW.alike hK, hD⟩, hS.F ht⟩) hS.2.2 dX6_makeInPlace_87
        · skip
          exact absurd c67 c15
      · skip
        exact absurd c46 c15
    · skip
      exact absurd c31 c15
  · skip
    rw [if_pos c15] at hR
    refine lv_aload_n hx hb dX6_makeInPlace_18 rfl (lv_at hl 1 rfl) ?_
    refine lv_iload_n hx hb dX6_makeInPlace_19 rfl (lv_at hl 2 rfl) ?_
    refine lv_iload_n hx hb dX6_makeInPlace_20 rfl (lv_at hl 3 rfl) ?_
    refine lv_iload_n hx hb dX6_makeInPlace_21 rfl (lv_at hl 4 rfl) ?_
    refine wl_ci (va_runV (As := [.int o, .int a1, .int b1]) (rest := []) ⟨hx, hb, hml, hown, hta⟩ (kx_Maker_ofZero l dC dI a k (u6) o a1 b1 hA hBz) (cwV 3 hta gX6_80 rfl rfl rfl (by decide +kernel) ⟨Nat.le_of_ble_eq_true rfl, Nat.le_of_ble_eq_true rfl⟩) (wl_pR (C := RX6) (ci := 4) (q0 := 16) hK hP rfl (xr_16 a k (u6))) rfl rfl hl.1 rfl (lv_room (Nat.le_of_ble_eq_true rfl)) dX6_makeInPlace_22 ⟨Nat.zero_le _, Nat.zero_le _⟩) ?_
    refine lv_istore (lv' := [(5, .int (fx_Maker_ofZero (u6) o a1 b1)), (0, .ref (a 16)), (1, .int o), (2, .int a1), (3, .int b1), (4, .int c1)]) hx hb dX6_makeInPlace_25 hl (by decide) rfl (fun ls hl => ?_)
    refine lv_iload hx hb dX6_makeInPlace_27 (lv_at hl 0 rfl) ?_
    refine lv_bipush (v := (-3 : Int32)) hx hb dX6_makeInPlace_29 (by decide) ?_
    refine lv_icmp_ne (tgt := 42) hx hb dX6_makeInPlace_31 (by decide) (fun c31 => ?_) (fun c31 => ?_)
    · skip
      rw [if_neg c31] at hR
      refine lv_iload hx hb dX6_makeInPlace_42 (lv_at hl 0 rfl) ?_
      refine lv_bipush (v := (-3 : Int32)) hx hb dX6_makeInPlace_44 (by decide) ?_
      refine lv_icmp_ne (tgt := 63) hx hb dX6_makeInPlace_46 (by decide) (fun c46 => ?_) (fun c46 => ?_)
      · skip
        refine lv_iload hx hb dX6_makeInPlace_63 (lv_at hl 0 rfl) ?_
        refine lv_bipush (v := (-3 : Int32)) hx hb dX6_makeInPlace_65 (by decide) ?_
        refine lv_icmp_ne (tgt := 85) hx hb dX6_makeInPlace_67 (by decide) (fun c67 => ?_) (fun c67 => ?_)
        · skip
          refine lv_iload hx hb dX6_makeInPlace_85 (lv_at hl 0 rfl) ?_
          exact W.iret (v := fx_Maker_ofZero (u6) o a1 b1) hx hb hr (fun t ht hW => ⟨⟨_, _, rfl, hR, by rw [ht]; exact hP, va_K.moved hW.alike hK, hD⟩, hS.F ht⟩) hS.2.2 dX6_makeInPlace_87
        · skip
          exact absurd c67 c31
      · skip
        exact absurd c46 c31
    · skip
      rw [if_pos c31] at hR
      refine lv_aload_n hx hb dX6_makeInPlace_34 rfl (lv_at hl 1 rfl) ?_
      refine lv_iload_n hx hb dX6_makeInPlace_35 rfl (lv_at hl 2 rfl) ?_
      refine lv_iload_n hx hb dX6_makeInPlace_36 rfl (lv_at hl 3 rfl) ?_
      refine wl_ci (va_runV (As := [.int o, .int a1]) (rest := []) ⟨hx, hb, hml, hown, hta⟩ (kx_Maker_ofUndoing l dC dI a k (u6) o a1 hA) (cwV 2 hta gX6_83 rfl rfl rfl (by decide +kernel) ⟨Nat.le_of_ble_eq_true rfl, Nat.le_of_ble_eq_true rfl⟩) (wl_pR (C := RX6) (ci := 4) (q0 := 16) hK hP rfl (xr_16 a k (u6))) rfl rfl hl.1 rfl (lv_room (Nat.le_of_ble_eq_true rfl)) dX6_makeInPlace_37 ⟨Nat.zero_le _, Nat.zero_le _⟩) ?_
      refine lv_istore (lv' := [(5, .int (fx_Maker_ofUndoing (u6) o a1)), (0, .ref (a 16)), (1, .int o), (2, .int a1), (3, .int b1), (4, .int c1)]) hx hb dX6_makeInPlace_40 hl (by decide) rfl (fun ls hl => ?_)
      refine lv_iload hx hb dX6_makeInPlace_42 (lv_at hl 0 rfl) ?_
      refine lv_bipush (v := (-3 : Int32)) hx hb dX6_makeInPlace_44 (by decide) ?_
      refine lv_icmp_ne (tgt := 63) hx hb dX6_makeInPlace_46 (by decide) (fun c46 => ?_) (fun c46 => ?_)
      · skip
        rw [if_neg c46] at hR
        refine lv_iload hx hb dX6_makeInPlace_63 (lv_at hl 0 rfl) ?_
        refine lv_bipush (v := (-3 : Int32)) hx hb dX6_makeInPlace_65 (by decide) ?_
        refine lv_icmp_ne (tgt := 85) hx hb dX6_makeInPlace_67 (by decide) (fun c67 => ?_) (fun c67 => ?_)
        · skip
          refine lv_iload hx hb dX6_makeInPlace_85 (lv_at hl 0 rfl) ?_
          exact W.iret (v := fx_Maker_ofUndoing (u6) o a1) hx hb hr (fun t ht hW => ⟨⟨_, _, rfl, hR, by rw [ht]; exact hP, va_K.moved hW.alike hK, hD⟩, hS.F ht⟩) hS.2.2 dX6_makeInPlace_87
        · skip
          exact absurd c67 c46
      · skip
        rw [if_pos c46] at hR
        refine lv_aload_n hx hb dX6_makeInPlace_49 rfl (lv_at hl 1 rfl) ?_
        refine va_get (D := (dC, dI)) (ci := 4) (v := .ref (a 7)) (C := RX6) (T := TX6) (N := 2) hx hb hta inX6 hown hK hP 16 (xr_16 a k (u6)) rfl 0 (by decide) hf9 (fun _ h9 => h9) rfl dX6_makeInPlace_50 ?_
        refine lv_iload_n hx hb dX6_makeInPlace_53 rfl (lv_at hl 2 rfl) ?_
        refine lv_iload_n hx hb dX6_makeInPlace_54 rfl (lv_at hl 3 rfl) ?_
        refine lv_iload_n hx hb dX6_makeInPlace_55 rfl (lv_at hl 4 rfl) ?_
        refine lv_iload hx hb dX6_makeInPlace_56 (lv_at hl 5 rfl) ?_
        refine wl_ci (va_runV (As := [.int o, .int a1, .int b1, .int c1]) (rest := []) ⟨hx, hb, hml, hown, hta⟩ (kx_Terms_find l dC dI a k (u6) o a1 b1 c1 N2 hN2 hN264) (cwV 4 hta gX6_87 rfl rfl rfl (by decide +kernel) ⟨Nat.le_of_ble_eq_true rfl, Nat.le_of_ble_eq_true rfl⟩) (wl_pR (C := RX4) (ci := 2) (q0 := 7) hK hP rfl (xr_7 a k (u6))) rfl rfl hl.1 rfl (lv_room (Nat.le_of_ble_eq_true rfl)) dX6_makeInPlace_58 ⟨Nat.zero_le _, Nat.zero_le _⟩) ?_
        refine lv_istore (lv' := [(5, .int (fx_Terms_find (u6) o a1 b1 c1)), (0, .ref (a 16)), (1, .int o), (2, .int a1), (3, .int b1), (4, .int c1)]) hx hb dX6_makeInPlace_61 hl (by decide) rfl (fun ls hl => ?_)
        refine lv_iload hx hb dX6_makeInPlace_63 (lv_at hl 0 rfl) ?_
        refine lv_bipush (v := (-3 : Int32)) hx hb dX6_makeInPlace_65 (by decide) ?_
        refine lv_icmp_ne (tgt := 85) hx hb dX6_makeInPlace_67 (by decide) (fun c67 => ?_) (fun c67 => ?_)
        · skip
          rw [if_neg c67] at hR
          refine lv_iload hx hb dX6_makeInPlace_85 (lv_at hl 0 rfl) ?_
          exact W.iret (v := fx_Terms_find (u6) o a1 b1 c1) hx hb hr (fun t ht hW => ⟨⟨_, _, rfl, hR, by rw [ht]; exact hP, va_K.moved hW.alike hK, hD⟩, hS.F ht⟩) hS.2.2 dX6_makeInPlace_87
        · skip
          rw [if_pos c67] at hR
          refine lv_aload_n hx hb dX6_makeInPlace_70 rfl (lv_at hl 1 rfl) ?_
          refine va_get (D := (dC, dI)) (ci := 4) (v := .ref (a 7)) (C := RX6) (T := TX6) (N := 2) hx hb hta inX6 hown hK hP 16 (xr_16 a k (u6)) rfl 0 (by decide) hf9 (fun _ h9 => h9) rfl dX6_makeInPlace_71 ?_
          refine lv_iload_n hx hb dX6_makeInPlace_74 rfl (lv_at hl 2 rfl) ?_
          refine lv_iload_n hx hb dX6_makeInPlace_75 rfl (lv_at hl 3 rfl) ?_
          refine lv_iload_n hx hb dX6_makeInPlace_76 rfl (lv_at hl 4 rfl) ?_
          refine lv_iload hx hb dX6_makeInPlace_77 (lv_at hl 5 rfl) ?_
          refine wl_mi (va_runV (As := [.int o, .int a1, .int b1, .int c1]) (rest := []) ⟨hx, hb, hml, hown, hta⟩ (kx_Terms_add l dC dI a k (u6) o a1 b1 c1 _ N2 hN2 hN264 hA hB hC) (cwV 4 hta gX6_90 rfl rfl rfl (by decide +kernel) ⟨Nat.le_of_ble_eq_true rfl, Nat.le_of_ble_eq_true rfl⟩) (wl_pM (C := RX4) (ci := 2) (q0 := 7) hK hP hD rfl (xr_7 a k (u6))) rfl rfl hl.1 rfl (lv_room (Nat.le_of_ble_eq_true rfl)) dX6_makeInPlace_79 ⟨Nat.zero_le _, Nat.zero_le _⟩) hP hD hS hAz (fun r79 u79 H locs hw79 hP hD hS => ?_)
          have v79 : (fx_Terms_add (u6) o a1 b1 c1).1 = r79 := congrArg Prod.fst hw79.symm
          have w79 : (fx_Terms_add (u6) o a1 b1 c1).2 = u79 := congrArg Prod.snd hw79.symm
          have hf79 : XF [6, 7] [3, 4, 5, 6] [] (u6) u79 := by rw [← w79]; exact ff_Terms_add (u6) o a1 b1 c1
          try rw [v79] at hR
          try rw [w79] at hR
          refine lv_goto (tgt := 87) hx hb dX6_makeInPlace_82 (by decide) ?_
          exact W.iret (v := r79) hx hb hr (fun t ht hW => ⟨⟨_, _, rfl, hR, by rw [ht]; exact hP, va_K.moved hW.alike hK, hD⟩, hS.F ht⟩) hS.2.2 dX6_makeInPlace_87

theorem mw_337 : (.methodLink RX6 46 yX1_named : Cond) ∈ AW := List.mem_filter.mpr ⟨List.mem_of_getElem? (i := 337) (by decide +kernel), rfl⟩
theorem mw_340 : (.methodLink RX6 49 yX1_namedTerms : Cond) ∈ AW := List.mem_filter.mpr ⟨List.mem_of_getElem? (i := 340) (by decide +kernel), rfl⟩
theorem mw_347 : (.code yX6_areConstants cX6_areConstants 5 (some .boolean) : Cond) ∈ AW := List.mem_filter.mpr ⟨List.mem_of_getElem? (i := 347) (by decide +kernel), rfl⟩
theorem mw_344 : (.methodLink RX6 52 yX6_areConstants : Cond) ∈ AW := List.mem_filter.mpr ⟨List.mem_of_getElem? (i := 344) (by decide +kernel), rfl⟩
theorem mw_346 : (.instanceMethod yX6_areConstants : Cond) ∈ AW := List.mem_filter.mpr ⟨List.mem_of_getElem? (i := 346) (by decide +kernel), rfl⟩
theorem mw_2 : (.selects RX6 yX6_areConstants yX6_areConstants : Cond) ∈ AW := List.mem_filter.mpr ⟨List.mem_of_getElem? (i := 2) (by decide +kernel), rfl⟩
theorem mw_398 : (.code yX1_changesPlaces cX1_changesPlaces 1 (some .boolean) : Cond) ∈ AW := List.mem_filter.mpr ⟨List.mem_of_getElem? (i := 398) (by decide +kernel), rfl⟩
theorem mw_396 : (.methodLink RX6 70 yX1_changesPlaces : Cond) ∈ AW := List.mem_filter.mpr ⟨List.mem_of_getElem? (i := 396) (by decide +kernel), rfl⟩
theorem mw_397 : (.static yX1_changesPlaces : Cond) ∈ AW := List.mem_filter.mpr ⟨List.mem_of_getElem? (i := 397) (by decide +kernel), rfl⟩
theorem mw_402 : (.code yX6_makeInPlace cX6_makeInPlace 6 (some .int) : Cond) ∈ AW := List.mem_filter.mpr ⟨List.mem_of_getElem? (i := 402) (by decide +kernel), rfl⟩
theorem mw_399 : (.methodLink RX6 73 yX6_makeInPlace : Cond) ∈ AW := List.mem_filter.mpr ⟨List.mem_of_getElem? (i := 399) (by decide +kernel), rfl⟩
theorem mw_401 : (.instanceMethod yX6_makeInPlace : Cond) ∈ AW := List.mem_filter.mpr ⟨List.mem_of_getElem? (i := 401) (by decide +kernel), rfl⟩
theorem mw_4 : (.selects RX6 yX6_makeInPlace yX6_makeInPlace : Cond) ∈ AW := List.mem_filter.mpr ⟨List.mem_of_getElem? (i := 4) (by decide +kernel), rfl⟩
theorem mw_349 : (.methodLink RX6 56 yX4_widthOfResult : Cond) ∈ AW := List.mem_filter.mpr ⟨List.mem_of_getElem? (i := 349) (by decide +kernel), rfl⟩
theorem mw_150 : (.fieldLink RX6 15 RX6 "evaluator" "LPathSolver$Evaluator;" : Cond) ∈ AW := List.mem_filter.mpr ⟨List.mem_of_getElem? (i := 150) (by decide +kernel), rfl⟩
theorem mw_356 : (.code yX5_applyToConstants cX5_applyToConstants 5 (some .long) : Cond) ∈ AW := List.mem_filter.mpr ⟨List.mem_of_getElem? (i := 356) (by decide +kernel), rfl⟩
theorem mw_353 : (.methodLink RX6 60 yX5_applyToConstants : Cond) ∈ AW := List.mem_filter.mpr ⟨List.mem_of_getElem? (i := 353) (by decide +kernel), rfl⟩
theorem mw_354 : (.instanceMethod yX5_applyToConstants : Cond) ∈ AW := List.mem_filter.mpr ⟨List.mem_of_getElem? (i := 354) (by decide +kernel), rfl⟩
theorem mw_355 : (.selects RX5 yX5_applyToConstants yX5_applyToConstants : Cond) ∈ AW := List.mem_filter.mpr ⟨List.mem_of_getElem? (i := 355) (by decide +kernel), rfl⟩
theorem gX6_46 : GoodIn AW (va_wsS RX6 46 yX1_named wsX1_named) := aw_S mw_337 mw_338 mw_48 mw_339
theorem gX6_49 : GoodIn AW (va_wsS RX6 49 yX1_namedTerms wsX1_namedTerms) := aw_S mw_340 mw_341 mw_48 mw_342
theorem gX6_52 : GoodIn AW (wsV RX6 52 RX6 yX6_areConstants wsX6_areConstants) := aw_V mw_344 mw_346 mw_2 mw_43 mw_347
theorem gX6_70 : GoodIn AW (va_wsS RX6 70 yX1_changesPlaces wsX1_changesPlaces) := aw_S mw_396 mw_397 mw_48 mw_398
theorem gX6_73 : GoodIn AW (wsV RX6 73 RX6 yX6_makeInPlace wsX6_makeInPlace) := aw_V mw_399 mw_401 mw_4 mw_43 mw_402
theorem gX6_56 : GoodIn AW (wsV RX6 56 RX4 yX4_widthOfResult wsX4_widthOfResult) := aw_V mw_349 mw_350 mw_351 mw_41 mw_352
theorem gX6_60 : GoodIn AW (wsV RX6 60 RX5 yX5_applyToConstants wsX5_applyToConstants) := aw_V mw_353 mw_354 mw_355 mw_42 mw_356
theorem dX6_make_0 : decode cX6_make 0 = .ok (.iload_n 1, 1) := by decide +kernel
theorem dX6_make_1 : decode cX6_make 1 = .ok (.invokestatic 46, 3) := by decide +kernel
theorem dX6_make_4 : decode cX6_make 4 = .ok (.istore 5, 2) := by decide +kernel
theorem dX6_make_6 : decode cX6_make 6 = .ok (.iload 5, 2) := by decide +kernel
theorem dX6_make_8 : decode cX6_make 8 = .ok (.iconst 1, 1) := by decide +kernel
theorem dX6_make_9 : decode cX6_make 9 = .ok (.if_icmp .le 7, 3) := by decide +kernel
theorem dX6_make_12 : decode cX6_make 12 = .ok (.iload_n 3, 1) := by decide +kernel
theorem dX6_make_13 : decode cX6_make 13 = .ok (.goto 4, 3) := by decide +kernel
theorem dX6_make_16 : decode cX6_make 16 = .ok (.iconst 0, 1) := by decide +kernel
theorem dX6_make_17 : decode cX6_make 17 = .ok (.istore 6, 2) := by decide +kernel
theorem dX6_make_19 : decode cX6_make 19 = .ok (.iload 5, 2) := by decide +kernel
theorem dX6_make_21 : decode cX6_make 21 = .ok (.iconst 2, 1) := by decide +kernel
theorem dX6_make_22 : decode cX6_make 22 = .ok (.if_icmp .le 8, 3) := by decide +kernel
theorem dX6_make_25 : decode cX6_make 25 = .ok (.iload 4, 2) := by decide +kernel
theorem dX6_make_27 : decode cX6_make 27 = .ok (.goto 4, 3) := by decide +kernel
theorem dX6_make_30 : decode cX6_make 30 = .ok (.iconst 0, 1) := by decide +kernel
theorem dX6_make_31 : decode cX6_make 31 = .ok (.istore 7, 2) := by decide +kernel
theorem dX6_make_33 : decode cX6_make 33 = .ok (.aload_n 0, 1) := by decide +kernel
theorem dX6_make_34 : decode cX6_make 34 = .ok (.iload_n 1, 1) := by decide +kernel
theorem dX6_make_35 : decode cX6_make 35 = .ok (.invokestatic 49, 3) := by decide +kernel
theorem dX6_make_38 : decode cX6_make 38 = .ok (.iload_n 2, 1) := by decide +kernel
theorem dX6_make_39 : decode cX6_make 39 = .ok (.iload 6, 2) := by decide +kernel
theorem dX6_make_41 : decode cX6_make 41 = .ok (.iload 7, 2) := by decide +kernel
theorem dX6_make_43 : decode cX6_make 43 = .ok (.invokevirtual 52, 3) := by decide +kernel
theorem dX6_make_46 : decode cX6_make 46 = .ok (.ifCond .eq 35, 3) := by decide +kernel
theorem dX6_make_49 : decode cX6_make 49 = .ok (.aload_n 0, 1) := by decide +kernel
theorem dX6_make_50 : decode cX6_make 50 = .ok (.getfield 9, 3) := by decide +kernel
theorem dX6_make_53 : decode cX6_make 53 = .ok (.aload_n 0, 1) := by decide +kernel
theorem dX6_make_54 : decode cX6_make 54 = .ok (.getfield 9, 3) := by decide +kernel
theorem dX6_make_57 : decode cX6_make 57 = .ok (.iload_n 1, 1) := by decide +kernel
theorem dX6_make_58 : decode cX6_make 58 = .ok (.iload_n 2, 1) := by decide +kernel
theorem dX6_make_59 : decode cX6_make 59 = .ok (.iload 6, 2) := by decide +kernel
theorem dX6_make_61 : decode cX6_make 61 = .ok (.invokevirtual 56, 3) := by decide +kernel
theorem dX6_make_64 : decode cX6_make 64 = .ok (.aload_n 0, 1) := by decide +kernel
theorem dX6_make_65 : decode cX6_make 65 = .ok (.getfield 15, 3) := by decide +kernel
theorem dX6_make_68 : decode cX6_make 68 = .ok (.iload_n 1, 1) := by decide +kernel
theorem dX6_make_69 : decode cX6_make 69 = .ok (.iload_n 2, 1) := by decide +kernel
theorem dX6_make_70 : decode cX6_make 70 = .ok (.iload 6, 2) := by decide +kernel
theorem dX6_make_72 : decode cX6_make 72 = .ok (.iload 7, 2) := by decide +kernel
theorem dX6_make_74 : decode cX6_make 74 = .ok (.invokevirtual 60, 3) := by decide +kernel
theorem dX6_make_77 : decode cX6_make 77 = .ok (.invokevirtual 66, 3) := by decide +kernel
theorem dX6_make_80 : decode cX6_make 80 = .ok (.ireturn, 1) := by decide +kernel
theorem dX6_make_81 : decode cX6_make 81 = .ok (.iload_n 1, 1) := by decide +kernel
theorem dX6_make_82 : decode cX6_make 82 = .ok (.invokestatic 70, 3) := by decide +kernel
theorem dX6_make_85 : decode cX6_make 85 = .ok (.ifCond .eq 20, 3) := by decide +kernel
theorem dX6_make_88 : decode cX6_make 88 = .ok (.iload_n 2, 1) := by decide +kernel
theorem dX6_make_89 : decode cX6_make 89 = .ok (.iload 6, 2) := by decide +kernel
theorem dX6_make_91 : decode cX6_make 91 = .ok (.if_icmp .le 14, 3) := by decide +kernel
theorem dX6_make_94 : decode cX6_make 94 = .ok (.aload_n 0, 1) := by decide +kernel
theorem dX6_make_95 : decode cX6_make 95 = .ok (.iload_n 1, 1) := by decide +kernel
theorem dX6_make_96 : decode cX6_make 96 = .ok (.iload 6, 2) := by decide +kernel
theorem dX6_make_98 : decode cX6_make 98 = .ok (.iload_n 2, 1) := by decide +kernel
theorem dX6_make_99 : decode cX6_make 99 = .ok (.iload 7, 2) := by decide +kernel
theorem dX6_make_101 : decode cX6_make 101 = .ok (.invokevirtual 73, 3) := by decide +kernel
theorem dX6_make_104 : decode cX6_make 104 = .ok (.ireturn, 1) := by decide +kernel
theorem dX6_make_105 : decode cX6_make 105 = .ok (.aload_n 0, 1) := by decide +kernel
theorem dX6_make_106 : decode cX6_make 106 = .ok (.iload_n 1, 1) := by decide +kernel
theorem dX6_make_107 : decode cX6_make 107 = .ok (.iload_n 2, 1) := by decide +kernel
theorem dX6_make_108 : decode cX6_make 108 = .ok (.iload 6, 2) := by decide +kernel
theorem dX6_make_110 : decode cX6_make 110 = .ok (.iload 7, 2) := by decide +kernel
theorem dX6_make_112 : decode cX6_make 112 = .ok (.invokevirtual 73, 3) := by decide +kernel
theorem dX6_make_115 : decode cX6_make 115 = .ok (.ireturn, 1) := by decide +kernel
def fx_Maker_make (st : XS) (o : Int32) (a1 : Int32) (b1 : Int32) (c1 : Int32) : Int32 × XS := 
  if fx_Op_named o ≤ (1 : Int32) then 
    if fx_Op_named o ≤ (2 : Int32) then 
      if fx_Maker_areConstants st (fx_Op_namedTerms o) a1 (0 : Int32) (0 : Int32) = (0 : Int32) then 
        if fx_Op_changesPlaces o = (0 : Int32) then (((fx_Maker_makeInPlace st o a1 (0 : Int32) (0 : Int32)).1), ((fx_Maker_makeInPlace st o a1 (0 : Int32) (0 : Int32)).2))
        else 
          if a1 ≤ (0 : Int32) then (((fx_Maker_makeInPlace st o a1 (0 : Int32) (0 : Int32)).1), ((fx_Maker_makeInPlace st o a1 (0 : Int32) (0 : Int32)).2))
          else (((fx_Maker_makeInPlace st o (0 : Int32) a1 (0 : Int32)).1), ((fx_Maker_makeInPlace st o (0 : Int32) a1 (0 : Int32)).2))
      else (((fx_Terms_findOrAddConstant st (fx_Terms_widthOfResult st o a1 (0 : Int32)) (fx_Eval_applyToConstants st o a1 (0 : Int32) (0 : Int32))).1), ((fx_Terms_findOrAddConstant st (fx_Terms_widthOfResult st o a1 (0 : Int32)) (fx_Eval_applyToConstants st o a1 (0 : Int32) (0 : Int32))).2))
    else 
      if fx_Maker_areConstants st (fx_Op_namedTerms o) a1 (0 : Int32) c1 = (0 : Int32) then 
        if fx_Op_changesPlaces o = (0 : Int32) then (((fx_Maker_makeInPlace st o a1 (0 : Int32) c1).1), ((fx_Maker_makeInPlace st o a1 (0 : Int32) c1).2))
        else 
          if a1 ≤ (0 : Int32) then (((fx_Maker_makeInPlace st o a1 (0 : Int32) c1).1), ((fx_Maker_makeInPlace st o a1 (0 : Int32) c1).2))
          else (((fx_Maker_makeInPlace st o (0 : Int32) a1 c1).1), ((fx_Maker_makeInPlace st o (0 : Int32) a1 c1).2))
      else (((fx_Terms_findOrAddConstant st (fx_Terms_widthOfResult st o a1 (0 : Int32)) (fx_Eval_applyToConstants st o a1 (0 : Int32) c1)).1), ((fx_Terms_findOrAddConstant st (fx_Terms_widthOfResult st o a1 (0 : Int32)) (fx_Eval_applyToConstants st o a1 (0 : Int32) c1)).2))
  else 
    if fx_Op_named o ≤ (2 : Int32) then 
      if fx_Maker_areConstants st (fx_Op_namedTerms o) a1 b1 (0 : Int32) = (0 : Int32) then 
        if fx_Op_changesPlaces o = (0 : Int32) then (((fx_Maker_makeInPlace st o a1 b1 (0 : Int32)).1), ((fx_Maker_makeInPlace st o a1 b1 (0 : Int32)).2))
        else 
          if a1 ≤ b1 then (((fx_Maker_makeInPlace st o a1 b1 (0 : Int32)).1), ((fx_Maker_makeInPlace st o a1 b1 (0 : Int32)).2))
          else (((fx_Maker_makeInPlace st o b1 a1 (0 : Int32)).1), ((fx_Maker_makeInPlace st o b1 a1 (0 : Int32)).2))
      else (((fx_Terms_findOrAddConstant st (fx_Terms_widthOfResult st o a1 b1) (fx_Eval_applyToConstants st o a1 b1 (0 : Int32))).1), ((fx_Terms_findOrAddConstant st (fx_Terms_widthOfResult st o a1 b1) (fx_Eval_applyToConstants st o a1 b1 (0 : Int32))).2))
    else 
      if fx_Maker_areConstants st (fx_Op_namedTerms o) a1 b1 c1 = (0 : Int32) then 
        if fx_Op_changesPlaces o = (0 : Int32) then (((fx_Maker_makeInPlace st o a1 b1 c1).1), ((fx_Maker_makeInPlace st o a1 b1 c1).2))
        else 
          if a1 ≤ b1 then (((fx_Maker_makeInPlace st o a1 b1 c1).1), ((fx_Maker_makeInPlace st o a1 b1 c1).2))
          else (((fx_Maker_makeInPlace st o b1 a1 c1).1), ((fx_Maker_makeInPlace st o b1 a1 c1).2))
      else (((fx_Terms_findOrAddConstant st (fx_Terms_widthOfResult st o a1 b1) (fx_Eval_applyToConstants st o a1 b1 c1)).1), ((fx_Terms_findOrAddConstant st (fx_Terms_widthOfResult st o a1 b1) (fx_Eval_applyToConstants st o a1 b1 c1)).2))
theorem ff_Maker_make (st : XS) (o : Int32) (a1 : Int32) (b1 : Int32) (c1 : Int32) : XF [6, 7] [3, 4, 5, 6] [1] st (fx_Maker_make st o a1 b1 c1).2 := by
  rw [fx_Maker_make]
  exact (wl_ite (P := fun (q : Int32 × XS) => XF [6, 7] [3, 4, 5, 6] [1] _ (q.2)) (wl_ite (P := fun (q : Int32 × XS) => XF [6, 7] [3, 4, 5, 6] [1] _ (q.2)) (wl_ite (P := fun (q : Int32 × XS) => XF [6, 7] [3, 4, 5, 6] [1] _ (q.2)) (wl_ite (P := fun (q : Int32 × XS) => XF [6, 7] [3, 4, 5, 6] [1] _ (q.2)) (XF.tr XF.rf (XF.mono (ff_Maker_makeInPlace _ _ _ _ _) (by decide) (by decide) (by decide))) (wl_ite (P := fun (q : Int32 × XS) => XF [6, 7] [3, 4, 5, 6] [1] _ (q.2)) (XF.tr XF.rf (XF.mono (ff_Maker_makeInPlace _ _ _ _ _) (by decide) (by decide) (by decide))) (XF.tr XF.rf (XF.mono (ff_Maker_makeInPlace _ _ _ _ _) (by decide) (by decide) (by decide))))) (XF.tr XF.rf (XF.mono (ff_Terms_findOrAddConstant _ _ _) (by decide) (by decide) (by decide)))) (wl_ite (P := fun (q : Int32 × XS) => XF [6, 7] [3, 4, 5, 6] [1] _ (q.2)) (wl_ite (P := fun (q : Int32 × XS) => XF [6, 7] [3, 4, 5, 6] [1] _ (q.2)) (XF.tr XF.rf (XF.mono (ff_Maker_makeInPlace _ _ _ _ _) (by decide) (by decide) (by decide))) (wl_ite (P := fun (q : Int32 × XS) => XF [6, 7] [3, 4, 5, 6] [1] _ (q.2)) (XF.tr XF.rf (XF.mono (ff_Maker_makeInPlace _ _ _ _ _) (by decide) (by decide) (by decide))) (XF.tr XF.rf (XF.mono (ff_Maker_makeInPlace _ _ _ _ _) (by decide) (by decide) (by decide))))) (XF.tr XF.rf (XF.mono (ff_Terms_findOrAddConstant _ _ _) (by decide) (by decide) (by decide))))) (wl_ite (P := fun (q : Int32 × XS) => XF [6, 7] [3, 4, 5, 6] [1] _ (q.2)) (wl_ite (P := fun (q : Int32 × XS) => XF [6, 7] [3, 4, 5, 6] [1] _ (q.2)) (wl_ite (P := fun (q : Int32 × XS) => XF [6, 7] [3, 4, 5, 6] [1] _ (q.2)) (XF.tr XF.rf (XF.mono (ff_Maker_makeInPlace _ _ _ _ _) (by decide) (by decide) (by decide))) (wl_ite (P := fun (q : Int32 × XS) => XF [6, 7] [3, 4, 5, 6] [1] _ (q.2)) (XF.tr XF.rf (XF.mono (ff_Maker_makeInPlace _ _ _ _ _) (by decide) (by decide) (by decide))) (XF.tr XF.rf (XF.mono (ff_Maker_makeInPlace _ _ _ _ _) (by decide) (by decide) (by decide))))) (XF.tr XF.rf (XF.mono (ff_Terms_findOrAddConstant _ _ _) (by decide) (by decide) (by decide)))) (wl_ite (P := fun (q : Int32 × XS) => XF [6, 7] [3, 4, 5, 6] [1] _ (q.2)) (wl_ite (P := fun (q : Int32 × XS) => XF [6, 7] [3, 4, 5, 6] [1] _ (q.2)) (XF.tr XF.rf (XF.mono (ff_Maker_makeInPlace _ _ _ _ _) (by decide) (by decide) (by decide))) (wl_ite (P := fun (q : Int32 × XS) => XF [6, 7] [3, 4, 5, 6] [1] _ (q.2)) (XF.tr XF.rf (XF.mono (ff_Maker_makeInPlace _ _ _ _ _) (by decide) (by decide) (by decide))) (XF.tr XF.rf (XF.mono (ff_Maker_makeInPlace _ _ _ _ _) (by decide) (by decide) (by decide))))) (XF.tr XF.rf (XF.mono (ff_Terms_findOrAddConstant _ _ _) (by decide) (by decide) (by decide))))))
set_option maxHeartbeats 4000000 in
set_option maxRecDepth 100000 in
theorem kx_Maker_make (l : Launch) (dC : Nat → ClassId) (dI : Nat → Nat → Nat) (a : Nat → Nat) (k : Nat → ClassId) (st : XS) (o : Int32) (a1 : Int32) (b1 : Int32) (c1 : Int32) (sz : Nat) (N : Nat) (hN : gI st 6 = nI N) (h64 : N ≤ 64) (hO0 : ¬ o < 0) (hO20 : ¬ (20 : Int32) < o) (hA : vp_in a1 64) (hB : (2 : Int32) ≤ fx_Op_namedTerms o → vp_in b1 64) (hC : (3 : Int32) ≤ fx_Op_namedTerms o → vp_in c1 64) (hT : o = 20 → vp_in b1 2) (hV : o = 8 ∨ o = 9 → ¬ fx_Terms_isConstant st b1 = 0 → ¬ fL st 1 b1.toNatClampNeg = 0 → ¬ fx_Width_readPlain (fx_Terms_widthOf st a1) (fL st 1 b1.toNatClampNeg) = 0) : Met l yX6_make wsX6_make ({ frames := 5, cells := 0, slots := 0, locals := 116 }) (va_Pc [.ref (a 16), .int o, .int a1, .int b1, .int c1] (wl_pre (dC, dI) vwCl (xt k) (xw a k) st sz)) (va_Qi (fun r9 u9 => (r9, u9) = fx_Maker_make st o a1 b1 c1) (wl_at (dC, dI) vwCl (xt k) (xw a k) (va_A (xw a k st) sz)) (va_A (xw a k st) sz)) 0 0 (va_A (xw a k st) sz) := by
  refine Met.ofW (cc := cX6_make) (maxL := 8) (ret := (some .int)) (by decide) rfl ?_
  intro p e s m args below meth c s₁ B hml hv
  obtain ⟨rfl, hsz, hP, hK, hD0⟩ := hv
  have hx := B.exec
  have hb := B.bytes
  have hr := B.returns
  have hta := aw_hts (atoms_spec (ws := wsX6_make) B.pre)
  have hown : s.vm.findClass RX6 = some m.cls := findClass_of_methodNamed B.named
  have hlocks := B.notSynchronized
  have hf9 := hta _ mw_149
  have hf15 := hta _ mw_150
  subst hsz
  have hD := hD0.self (sz := s.heap.size)
  generalize hAe : va_A (xw a k st) s.heap.size = A at hD ⊢
  have hAz : ∀ q : Nat, s.heap.size ≤ q → A q := fun q h => by rw [← hAe]; exact Or.inr h
  have hS : va_S A s.heap s.heap [] := va_S.rf
  have hl := lv_entry ([.ref (a 16), .int o, .int a1, .int b1, .int c1]) (n := 8) (Nat.le_of_ble_eq_true rfl)
  rw [lg_entry_eq]
  generalize (lg_sl ([.ref (a 16), .int o, .int a1, .int b1, .int c1]) ++ List.replicate (8 - (lg_sl ([.ref (a 16), .int o, .int a1, .int b1, .int c1])).length) Slot.unset).toArray = ls at hl ⊢
  have hl : lv_has ls 8 [(0, .ref (a 16)), (1, .int o), (2, .int a1), (3, .int b1), (4, .int c1)] := hl
  generalize hR : fx_Maker_make st o a1 b1 c1 = R
  rw [fx_Maker_make] at hR
  refine lv_iload_n hx hb dX6_make_0 rfl (lv_at hl 1 rfl) ?_
  refine wl_ci (va_runS (As := [.int o]) (rest := []) ⟨hx, hb, hml, hown, hta⟩ (kx_Op_named l o) (va_cwS 1 hta gX6_46 rfl rfl rfl (by decide +kernel) ⟨Nat.le_of_ble_eq_true rfl, Nat.le_of_ble_eq_true rfl⟩) preEq rfl rfl hl.1 rfl (lv_room (Nat.le_of_ble_eq_true rfl)) dX6_make_1 ⟨Nat.zero_le _, Nat.zero_le _⟩) ?_
  refine lv_istore (lv' := [(5, .int (fx_Op_named o)), (0, .ref (a 16)), (1, .int o), (2, .int a1), (3, .int b1), (4, .int c1)]) hx hb dX6_make_4 hl (by decide) rfl (fun ls hl => ?_)
  refine lv_iload hx hb dX6_make_6 (lv_at hl 0 rfl) ?_
  refine lv_iconst (v := (1 : Int32)) hx hb dX6_make_8 (by decide) ?_
  refine lv_icmp_le (tgt := 16) hx hb dX6_make_9 (by decide) (fun c9 => ?_) (fun c9 => ?_)
  · skip
    rw [if_pos c9] at hR
    have hB2 : ¬ fx_Op_namedTerms o < (2 : Int32) → vp_in (0 : Int32) 64 := fun _ => wl_in0
    have hT2 : o = 20 → vp_in (0 : Int32) 2 := fun _ => wl_in02
    have hV9 : o = 8 ∨ o = 9 → ¬ fx_Terms_isConstant st (0 : Int32) = 0 → (¬ fL st 1 (0 : Int32).toNatClampNeg = 0 → ¬ fx_Width_readPlain (fx_Terms_widthOf st a1) (fL st 1 (0 : Int32).toNatClampNeg) = 0) := fun h => absurd c9 (by rcases h with h | h <;> (rw [h]; decide))
    refine lv_iconst (v := (0 : Int32)) hx hb dX6_make_16 (by decide) ?_
    refine lv_istore (lv' := [(6, .int (0 : Int32)), (5, .int (fx_Op_named o)), (0, .ref (a 16)), (1, .int o), (2, .int a1), (3, .int b1), (4, .int c1)]) hx hb dX6_make_17 hl (by decide) rfl (fun ls hl => ?_)
    refine lv_iload hx hb dX6_make_19 (lv_at hl 1 rfl) ?_
    refine lv_iconst (v := (2 : Int32)) hx hb dX6_make_21 (by decide) ?_
    refine lv_icmp_le (tgt := 30) hx hb dX6_make_22 (by decide) (fun c22 => ?_) (fun c22 => ?_)
    · skip
      rw [if_pos c22] at hR
      have hC2 : ¬ fx_Op_namedTerms o < (3 : Int32) → vp_in (0 : Int32) 64 := fun _ => wl_in0
      refine lv_iconst (v := (0 : Int32)) hx hb dX6_make_30 (by decide) ?_
      refine lv_istore (lv' := [(7, .int (0 : Int32)), (6, .int (0 : Int32)), (5, .int (fx_Op_named o)), (0, .ref (a 16)), (1, .int o), (2, .int a1), (3, .int b1), (4, .int c1)]) hx hb dX6_make_31 hl (by decide) rfl (fun ls hl => ?_)
      refine lv_aload_n hx hb dX6_make_33 rfl (lv_at hl 3 rfl) ?_
      refine lv_iload_n hx hb dX6_make_34 rfl (lv_at hl 4 rfl) ?_
      refine wl_ci (va_runS (As := [.int o]) (rest := [.ref (a 16)]) ⟨hx, hb, hml, hown, hta⟩ (kx_Op_namedTerms l o) (va_cwS 1 hta gX6_49 rfl rfl rfl (by decide +kernel) ⟨Nat.le_of_ble_eq_true rfl, Nat.le_of_ble_eq_true rfl⟩) preEq rfl rfl hl.1 rfl (lv_room (Nat.le_of_ble_eq_true rfl)) dX6_make_35 ⟨Nat.zero_le _, Nat.zero_le _⟩) ?_
      refine lv_iload_n hx hb dX6_make_38 rfl (lv_at hl 5 rfl) ?_
      refine lv_iload hx hb dX6_make_39 (lv_at hl 1 rfl) ?_
      refine lv_iload hx hb dX6_make_41 (lv_at hl 0 rfl) ?_
      refine wl_ci (va_runV (As := [.int (fx_Op_namedTerms o), .int a1, .int (0 : Int32), .int (0 : Int32)]) (rest := []) ⟨hx, hb, hml, hown, hta⟩ (kx_Maker_areConstants l dC dI a k st (fx_Op_namedTerms o) a1 (0 : Int32) (0 : Int32) hA hB2 hC2) (cwV 4 hta gX6_52 rfl rfl rfl (by decide +kernel) ⟨Nat.le_of_ble_eq_true rfl, Nat.le_of_ble_eq_true rfl⟩) (wl_pR (C := RX6) (ci := 4) (q0 := 16) hK hP rfl (xr_16 a k st)) rfl rfl hl.1 rfl (lv_room (Nat.le_of_ble_eq_true rfl)) dX6_make_43 ⟨Nat.zero_le _, Nat.zero_le _⟩) ?_
      refine lv_if_eq (tgt := 81) hx hb dX6_make_46 (by decide) (fun c46 => ?_) (fun c46 => ?_)
      · skip
        rw [if_pos c46] at hR
        refine lv_iload_n hx hb dX6_make_81 rfl (lv_at hl 4 rfl) ?_
        refine wl_ci (va_runS (As := [.int o]) (rest := []) ⟨hx, hb, hml, hown, hta⟩ (kx_Op_changesPlaces l o) (va_cwS 1 hta gX6_70 rfl rfl rfl (by decide +kernel) ⟨Nat.le_of_ble_eq_true rfl, Nat.le_of_ble_eq_true rfl⟩) preEq rfl rfl hl.1 rfl (lv_room (Nat.le_of_ble_eq_true rfl)) dX6_make_82 ⟨Nat.zero_le _, Nat.zero_le _⟩) ?_
        refine lv_if_eq (tgt := 105) hx hb dX6_make_85 (by decide) (fun c85 => ?_) (fun c85 => ?_)
        · skip
          rw [if_pos c85] at hR
          refine lv_aload_n hx hb dX6_make_105 rfl (lv_at hl 3 rfl) ?_
          refine lv_iload_n hx hb dX6_make_106 rfl (lv_at hl 4 rfl) ?_
          refine lv_iload_n hx hb dX6_make_107 rfl (lv_at hl 5 rfl) ?_
          refine lv_iload hx hb dX6_make_108 (lv_at hl 1 rfl) ?_
          refine lv_iload hx hb dX6_make_110 (lv_at hl 0 rfl) ?_
          refine wl_mi (va_runV (As := [.int o, .int a1, .int (0 : Int32), .int (0 : Int32)]) (rest := []) ⟨hx, hb, hml, hown, hta⟩ (kx_Maker_makeInPlace l dC dI a k st o a1 (0 : Int32) (0 : Int32) _ N hN h64 hA (fun h => hB2 (wl_bz h)) (fun h => hB2 (wl_ln h)) (fun h => hC2 (wl_ln h))) (cwV 4 hta gX6_73 rfl rfl rfl (by decide +kernel) ⟨Nat.le_of_ble_eq_true rfl, Nat.le_of_ble_eq_true rfl⟩) (wl_pM (C := RX6) (ci := 4) (q0 := 16) hK hP hD rfl (xr_16 a k st)) rfl rfl hl.1 rfl (lv_room (Nat.le_of_ble_eq_true rfl)) dX6_make_112 ⟨Nat.zero_le _, Nat.zero_le _⟩) hP hD hS hAz (fun r112 u112 H locs hw112 hP hD hS => ?_)
          have v112 : (fx_Maker_makeInPlace st o a1 (0 : Int32) (0 : Int32)).1 = r112 := congrArg Prod.fst hw112.symm
          have w112 : (fx_Maker_makeInPlace st o a1 (0 : Int32) (0 : Int32)).2 = u112 := congrArg Prod.snd hw112.symm
          have hf112 : XF [6, 7] [3, 4, 5, 6] [1] st u112 := by rw [← w112]; exact ff_Maker_makeInPlace st o a1 (0 : Int32) (0 : Int32)
          try rw [v112] at hR
          try rw [w112] at hR
          exact W.iret (v := r112) hx hb hr (fun t ht hW => ⟨⟨_, _, rfl, hR, by rw [ht]; exact hP, va_K.moved hW.alike hK, hD⟩, hS.F ht⟩) hS.2.2 dX6_make_115
        · skip
          rw [if_neg c85] at hR
          refine lv_iload_n hx hb dX6_make_88 rfl (lv_at hl 5 rfl) ?_
          refine lv_iload hx hb dX6_make_89 (lv_at hl 1 rfl) ?_
          refine lv_icmp_le (tgt := 105) hx hb dX6_make_91 (by decide) (fun c91 => ?_) (fun c91 => ?_)
          · skip
            rw [if_pos c91] at hR
            refine lv_aload_n hx hb dX6_make_105 rfl (lv_at hl 3 rfl) ?_
            refine lv_iload_n hx hb dX6_make_106 rfl (lv_at hl 4 rfl) ?_
            refine lv_iload_n hx hb dX6_make_107 rfl (lv_at hl 5 rfl) ?_
            refine lv_iload hx hb dX6_make_108 (lv_at hl 1 rfl) ?_
            refine lv_iload hx hb dX6_make_110 (lv_at hl 0 rfl) ?_
            refine wl_mi (va_runV (As := [.int o, .int a1, .int (0 : Int32), .int (0 : Int32)]) (rest := []) ⟨hx, hb, hml, hown, hta⟩ (kx_Maker_makeInPlace l dC dI a k st o a1 (0 : Int32) (0 : Int32) _ N hN h64 hA (fun h => hB2 (wl_bz h)) (fun h => hB2 (wl_ln h)) (fun h => hC2 (wl_ln h))) (cwV 4 hta gX6_73 rfl rfl rfl (by decide +kernel) ⟨Nat.le_of_ble_eq_true rfl, Nat.le_of_ble_eq_true rfl⟩) (wl_pM (C := RX6) (ci := 4) (q0 := 16) hK hP hD rfl (xr_16 a k st)) rfl rfl hl.1 rfl (lv_room (Nat.le_of_ble_eq_true rfl)) dX6_make_112 ⟨Nat.zero_le _, Nat.zero_le _⟩) hP hD hS hAz (fun r112 u112 H locs hw112 hP hD hS => ?_)
            have v112 : (fx_Maker_makeInPlace st o a1 (0 : Int32) (0 : Int32)).1 = r112 := congrArg Prod.fst hw112.symm
            have w112 : (fx_Maker_makeInPlace st o a1 (0 : Int32) (0 : Int32)).2 = u112 := congrArg Prod.snd hw112.symm
            have hf112 : XF [6, 7] [3, 4, 5, 6] [1] st u112 := by rw [← w112]; exact ff_Maker_makeInPlace st o a1 (0 : Int32) (0 : Int32)
            try rw [v112] at hR
            try rw [w112] at hR
            exact W.iret (v := r112) hx hb hr (fun t ht hW => ⟨⟨_, _, rfl, hR, by rw [ht]; exact hP, va_K.moved hW.alike hK, hD⟩, hS.F ht⟩) hS.2.2 dX6_make_115
          · skip
            rw [if_neg c91] at hR
            refine lv_aload_n hx hb dX6_make_94 rfl (lv_at hl 3 rfl) ?_
            refine lv_iload_n hx hb dX6_make_95 rfl (lv_at hl 4 rfl) ?_
            refine lv_iload hx hb dX6_make_96 (lv_at hl 1 rfl) ?_
            refine lv_iload_n hx hb dX6_make_98 rfl (lv_at hl 5 rfl) ?_
            refine lv_iload hx hb dX6_make_99 (lv_at hl 0 rfl) ?_
            refine wl_mi (va_runV (As := [.int o, .int (0 : Int32), .int a1, .int (0 : Int32)]) (rest := []) ⟨hx, hb, hml, hown, hta⟩ (kx_Maker_makeInPlace l dC dI a k st o (0 : Int32) a1 (0 : Int32) _ N hN h64 (hB2 (wl_chp c85 hO0 hO20)) (fun _ => hA) (fun _ => hA) (fun h => hC2 (wl_ln h))) (cwV 4 hta gX6_73 rfl rfl rfl (by decide +kernel) ⟨Nat.le_of_ble_eq_true rfl, Nat.le_of_ble_eq_true rfl⟩) (wl_pM (C := RX6) (ci := 4) (q0 := 16) hK hP hD rfl (xr_16 a k st)) rfl rfl hl.1 rfl (lv_room (Nat.le_of_ble_eq_true rfl)) dX6_make_101 ⟨Nat.zero_le _, Nat.zero_le _⟩) hP hD hS hAz (fun r101 u101 H locs hw101 hP hD hS => ?_)
            have v101 : (fx_Maker_makeInPlace st o (0 : Int32) a1 (0 : Int32)).1 = r101 := congrArg Prod.fst hw101.symm
            have w101 : (fx_Maker_makeInPlace st o (0 : Int32) a1 (0 : Int32)).2 = u101 := congrArg Prod.snd hw101.symm
            have hf101 : XF [6, 7] [3, 4, 5, 6] [1] st u101 := by rw [← w101]; exact ff_Maker_makeInPlace st o (0 : Int32) a1 (0 : Int32)
            try rw [v101] at hR
            try rw [w101] at hR
            exact W.iret (v := r101) hx hb hr (fun t ht hW => ⟨⟨_, _, rfl, hR, by rw [ht]; exact hP, va_K.moved hW.alike hK, hD⟩, hS.F ht⟩) hS.2.2 dX6_make_104
      · skip
        rw [if_neg c46] at hR
        refine lv_aload_n hx hb dX6_make_49 rfl (lv_at hl 3 rfl) ?_
        refine va_get (D := (dC, dI)) (ci := 4) (v := .ref (a 7)) (C := RX6) (T := TX6) (N := 2) hx hb hta inX6 hown hK hP 16 (xr_16 a k st) rfl 0 (by decide) hf9 (fun _ h9 => h9) rfl dX6_make_50 ?_
        refine lv_aload_n hx hb dX6_make_53 rfl (lv_at hl 3 rfl) ?_
        refine va_get (D := (dC, dI)) (ci := 4) (v := .ref (a 7)) (C := RX6) (T := TX6) (N := 2) hx hb hta inX6 hown hK hP 16 (xr_16 a k st) rfl 0 (by decide) hf9 (fun _ h9 => h9) rfl dX6_make_54 ?_
        refine lv_iload_n hx hb dX6_make_57 rfl (lv_at hl 4 rfl) ?_
        refine lv_iload_n hx hb dX6_make_58 rfl (lv_at hl 5 rfl) ?_
        refine lv_iload hx hb dX6_make_59 (lv_at hl 1 rfl) ?_
        refine wl_ci (va_runV (As := [.int o, .int a1, .int (0 : Int32)]) (rest := [.ref (a 7)]) ⟨hx, hb, hml, hown, hta⟩ (kx_Terms_widthOfResult l dC dI a k st o a1 (0 : Int32) hA (fun h => hB2 (by rw [h]; decide))) (cwV 3 hta gX6_56 rfl rfl rfl (by decide +kernel) ⟨Nat.le_of_ble_eq_true rfl, Nat.le_of_ble_eq_true rfl⟩) (wl_pR (C := RX4) (ci := 2) (q0 := 7) hK hP rfl (xr_7 a k st)) rfl rfl hl.1 rfl (lv_room (Nat.le_of_ble_eq_true rfl)) dX6_make_61 ⟨Nat.zero_le _, Nat.zero_le _⟩) ?_
        refine lv_aload_n hx hb dX6_make_64 rfl (lv_at hl 3 rfl) ?_
        refine va_get (D := (dC, dI)) (ci := 4) (v := .ref (a 13)) (C := RX6) (T := TX6) (N := 2) hx hb hta inX6 hown hK hP 16 (xr_16 a k st) rfl 1 (by decide) hf15 (fun _ h9 => h9) rfl dX6_make_65 ?_
        refine lv_iload_n hx hb dX6_make_68 rfl (lv_at hl 4 rfl) ?_
        refine lv_iload_n hx hb dX6_make_69 rfl (lv_at hl 5 rfl) ?_
        refine lv_iload hx hb dX6_make_70 (lv_at hl 1 rfl) ?_
        refine lv_iload hx hb dX6_make_72 (lv_at hl 0 rfl) ?_
        refine wl_cl (va_runV (As := [.int o, .int a1, .int (0 : Int32), .int (0 : Int32)]) (rest := [.int (fx_Terms_widthOfResult st o a1 (0 : Int32)), .ref (a 7)]) ⟨hx, hb, hml, hown, hta⟩ (kx_Eval_applyToConstants l dC dI a k st o a1 (0 : Int32) (0 : Int32) hA (fun h => hB2 (wl_nb2 hO0 hO20 h)) (fun h => hC2 (by rw [h]; decide)) hT2 (wl_hv2 hV9 c46)) (cwV 4 hta gX6_60 rfl rfl rfl (by decide +kernel) ⟨Nat.le_of_ble_eq_true rfl, Nat.le_of_ble_eq_true rfl⟩) (wl_pR (C := RX5) (ci := 3) (q0 := 13) hK hP rfl (xr_13 a k st)) rfl rfl hl.1 rfl (lv_room (Nat.le_of_ble_eq_true rfl)) dX6_make_74 ⟨Nat.zero_le _, Nat.zero_le _⟩) ?_
        refine wl_mi (va_runV (As := [.int (fx_Terms_widthOfResult st o a1 (0 : Int32)), .long (fx_Eval_applyToConstants st o a1 (0 : Int32) (0 : Int32))]) (rest := []) ⟨hx, hb, hml, hown, hta⟩ (kx_Terms_findOrAddConstant l dC dI a k st (fx_Terms_widthOfResult st o a1 (0 : Int32)) (fx_Eval_applyToConstants st o a1 (0 : Int32) (0 : Int32)) _ N hN h64) (cwV 2 hta gX6_66 rfl rfl rfl (by decide +kernel) ⟨Nat.le_of_ble_eq_true rfl, Nat.le_of_ble_eq_true rfl⟩) (wl_pM (C := RX4) (ci := 2) (q0 := 7) hK hP hD rfl (xr_7 a k st)) rfl rfl hl.1 rfl (lv_room (Nat.le_of_ble_eq_true rfl)) dX6_make_77 ⟨Nat.zero_le _, Nat.zero_le _⟩) hP hD hS hAz (fun r77 u77 H locs hw77 hP hD hS => ?_)
        have v77 : (fx_Terms_findOrAddConstant st (fx_Terms_widthOfResult st o a1 (0 : Int32)) (fx_Eval_applyToConstants st o a1 (0 : Int32) (0 : Int32))).1 = r77 := congrArg Prod.fst hw77.symm
        have w77 : (fx_Terms_findOrAddConstant st (fx_Terms_widthOfResult st o a1 (0 : Int32)) (fx_Eval_applyToConstants st o a1 (0 : Int32) (0 : Int32))).2 = u77 := congrArg Prod.snd hw77.symm
        have hf77 : XF [6] [3, 4] [1] st u77 := by rw [← w77]; exact ff_Terms_findOrAddConstant st (fx_Terms_widthOfResult st o a1 (0 : Int32)) (fx_Eval_applyToConstants st o a1 (0 : Int32) (0 : Int32))
        try rw [v77] at hR
        try rw [w77] at hR
        exact W.iret (v := r77) hx hb hr (fun t ht hW => ⟨⟨_, _, rfl, hR, by rw [ht]; exact hP, va_K.moved hW.alike hK, hD⟩, hS.F ht⟩) hS.2.2 dX6_make_80
    · skip
      rw [if_neg c22] at hR
      have hC2 : ¬ fx_Op_namedTerms o < (3 : Int32) → vp_in c1 64 := fun h => hC (wl_nl h)
      refine lv_iload hx hb dX6_make_25 (lv_at hl 6 rfl) ?_
      refine lv_goto (tgt := 31) hx hb dX6_make_27 (by decide) ?_
      refine lv_istore (lv' := [(7, .int c1), (6, .int (0 : Int32)), (5, .int (fx_Op_named o)), (0, .ref (a 16)), (1, .int o), (2, .int a1), (3, .int b1), (4, .int c1)]) hx hb dX6_make_31 hl (by decide) rfl (fun ls hl => ?_)
      refine lv_aload_n hx hb dX6_make_33 rfl (lv_at hl 3 rfl) ?_
      refine lv_iload_n hx hb dX6_make_34 rfl (lv_at hl 4 rfl) ?_
      refine wl_ci (va_runS (As := [.int o]) (rest := [.ref (a 16)]) ⟨hx, hb, hml, hown, hta⟩ (kx_Op_namedTerms l o) (va_cwS 1 hta gX6_49 rfl rfl rfl (by decide +kernel) ⟨Nat.le_of_ble_eq_true rfl, Nat.le_of_ble_eq_true rfl⟩) preEq rfl rfl hl.1 rfl (lv_room (Nat.le_of_ble_eq_true rfl)) dX6_make_35 ⟨Nat.zero_le _, Nat.zero_le _⟩) ?_
      refine lv_iload_n hx hb dX6_make_38 rfl (lv_at hl 5 rfl) ?_
      refine lv_iload hx hb dX6_make_39 (lv_at hl 1 rfl) ?_
      refine lv_iload hx hb dX6_make_41 (lv_at hl 0 rfl) ?_
      refine wl_ci (va_runV (As := [.int (fx_Op_namedTerms o), .int a1, .int (0 : Int32), .int c1]) (rest := []) ⟨hx, hb, hml, hown, hta⟩ (kx_Maker_areConstants l dC dI a k st (fx_Op_namedTerms o) a1 (0 : Int32) c1 hA hB2 hC2) (cwV 4 hta gX6_52 rfl rfl rfl (by decide +kernel) ⟨Nat.le_of_ble_eq_true rfl, Nat.le_of_ble_eq_true rfl⟩) (wl_pR (C := RX6) (ci := 4) (q0 := 16) hK hP rfl (xr_16 a k st)) rfl rfl hl.1 rfl (lv_room (Nat.le_of_ble_eq_true rfl)) dX6_make_43 ⟨Nat.zero_le _, Nat.zero_le _⟩) ?_
      refine lv_if_eq (tgt := 81) hx hb dX6_make_46 (by decide) (fun c46 => ?_) (fun c46 => ?_)
      · skip
        rw [if_pos c46] at hR
        refine lv_iload_n hx hb dX6_make_81 rfl (lv_at hl 4 rfl) ?_
        refine wl_ci (va_runS (As := [.int o]) (rest := []) ⟨hx, hb, hml, hown, hta⟩ (kx_Op_changesPlaces l o) (va_cwS 1 hta gX6_70 rfl rfl rfl (by decide +kernel) ⟨Nat.le_of_ble_eq_true rfl, Nat.le_of_ble_eq_true rfl⟩) preEq rfl rfl hl.1 rfl (lv_room (Nat.le_of_ble_eq_true rfl)) dX6_make_82 ⟨Nat.zero_le _, Nat.zero_le _⟩) ?_
        refine lv_if_eq (tgt := 105) hx hb dX6_make_85 (by decide) (fun c85 => ?_) (fun c85 => ?_)
        · skip
          rw [if_pos c85] at hR
          refine lv_aload_n hx hb dX6_make_105 rfl (lv_at hl 3 rfl) ?_
          refine lv_iload_n hx hb dX6_make_106 rfl (lv_at hl 4 rfl) ?_
          refine lv_iload_n hx hb dX6_make_107 rfl (lv_at hl 5 rfl) ?_
          refine lv_iload hx hb dX6_make_108 (lv_at hl 1 rfl) ?_
          refine lv_iload hx hb dX6_make_110 (lv_at hl 0 rfl) ?_
          refine wl_mi (va_runV (As := [.int o, .int a1, .int (0 : Int32), .int c1]) (rest := []) ⟨hx, hb, hml, hown, hta⟩ (kx_Maker_makeInPlace l dC dI a k st o a1 (0 : Int32) c1 _ N hN h64 hA (fun h => hB2 (wl_bz h)) (fun h => hB2 (wl_ln h)) (fun h => hC2 (wl_ln h))) (cwV 4 hta gX6_73 rfl rfl rfl (by decide +kernel) ⟨Nat.le_of_ble_eq_true rfl, Nat.le_of_ble_eq_true rfl⟩) (wl_pM (C := RX6) (ci := 4) (q0 := 16) hK hP hD rfl (xr_16 a k st)) rfl rfl hl.1 rfl (lv_room (Nat.le_of_ble_eq_true rfl)) dX6_make_112 ⟨Nat.zero_le _, Nat.zero_le _⟩) hP hD hS hAz (fun r112 u112 H locs hw112 hP hD hS => ?_)
          have v112 : (fx_Maker_makeInPlace st o a1 (0 : Int32) c1).1 = r112 := congrArg Prod.fst hw112.symm
          have w112 : (fx_Maker_makeInPlace st o a1 (0 : Int32) c1).2 = u112 := congrArg Prod.snd hw112.symm
          have hf112 : XF [6, 7] [3, 4, 5, 6] [1] st u112 := by rw [← w112]; exact ff_Maker_makeInPlace st o a1 (0 : Int32) c1
          try rw [v112] at hR
          try rw [w112] at hR
          exact W.iret (v := r112) hx hb hr (fun t ht hW => ⟨⟨_, _, rfl, hR, by rw [ht]; exact hP, va_K.moved hW.alike hK, hD⟩, hS.F ht⟩) hS.2.2 dX6_make_115
        · skip
          rw [if_neg c85] at hR
          refine lv_iload_n hx hb dX6_make_88 rfl (lv_at hl 5 rfl) ?_
          refine lv_iload hx hb dX6_make_89 (lv_at hl 1 rfl) ?_
          refine lv_icmp_le (tgt := 105) hx hb dX6_make_91 (by decide) (fun c91 => ?_) (fun c91 => ?_)
          · skip
            rw [if_pos c91] at hR
            refine lv_aload_n hx hb dX6_make_105 rfl (lv_at hl 3 rfl) ?_
            refine lv_iload_n hx hb dX6_make_106 rfl (lv_at hl 4 rfl) ?_
            refine lv_iload_n hx hb dX6_make_107 rfl (lv_at hl 5 rfl) ?_
            refine lv_iload hx hb dX6_make_108 (lv_at hl 1 rfl) ?_
            refine lv_iload hx hb dX6_make_110 (lv_at hl 0 rfl) ?_
            refine wl_mi (va_runV (As := [.int o, .int a1, .int (0 : Int32), .int c1]) (rest := []) ⟨hx, hb, hml, hown, hta⟩ (kx_Maker_makeInPlace l dC dI a k st o a1 (0 : Int32) c1 _ N hN h64 hA (fun h => hB2 (wl_bz h)) (fun h => hB2 (wl_ln h)) (fun h => hC2 (wl_ln h))) (cwV 4 hta gX6_73 rfl rfl rfl (by decide +kernel) ⟨Nat.le_of_ble_eq_true rfl, Nat.le_of_ble_eq_true rfl⟩) (wl_pM (C := RX6) (ci := 4) (q0 := 16) hK hP hD rfl (xr_16 a k st)) rfl rfl hl.1 rfl (lv_room (Nat.le_of_ble_eq_true rfl)) dX6_make_112 ⟨Nat.zero_le _, Nat.zero_le _⟩) hP hD hS hAz (fun r112 u112 H locs hw112 hP hD hS => ?_)
            have v112 : (fx_Maker_makeInPlace st o a1 (0 : Int32) c1).1 = r112 := congrArg Prod.fst hw112.symm
            have w112 : (fx_Maker_makeInPlace st o a1 (0 : Int32) c1).2 = u112 := congrArg Prod.snd hw112.symm
            have hf112 : XF [6, 7] [3, 4, 5, 6] [1] st u112 := by rw [← w112]; exact ff_Maker_makeInPlace st o a1 (0 : Int32) c1
            try rw [v112] at hR
            try rw [w112] at hR
            exact W.iret (v := r112) hx hb hr (fun t ht hW => ⟨⟨_, _, rfl, hR, by rw [ht]; exact hP, va_K.moved hW.alike hK, hD⟩, hS.F ht⟩) hS.2.2 dX6_make_115
          · skip
            rw [if_neg c91] at hR
            refine lv_aload_n hx hb dX6_make_94 rfl (lv_at hl 3 rfl) ?_
            refine lv_iload_n hx hb dX6_make_95 rfl (lv_at hl 4 rfl) ?_
            refine lv_iload hx hb dX6_make_96 (lv_at hl 1 rfl) ?_
            refine lv_iload_n hx hb dX6_make_98 rfl (lv_at hl 5 rfl) ?_
            refine lv_iload hx hb dX6_make_99 (lv_at hl 0 rfl) ?_
            refine wl_mi (va_runV (As := [.int o, .int (0 : Int32), .int a1, .int c1]) (rest := []) ⟨hx, hb, hml, hown, hta⟩ (kx_Maker_makeInPlace l dC dI a k st o (0 : Int32) a1 c1 _ N hN h64 (hB2 (wl_chp c85 hO0 hO20)) (fun _ => hA) (fun _ => hA) (fun h => hC2 (wl_ln h))) (cwV 4 hta gX6_73 rfl rfl rfl (by decide +kernel) ⟨Nat.le_of_ble_eq_true rfl, Nat.le_of_ble_eq_true rfl⟩) (wl_pM (C := RX6) (ci := 4) (q0 := 16) hK hP hD rfl (xr_16 a k st)) rfl rfl hl.1 rfl (lv_room (Nat.le_of_ble_eq_true rfl)) dX6_make_101 ⟨Nat.zero_le _, Nat.zero_le _⟩) hP hD hS hAz (fun r101 u101 H locs hw101 hP hD hS => ?_)
            have v101 : (fx_Maker_makeInPlace st o (0 : Int32) a1 c1).1 = r101 := congrArg Prod.fst hw101.symm
            have w101 : (fx_Maker_makeInPlace st o (0 : Int32) a1 c1).2 = u101 := congrArg Prod.snd hw101.symm
            have hf101 : XF [6, 7] [3, 4, 5, 6] [1] st u101 := by rw [← w101]; exact ff_Maker_makeInPlace st o (0 : Int32) a1 c1
            try rw [v101] at hR
            try rw [w101] at hR
            exact W.iret (v := r101) hx hb hr (fun t ht hW => ⟨⟨_, _, rfl, hR, by rw [ht]; exact hP, va_K.moved hW.alike hK, hD⟩, hS.F ht⟩) hS.2.2 dX6_make_104
      · skip
        rw [if_neg c46] at hR
        refine lv_aload_n hx hb dX6_make_49 rfl (lv_at hl 3 rfl) ?_
        refine va_get (D := (dC, dI)) (ci := 4) (v := .ref (a 7)) (C := RX6) (T := TX6) (N := 2) hx hb hta inX6 hown hK hP 16 (xr_16 a k st) rfl 0 (by decide) hf9 (fun _ h9 => h9) rfl dX6_make_50 ?_
        refine lv_aload_n hx hb dX6_make_53 rfl (lv_at hl 3 rfl) ?_
        refine va_get (D := (dC, dI)) (ci := 4) (v := .ref (a 7)) (C := RX6) (T := TX6) (N := 2) hx hb hta inX6 hown hK hP 16 (xr_16 a k st) rfl 0 (by decide) hf9 (fun _ h9 => h9) rfl dX6_make_54 ?_
        refine lv_iload_n hx hb dX6_make_57 rfl (lv_at hl 4 rfl) ?_
        refine lv_iload_n hx hb dX6_make_58 rfl (lv_at hl 5 rfl) ?_
        refine lv_iload hx hb dX6_make_59 (lv_at hl 1 rfl) ?_
        refine wl_ci (va_runV (As := [.int o, .int a1, .int (0 : Int32)]) (rest := [.ref (a 7)]) ⟨hx, hb, hml, hown, hta⟩ (kx_Terms_widthOfResult l dC dI a k st o a1 (0 : Int32) hA (fun h => hB2 (by rw [h]; decide))) (cwV 3 hta gX6_56 rfl rfl rfl (by decide +kernel) ⟨Nat.le_of_ble_eq_true rfl, Nat.le_of_ble_eq_true rfl⟩) (wl_pR (C := RX4) (ci := 2) (q0 := 7) hK hP rfl (xr_7 a k st)) rfl rfl hl.1 rfl (lv_room (Nat.le_of_ble_eq_true rfl)) dX6_make_61 ⟨Nat.zero_le _, Nat.zero_le _⟩) ?_
        refine lv_aload_n hx hb dX6_make_64 rfl (lv_at hl 3 rfl) ?_
        refine va_get (D := (dC, dI)) (ci := 4) (v := .ref (a 13)) (C := RX6) (T := TX6) (N := 2) hx hb hta inX6 hown hK hP 16 (xr_16 a k st) rfl 1 (by decide) hf15 (fun _ h9 => h9) rfl dX6_make_65 ?_
        refine lv_iload_n hx hb dX6_make_68 rfl (lv_at hl 4 rfl) ?_
        refine lv_iload_n hx hb dX6_make_69 rfl (lv_at hl 5 rfl) ?_
        refine lv_iload hx hb dX6_make_70 (lv_at hl 1 rfl) ?_
        refine lv_iload hx hb dX6_make_72 (lv_at hl 0 rfl) ?_
        refine wl_cl (va_runV (As := [.int o, .int a1, .int (0 : Int32), .int c1]) (rest := [.int (fx_Terms_widthOfResult st o a1 (0 : Int32)), .ref (a 7)]) ⟨hx, hb, hml, hown, hta⟩ (kx_Eval_applyToConstants l dC dI a k st o a1 (0 : Int32) c1 hA (fun h => hB2 (wl_nb2 hO0 hO20 h)) (fun h => hC2 (by rw [h]; decide)) hT2 (wl_hv2 hV9 c46)) (cwV 4 hta gX6_60 rfl rfl rfl (by decide +kernel) ⟨Nat.le_of_ble_eq_true rfl, Nat.le_of_ble_eq_true rfl⟩) (wl_pR (C := RX5) (ci := 3) (q0 := 13) hK hP rfl (xr_13 a k st)) rfl rfl hl.1 rfl (lv_room (Nat.le_of_ble_eq_true rfl)) dX6_make_74 ⟨Nat.zero_le _, Nat.zero_le _⟩) ?_
        refine wl_mi (va_runV (As := [.int (fx_Terms_widthOfResult st o a1 (0 : Int32)), .long (fx_Eval_applyToConstants st o a1 (0 : Int32) c1)]) (rest := []) ⟨hx, hb, hml, hown, hta⟩ (kx_Terms_findOrAddConstant l dC dI a k st (fx_Terms_widthOfResult st o a1 (0 : Int32)) (fx_Eval_applyToConstants st o a1 (0 : Int32) c1) _ N hN h64) (cwV 2 hta gX6_66 rfl rfl rfl (by decide +kernel) ⟨Nat.le_of_ble_eq_true rfl, Nat.le_of_ble_eq_true rfl⟩) (wl_pM (C := RX4) (ci := 2) (q0 := 7) hK hP hD rfl (xr_7 a k st)) rfl rfl hl.1 rfl (lv_room (Nat.le_of_ble_eq_true rfl)) dX6_make_77 ⟨Nat.zero_le _, Nat.zero_le _⟩) hP hD hS hAz (fun r77 u77 H locs hw77 hP hD hS => ?_)
        have v77 : (fx_Terms_findOrAddConstant st (fx_Terms_widthOfResult st o a1 (0 : Int32)) (fx_Eval_applyToConstants st o a1 (0 : Int32) c1)).1 = r77 := congrArg Prod.fst hw77.symm
        have w77 : (fx_Terms_findOrAddConstant st (fx_Terms_widthOfResult st o a1 (0 : Int32)) (fx_Eval_applyToConstants st o a1 (0 : Int32) c1)).2 = u77 := congrArg Prod.snd hw77.symm
        have hf77 : XF [6] [3, 4] [1] st u77 := by rw [← w77]; exact ff_Terms_findOrAddConstant st (fx_Terms_widthOfResult st o a1 (0 : Int32)) (fx_Eval_applyToConstants st o a1 (0 : Int32) c1)
        try rw [v77] at hR
        try rw [w77] at hR
        exact W.iret (v := r77) hx hb hr (fun t ht hW => ⟨⟨_, _, rfl, hR, by rw [ht]; exact hP, va_K.moved hW.alike hK, hD⟩, hS.F ht⟩) hS.2.2 dX6_make_80
  · skip
    rw [if_neg c9] at hR
    have hB2 : ¬ fx_Op_namedTerms o < (2 : Int32) → vp_in b1 64 := fun h => hB (wl_nl h)
    have hT2 := hT
    have hV9 := hV
    refine lv_iload_n hx hb dX6_make_12 rfl (lv_at hl 4 rfl) ?_
    refine lv_goto (tgt := 17) hx hb dX6_make_13 (by decide) ?_
    refine lv_istore (lv' := [(6, .int b1), (5, .int (fx_Op_named o)), (0, .ref (a 16)), (1, .int o), (2, .int a1), (3, .int b1), (4, .int c1)]) hx hb dX6_make_17 hl (by decide) rfl (fun ls hl => ?_)
    refine lv_iload hx hb dX6_make_19 (lv_at hl 1 rfl) ?_
    refine lv_iconst (v := (2 : Int32)) hx hb dX6_make_21 (by decide) ?_
    refine lv_icmp_le (tgt := 30) hx hb dX6_make_22 (by decide) (fun c22 => ?_) (fun c22 => ?_)
    · skip
      rw [if_pos c22] at hR
      have hC2 : ¬ fx_Op_namedTerms o < (3 : Int32) → vp_in (0 : Int32) 64 := fun _ => wl_in0
      refine lv_iconst (v := (0 : Int32)) hx hb dX6_make_30 (by decide) ?_
      refine lv_istore (lv' := [(7, .int (0 : Int32)), (6, .int b1), (5, .int (fx_Op_named o)), (0, .ref (a 16)), (1, .int o), (2, .int a1), (3, .int b1), (4, .int c1)]) hx hb dX6_make_31 hl (by decide) rfl (fun ls hl => ?_)
      refine lv_aload_n hx hb dX6_make_33 rfl (lv_at hl 3 rfl) ?_
      refine lv_iload_n hx hb dX6_make_34 rfl (lv_at hl 4 rfl) ?_
      refine wl_ci (va_runS (As := [.int o]) (rest := [.ref (a 16)]) ⟨hx, hb, hml, hown, hta⟩ (kx_Op_namedTerms l o) (va_cwS 1 hta gX6_49 rfl rfl rfl (by decide +kernel) ⟨Nat.le_of_ble_eq_true rfl, Nat.le_of_ble_eq_true rfl⟩) preEq rfl rfl hl.1 rfl (lv_room (Nat.le_of_ble_eq_true rfl)) dX6_make_35 ⟨Nat.zero_le _, Nat.zero_le _⟩) ?_
      refine lv_iload_n hx hb dX6_make_38 rfl (lv_at hl 5 rfl) ?_
      refine lv_iload hx hb dX6_make_39 (lv_at hl 1 rfl) ?_
      refine lv_iload hx hb dX6_make_41 (lv_at hl 0 rfl) ?_
      refine wl_ci (va_runV (As := [.int (fx_Op_namedTerms o), .int a1, .int b1, .int (0 : Int32)]) (rest := []) ⟨hx, hb, hml, hown, hta⟩ (kx_Maker_areConstants l dC dI a k st (fx_Op_namedTerms o) a1 b1 (0 : Int32) hA hB2 hC2) (cwV 4 hta gX6_52 rfl rfl rfl (by decide +kernel) ⟨Nat.le_of_ble_eq_true rfl, Nat.le_of_ble_eq_true rfl⟩) (wl_pR (C := RX6) (ci := 4) (q0 := 16) hK hP rfl (xr_16 a k st)) rfl rfl hl.1 rfl (lv_room (Nat.le_of_ble_eq_true rfl)) dX6_make_43 ⟨Nat.zero_le _, Nat.zero_le _⟩) ?_
      refine lv_if_eq (tgt := 81) hx hb dX6_make_46 (by decide) (fun c46 => ?_) (fun c46 => ?_)
      · skip
        rw [if_pos c46] at hR
        refine lv_iload_n hx hb dX6_make_81 rfl (lv_at hl 4 rfl) ?_
        refine wl_ci (va_runS (As := [.int o]) (rest := []) ⟨hx, hb, hml, hown, hta⟩ (kx_Op_changesPlaces l o) (va_cwS 1 hta gX6_70 rfl rfl rfl (by decide +kernel) ⟨Nat.le_of_ble_eq_true rfl, Nat.le_of_ble_eq_true rfl⟩) preEq rfl rfl hl.1 rfl (lv_room (Nat.le_of_ble_eq_true rfl)) dX6_make_82 ⟨Nat.zero_le _, Nat.zero_le _⟩) ?_
        refine lv_if_eq (tgt := 105) hx hb dX6_make_85 (by decide) (fun c85 => ?_) (fun c85 => ?_)
        · skip
          rw [if_pos c85] at hR
          refine lv_aload_n hx hb dX6_make_105 rfl (lv_at hl 3 rfl) ?_
          refine lv_iload_n hx hb dX6_make_106 rfl (lv_at hl 4 rfl) ?_
          refine lv_iload_n hx hb dX6_make_107 rfl (lv_at hl 5 rfl) ?_
          refine lv_iload hx hb dX6_make_108 (lv_at hl 1 rfl) ?_
          refine lv_iload hx hb dX6_make_110 (lv_at hl 0 rfl) ?_
          refine wl_mi (va_runV (As := [.int o, .int a1, .int b1, .int (0 : Int32)]) (rest := []) ⟨hx, hb, hml, hown, hta⟩ (kx_Maker_makeInPlace l dC dI a k st o a1 b1 (0 : Int32) _ N hN h64 hA (fun h => hB2 (wl_bz h)) (fun h => hB2 (wl_ln h)) (fun h => hC2 (wl_ln h))) (cwV 4 hta gX6_73 rfl rfl rfl (by decide +kernel) ⟨Nat.le_of_ble_eq_true rfl, Nat.le_of_ble_eq_true rfl⟩) (wl_pM (C := RX6) (ci := 4) (q0 := 16) hK hP hD rfl (xr_16 a k st)) rfl rfl hl.1 rfl (lv_room (Nat.le_of_ble_eq_true rfl)) dX6_make_112 ⟨Nat.zero_le _, Nat.zero_le _⟩) hP hD hS hAz (fun r112 u112 H locs hw112 hP hD hS => ?_)
          have v112 : (fx_Maker_makeInPlace st o a1 b1 (0 : Int32)).1 = r112 := congrArg Prod.fst hw112.symm
          have w112 : (fx_Maker_makeInPlace st o a1 b1 (0 : Int32)).2 = u112 := congrArg Prod.snd hw112.symm
          have hf112 : XF [6, 7] [3, 4, 5, 6] [1] st u112 := by rw [← w112]; exact ff_Maker_makeInPlace st o a1 b1 (0 : Int32)
          try rw [v112] at hR
          try rw [w112] at hR
          exact W.iret (v := r112) hx hb hr (fun t ht hW => ⟨⟨_, _, rfl, hR, by rw [ht]; exact hP, va_K.moved hW.alike hK, hD⟩, hS.F ht⟩) hS.2.2 dX6_make_115
        · skip
          rw [if_neg c85] at hR
          refine lv_iload_n hx hb dX6_make_88 rfl (lv_at hl 5 rfl) ?_
          refine lv_iload hx hb dX6_make_89 (lv_at hl 1 rfl) ?_
          refine lv_icmp_le (tgt := 105) hx hb dX6_make_91 (by decide) (fun c91 => ?_) (fun c91 => ?_)
          · skip
            rw [if_pos c91] at hR
            refine lv_aload_n hx hb dX6_make_105 rfl (lv_at hl 3 rfl) ?_
            refine lv_iload_n hx hb dX6_make_106 rfl (lv_at hl 4 rfl) ?_
            refine lv_iload_n hx hb dX6_make_107 rfl (lv_at hl 5 rfl) ?_
            refine lv_iload hx hb dX6_make_108 (lv_at hl 1 rfl) ?_
            refine lv_iload hx hb dX6_make_110 (lv_at hl 0 rfl) ?_
            refine wl_mi (va_runV (As := [.int o, .int a1, .int b1, .int (0 : Int32)]) (rest := []) ⟨hx, hb, hml, hown, hta⟩ (kx_Maker_makeInPlace l dC dI a k st o a1 b1 (0 : Int32) _ N hN h64 hA (fun h => hB2 (wl_bz h)) (fun h => hB2 (wl_ln h)) (fun h => hC2 (wl_ln h))) (cwV 4 hta gX6_73 rfl rfl rfl (by decide +kernel) ⟨Nat.le_of_ble_eq_true rfl, Nat.le_of_ble_eq_true rfl⟩) (wl_pM (C := RX6) (ci := 4) (q0 := 16) hK hP hD rfl (xr_16 a k st)) rfl rfl hl.1 rfl (lv_room (Nat.le_of_ble_eq_true rfl)) dX6_make_112 ⟨Nat.zero_le _, Nat.zero_le _⟩) hP hD hS hAz (fun r112 u112 H locs hw112 hP hD hS => ?_)
            have v112 : (fx_Maker_makeInPlace st o a1 b1 (0 : Int32)).1 = r112 := congrArg Prod.fst hw112.symm
            have w112 : (fx_Maker_makeInPlace st o a1 b1 (0 : Int32)).2 = u112 := congrArg Prod.snd hw112.symm
            have hf112 : XF [6, 7] [3, 4, 5, 6] [1] st u112 := by rw [← w112]; exact ff_Maker_makeInPlace st o a1 b1 (0 : Int32)
            try rw [v112] at hR
            try rw [w112] at hR
            exact W.iret (v := r112) hx hb hr (fun t ht hW => ⟨⟨_, _, rfl, hR, by rw [ht]; exact hP, va_K.moved hW.alike hK, hD⟩, hS.F ht⟩) hS.2.2 dX6_make_115
          · skip
            rw [if_neg c91] at hR
            refine lv_aload_n hx hb dX6_make_94 rfl (lv_at hl 3 rfl) ?_
            refine lv_iload_n hx hb dX6_make_95 rfl (lv_at hl 4 rfl) ?_
            refine lv_iload hx hb dX6_make_96 (lv_at hl 1 rfl) ?_
            refine lv_iload_n hx hb dX6_make_98 rfl (lv_at hl 5 rfl) ?_
            refine lv_iload hx hb dX6_make_99 (lv_at hl 0 rfl) ?_
            refine wl_mi (va_runV (As := [.int o, .int b1, .int a1, .int (0 : Int32)]) (rest := []) ⟨hx, hb, hml, hown, hta⟩ (kx_Maker_makeInPlace l dC dI a k st o b1 a1 (0 : Int32) _ N hN h64 (hB2 (wl_chp c85 hO0 hO20)) (fun _ => hA) (fun _ => hA) (fun h => hC2 (wl_ln h))) (cwV 4 hta gX6_73 rfl rfl rfl (by decide +kernel) ⟨Nat.le_of_ble_eq_true rfl, Nat.le_of_ble_eq_true rfl⟩) (wl_pM (C := RX6) (ci := 4) (q0 := 16) hK hP hD rfl (xr_16 a k st)) rfl rfl hl.1 rfl (lv_room (Nat.le_of_ble_eq_true rfl)) dX6_make_101 ⟨Nat.zero_le _, Nat.zero_le _⟩) hP hD hS hAz (fun r101 u101 H locs hw101 hP hD hS => ?_)
            have v101 : (fx_Maker_makeInPlace st o b1 a1 (0 : Int32)).1 = r101 := congrArg Prod.fst hw101.symm
            have w101 : (fx_Maker_makeInPlace st o b1 a1 (0 : Int32)).2 = u101 := congrArg Prod.snd hw101.symm
            have hf101 : XF [6, 7] [3, 4, 5, 6] [1] st u101 := by rw [← w101]; exact ff_Maker_makeInPlace st o b1 a1 (0 : Int32)
            try rw [v101] at hR
            try rw [w101] at hR
            exact W.iret (v := r101) hx hb hr (fun t ht hW => ⟨⟨_, _, rfl, hR, by rw [ht]; exact hP, va_K.moved hW.alike hK, hD⟩, hS.F ht⟩) hS.2.2 dX6_make_104
      · skip
        rw [if_neg c46] at hR
        refine lv_aload_n hx hb dX6_make_49 rfl (lv_at hl 3 rfl) ?_
        refine va_get (D := (dC, dI)) (ci := 4) (v := .ref (a 7)) (C := RX6) (T := TX6) (N := 2) hx hb hta inX6 hown hK hP 16 (xr_16 a k st) rfl 0 (by decide) hf9 (fun _ h9 => h9) rfl dX6_make_50 ?_
        refine lv_aload_n hx hb dX6_make_53 rfl (lv_at hl 3 rfl) ?_
        refine va_get (D := (dC, dI)) (ci := 4) (v := .ref (a 7)) (C := RX6) (T := TX6) (N := 2) hx hb hta inX6 hown hK hP 16 (xr_16 a k st) rfl 0 (by decide) hf9 (fun _ h9 => h9) rfl dX6_make_54 ?_
        refine lv_iload_n hx hb dX6_make_57 rfl (lv_at hl 4 rfl) ?_
        refine lv_iload_n hx hb dX6_make_58 rfl (lv_at hl 5 rfl) ?_
        refine lv_iload hx hb dX6_make_59 (lv_at hl 1 rfl) ?_
        refine wl_ci (va_runV (As := [.int o, .int a1, .int b1]) (rest := [.ref (a 7)]) ⟨hx, hb, hml, hown, hta⟩ (kx_Terms_widthOfResult l dC dI a k st o a1 b1 hA (fun h => hB2 (by rw [h]; decide))) (cwV 3 hta gX6_56 rfl rfl rfl (by decide +kernel) ⟨Nat.le_of_ble_eq_true rfl, Nat.le_of_ble_eq_true rfl⟩) (wl_pR (C := RX4) (ci := 2) (q0 := 7) hK hP rfl (xr_7 a k st)) rfl rfl hl.1 rfl (lv_room (Nat.le_of_ble_eq_true rfl)) dX6_make_61 ⟨Nat.zero_le _, Nat.zero_le _⟩) ?_
        refine lv_aload_n hx hb dX6_make_64 rfl (lv_at hl 3 rfl) ?_
        refine va_get (D := (dC, dI)) (ci := 4) (v := .ref (a 13)) (C := RX6) (T := TX6) (N := 2) hx hb hta inX6 hown hK hP 16 (xr_16 a k st) rfl 1 (by decide) hf15 (fun _ h9 => h9) rfl dX6_make_65 ?_
        refine lv_iload_n hx hb dX6_make_68 rfl (lv_at hl 4 rfl) ?_
        refine lv_iload_n hx hb dX6_make_69 rfl (lv_at hl 5 rfl) ?_
        refine lv_iload hx hb dX6_make_70 (lv_at hl 1 rfl) ?_
        refine lv_iload hx hb dX6_make_72 (lv_at hl 0 rfl) ?_
        refine wl_cl (va_runV (As := [.int o, .int a1, .int b1, .int (0 : Int32)]) (rest := [.int (fx_Terms_widthOfResult st o a1 b1), .ref (a 7)]) ⟨hx, hb, hml, hown, hta⟩ (kx_Eval_applyToConstants l dC dI a k st o a1 b1 (0 : Int32) hA (fun h => hB2 (wl_nb2 hO0 hO20 h)) (fun h => hC2 (by rw [h]; decide)) hT2 (wl_hv2 hV9 c46)) (cwV 4 hta gX6_60 rfl rfl rfl (by decide +kernel) ⟨Nat.le_of_ble_eq_true rfl, Nat.le_of_ble_eq_true rfl⟩) (wl_pR (C := RX5) (ci := 3) (q0 := 13) hK hP rfl (xr_13 a k st)) rfl rfl hl.1 rfl (lv_room (Nat.le_of_ble_eq_true rfl)) dX6_make_74 ⟨Nat.zero_le _, Nat.zero_le _⟩) ?_
        refine wl_mi (va_runV (As := [.int (fx_Terms_widthOfResult st o a1 b1), .long (fx_Eval_applyToConstants st o a1 b1 (0 : Int32))]) (rest := []) ⟨hx, hb, hml, hown, hta⟩ (kx_Terms_findOrAddConstant l dC dI a k st (fx_Terms_widthOfResult st o a1 b1) (fx_Eval_applyToConstants st o a1 b1 (0 : Int32)) _ N hN h64) (cwV 2 hta gX6_66 rfl rfl rfl (by decide +kernel) ⟨Nat.le_of_ble_eq_true rfl, Nat.le_of_ble_eq_true rfl⟩) (wl_pM (C := RX4) (ci := 2) (q0 := 7) hK hP hD rfl (xr_7 a k st)) rfl rfl hl.1 rfl (lv_room (Nat.le_of_ble_eq_true rfl)) dX6_make_77 ⟨Nat.zero_le _, Nat.zero_le _⟩) hP hD hS hAz (fun r77 u77 H locs hw77 hP hD hS => ?_)
        have v77 : (fx_Terms_findOrAddConstant st (fx_Terms_widthOfResult st o a1 b1) (fx_Eval_applyToConstants st o a1 b1 (0 : Int32))).1 = r77 := congrArg Prod.fst hw77.symm
        have w77 : (fx_Terms_findOrAddConstant st (fx_Terms_widthOfResult st o a1 b1) (fx_Eval_applyToConstants st o a1 b1 (0 : Int32))).2 = u77 := congrArg Prod.snd hw77.symm
        have hf77 : XF [6] [3, 4] [1] st u77 := by rw [← w77]; exact ff_Terms_findOrAddConstant st (fx_Terms_widthOfResult st o a1 b1) (fx_Eval_applyToConstants st o a1 b1 (0 : Int32))
        try rw [v77] at hR
        try rw [w77] at hR
        exact W.iret (v := r77) hx hb hr (fun t ht hW => ⟨⟨_, _, rfl, hR, by rw [ht]; exact hP, va_K.moved hW.alike hK, hD⟩, hS.F ht⟩) hS.2.2 dX6_make_80
    · skip
      rw [if_neg c22] at hR
      have hC2 : ¬ fx_Op_namedTerms o < (3 : Int32) → vp_in c1 64 := fun h => hC (wl_nl h)
      refine lv_iload hx hb dX6_make_25 (lv_at hl 6 rfl) ?_
      refine lv_goto (tgt := 31) hx hb dX6_make_27 (by decide) ?_
      refine lv_istore (lv' := [(7, .int c1), (6, .int b1), (5, .int (fx_Op_named o)), (0, .ref (a 16)), (1, .int o), (2, .int a1), (3, .int b1), (4, .int c1)]) hx hb dX6_make_31 hl (by decide) rfl (fun ls hl => ?_)
      refine lv_aload_n hx hb dX6_make_33 rfl (lv_at hl 3 rfl) ?_
      refine lv_iload_n hx hb dX6_make_34 rfl (lv_at hl 4 rfl) ?_
      refine wl_ci (va_runS (As := [.int o]) (rest := [.ref (a 16)]) ⟨hx, hb, hml, hown, hta⟩ (kx_Op_namedTerms l o) (va_cwS 1 hta gX6_49 rfl rfl rfl (by decide +kernel) ⟨Nat.le_of_ble_eq_true rfl, Nat.le_of_ble_eq_true rfl⟩) preEq rfl rfl hl.1 rfl (lv_room (Nat.le_of_ble_eq_true rfl)) dX6_make_35 ⟨Nat.zero_le _, Nat.zero_le _⟩) ?_
      refine lv_iload_n hx hb dX6_make_38 rfl (lv_at hl 5 rfl) ?_
      refine lv_iload hx hb dX6_make_39 (lv_at hl 1 rfl) ?_
      refine lv_iload hx hb dX6_make_41 (lv_at hl 0 rfl) ?_
      refine wl_ci (va_runV (As := [.int (fx_Op_namedTerms o), .int a1, .int b1, .int c1]) (rest := []) ⟨hx, hb, hml, hown, hta⟩ (kx_Maker_areConstants l dC dI a k st (fx_Op_namedTerms o) a1 b1 c1 hA hB2 hC2) (cwV 4 hta gX6_52 rfl rfl rfl (by decide +kernel) ⟨Nat.le_of_ble_eq_true rfl, Nat.le_of_ble_eq_true rfl⟩) (wl_pR (C := RX6) (ci := 4) (q0 := 16) hK hP rfl (xr_16 a k st)) rfl rfl hl.1 rfl (lv_room (Nat.le_of_ble_eq_true rfl)) dX6_make_43 ⟨Nat.zero_le _, Nat.zero_le _⟩) ?_
      refine lv_if_eq (tgt := 81) hx hb dX6_make_46 (by decide) (fun c46 => ?_) (fun c46 => ?_)
      · skip
        rw [if_pos c46] at hR
        refine lv_iload_n hx hb dX6_make_81 rfl (lv_at hl 4 rfl) ?_
        refine wl_ci (va_runS (As := [.int o]) (rest := []) ⟨hx, hb, hml, hown, hta⟩ (kx_Op_changesPlaces l o) (va_cwS 1 hta gX6_70 rfl rfl rfl (by decide +kernel) ⟨Nat.le_of_ble_eq_true rfl, Nat.le_of_ble_eq_true rfl⟩) preEq rfl rfl hl.1 rfl (lv_room (Nat.le_of_ble_eq_true rfl)) dX6_make_82 ⟨Nat.zero_le _, Nat.zero_le _⟩) ?_
        refine lv_if_eq (tgt := 105) hx hb dX6_make_85 (by decide) (fun c85 => ?_) (fun c85 => ?_)
        · skip
          rw [if_pos c85] at hR
          refine lv_aload_n hx hb dX6_make_105 rfl (lv_at hl 3 rfl) ?_
          refine lv_iload_n hx hb dX6_make_106 rfl (lv_at hl 4 rfl) ?_
          refine lv_iload_n hx hb dX6_make_107 rfl (lv_at hl 5 rfl) ?_
          refine lv_iload hx hb dX6_make_108 (lv_at hl 1 rfl) ?_
          refine lv_iload hx hb dX6_make_110 (lv_at hl 0 rfl) ?_
          refine wl_mi (va_runV (As := [.int o, .int a1, .int b1, .int c1]) (rest := []) ⟨hx, hb, hml, hown, hta⟩ (kx_Maker_makeInPlace l dC dI a k st o a1 b1 c1 _ N hN h64 hA (fun h => hB2 (wl_bz h)) (fun h => hB2 (wl_ln h)) (fun h => hC2 (wl_ln h))) (cwV 4 hta gX6_73 rfl rfl rfl (by decide +kernel) ⟨Nat.le_of_ble_eq_true rfl, Nat.le_of_ble_eq_true rfl⟩) (wl_pM (C := RX6) (ci := 4) (q0 := 16) hK hP hD rfl (xr_16 a k st)) rfl rfl hl.1 rfl (lv_room (Nat.le_of_ble_eq_true rfl)) dX6_make_112 ⟨Nat.zero_le _, Nat.zero_le _⟩) hP hD hS hAz (fun r112 u112 H locs hw112 hP hD hS => ?_)
          have v112 : (fx_Maker_makeInPlace st o a1 b1 c1).1 = r112 := congrArg Prod.fst hw112.symm
          have w112 : (fx_Maker_makeInPlace st o a1 b1 c1).2 = u112 := congrArg Prod.snd hw112.symm
          have hf112 : XF [6, 7] [3, 4, 5, 6] [1] st u112 := by rw [← w112]; exact ff_Maker_makeInPlace st o a1 b1 c1
          try rw [v112] at hR
          try rw [w112] at hR
          exact W.iret (v := r112) hx hb hr (fun t ht hW => ⟨⟨_, _, rfl, hR, by rw [ht]; exact hP, va_K.moved hW.alike hK, hD⟩, hS.F ht⟩) hS.2.2 dX6_make_115
        · skip
          rw [if_neg c85] at hR
          refine lv_iload_n hx hb dX6_make_88 rfl (lv_at hl 5 rfl) ?_
          refine lv_iload hx hb dX6_make_89 (lv_at hl 1 rfl) ?_
          refine lv_icmp_le (tgt := 105) hx hb dX6_make_91 (by decide) (fun c91 => ?_) (fun c91 => ?_)
          · skip
            rw [if_pos c91] at hR
            refine lv_aload_n hx hb dX6_make_105 rfl (lv_at hl 3 rfl) ?_
            refine lv_iload_n hx hb dX6_make_106 rfl (lv_at hl 4 rfl) ?_
            refine lv_iload_n hx hb dX6_make_107 rfl (lv_at hl 5 rfl) ?_
            refine lv_iload hx hb dX6_make_108 (lv_at hl 1 rfl) ?_
            refine lv_iload hx hb dX6_make_110 (lv_at hl 0 rfl) ?_
            refine wl_mi (va_runV (As := [.int o, .int a1, .int b1, .int c1]) (rest := []) ⟨hx, hb, hml, hown, hta⟩ (kx_Maker_makeInPlace l dC dI a k st o a1 b1 c1 _ N hN h64 hA (fun h => hB2 (wl_bz h)) (fun h => hB2 (wl_ln h)) (fun h => hC2 (wl_ln h))) (cwV 4 hta gX6_73 rfl rfl rfl (by decide +kernel) ⟨Nat.le_of_ble_eq_true rfl, Nat.le_of_ble_eq_true rfl⟩) (wl_pM (C := RX6) (ci := 4) (q0 := 16) hK hP hD rfl (xr_16 a k st)) rfl rfl hl.1 rfl (lv_room (Nat.le_of_ble_eq_true rfl)) dX6_make_112 ⟨Nat.zero_le _, Nat.zero_le _⟩) hP hD hS hAz (fun r112 u112 H locs hw112 hP hD hS => ?_)
            have v112 : (fx_Maker_makeInPlace st o a1 b1 c1).1 = r112 := congrArg Prod.fst hw112.symm
            have w112 : (fx_Maker_makeInPlace st o a1 b1 c1).2 = u112 := congrArg Prod.snd hw112.symm
            have hf112 : XF [6, 7] [3, 4, 5, 6] [1] st u112 := by rw [← w112]; exact ff_Maker_makeInPlace st o a1 b1 c1
            try rw [v112] at hR
            try rw [w112] at hR
            exact W.iret (v := r112) hx hb hr (fun t ht hW => ⟨⟨_, _, rfl, hR, by rw [ht]; exact hP, va_K.moved hW.alike hK, hD⟩, hS.F ht⟩) hS.2.2 dX6_make_115
          · skip
            rw [if_neg c91] at hR
            refine lv_aload_n hx hb dX6_make_94 rfl (lv_at hl 3 rfl) ?_
            refine lv_iload_n hx hb dX6_make_95 rfl (lv_at hl 4 rfl) ?_
            refine lv_iload hx hb dX6_make_96 (lv_at hl 1 rfl) ?_
            refine lv_iload_n hx hb dX6_make_98 rfl (lv_at hl 5 rfl) ?_
            refine lv_iload hx hb dX6_make_99 (lv_at hl 0 rfl) ?_
            refine wl_mi (va_runV (As := [.int o, .int b1, .int a1, .int c1]) (rest := []) ⟨hx, hb, hml, hown, hta⟩ (kx_Maker_makeInPlace l dC dI a k st o b1 a1 c1 _ N hN h64 (hB2 (wl_chp c85 hO0 hO20)) (fun _ => hA) (fun _ => hA) (fun h => hC2 (wl_ln h))) (cwV 4 hta gX6_73 rfl rfl rfl (by decide +kernel) ⟨Nat.le_of_ble_eq_true rfl, Nat.le_of_ble_eq_true rfl⟩) (wl_pM (C := RX6) (ci := 4) (q0 := 16) hK hP hD rfl (xr_16 a k st)) rfl rfl hl.1 rfl (lv_room (Nat.le_of_ble_eq_true rfl)) dX6_make_101 ⟨Nat.zero_le _, Nat.zero_le _⟩) hP hD hS hAz (fun r101 u101 H locs hw101 hP hD hS => ?_)
            have v101 : (fx_Maker_makeInPlace st o b1 a1 c1).1 = r101 := congrArg Prod.fst hw101.symm
            have w101 : (fx_Maker_makeInPlace st o b1 a1 c1).2 = u101 := congrArg Prod.snd hw101.symm
            have hf101 : XF [6, 7] [3, 4, 5, 6] [1] st u101 := by rw [← w101]; exact ff_Maker_makeInPlace st o b1 a1 c1
            try rw [v101] at hR
            try rw [w101] at hR
            exact W.iret (v := r101) hx hb hr (fun t ht hW => ⟨⟨_, _, rfl, hR, by rw [ht]; exact hP, va_K.moved hW.alike hK, hD⟩, hS.F ht⟩) hS.2.2 dX6_make_104
      · skip
        rw [if_neg c46] at hR
        refine lv_aload_n hx hb dX6_make_49 rfl (lv_at hl 3 rfl) ?_
        refine va_get (D := (dC, dI)) (ci := 4) (v := .ref (a 7)) (C := RX6) (T := TX6) (N := 2) hx hb hta inX6 hown hK hP 16 (xr_16 a k st) rfl 0 (by decide) hf9 (fun _ h9 => h9) rfl dX6_make_50 ?_
        refine lv_aload_n hx hb dX6_make_53 rfl (lv_at hl 3 rfl) ?_
        refine va_get (D := (dC, dI)) (ci := 4) (v := .ref (a 7)) (C := RX6) (T := TX6) (N := 2) hx hb hta inX6 hown hK hP 16 (xr_16 a k st) rfl 0 (by decide) hf9 (fun _ h9 => h9) rfl dX6_make_54 ?_
        refine lv_iload_n hx hb dX6_make_57 rfl (lv_at hl 4 rfl) ?_
        refine lv_iload_n hx hb dX6_make_58 rfl (lv_at hl 5 rfl) ?_
        refine lv_iload hx hb dX6_make_59 (lv_at hl 1 rfl) ?_
        refine wl_ci (va_runV (As := [.int o, .int a1, .int b1]) (rest := [.ref (a 7)]) ⟨hx, hb, hml, hown, hta⟩ (kx_Terms_widthOfResult l dC dI a k st o a1 b1 hA (fun h => hB2 (by rw [h]; decide))) (cwV 3 hta gX6_56 rfl rfl rfl (by decide +kernel) ⟨Nat.le_of_ble_eq_true rfl, Nat.le_of_ble_eq_true rfl⟩) (wl_pR (C := RX4) (ci := 2) (q0 := 7) hK hP rfl (xr_7 a k st)) rfl rfl hl.1 rfl (lv_room (Nat.le_of_ble_eq_true rfl)) dX6_make_61 ⟨Nat.zero_le _, Nat.zero_le _⟩) ?_
        refine lv_aload_n hx hb dX6_make_64 rfl (lv_at hl 3 rfl) ?_
        refine va_get (D := (dC, dI)) (ci := 4) (v := .ref (a 13)) (C := RX6) (T := TX6) (N := 2) hx hb hta inX6 hown hK hP 16 (xr_16 a k st) rfl 1 (by decide) hf15 (fun _ h9 => h9) rfl dX6_make_65 ?_
        refine lv_iload_n hx hb dX6_make_68 rfl (lv_at hl 4 rfl) ?_
        refine lv_iload_n hx hb dX6_make_69 rfl (lv_at hl 5 rfl) ?_
        refine lv_iload hx hb dX6_make_70 (lv_at hl 1 rfl) ?_
        refine lv_iload hx hb dX6_make_72 (lv_at hl 0 rfl) ?_
        refine wl_cl (va_runV (As := [.int o, .int a1, .int b1, .int c1]) (rest := [.int (fx_Terms_widthOfResult st o a1 b1), .ref (a 7)]) ⟨hx, hb, hml, hown, hta⟩ (kx_Eval_applyToConstants l dC dI a k st o a1 b1 c1 hA (fun h => hB2 (wl_nb2 hO0 hO20 h)) (fun h => hC2 (by rw [h]; decide)) hT2 (wl_hv2 hV9 c46)) (cwV 4 hta gX6_60 rfl rfl rfl (by decide +kernel) ⟨Nat.le_of_ble_eq_true rfl, Nat.le_of_ble_eq_true rfl⟩) (wl_pR (C := RX5) (ci := 3) (q0 := 13) hK hP rfl (xr_13 a k st)) rfl rfl hl.1 rfl (lv_room (Nat.le_of_ble_eq_true rfl)) dX6_make_74 ⟨Nat.zero_le _, Nat.zero_le _⟩) ?_
        refine wl_mi (va_runV (As := [.int (fx_Terms_widthOfResult st o a1 b1), .long (fx_Eval_applyToConstants st o a1 b1 c1)]) (rest := []) ⟨hx, hb, hml, hown, hta⟩ (kx_Terms_findOrAddConstant l dC dI a k st (fx_Terms_widthOfResult st o a1 b1) (fx_Eval_applyToConstants st o a1 b1 c1) _ N hN h64) (cwV 2 hta gX6_66 rfl rfl rfl (by decide +kernel) ⟨Nat.le_of_ble_eq_true rfl, Nat.le_of_ble_eq_true rfl⟩) (wl_pM (C := RX4) (ci := 2) (q0 := 7) hK hP hD rfl (xr_7 a k st)) rfl rfl hl.1 rfl (lv_room (Nat.le_of_ble_eq_true rfl)) dX6_make_77 ⟨Nat.zero_le _, Nat.zero_le _⟩) hP hD hS hAz (fun r77 u77 H locs hw77 hP hD hS => ?_)
        have v77 : (fx_Terms_findOrAddConstant st (fx_Terms_widthOfResult st o a1 b1) (fx_Eval_applyToConstants st o a1 b1 c1)).1 = r77 := congrArg Prod.fst hw77.symm
        have w77 : (fx_Terms_findOrAddConstant st (fx_Terms_widthOfResult st o a1 b1) (fx_Eval_applyToConstants st o a1 b1 c1)).2 = u77 := congrArg Prod.snd hw77.symm
        have hf77 : XF [6] [3, 4] [1] st u77 := by rw [← w77]; exact ff_Terms_findOrAddConstant st (fx_Terms_widthOfResult st o a1 b1) (fx_Eval_applyToConstants st o a1 b1 c1)
        try rw [v77] at hR
        try rw [w77] at hR
        exact W.iret (v := r77) hx hb hr (fun t ht hW => ⟨⟨_, _, rfl, hR, by rw [ht]; exact hP, va_K.moved hW.alike hK, hD⟩, hS.F ht⟩) hS.2.2 dX6_make_80
