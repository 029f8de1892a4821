theorem wl_snd {Is As Ls : List Nat} {α : Type} {r : α} {st S : XS} (h : XF Is As Ls st S) : XF Is As Ls st ((r, S) : α × XS).2 := h
def XW (st : XS) (V N E Bt : Nat) : Prop := gI st 4 = nI V ∧ V ≤ 4 ∧ gI st 5 = nI Bt ∧ Bt ≤ 10 ∧ gI st 6 = nI N ∧ N ≤ 64 ∧ gI st 9 = nI E ∧ E ≤ 16 ∧ XT st V N ∧ XM st N ∧ (∀ i : Nat, i < E → vp_in (fA st 10 i) N) ∧ ∃ MV : Nat, gI st 1 = nI MV ∧ MV ≤ V
theorem wl_adm {st : XS} {V : Nat} {b : Int32} (hV : gI st 4 = nI V) (hV4 : V ≤ 4) (c : ¬ fx_Vars_admits st b = 0) : V < 4 := by
  rcases Nat.lt_or_ge V 4 with h | h
  · exact h
  · refine absurd ?_ c
    rw [fx_Vars_admits]
    by_cases c1 : b < (1 : Int32)
    · rw [if_pos c1]
    · rw [if_neg c1]
      by_cases c2 : (8 : Int32) < b
      · rw [if_pos c2]
      · rw [if_neg c2, if_pos (show (4 : Int32) ≤ gI st 4 from by rw [hV]; exact nI_le (a := 4) h (by omega))]
theorem wl_ti {t i : Int32} (h1 : ¬ fx_Tabs_isTable t = 0) (h2 : ¬ fx_Tabs_isPlace i = 0) : vp_in (t * (8 : Int32) + i) 16 := by
  have e1 : ∃ a : Nat, a < 2 ∧ t = nI a := by
    rw [fx_Tabs_isTable] at h1
    by_cases c1 : t < (0 : Int32)
    · rw [if_pos c1] at h1; exact absurd rfl h1
    · rw [if_neg c1] at h1
      by_cases c2 : (2 : Int32) ≤ t
      · rw [if_pos c2] at h1; exact absurd rfl h1
      · rcases pk_ix t (n := 2) (by decide) with h | h | h
        · exact absurd h c1
        · exact absurd h c2
        · exact h
  have e2 : ∃ a : Nat, a < 8 ∧ i = nI a := by
    rw [fx_Tabs_isPlace] at h2
    by_cases c1 : i < (0 : Int32)
    · rw [if_pos c1] at h2; exact absurd rfl h2
    · rw [if_neg c1] at h2
      by_cases c2 : (8 : Int32) ≤ i
      · rw [if_pos c2] at h2; exact absurd rfl h2
      · rcases pk_ix i (n := 8) (by decide) with h | h | h
        · exact absurd h c1
        · exact absurd h c2
        · exact h
  obtain ⟨a, ha, rfl⟩ := e1
  obtain ⟨b, hb, rfl⟩ := e2
  rw [show (8 : Int32) = nI 8 from rfl, pk_mul, nI_add]
  exact vp_in_nI (by omega) (by decide)
theorem wl_pf {st : XS} {E : Nat} (hE : gI st 9 = nI E) (h : E ≤ 16) (c : fx_Path_isFull st = 0) : E < 16 := by
  rcases Nat.lt_or_ge E 16 with q | q
  · exact q
  · rw [fx_Path_isFull, hE, if_neg (show ¬ nI E < (16 : Int32) from nI_nlt (b := 16) q (by omega))] at c
    exact absurd c (by decide)
theorem wl_ixn {x y : Int32} {n : Nat} (hn : n < 2147483648) (hy : y = nI n) (h0 : ¬ x < (0 : Int32)) (h : x < y) : ∃ j : Nat, j < n ∧ x = nI j := by
  rcases pk_ix x (n := n) hn with q | q | q
  · exact absurd q h0
  · rw [hy] at h; exact absurd q (Int32.not_le.mpr h)
  · exact q
theorem wl_mvx {x y : Int32} {n : Nat} (hn : n ≤ 4) (hy : y = nI n) (h0 : ¬ x < (0 : Int32)) (h : x < y) : vp_in x 4 := by
  obtain ⟨j, hj, rfl⟩ := wl_ixn (by omega) hy h0 h
  exact wl_in (by omega) (by decide)
theorem wl_nm_le (o : Int32) : fx_Op_named o ≤ (3 : Int32) := by
  rw [fx_Op_named]
  (repeat' split) <;> decide
theorem wl_opd {t i o : Int32} (ht : vp_in t 64) (h0 : ¬ i < (0 : Int32)) (h : i < fx_Op_named o) : vp_in (t * (3 : Int32) + i) 192 := by
  obtain ⟨T, hT, rfl⟩ := vp_in_of ht (by decide)
  obtain ⟨j, hj, rfl⟩ := wl_ixn (n := 3) (by decide) rfl h0 (Int32.lt_of_lt_of_le h (wl_nm_le o))
  exact wl_i3 j hT hj
theorem wl_bnd {L lim : Int32} {E : Nat} (hL : L = nI E) (hE : E ≤ 16) : ∃ B : Nat, (if (0 : Int32) < (if L < lim then L else lim) then (if L < lim then L else lim) else (0 : Int32)) = nI B ∧ B ≤ E := by
  by_cases h : L < lim
  · rw [if_pos h]
    by_cases h2 : (0 : Int32) < L
    · rw [if_pos h2]; exact ⟨E, hL, Nat.le_refl _⟩
    · rw [if_neg h2]; exact ⟨0, rfl, Nat.zero_le _⟩
  · rw [if_neg h]
    by_cases h2 : (0 : Int32) < lim
    · rw [if_pos h2]
      rcases pk_ix lim (n := E + 1) (by omega) with q | q | ⟨j, hj, q⟩
      · exact absurd (Int32.lt_trans h2 q) (by decide)
      · exact absurd (by rw [hL]; exact Int32.lt_of_lt_of_le (nI_lt (Nat.lt_succ_self E) (by omega)) q) h
      · exact ⟨j, q, by omega⟩
    · rw [if_neg h2]; exact ⟨0, rfl, Nat.zero_le _⟩

theorem mw_200 : (.fieldLink RX9 12 RX9 "variables" "LPathSolver$Variables;" : Cond) ∈ AW := List.mem_filter.mpr ⟨List.mem_of_getElem? (i := 200) (by decide +kernel), rfl⟩
theorem mw_241 : (.code yX2_admits cX2_admits 2 (some .boolean) : Cond) ∈ AW := List.mem_filter.mpr ⟨List.mem_of_getElem? (i := 241) (by decide +kernel), rfl⟩
theorem mw_238 : (.methodLink RX9 81 yX2_admits : Cond) ∈ AW := List.mem_filter.mpr ⟨List.mem_of_getElem? (i := 238) (by decide +kernel), rfl⟩
theorem mw_239 : (.instanceMethod yX2_admits : Cond) ∈ AW := List.mem_filter.mpr ⟨List.mem_of_getElem? (i := 239) (by decide +kernel), rfl⟩
theorem mw_240 : (.selects RX2 yX2_admits yX2_admits : Cond) ∈ AW := List.mem_filter.mpr ⟨List.mem_of_getElem? (i := 240) (by decide +kernel), rfl⟩
theorem mw_202 : (.fieldLink RX9 28 RX9 "terms" "LPathSolver$Terms;" : Cond) ∈ AW := List.mem_filter.mpr ⟨List.mem_of_getElem? (i := 202) (by decide +kernel), rfl⟩
theorem mw_242 : (.methodLink RX9 85 yX4_isFull : Cond) ∈ AW := List.mem_filter.mpr ⟨List.mem_of_getElem? (i := 242) (by decide +kernel), rfl⟩
theorem mw_249 : (.code yX2_add cX2_add 3 (some .int) : Cond) ∈ AW := List.mem_filter.mpr ⟨List.mem_of_getElem? (i := 249) (by decide +kernel), rfl⟩
theorem mw_246 : (.methodLink RX9 89 yX2_add : Cond) ∈ AW := List.mem_filter.mpr ⟨List.mem_of_getElem? (i := 246) (by decide +kernel), rfl⟩
theorem mw_247 : (.instanceMethod yX2_add : Cond) ∈ AW := List.mem_filter.mpr ⟨List.mem_of_getElem? (i := 247) (by decide +kernel), rfl⟩
theorem mw_248 : (.selects RX2 yX2_add yX2_add : Cond) ∈ AW := List.mem_filter.mpr ⟨List.mem_of_getElem? (i := 248) (by decide +kernel), rfl⟩
theorem mw_257 : (.code yX4_addVariable cX4_addVariable 3 (some .int) : Cond) ∈ AW := List.mem_filter.mpr ⟨List.mem_of_getElem? (i := 257) (by decide +kernel), rfl⟩
theorem mw_254 : (.methodLink RX9 93 yX4_addVariable : Cond) ∈ AW := List.mem_filter.mpr ⟨List.mem_of_getElem? (i := 254) (by decide +kernel), rfl⟩
theorem mw_255 : (.instanceMethod yX4_addVariable : Cond) ∈ AW := List.mem_filter.mpr ⟨List.mem_of_getElem? (i := 255) (by decide +kernel), rfl⟩
theorem mw_256 : (.selects RX4 yX4_addVariable yX4_addVariable : Cond) ∈ AW := List.mem_filter.mpr ⟨List.mem_of_getElem? (i := 256) (by decide +kernel), rfl⟩
theorem gX9_81 : GoodIn AW (wsV RX9 81 RX2 yX2_admits wsX2_admits) := aw_V mw_238 mw_239 mw_240 mw_39 mw_241
theorem gX9_85 : GoodIn AW (wsV RX9 85 RX4 yX4_isFull wsX4_isFull) := aw_V mw_242 mw_243 mw_244 mw_41 mw_245
theorem gX9_89 : GoodIn AW (wsV RX9 89 RX2 yX2_add wsX2_add) := aw_V mw_246 mw_247 mw_248 mw_39 mw_249
theorem gX9_93 : GoodIn AW (wsV RX9 93 RX4 yX4_addVariable wsX4_addVariable) := aw_V mw_254 mw_255 mw_256 mw_41 mw_257
theorem dX9_variable_0 : decode cX9_variable 0 = .ok (.aload_n 0, 1) := by decide +kernel
theorem dX9_variable_1 : decode cX9_variable 1 = .ok (.getfield 12, 3) := by decide +kernel
theorem dX9_variable_4 : decode cX9_variable 4 = .ok (.iload_n 1, 1) := by decide +kernel
theorem dX9_variable_5 : decode cX9_variable 5 = .ok (.invokevirtual 81, 3) := by decide +kernel
theorem dX9_variable_8 : decode cX9_variable 8 = .ok (.ifCond .ne 5, 3) := by decide +kernel
theorem dX9_variable_11 : decode cX9_variable 11 = .ok (.iconst (-1), 1) := by decide +kernel
theorem dX9_variable_12 : decode cX9_variable 12 = .ok (.ireturn, 1) := by decide +kernel
theorem dX9_variable_13 : decode cX9_variable 13 = .ok (.aload_n 0, 1) := by decide +kernel
theorem dX9_variable_14 : decode cX9_variable 14 = .ok (.getfield 28, 3) := by decide +kernel
theorem dX9_variable_17 : decode cX9_variable 17 = .ok (.invokevirtual 85, 3) := by decide +kernel
theorem dX9_variable_20 : decode cX9_variable 20 = .ok (.ifCond .eq 6, 3) := by decide +kernel
theorem dX9_variable_23 : decode cX9_variable 23 = .ok (.bipush (-2), 2) := by decide +kernel
theorem dX9_variable_25 : decode cX9_variable 25 = .ok (.ireturn, 1) := by decide +kernel
theorem dX9_variable_26 : decode cX9_variable 26 = .ok (.aload_n 0, 1) := by decide +kernel
theorem dX9_variable_27 : decode cX9_variable 27 = .ok (.getfield 28, 3) := by decide +kernel
theorem dX9_variable_30 : decode cX9_variable 30 = .ok (.aload_n 0, 1) := by decide +kernel
theorem dX9_variable_31 : decode cX9_variable 31 = .ok (.getfield 12, 3) := by decide +kernel
theorem dX9_variable_34 : decode cX9_variable 34 = .ok (.iload_n 1, 1) := by decide +kernel
theorem dX9_variable_35 : decode cX9_variable 35 = .ok (.iload_n 2, 1) := by decide +kernel
theorem dX9_variable_36 : decode cX9_variable 36 = .ok (.invokevirtual 89, 3) := by decide +kernel
theorem dX9_variable_39 : decode cX9_variable 39 = .ok (.invokevirtual 93, 3) := by decide +kernel
theorem dX9_variable_42 : decode cX9_variable 42 = .ok (.ireturn, 1) := by decide +kernel
def fx_PS_variable (st : XS) (b : Int32) (sg : Int32) : Int32 × XS := 
  if fx_Vars_admits st b = (0 : Int32) then ((-1 : Int32), st)
  else 
    if fx_Terms_isFull st = (0 : Int32) then (((fx_Terms_addVariable (((fx_Vars_add st b sg).2)) (((fx_Vars_add st b sg).1))).1), ((fx_Terms_addVariable (((fx_Vars_add st b sg).2)) (((fx_Vars_add st b sg).1))).2))
    else ((-2 : Int32), st)
theorem ff_PS_variable (st : XS) (b : Int32) (sg : Int32) : XF [4, 5, 6] [0, 1, 2, 3, 4, 5] [] st (fx_PS_variable st b sg).2 := by
  rw [fx_PS_variable]
  exact (wl_ite (P := fun (q : Int32 × XS) => XF [4, 5, 6] [0, 1, 2, 3, 4, 5] [] _ (q.2)) (wl_snd XF.rf) (wl_ite (P := fun (q : Int32 × XS) => XF [4, 5, 6] [0, 1, 2, 3, 4, 5] [] _ (q.2)) (wl_snd (XF.tr (XF.tr XF.rf (XF.mono (ff_Vars_add _ _ _) (by decide) (by decide) (by decide))) (XF.mono (ff_Terms_addVariable _ _) (by decide) (by decide) (by decide)))) (wl_snd XF.rf)))
set_option maxHeartbeats 4000000 in
set_option maxRecDepth 100000 in
theorem kx_PS_variable (l : Launch) (dC : Nat → ClassId) (dI : Nat → Nat → Nat) (a : Nat → Nat) (k : Nat → ClassId) (st : XS) (b : Int32) (sg : Int32) (sz : Nat) (V : Nat) (N : Nat) (E : Nat) (Bt : Nat) (hW : XW st V N E Bt) : Met l yX9_variable wsX9_variable ({ frames := 2, cells := 0, slots := 0, locals := 44 }) (va_Pc [.ref (a 0), .int b, .int sg] (wl_pre (dC, dI) vwCl (xt k) (xw a k) st sz)) (va_Qi (fun r9 u9 => (r9, u9) = fx_PS_variable st b sg) (wl_at (dC, dI) vwCl (xt k) (xw a k) (va_A (xw a k st) sz)) (va_A (xw a k st) sz)) 0 0 (va_A (xw a k st) sz) := by
  refine Met.ofW (cc := cX9_variable) (maxL := 3) (ret := (some .int)) (by decide) rfl ?_
  intro p e s m args below meth c s₁ B hml hv
  obtain ⟨rfl, hsz, hP, hK, hD0⟩ := hv
  have hx := B.exec
  have hb := B.bytes
  have hr := B.returns
  have hta := aw_hts (atoms_spec (ws := wsX9_variable) B.pre)
  have hown : s.vm.findClass RX9 = some m.cls := findClass_of_methodNamed B.named
  have hlocks := B.notSynchronized
  have hf12 := hta _ mw_200
  have hf28 := hta _ mw_202
  subst hsz
  have hD := hD0.self (sz := s.heap.size)
  generalize hAe : va_A (xw a k st) s.heap.size = A at hD ⊢
  have hAz : ∀ q : Nat, s.heap.size ≤ q → A q := fun q h => by rw [← hAe]; exact Or.inr h
  have hS : va_S A s.heap s.heap [] := va_S.rf
  have hl := lv_entry ([.ref (a 0), .int b, .int sg]) (n := 3) (Nat.le_of_ble_eq_true rfl)
  rw [lg_entry_eq]
  generalize (lg_sl ([.ref (a 0), .int b, .int sg]) ++ List.replicate (3 - (lg_sl ([.ref (a 0), .int b, .int sg])).length) Slot.unset).toArray = ls at hl ⊢
  have hl : lv_has ls 3 [(0, .ref (a 0)), (1, .int b), (2, .int sg)] := hl
  generalize hR : fx_PS_variable st b sg = R
  rw [fx_PS_variable] at hR
  obtain ⟨hV, hV4, hBt, hBt10, hN, h64, hEl, hE16, hX, hM0, hcN, MV, hMV, hMVV⟩ := id hW
  have hcd : ∀ j : Nat, j < E → vp_in (fA st 10 j) 64 := fun j hj => vp_up (hcN j hj) h64
  refine lv_aload_n hx hb dX9_variable_0 rfl (lv_at hl 0 rfl) ?_
  refine va_get (D := (dC, dI)) (ci := 7) (v := .ref (a 1)) (C := RX9) (T := TX9) (N := 11) hx hb hta inX9 hown hK hP 0 (xr_0 a k st) rfl 0 (by decide) hf12 (fun _ h9 => h9) rfl dX9_variable_1 ?_
  refine lv_iload_n hx hb dX9_variable_4 rfl (lv_at hl 1 rfl) ?_
  refine wl_ci (va_runV (As := [.int b]) (rest := []) ⟨hx, hb, hml, hown, hta⟩ (kx_Vars_admits l dC dI a k st b) (cwV 1 hta gX9_81 rfl rfl rfl (by decide +kernel) ⟨Nat.le_of_ble_eq_true rfl, Nat.le_of_ble_eq_true rfl⟩) (wl_pR (C := RX2) (ci := 0) (q0 := 1) hK hP rfl (xr_1 a k st)) rfl rfl hl.1 rfl (lv_room (Nat.le_of_ble_eq_true rfl)) dX9_variable_5 ⟨Nat.zero_le _, Nat.zero_le _⟩) ?_
  refine lv_if_ne (tgt := 13) hx hb dX9_variable_8 (by decide) (fun c8 => ?_) (fun c8 => ?_)
  · skip
    rw [if_neg c8] at hR
    refine lv_aload_n hx hb dX9_variable_13 rfl (lv_at hl 0 rfl) ?_
    refine va_get (D := (dC, dI)) (ci := 7) (v := .ref (a 7)) (C := RX9) (T := TX9) (N := 11) hx hb hta inX9 hown hK hP 0 (xr_0 a k st) rfl 2 (by decide) hf28 (fun _ h9 => h9) rfl dX9_variable_14 ?_
    refine wl_ci (va_runV (As := []) (rest := []) ⟨hx, hb, hml, hown, hta⟩ (kx_Terms_isFull l dC dI a k st) (cwV 0 hta gX9_85 rfl rfl rfl (by decide +kernel) ⟨Nat.le_of_ble_eq_true rfl, Nat.le_of_ble_eq_true rfl⟩) (wl_pR (C := RX4) (ci := 2) (q0 := 7) hK hP rfl (xr_7 a k st)) rfl rfl hl.1 rfl (lv_room (Nat.le_of_ble_eq_true rfl)) dX9_variable_17 ⟨Nat.zero_le _, Nat.zero_le _⟩) ?_
    refine lv_if_eq (tgt := 26) hx hb dX9_variable_20 (by decide) (fun c20 => ?_) (fun c20 => ?_)
    · skip
      rw [if_pos c20] at hR
      refine lv_aload_n hx hb dX9_variable_26 rfl (lv_at hl 0 rfl) ?_
      refine va_get (D := (dC, dI)) (ci := 7) (v := .ref (a 7)) (C := RX9) (T := TX9) (N := 11) hx hb hta inX9 hown hK hP 0 (xr_0 a k st) rfl 2 (by decide) hf28 (fun _ h9 => h9) rfl dX9_variable_27 ?_
      refine lv_aload_n hx hb dX9_variable_30 rfl (lv_at hl 0 rfl) ?_
      refine va_get (D := (dC, dI)) (ci := 7) (v := .ref (a 1)) (C := RX9) (T := TX9) (N := 11) hx hb hta inX9 hown hK hP 0 (xr_0 a k st) rfl 0 (by decide) hf12 (fun _ h9 => h9) rfl dX9_variable_31 ?_
      refine lv_iload_n hx hb dX9_variable_34 rfl (lv_at hl 1 rfl) ?_
      refine lv_iload_n hx hb dX9_variable_35 rfl (lv_at hl 2 rfl) ?_
      refine wl_mi (va_runV (As := [.int b, .int sg]) (rest := [.ref (a 7)]) ⟨hx, hb, hml, hown, hta⟩ (kx_Vars_add l dC dI a k st b sg _ (by rw [hV]; exact wl_in (wl_adm hV hV4 c8) (by decide))) (cwV 2 hta gX9_89 rfl rfl rfl (by decide +kernel) ⟨Nat.le_of_ble_eq_true rfl, Nat.le_of_ble_eq_true rfl⟩) (wl_pM (C := RX2) (ci := 0) (q0 := 1) hK hP hD rfl (xr_1 a k st)) rfl rfl hl.1 rfl (lv_room (Nat.le_of_ble_eq_true rfl)) dX9_variable_36 ⟨Nat.zero_le _, Nat.zero_le _⟩) hP hD hS hAz (fun r36 u36 H locs hw36 hP hD hS => ?_)
      have v36 : (fx_Vars_add st b sg).1 = r36 := congrArg Prod.fst hw36.symm
      have w36 : (fx_Vars_add st b sg).2 = u36 := congrArg Prod.snd hw36.symm
      have hf36 : XF [4, 5] [0, 1, 2] [] st u36 := by rw [← w36]; exact ff_Vars_add st b sg
      try rw [v36] at hR
      try rw [w36] at hR
      refine wl_mi (va_runV (As := [.int (r36)]) (rest := []) ⟨hx, hb, hml, hown, hta⟩ (kx_Terms_addVariable l dC dI a k (u36) (r36) _ N ((hf36.I 6 (by decide)).trans hN) (wl_isFullN hN h64 c20)) (cwV 1 hta gX9_93 rfl rfl rfl (by decide +kernel) ⟨Nat.le_of_ble_eq_true rfl, Nat.le_of_ble_eq_true rfl⟩) (wl_pM (C := RX4) (ci := 2) (q0 := 7) hK hP hD rfl (xr_7 a k (u36))) rfl rfl hl.1 rfl (lv_room (Nat.le_of_ble_eq_true rfl)) dX9_variable_39 ⟨Nat.zero_le _, Nat.zero_le _⟩) hP hD hS hAz (fun r39 u39 H locs hw39 hP hD hS => ?_)
      have v39 : (fx_Terms_addVariable (u36) (r36)).1 = r39 := congrArg Prod.fst hw39.symm
      have w39 : (fx_Terms_addVariable (u36) (r36)).2 = u39 := congrArg Prod.snd hw39.symm
      have hf39 : XF [6] [3, 4, 5] [] (u36) u39 := by rw [← w39]; exact ff_Terms_addVariable (u36) (r36)
      try rw [v39] at hR
      try rw [w39] at hR
      exact W.iret (v := r39) hx hb hr (fun t ht hW => ⟨⟨_, _, rfl, hR, by rw [ht]; exact hP, va_K.moved hW.alike hK, hD⟩, hS.F ht⟩) hS.2.2 dX9_variable_42
    · skip
      rw [if_neg c20] at hR
      refine lv_bipush (v := (-2 : Int32)) hx hb dX9_variable_23 (by decide) ?_
      exact W.iret (v := (-2 : Int32)) hx hb hr (fun t ht hW => ⟨⟨_, _, rfl, hR, by rw [ht]; exact hP, va_K.moved hW.alike hK, hD⟩, hS.F ht⟩) hS.2.2 dX9_variable_25
  · skip
    rw [if_pos c8] at hR
    refine lv_iconst (v := (-1 : Int32)) hx hb dX9_variable_11 (by decide) ?_
    exact W.iret (v := (-1 : Int32)) hx hb hr (fun t ht hW => ⟨⟨_, _, rfl, hR, by rw [ht]; exact hP, va_K.moved hW.alike hK, hD⟩, hS.F ht⟩) hS.2.2 dX9_variable_12

theorem mw_266 : (.methodLink RX9 97 yX0_isOne : Cond) ∈ AW := List.mem_filter.mpr ⟨List.mem_of_getElem? (i := 266) (by decide +kernel), rfl⟩
theorem mw_269 : (.methodLink RX9 102 yX4_findOrAddConstant : Cond) ∈ AW := List.mem_filter.mpr ⟨List.mem_of_getElem? (i := 269) (by decide +kernel), rfl⟩
theorem gX9_97 : GoodIn AW (va_wsS RX9 97 yX0_isOne wsX0_isOne) := aw_S mw_266 mw_267 mw_47 mw_268
theorem gX9_102 : GoodIn AW (wsV RX9 102 RX4 yX4_findOrAddConstant wsX4_findOrAddConstant) := aw_V mw_269 mw_270 mw_271 mw_41 mw_272
theorem dX9_constant_0 : decode cX9_constant 0 = .ok (.iload_n 1, 1) := by decide +kernel
theorem dX9_constant_1 : decode cX9_constant 1 = .ok (.invokestatic 97, 3) := by decide +kernel
theorem dX9_constant_4 : decode cX9_constant 4 = .ok (.ifCond .ne 5, 3) := by decide +kernel
theorem dX9_constant_7 : decode cX9_constant 7 = .ok (.iconst (-1), 1) := by decide +kernel
theorem dX9_constant_8 : decode cX9_constant 8 = .ok (.ireturn, 1) := by decide +kernel
theorem dX9_constant_9 : decode cX9_constant 9 = .ok (.aload_n 0, 1) := by decide +kernel
theorem dX9_constant_10 : decode cX9_constant 10 = .ok (.getfield 28, 3) := by decide +kernel
theorem dX9_constant_13 : decode cX9_constant 13 = .ok (.iload_n 1, 1) := by decide +kernel
theorem dX9_constant_14 : decode cX9_constant 14 = .ok (.lload_n 2, 1) := by decide +kernel
theorem dX9_constant_15 : decode cX9_constant 15 = .ok (.invokevirtual 102, 3) := by decide +kernel
theorem dX9_constant_18 : decode cX9_constant 18 = .ok (.ireturn, 1) := by decide +kernel
def fx_PS_constant (st : XS) (w : Int32) (x : Int64) : Int32 × XS := 
  if fx_Width_isOne w = (0 : Int32) then ((-1 : Int32), st)
  else (((fx_Terms_findOrAddConstant st w x).1), ((fx_Terms_findOrAddConstant st w x).2))
theorem ff_PS_constant (st : XS) (w : Int32) (x : Int64) : XF [6] [3, 4] [1] st (fx_PS_constant st w x).2 := by
  rw [fx_PS_constant]
  exact (wl_ite (P := fun (q : Int32 × XS) => XF [6] [3, 4] [1] _ (q.2)) (wl_snd XF.rf) (wl_snd (XF.tr XF.rf (XF.mono (ff_Terms_findOrAddConstant _ _ _) (by decide) (by decide) (by decide)))))
set_option maxHeartbeats 4000000 in
set_option maxRecDepth 100000 in
theorem kx_PS_constant (l : Launch) (dC : Nat → ClassId) (dI : Nat → Nat → Nat) (a : Nat → Nat) (k : Nat → ClassId) (st : XS) (w : Int32) (x : Int64) (sz : Nat) (V : Nat) (N : Nat) (E : Nat) (Bt : Nat) (hW : XW st V N E Bt) : Met l yX9_constant wsX9_constant ({ frames := 2, cells := 0, slots := 0, locals := 49 }) (va_Pc [.ref (a 0), .int w, .long x] (wl_pre (dC, dI) vwCl (xt k) (xw a k) st sz)) (va_Qi (fun r9 u9 => (r9, u9) = fx_PS_constant st w x) (wl_at (dC, dI) vwCl (xt k) (xw a k) (va_A (xw a k st) sz)) (va_A (xw a k st) sz)) 0 0 (va_A (xw a k st) sz) := by
  refine Met.ofW (cc := cX9_constant) (maxL := 4) (ret := (some .int)) (by decide) rfl ?_
  intro p e s m args below meth c s₁ B hml hv
  obtain ⟨rfl, hsz, hP, hK, hD0⟩ := hv
  have hx := B.exec
  have hb := B.bytes
  have hr := B.returns
  have hta := aw_hts (atoms_spec (ws := wsX9_constant) B.pre)
  have hown : s.vm.findClass RX9 = some m.cls := findClass_of_methodNamed B.named
  have hlocks := B.notSynchronized
  have hf28 := hta _ mw_202
  subst hsz
  have hD := hD0.self (sz := s.heap.size)
  generalize hAe : va_A (xw a k st) s.heap.size = A at hD ⊢
  have hAz : ∀ q : Nat, s.heap.size ≤ q → A q := fun q h => by rw [← hAe]; exact Or.inr h
  have hS : va_S A s.heap s.heap [] := va_S.rf
  have hl := lv_entry ([.ref (a 0), .int w, .long x]) (n := 4) (Nat.le_of_ble_eq_true rfl)
  rw [lg_entry_eq]
  generalize (lg_sl ([.ref (a 0), .int w, .long x]) ++ List.replicate (4 - (lg_sl ([.ref (a 0), .int w, .long x])).length) Slot.unset).toArray = ls at hl ⊢
  have hl : lv_has ls 4 [(0, .ref (a 0)), (1, .int w), (2, .long x)] := hl
  generalize hR : fx_PS_constant st w x = R
  rw [fx_PS_constant] at hR
  obtain ⟨hV, hV4, hBt, hBt10, hN, h64, hEl, hE16, hX, hM0, hcN, MV, hMV, hMVV⟩ := id hW
  have hcd : ∀ j : Nat, j < E → vp_in (fA st 10 j) 64 := fun j hj => vp_up (hcN j hj) h64
  refine lv_iload_n hx hb dX9_constant_0 rfl (lv_at hl 1 rfl) ?_
  refine wl_ci (va_runS (As := [.int w]) (rest := []) ⟨hx, hb, hml, hown, hta⟩ (kx_Width_isOne l w) (va_cwS 1 hta gX9_97 rfl rfl rfl (by decide +kernel) ⟨Nat.le_of_ble_eq_true rfl, Nat.le_of_ble_eq_true rfl⟩) preEq rfl rfl hl.1 rfl (lv_room (Nat.le_of_ble_eq_true rfl)) dX9_constant_1 ⟨Nat.zero_le _, Nat.zero_le _⟩) ?_
  refine lv_if_ne (tgt := 9) hx hb dX9_constant_4 (by decide) (fun c4 => ?_) (fun c4 => ?_)
  · skip
    rw [if_neg c4] at hR
    refine lv_aload_n hx hb dX9_constant_9 rfl (lv_at hl 0 rfl) ?_
    refine va_get (D := (dC, dI)) (ci := 7) (v := .ref (a 7)) (C := RX9) (T := TX9) (N := 11) hx hb hta inX9 hown hK hP 0 (xr_0 a k st) rfl 2 (by decide) hf28 (fun _ h9 => h9) rfl dX9_constant_10 ?_
    refine lv_iload_n hx hb dX9_constant_13 rfl (lv_at hl 1 rfl) ?_
    refine lv_lload_n hx hb dX9_constant_14 rfl (lv_at hl 2 rfl) ?_
    refine wl_mi (va_runV (As := [.int w, .long x]) (rest := []) ⟨hx, hb, hml, hown, hta⟩ (kx_Terms_findOrAddConstant l dC dI a k st w x _ N hN h64) (cwV 2 hta gX9_102 rfl rfl rfl (by decide +kernel) ⟨Nat.le_of_ble_eq_true rfl, Nat.le_of_ble_eq_true rfl⟩) (wl_pM (C := RX4) (ci := 2) (q0 := 7) hK hP hD rfl (xr_7 a k st)) rfl rfl hl.1 rfl (lv_room (Nat.le_of_ble_eq_true rfl)) dX9_constant_15 ⟨Nat.zero_le _, Nat.zero_le _⟩) hP hD hS hAz (fun r15 u15 H locs hw15 hP hD hS => ?_)
    have v15 : (fx_Terms_findOrAddConstant st w x).1 = r15 := congrArg Prod.fst hw15.symm
    have w15 : (fx_Terms_findOrAddConstant st w x).2 = u15 := congrArg Prod.snd hw15.symm
    have hf15 : XF [6] [3, 4] [1] st u15 := by rw [← w15]; exact ff_Terms_findOrAddConstant st w x
    try rw [v15] at hR
    try rw [w15] at hR
    exact W.iret (v := r15) hx hb hr (fun t ht hW => ⟨⟨_, _, rfl, hR, by rw [ht]; exact hP, va_K.moved hW.alike hK, hD⟩, hS.F ht⟩) hS.2.2 dX9_constant_18
  · skip
    rw [if_pos c4] at hR
    refine lv_iconst (v := (-1 : Int32)) hx hb dX9_constant_7 (by decide) ?_
    exact W.iret (v := (-1 : Int32)) hx hb hr (fun t ht hW => ⟨⟨_, _, rfl, hR, by rw [ht]; exact hP, va_K.moved hW.alike hK, hD⟩, hS.F ht⟩) hS.2.2 dX9_constant_8

theorem mw_285 : (.methodLink RX9 106 yX3_isTable : Cond) ∈ AW := List.mem_filter.mpr ⟨List.mem_of_getElem? (i := 285) (by decide +kernel), rfl⟩
theorem mw_290 : (.code yX3_isPlace cX3_isPlace 1 (some .boolean) : Cond) ∈ AW := List.mem_filter.mpr ⟨List.mem_of_getElem? (i := 290) (by decide +kernel), rfl⟩
theorem mw_288 : (.methodLink RX9 109 yX3_isPlace : Cond) ∈ AW := List.mem_filter.mpr ⟨List.mem_of_getElem? (i := 288) (by decide +kernel), rfl⟩
theorem mw_289 : (.static yX3_isPlace : Cond) ∈ AW := List.mem_filter.mpr ⟨List.mem_of_getElem? (i := 289) (by decide +kernel), rfl⟩
theorem mw_201 : (.fieldLink RX9 21 RX9 "tables" "LPathSolver$Tables;" : Cond) ∈ AW := List.mem_filter.mpr ⟨List.mem_of_getElem? (i := 201) (by decide +kernel), rfl⟩
theorem mw_294 : (.code yX3_set cX3_set 4 none : Cond) ∈ AW := List.mem_filter.mpr ⟨List.mem_of_getElem? (i := 294) (by decide +kernel), rfl⟩
theorem mw_291 : (.methodLink RX9 112 yX3_set : Cond) ∈ AW := List.mem_filter.mpr ⟨List.mem_of_getElem? (i := 291) (by decide +kernel), rfl⟩
theorem mw_292 : (.instanceMethod yX3_set : Cond) ∈ AW := List.mem_filter.mpr ⟨List.mem_of_getElem? (i := 292) (by decide +kernel), rfl⟩
theorem mw_293 : (.selects RX3 yX3_set yX3_set : Cond) ∈ AW := List.mem_filter.mpr ⟨List.mem_of_getElem? (i := 293) (by decide +kernel), rfl⟩
theorem mw_205 : (.fieldLink RX9 55 RX9 "rows" "LPathSolver$TruthRows;" : Cond) ∈ AW := List.mem_filter.mpr ⟨List.mem_of_getElem? (i := 205) (by decide +kernel), rfl⟩
theorem mw_299 : (.code yX7_forgetReadersOf cX7_forgetReadersOf 4 none : Cond) ∈ AW := List.mem_filter.mpr ⟨List.mem_of_getElem? (i := 299) (by decide +kernel), rfl⟩
theorem mw_296 : (.methodLink RX9 116 yX7_forgetReadersOf : Cond) ∈ AW := List.mem_filter.mpr ⟨List.mem_of_getElem? (i := 296) (by decide +kernel), rfl⟩
theorem mw_297 : (.instanceMethod yX7_forgetReadersOf : Cond) ∈ AW := List.mem_filter.mpr ⟨List.mem_of_getElem? (i := 297) (by decide +kernel), rfl⟩
theorem mw_298 : (.selects RX7 yX7_forgetReadersOf yX7_forgetReadersOf : Cond) ∈ AW := List.mem_filter.mpr ⟨List.mem_of_getElem? (i := 298) (by decide +kernel), rfl⟩
theorem gX9_106 : GoodIn AW (va_wsS RX9 106 yX3_isTable wsX3_isTable) := aw_S mw_285 mw_286 mw_40 mw_287
theorem gX9_109 : GoodIn AW (va_wsS RX9 109 yX3_isPlace wsX3_isPlace) := aw_S mw_288 mw_289 mw_40 mw_290
theorem gX9_112 : GoodIn AW (wsV RX9 112 RX3 yX3_set wsX3_set) := aw_V mw_291 mw_292 mw_293 mw_40 mw_294
theorem gX9_116 : GoodIn AW (wsV RX9 116 RX7 yX7_forgetReadersOf wsX7_forgetReadersOf) := aw_V mw_296 mw_297 mw_298 mw_44 mw_299
theorem dX9_entry_0 : decode cX9_entry 0 = .ok (.iload_n 1, 1) := by decide +kernel
theorem dX9_entry_1 : decode cX9_entry 1 = .ok (.invokestatic 106, 3) := by decide +kernel
theorem dX9_entry_4 : decode cX9_entry 4 = .ok (.ifCond .eq 10, 3) := by decide +kernel
theorem dX9_entry_7 : decode cX9_entry 7 = .ok (.iload_n 2, 1) := by decide +kernel
theorem dX9_entry_8 : decode cX9_entry 8 = .ok (.invokestatic 109, 3) := by decide +kernel
theorem dX9_entry_11 : decode cX9_entry 11 = .ok (.ifCond .ne 5, 3) := by decide +kernel
theorem dX9_entry_14 : decode cX9_entry 14 = .ok (.iconst (-1), 1) := by decide +kernel
theorem dX9_entry_15 : decode cX9_entry 15 = .ok (.ireturn, 1) := by decide +kernel
theorem dX9_entry_16 : decode cX9_entry 16 = .ok (.aload_n 0, 1) := by decide +kernel
theorem dX9_entry_17 : decode cX9_entry 17 = .ok (.getfield 21, 3) := by decide +kernel
theorem dX9_entry_20 : decode cX9_entry 20 = .ok (.iload_n 1, 1) := by decide +kernel
theorem dX9_entry_21 : decode cX9_entry 21 = .ok (.iload_n 2, 1) := by decide +kernel
theorem dX9_entry_22 : decode cX9_entry 22 = .ok (.iload_n 3, 1) := by decide +kernel
theorem dX9_entry_23 : decode cX9_entry 23 = .ok (.invokevirtual 112, 3) := by decide +kernel
theorem dX9_entry_26 : decode cX9_entry 26 = .ok (.aload_n 0, 1) := by decide +kernel
theorem dX9_entry_27 : decode cX9_entry 27 = .ok (.getfield 55, 3) := by decide +kernel
theorem dX9_entry_30 : decode cX9_entry 30 = .ok (.iload_n 1, 1) := by decide +kernel
theorem dX9_entry_31 : decode cX9_entry 31 = .ok (.invokevirtual 116, 3) := by decide +kernel
theorem dX9_entry_34 : decode cX9_entry 34 = .ok (.iconst 0, 1) := by decide +kernel
theorem dX9_entry_35 : decode cX9_entry 35 = .ok (.ireturn, 1) := by decide +kernel
def fx_PS_entry (st : XS) (tt : Int32) (ii : Int32) (vv : Int32) : Int32 × XS := 
  if fx_Tabs_isTable tt = (0 : Int32) then ((-1 : Int32), st)
  else 
    if fx_Tabs_isPlace ii = (0 : Int32) then ((-1 : Int32), st)
    else ((0 : Int32), (fx_Rows_forgetReadersOf ((fx_Tabs_set st tt ii vv)) tt))
theorem ff_PS_entry (st : XS) (tt : Int32) (ii : Int32) (vv : Int32) : XF [] [8] [0] st (fx_PS_entry st tt ii vv).2 := by
  rw [fx_PS_entry]
  exact (wl_ite (P := fun (q : Int32 × XS) => XF [] [8] [0] _ (q.2)) (wl_snd XF.rf) (wl_ite (P := fun (q : Int32 × XS) => XF [] [8] [0] _ (q.2)) (wl_snd XF.rf) (wl_snd (XF.tr (XF.tr XF.rf (XF.mono (ff_Tabs_set _ _ _ _) (by decide) (by decide) (by decide))) (XF.mono (ff_Rows_forgetReadersOf _ _) (by decide) (by decide) (by decide))))))
set_option maxHeartbeats 4000000 in
set_option maxRecDepth 100000 in
theorem kx_PS_entry (l : Launch) (dC : Nat → ClassId) (dI : Nat → Nat → Nat) (a : Nat → Nat) (k : Nat → ClassId) (st : XS) (tt : Int32) (ii : Int32) (vv : Int32) (sz : Nat) (V : Nat) (N : Nat) (E : Nat) (Bt : Nat) (hW : XW st V N E Bt) : Met l yX9_entry wsX9_entry ({ frames := 2, cells := 0, slots := 0, locals := 46 }) (va_Pc [.ref (a 0), .int tt, .int ii, .int vv] (wl_pre (dC, dI) vwCl (xt k) (xw a k) st sz)) (va_Qi (fun r9 u9 => (r9, u9) = fx_PS_entry st tt ii vv) (wl_at (dC, dI) vwCl (xt k) (xw a k) (va_A (xw a k st) sz)) (va_A (xw a k st) sz)) 0 0 (va_A (xw a k st) sz) := by
  refine Met.ofW (cc := cX9_entry) (maxL := 4) (ret := (some .int)) (by decide) rfl ?_
  intro p e s m args below meth c s₁ B hml hv
  obtain ⟨rfl, hsz, hP, hK, hD0⟩ := hv
  have hx := B.exec
  have hb := B.bytes
  have hr := B.returns
  have hta := aw_hts (atoms_spec (ws := wsX9_entry) B.pre)
  have hown : s.vm.findClass RX9 = some m.cls := findClass_of_methodNamed B.named
  have hlocks := B.notSynchronized
  have hf21 := hta _ mw_201
  have hf55 := hta _ mw_205
  subst hsz
  have hD := hD0.self (sz := s.heap.size)
  generalize hAe : va_A (xw a k st) s.heap.size = A at hD ⊢
  have hAz : ∀ q : Nat, s.heap.size ≤ q → A q := fun q h => by rw [← hAe]; exact Or.inr h
  have hS : va_S A s.heap s.heap [] := va_S.rf
  have hl := lv_entry ([.ref (a 0), .int tt, .int ii, .int vv]) (n := 4) (Nat.le_of_ble_eq_true rfl)
  rw [lg_entry_eq]
  generalize (lg_sl ([.ref (a 0), .int tt, .int ii, .int vv]) ++ List.replicate (4 - (lg_sl ([.ref (a 0), .int tt, .int ii, .int vv])).length) Slot.unset).toArray = ls at hl ⊢
  have hl : lv_has ls 4 [(0, .ref (a 0)), (1, .int tt), (2, .int ii), (3, .int vv)] := hl
  generalize hR : fx_PS_entry st tt ii vv = R
  rw [fx_PS_entry] at hR
  obtain ⟨hV, hV4, hBt, hBt10, hN, h64, hEl, hE16, hX, hM0, hcN, MV, hMV, hMVV⟩ := id hW
  have hcd : ∀ j : Nat, j < E → vp_in (fA st 10 j) 64 := fun j hj => vp_up (hcN j hj) h64
  refine lv_iload_n hx hb dX9_entry_0 rfl (lv_at hl 1 rfl) ?_
  refine wl_ci (va_runS (As := [.int tt]) (rest := []) ⟨hx, hb, hml, hown, hta⟩ (kx_Tabs_isTable l tt) (va_cwS 1 hta gX9_106 rfl rfl rfl (by decide +kernel) ⟨Nat.le_of_ble_eq_true rfl, Nat.le_of_ble_eq_true rfl⟩) preEq rfl rfl hl.1 rfl (lv_room (Nat.le_of_ble_eq_true rfl)) dX9_entry_1 ⟨Nat.zero_le _, Nat.zero_le _⟩) ?_
  refine lv_if_eq (tgt := 14) hx hb dX9_entry_4 (by decide) (fun c4 => ?_) (fun c4 => ?_)
  · skip
    rw [if_pos c4] at hR
    refine lv_iconst (v := (-1 : Int32)) hx hb dX9_entry_14 (by decide) ?_
    exact W.iret (v := (-1 : Int32)) hx hb hr (fun t ht hW => ⟨⟨_, _, rfl, hR, by rw [ht]; exact hP, va_K.moved hW.alike hK, hD⟩, hS.F ht⟩) hS.2.2 dX9_entry_15
  · skip
    rw [if_neg c4] at hR
    refine lv_iload_n hx hb dX9_entry_7 rfl (lv_at hl 2 rfl) ?_
    refine wl_ci (va_runS (As := [.int ii]) (rest := []) ⟨hx, hb, hml, hown, hta⟩ (kx_Tabs_isPlace l ii) (va_cwS 1 hta gX9_109 rfl rfl rfl (by decide +kernel) ⟨Nat.le_of_ble_eq_true rfl, Nat.le_of_ble_eq_true rfl⟩) preEq rfl rfl hl.1 rfl (lv_room (Nat.le_of_ble_eq_true rfl)) dX9_entry_8 ⟨Nat.zero_le _, Nat.zero_le _⟩) ?_
    refine lv_if_ne (tgt := 16) hx hb dX9_entry_11 (by decide) (fun c11 => ?_) (fun c11 => ?_)
    · skip
      rw [if_neg c11] at hR
      refine lv_aload_n hx hb dX9_entry_16 rfl (lv_at hl 0 rfl) ?_
      refine va_get (D := (dC, dI)) (ci := 7) (v := .ref (a 5)) (C := RX9) (T := TX9) (N := 11) hx hb hta inX9 hown hK hP 0 (xr_0 a k st) rfl 1 (by decide) hf21 (fun _ h9 => h9) rfl dX9_entry_17 ?_
      refine lv_iload_n hx hb dX9_entry_20 rfl (lv_at hl 1 rfl) ?_
      refine lv_iload_n hx hb dX9_entry_21 rfl (lv_at hl 2 rfl) ?_
      refine lv_iload_n hx hb dX9_entry_22 rfl (lv_at hl 3 rfl) ?_
      refine wl_mv (va_runV (As := [.int tt, .int ii, .int vv]) (rest := []) ⟨hx, hb, hml, hown, hta⟩ (kx_Tabs_set l dC dI a k st tt ii vv _ (wl_ti c4 c11)) (cwV 3 hta gX9_112 rfl rfl rfl (by decide +kernel) ⟨Nat.le_of_ble_eq_true rfl, Nat.le_of_ble_eq_true rfl⟩) (wl_pM (C := RX3) (ci := 1) (q0 := 5) hK hP hD rfl (xr_5 a k st)) rfl rfl hl.1 rfl (lv_room (Nat.le_of_ble_eq_true rfl)) dX9_entry_23 ⟨Nat.zero_le _, Nat.zero_le _⟩) hP hD hS hAz (fun u23 H locs hw23 hP hD hS => ?_)
      have w23 : fx_Tabs_set st tt ii vv = u23 := hw23.symm
      have hf23 : XF [] [] [0] st u23 := by rw [← w23]; exact ff_Tabs_set st tt ii vv
      try rw [w23] at hR
      refine lv_aload_n hx hb dX9_entry_26 rfl (lv_at hl 0 rfl) ?_
      refine va_get (D := (dC, dI)) (ci := 7) (v := .ref (a 17)) (C := RX9) (T := TX9) (N := 11) hx hb hta inX9 hown hK hP 0 (xr_0 a k (u23)) rfl 5 (by decide) hf55 (fun _ h9 => h9) rfl dX9_entry_27 ?_
      refine lv_iload_n hx hb dX9_entry_30 rfl (lv_at hl 1 rfl) ?_
      refine wl_mv (va_runV (As := [.int tt]) (rest := []) ⟨hx, hb, hml, hown, hta⟩ (kx_Rows_forgetReadersOf l dC dI a k (u23) tt _ N ((hf23.I 6 (by decide)).trans hN) h64) (cwV 1 hta gX9_116 rfl rfl rfl (by decide +kernel) ⟨Nat.le_of_ble_eq_true rfl, Nat.le_of_ble_eq_true rfl⟩) (wl_pM (C := RX7) (ci := 5) (q0 := 17) hK hP hD rfl (xr_17 a k (u23))) rfl rfl hl.1 rfl (lv_room (Nat.le_of_ble_eq_true rfl)) dX9_entry_31 ⟨Nat.zero_le _, Nat.zero_le _⟩) hP hD hS hAz (fun u31 H locs hw31 hP hD hS => ?_)
      have w31 : fx_Rows_forgetReadersOf (u23) tt = u31 := hw31.symm
      have hf31 : XF [] [8] [] (u23) u31 := by rw [← w31]; exact ff_Rows_forgetReadersOf (u23) tt
      try rw [w31] at hR
      refine lv_iconst (v := (0 : Int32)) hx hb dX9_entry_34 (by decide) ?_
      exact W.iret (v := (0 : Int32)) hx hb hr (fun t ht hW => ⟨⟨_, _, rfl, hR, by rw [ht]; exact hP, va_K.moved hW.alike hK, hD⟩, hS.F ht⟩) hS.2.2 dX9_entry_35
    · skip
      rw [if_pos c11] at hR
      refine lv_iconst (v := (-1 : Int32)) hx hb dX9_entry_14 (by decide) ?_
      exact W.iret (v := (-1 : Int32)) hx hb hr (fun t ht hW => ⟨⟨_, _, rfl, hR, by rw [ht]; exact hP, va_K.moved hW.alike hK, hD⟩, hS.F ht⟩) hS.2.2 dX9_entry_15

theorem mw_453 : (.methodLink RX9 128 yX4_has : Cond) ∈ AW := List.mem_filter.mpr ⟨List.mem_of_getElem? (i := 453) (by decide +kernel), rfl⟩
theorem mw_454 : (.methodLink RX9 131 yX4_widthOf : Cond) ∈ AW := List.mem_filter.mpr ⟨List.mem_of_getElem? (i := 454) (by decide +kernel), rfl⟩
theorem mw_206 : (.fieldLink RX9 64 RX9 "path" "LPathSolver$Path;" : Cond) ∈ AW := List.mem_filter.mpr ⟨List.mem_of_getElem? (i := 206) (by decide +kernel), rfl⟩
theorem mw_458 : (.code yX8_isFull cX8_isFull 1 (some .boolean) : Cond) ∈ AW := List.mem_filter.mpr ⟨List.mem_of_getElem? (i := 458) (by decide +kernel), rfl⟩
theorem mw_455 : (.methodLink RX9 134 yX8_isFull : Cond) ∈ AW := List.mem_filter.mpr ⟨List.mem_of_getElem? (i := 455) (by decide +kernel), rfl⟩
theorem mw_456 : (.instanceMethod yX8_isFull : Cond) ∈ AW := List.mem_filter.mpr ⟨List.mem_of_getElem? (i := 456) (by decide +kernel), rfl⟩
theorem mw_457 : (.selects RX8 yX8_isFull yX8_isFull : Cond) ∈ AW := List.mem_filter.mpr ⟨List.mem_of_getElem? (i := 457) (by decide +kernel), rfl⟩
theorem mw_462 : (.code yX8_push cX8_push 2 (some .int) : Cond) ∈ AW := List.mem_filter.mpr ⟨List.mem_of_getElem? (i := 462) (by decide +kernel), rfl⟩
theorem mw_459 : (.methodLink RX9 135 yX8_push : Cond) ∈ AW := List.mem_filter.mpr ⟨List.mem_of_getElem? (i := 459) (by decide +kernel), rfl⟩
theorem mw_460 : (.instanceMethod yX8_push : Cond) ∈ AW := List.mem_filter.mpr ⟨List.mem_of_getElem? (i := 460) (by decide +kernel), rfl⟩
theorem mw_461 : (.selects RX8 yX8_push yX8_push : Cond) ∈ AW := List.mem_filter.mpr ⟨List.mem_of_getElem? (i := 461) (by decide +kernel), rfl⟩
theorem gX9_128 : GoodIn AW (wsV RX9 128 RX4 yX4_has wsX4_has) := aw_V mw_453 mw_317 mw_318 mw_41 mw_319
theorem gX9_131 : GoodIn AW (wsV RX9 131 RX4 yX4_widthOf wsX4_widthOf) := aw_V mw_454 mw_321 mw_322 mw_41 mw_323
theorem gX9_134 : GoodIn AW (wsV RX9 134 RX8 yX8_isFull wsX8_isFull) := aw_V mw_455 mw_456 mw_457 mw_45 mw_458
theorem gX9_135 : GoodIn AW (wsV RX9 135 RX8 yX8_push wsX8_push) := aw_V mw_459 mw_460 mw_461 mw_45 mw_462
theorem dX9_take_0 : decode cX9_take 0 = .ok (.aload_n 0, 1) := by decide +kernel
theorem dX9_take_1 : decode cX9_take 1 = .ok (.getfield 28, 3) := by decide +kernel
theorem dX9_take_4 : decode cX9_take 4 = .ok (.iload_n 1, 1) := by decide +kernel
theorem dX9_take_5 : decode cX9_take 5 = .ok (.invokevirtual 128, 3) := by decide +kernel
theorem dX9_take_8 : decode cX9_take 8 = .ok (.ifCond .eq 15, 3) := by decide +kernel
theorem dX9_take_11 : decode cX9_take 11 = .ok (.aload_n 0, 1) := by decide +kernel
theorem dX9_take_12 : decode cX9_take 12 = .ok (.getfield 28, 3) := by decide +kernel
theorem dX9_take_15 : decode cX9_take 15 = .ok (.iload_n 1, 1) := by decide +kernel
theorem dX9_take_16 : decode cX9_take 16 = .ok (.invokevirtual 131, 3) := by decide +kernel
theorem dX9_take_19 : decode cX9_take 19 = .ok (.iconst 1, 1) := by decide +kernel
theorem dX9_take_20 : decode cX9_take 20 = .ok (.if_icmp .eq 5, 3) := by decide +kernel
theorem dX9_take_23 : decode cX9_take 23 = .ok (.iconst (-1), 1) := by decide +kernel
theorem dX9_take_24 : decode cX9_take 24 = .ok (.ireturn, 1) := by decide +kernel
theorem dX9_take_25 : decode cX9_take 25 = .ok (.aload_n 0, 1) := by decide +kernel
theorem dX9_take_26 : decode cX9_take 26 = .ok (.getfield 64, 3) := by decide +kernel
theorem dX9_take_29 : decode cX9_take 29 = .ok (.invokevirtual 134, 3) := by decide +kernel
theorem dX9_take_32 : decode cX9_take 32 = .ok (.ifCond .eq 6, 3) := by decide +kernel
theorem dX9_take_35 : decode cX9_take 35 = .ok (.bipush (-2), 2) := by decide +kernel
theorem dX9_take_37 : decode cX9_take 37 = .ok (.ireturn, 1) := by decide +kernel
theorem dX9_take_38 : decode cX9_take 38 = .ok (.aload_n 0, 1) := by decide +kernel
theorem dX9_take_39 : decode cX9_take 39 = .ok (.getfield 64, 3) := by decide +kernel
theorem dX9_take_42 : decode cX9_take 42 = .ok (.iload_n 1, 1) := by decide +kernel
theorem dX9_take_43 : decode cX9_take 43 = .ok (.invokevirtual 135, 3) := by decide +kernel
theorem dX9_take_46 : decode cX9_take 46 = .ok (.ireturn, 1) := by decide +kernel
def fx_PS_take (st : XS) (cnd : Int32) : Int32 × XS := 
  if fx_Terms_has st cnd = (0 : Int32) then ((-1 : Int32), st)
  else 
    if fx_Terms_widthOf st cnd = (1 : Int32) then 
      if fx_Path_isFull st = (0 : Int32) then (((fx_Path_push st cnd).1), ((fx_Path_push st cnd).2))
      else ((-2 : Int32), st)
    else ((-1 : Int32), st)
theorem ff_PS_take (st : XS) (cnd : Int32) : XF [9] [10] [] st (fx_PS_take st cnd).2 := by
  rw [fx_PS_take]
  exact (wl_ite (P := fun (q : Int32 × XS) => XF [9] [10] [] _ (q.2)) (wl_snd XF.rf) (wl_ite (P := fun (q : Int32 × XS) => XF [9] [10] [] _ (q.2)) (wl_ite (P := fun (q : Int32 × XS) => XF [9] [10] [] _ (q.2)) (wl_snd (XF.tr XF.rf (XF.mono (ff_Path_push _ _) (by decide) (by decide) (by decide)))) (wl_snd XF.rf)) (wl_snd XF.rf)))
set_option maxHeartbeats 4000000 in
set_option maxRecDepth 100000 in
theorem kx_PS_take (l : Launch) (dC : Nat → ClassId) (dI : Nat → Nat → Nat) (a : Nat → Nat) (k : Nat → ClassId) (st : XS) (cnd : Int32) (sz : Nat) (V : Nat) (N : Nat) (E : Nat) (Bt : Nat) (hW : XW st V N E Bt) : Met l yX9_take wsX9_take ({ frames := 1, cells := 0, slots := 0, locals := 21 }) (va_Pc [.ref (a 0), .int cnd] (wl_pre (dC, dI) vwCl (xt k) (xw a k) st sz)) (va_Qi (fun r9 u9 => (r9, u9) = fx_PS_take st cnd) (wl_at (dC, dI) vwCl (xt k) (xw a k) (va_A (xw a k st) sz)) (va_A (xw a k st) sz)) 0 0 (va_A (xw a k st) sz) := by
  refine Met.ofW (cc := cX9_take) (maxL := 2) (ret := (some .int)) (by decide) rfl ?_
  intro p e s m args below meth c s₁ B hml hv
  obtain ⟨rfl, hsz, hP, hK, hD0⟩ := hv
  have hx := B.exec
  have hb := B.bytes
  have hr := B.returns
  have hta := aw_hts (atoms_spec (ws := wsX9_take) B.pre)
  have hown : s.vm.findClass RX9 = some m.cls := findClass_of_methodNamed B.named
  have hlocks := B.notSynchronized
  have hf28 := hta _ mw_202
  have hf64 := hta _ mw_206
  subst hsz
  have hD := hD0.self (sz := s.heap.size)
  generalize hAe : va_A (xw a k st) s.heap.size = A at hD ⊢
  have hAz : ∀ q : Nat, s.heap.size ≤ q → A q := fun q h => by rw [← hAe]; exact Or.inr h
  have hS : va_S A s.heap s.heap [] := va_S.rf
  have hl := lv_entry ([.ref (a 0), .int cnd]) (n := 2) (Nat.le_of_ble_eq_true rfl)
  rw [lg_entry_eq]
  generalize (lg_sl ([.ref (a 0), .int cnd]) ++ List.replicate (2 - (lg_sl ([.ref (a 0), .int cnd])).length) Slot.unset).toArray = ls at hl ⊢
  have hl : lv_has ls 2 [(0, .ref (a 0)), (1, .int cnd)] := hl
  generalize hR : fx_PS_take st cnd = R
  rw [fx_PS_take] at hR
  obtain ⟨hV, hV4, hBt, hBt10, hN, h64, hEl, hE16, hX, hM0, hcN, MV, hMV, hMVV⟩ := id hW
  have hcd : ∀ j : Nat, j < E → vp_in (fA st 10 j) 64 := fun j hj => vp_up (hcN j hj) h64
  refine lv_aload_n hx hb dX9_take_0 rfl (lv_at hl 0 rfl) ?_
  refine va_get (D := (dC, dI)) (ci := 7) (v := .ref (a 7)) (C := RX9) (T := TX9) (N := 11) hx hb hta inX9 hown hK hP 0 (xr_0 a k st) rfl 2 (by decide) hf28 (fun _ h9 => h9) rfl dX9_take_1 ?_
  refine lv_iload_n hx hb dX9_take_4 rfl (lv_at hl 1 rfl) ?_
  refine wl_ci (va_runV (As := [.int cnd]) (rest := []) ⟨hx, hb, hml, hown, hta⟩ (kx_Terms_has l dC dI a k st cnd) (cwV 1 hta gX9_128 rfl rfl rfl (by decide +kernel) ⟨Nat.le_of_ble_eq_true rfl, Nat.le_of_ble_eq_true rfl⟩) (wl_pR (C := RX4) (ci := 2) (q0 := 7) hK hP rfl (xr_7 a k st)) rfl rfl hl.1 rfl (lv_room (Nat.le_of_ble_eq_true rfl)) dX9_take_5 ⟨Nat.zero_le _, Nat.zero_le _⟩) ?_
  refine lv_if_eq (tgt := 23) hx hb dX9_take_8 (by decide) (fun c8 => ?_) (fun c8 => ?_)
  · skip
    rw [if_pos c8] at hR
    refine lv_iconst (v := (-1 : Int32)) hx hb dX9_take_23 (by decide) ?_
    exact W.iret (v := (-1 : Int32)) hx hb hr (fun t ht hW => ⟨⟨_, _, rfl, hR, by rw [ht]; exact hP, va_K.moved hW.alike hK, hD⟩, hS.F ht⟩) hS.2.2 dX9_take_24
  · skip
    rw [if_neg c8] at hR
    refine lv_aload_n hx hb dX9_take_11 rfl (lv_at hl 0 rfl) ?_
    refine va_get (D := (dC, dI)) (ci := 7) (v := .ref (a 7)) (C := RX9) (T := TX9) (N := 11) hx hb hta inX9 hown hK hP 0 (xr_0 a k st) rfl 2 (by decide) hf28 (fun _ h9 => h9) rfl dX9_take_12 ?_
    refine lv_iload_n hx hb dX9_take_15 rfl (lv_at hl 1 rfl) ?_
    refine wl_ci (va_runV (As := [.int cnd]) (rest := []) ⟨hx, hb, hml, hown, hta⟩ (kx_Terms_widthOf l dC dI a k st cnd (wl_has hN h64 c8)) (cwV 1 hta gX9_131 rfl rfl rfl (by decide +kernel) ⟨Nat.le_of_ble_eq_true rfl, Nat.le_of_ble_eq_true rfl⟩) (wl_pR (C := RX4) (ci := 2) (q0 := 7) hK hP rfl (xr_7 a k st)) rfl rfl hl.1 rfl (lv_room (Nat.le_of_ble_eq_true rfl)) dX9_take_16 ⟨Nat.zero_le _, Nat.zero_le _⟩) ?_
    refine lv_iconst (v := (1 : Int32)) hx hb dX9_take_19 (by decide) ?_
    refine lv_icmp_eq (tgt := 25) hx hb dX9_take_20 (by decide) (fun c20 => ?_) (fun c20 => ?_)
    · skip
      rw [if_pos c20] at hR
      refine lv_aload_n hx hb dX9_take_25 rfl (lv_at hl 0 rfl) ?_
      refine va_get (D := (dC, dI)) (ci := 7) (v := .ref (a 21)) (C := RX9) (T := TX9) (N := 11) hx hb hta inX9 hown hK hP 0 (xr_0 a k st) rfl 6 (by decide) hf64 (fun _ h9 => h9) rfl dX9_take_26 ?_
      refine wl_ci (va_runV (As := []) (rest := []) ⟨hx, hb, hml, hown, hta⟩ (kx_Path_isFull l dC dI a k st) (cwV 0 hta gX9_134 rfl rfl rfl (by decide +kernel) ⟨Nat.le_of_ble_eq_true rfl, Nat.le_of_ble_eq_true rfl⟩) (wl_pR (C := RX8) (ci := 6) (q0 := 21) hK hP rfl (xr_21 a k st)) rfl rfl hl.1 rfl (lv_room (Nat.le_of_ble_eq_true rfl)) dX9_take_29 ⟨Nat.zero_le _, Nat.zero_le _⟩) ?_
      refine lv_if_eq (tgt := 38) hx hb dX9_take_32 (by decide) (fun c32 => ?_) (fun c32 => ?_)
      · skip
        rw [if_pos c32] at hR
        refine lv_aload_n hx hb dX9_take_38 rfl (lv_at hl 0 rfl) ?_
        refine va_get (D := (dC, dI)) (ci := 7) (v := .ref (a 21)) (C := RX9) (T := TX9) (N := 11) hx hb hta inX9 hown hK hP 0 (xr_0 a k st) rfl 6 (by decide) hf64 (fun _ h9 => h9) rfl dX9_take_39 ?_
        refine lv_iload_n hx hb dX9_take_42 rfl (lv_at hl 1 rfl) ?_
        refine wl_mi (va_runV (As := [.int cnd]) (rest := []) ⟨hx, hb, hml, hown, hta⟩ (kx_Path_push l dC dI a k st cnd _ (by rw [hEl]; exact wl_in (wl_pf hEl hE16 c32) (by decide))) (cwV 1 hta gX9_135 rfl rfl rfl (by decide +kernel) ⟨Nat.le_of_ble_eq_true rfl, Nat.le_of_ble_eq_true rfl⟩) (wl_pM (C := RX8) (ci := 6) (q0 := 21) hK hP hD rfl (xr_21 a k st)) rfl rfl hl.1 rfl (lv_room (Nat.le_of_ble_eq_true rfl)) dX9_take_43 ⟨Nat.zero_le _, Nat.zero_le _⟩) hP hD hS hAz (fun r43 u43 H locs hw43 hP hD hS => ?_)
        have v43 : (fx_Path_push st cnd).1 = r43 := congrArg Prod.fst hw43.symm
        have w43 : (fx_Path_push st cnd).2 = u43 := congrArg Prod.snd hw43.symm
        have hf43 : XF [9] [10] [] st u43 := by rw [← w43]; exact ff_Path_push st cnd
        try rw [v43] at hR
        try rw [w43] at hR
        exact W.iret (v := r43) hx hb hr (fun t ht hW => ⟨⟨_, _, rfl, hR, by rw [ht]; exact hP, va_K.moved hW.alike hK, hD⟩, hS.F ht⟩) hS.2.2 dX9_take_46
      · skip
        rw [if_neg c32] at hR
        refine lv_bipush (v := (-2 : Int32)) hx hb dX9_take_35 (by decide) ?_
        exact W.iret (v := (-2 : Int32)) hx hb hr (fun t ht hW => ⟨⟨_, _, rfl, hR, by rw [ht]; exact hP, va_K.moved hW.alike hK, hD⟩, hS.F ht⟩) hS.2.2 dX9_take_37
    · skip
      rw [if_neg c20] at hR
      refine lv_iconst (v := (-1 : Int32)) hx hb dX9_take_23 (by decide) ?_
      exact W.iret (v := (-1 : Int32)) hx hb hr (fun t ht hW => ⟨⟨_, _, rfl, hR, by rw [ht]; exact hP, va_K.moved hW.alike hK, hD⟩, hS.F ht⟩) hS.2.2 dX9_take_24

theorem mw_470 : (.code yX8_length cX8_length 1 (some .int) : Cond) ∈ AW := List.mem_filter.mpr ⟨List.mem_of_getElem? (i := 470) (by decide +kernel), rfl⟩
theorem mw_467 : (.methodLink RX9 138 yX8_length : Cond) ∈ AW := List.mem_filter.mpr ⟨List.mem_of_getElem? (i := 467) (by decide +kernel), rfl⟩
theorem mw_468 : (.instanceMethod yX8_length : Cond) ∈ AW := List.mem_filter.mpr ⟨List.mem_of_getElem? (i := 468) (by decide +kernel), rfl⟩
theorem mw_469 : (.selects RX8 yX8_length yX8_length : Cond) ∈ AW := List.mem_filter.mpr ⟨List.mem_of_getElem? (i := 469) (by decide +kernel), rfl⟩
theorem mw_474 : (.code yX8_pop cX8_pop 1 (some .int) : Cond) ∈ AW := List.mem_filter.mpr ⟨List.mem_of_getElem? (i := 474) (by decide +kernel), rfl⟩
theorem mw_471 : (.methodLink RX9 142 yX8_pop : Cond) ∈ AW := List.mem_filter.mpr ⟨List.mem_of_getElem? (i := 471) (by decide +kernel), rfl⟩
theorem mw_472 : (.instanceMethod yX8_pop : Cond) ∈ AW := List.mem_filter.mpr ⟨List.mem_of_getElem? (i := 472) (by decide +kernel), rfl⟩
theorem mw_473 : (.selects RX8 yX8_pop yX8_pop : Cond) ∈ AW := List.mem_filter.mpr ⟨List.mem_of_getElem? (i := 473) (by decide +kernel), rfl⟩
theorem gX9_138 : GoodIn AW (wsV RX9 138 RX8 yX8_length wsX8_length) := aw_V mw_467 mw_468 mw_469 mw_45 mw_470
theorem gX9_142 : GoodIn AW (wsV RX9 142 RX8 yX8_pop wsX8_pop) := aw_V mw_471 mw_472 mw_473 mw_45 mw_474
theorem dX9_back_0 : decode cX9_back 0 = .ok (.aload_n 0, 1) := by decide +kernel
theorem dX9_back_1 : decode cX9_back 1 = .ok (.getfield 64, 3) := by decide +kernel
theorem dX9_back_4 : decode cX9_back 4 = .ok (.invokevirtual 138, 3) := by decide +kernel
theorem dX9_back_7 : decode cX9_back 7 = .ok (.ifCond .ne 7, 3) := by decide +kernel
theorem dX9_back_10 : decode cX9_back 10 = .ok (.iconst (-1), 1) := by decide +kernel
theorem dX9_back_11 : decode cX9_back 11 = .ok (.goto 10, 3) := by decide +kernel
theorem dX9_back_14 : decode cX9_back 14 = .ok (.aload_n 0, 1) := by decide +kernel
theorem dX9_back_15 : decode cX9_back 15 = .ok (.getfield 64, 3) := by decide +kernel
theorem dX9_back_18 : decode cX9_back 18 = .ok (.invokevirtual 142, 3) := by decide +kernel
theorem dX9_back_21 : decode cX9_back 21 = .ok (.ireturn, 1) := by decide +kernel
def fx_PS_back (st : XS) : Int32 × XS := 
  if fx_Path_length st = (0 : Int32) then ((-1 : Int32), st)
  else (((fx_Path_pop st).1), ((fx_Path_pop st).2))
theorem ff_PS_back (st : XS) : XF [9] [] [] st (fx_PS_back st).2 := by
  rw [fx_PS_back]
  exact (wl_ite (P := fun (q : Int32 × XS) => XF [9] [] [] _ (q.2)) (wl_snd XF.rf) (wl_snd (XF.tr XF.rf (XF.mono (ff_Path_pop _) (by decide) (by decide) (by decide)))))
set_option maxHeartbeats 4000000 in
set_option maxRecDepth 100000 in
theorem kx_PS_back (l : Launch) (dC : Nat → ClassId) (dI : Nat → Nat → Nat) (a : Nat → Nat) (k : Nat → ClassId) (st : XS) (sz : Nat) (V : Nat) (N : Nat) (E : Nat) (Bt : Nat) (hW : XW st V N E Bt) : Met l yX9_back wsX9_back ({ frames := 1, cells := 0, slots := 0, locals := 20 }) (va_Pc [.ref (a 0)] (wl_pre (dC, dI) vwCl (xt k) (xw a k) st sz)) (va_Qi (fun r9 u9 => (r9, u9) = fx_PS_back st) (wl_at (dC, dI) vwCl (xt k) (xw a k) (va_A (xw a k st) sz)) (va_A (xw a k st) sz)) 0 0 (va_A (xw a k st) sz) := by
  refine Met.ofW (cc := cX9_back) (maxL := 1) (ret := (some .int)) (by decide) rfl ?_
  intro p e s m args below meth c s₁ B hml hv
  obtain ⟨rfl, hsz, hP, hK, hD0⟩ := hv
  have hx := B.exec
  have hb := B.bytes
  have hr := B.returns
  have hta := aw_hts (atoms_spec (ws := wsX9_back) B.pre)
  have hown : s.vm.findClass RX9 = some m.cls := findClass_of_methodNamed B.named
  have hlocks := B.notSynchronized
  have hf64 := hta _ mw_206
  subst hsz
  have hD := hD0.self (sz := s.heap.size)
  generalize hAe : va_A (xw a k st) s.heap.size = A at hD ⊢
  have hAz : ∀ q : Nat, s.heap.size ≤ q → A q := fun q h => by rw [← hAe]; exact Or.inr h
  have hS : va_S A s.heap s.heap [] := va_S.rf
  have hl := lv_entry ([.ref (a 0)]) (n := 1) (Nat.le_of_ble_eq_true rfl)
  rw [lg_entry_eq]
  generalize (lg_sl ([.ref (a 0)]) ++ List.replicate (1 - (lg_sl ([.ref (a 0)])).length) Slot.unset).toArray = ls at hl ⊢
  have hl : lv_has ls 1 [(0, .ref (a 0))] := hl
  generalize hR : fx_PS_back st = R
  rw [fx_PS_back] at hR
  obtain ⟨hV, hV4, hBt, hBt10, hN, h64, hEl, hE16, hX, hM0, hcN, MV, hMV, hMVV⟩ := id hW
  have hcd : ∀ j : Nat, j < E → vp_in (fA st 10 j) 64 := fun j hj => vp_up (hcN j hj) h64
  refine lv_aload_n hx hb dX9_back_0 rfl (lv_at hl 0 rfl) ?_
  refine va_get (D := (dC, dI)) (ci := 7) (v := .ref (a 21)) (C := RX9) (T := TX9) (N := 11) hx hb hta inX9 hown hK hP 0 (xr_0 a k st) rfl 6 (by decide) hf64 (fun _ h9 => h9) rfl dX9_back_1 ?_
  refine wl_ci (va_runV (As := []) (rest := []) ⟨hx, hb, hml, hown, hta⟩ (kx_Path_length l dC dI a k st) (cwV 0 hta gX9_138 rfl rfl rfl (by decide +kernel) ⟨Nat.le_of_ble_eq_true rfl, Nat.le_of_ble_eq_true rfl⟩) (wl_pR (C := RX8) (ci := 6) (q0 := 21) hK hP rfl (xr_21 a k st)) rfl rfl hl.1 rfl (lv_room (Nat.le_of_ble_eq_true rfl)) dX9_back_4 ⟨Nat.zero_le _, Nat.zero_le _⟩) ?_
  refine lv_if_ne (tgt := 14) hx hb dX9_back_7 (by decide) (fun c7 => ?_) (fun c7 => ?_)
  · skip
    rw [if_neg c7] at hR
    refine lv_aload_n hx hb dX9_back_14 rfl (lv_at hl 0 rfl) ?_
    refine va_get (D := (dC, dI)) (ci := 7) (v := .ref (a 21)) (C := RX9) (T := TX9) (N := 11) hx hb hta inX9 hown hK hP 0 (xr_0 a k st) rfl 6 (by decide) hf64 (fun _ h9 => h9) rfl dX9_back_15 ?_
    refine wl_mi (va_runV (As := []) (rest := []) ⟨hx, hb, hml, hown, hta⟩ (kx_Path_pop l dC dI a k st _) (cwV 0 hta gX9_142 rfl rfl rfl (by decide +kernel) ⟨Nat.le_of_ble_eq_true rfl, Nat.le_of_ble_eq_true rfl⟩) (wl_pM (C := RX8) (ci := 6) (q0 := 21) hK hP hD rfl (xr_21 a k st)) rfl rfl hl.1 rfl (lv_room (Nat.le_of_ble_eq_true rfl)) dX9_back_18 ⟨Nat.zero_le _, Nat.zero_le _⟩) hP hD hS hAz (fun r18 u18 H locs hw18 hP hD hS => ?_)
    have v18 : (fx_Path_pop st).1 = r18 := congrArg Prod.fst hw18.symm
    have w18 : (fx_Path_pop st).2 = u18 := congrArg Prod.snd hw18.symm
    have hf18 : XF [9] [] [] st u18 := by rw [← w18]; exact ff_Path_pop st
    try rw [v18] at hR
    try rw [w18] at hR
    exact W.iret (v := r18) hx hb hr (fun t ht hW => ⟨⟨_, _, rfl, hR, by rw [ht]; exact hP, va_K.moved hW.alike hK, hD⟩, hS.F ht⟩) hS.2.2 dX9_back_21
  · skip
    rw [if_pos c7] at hR
    refine lv_iconst (v := (-1 : Int32)) hx hb dX9_back_10 (by decide) ?_
    refine lv_goto (tgt := 21) hx hb dX9_back_11 (by decide) ?_
    exact W.iret (v := (-1 : Int32)) hx hb hr (fun t ht hW => ⟨⟨_, _, rfl, hR, by rw [ht]; exact hP, va_K.moved hW.alike hK, hD⟩, hS.F ht⟩) hS.2.2 dX9_back_21

theorem mw_209 : (.fieldLink RX9 75 RX9 "feasibleChecks" "I" : Cond) ∈ AW := List.mem_filter.mpr ⟨List.mem_of_getElem? (i := 209) (by decide +kernel), rfl⟩
theorem mw_207 : (.fieldLink RX9 68 RX9 "modelAssignment" "I" : Cond) ∈ AW := List.mem_filter.mpr ⟨List.mem_of_getElem? (i := 207) (by decide +kernel), rfl⟩
theorem mw_556 : (.code yX2_size cX2_size 1 (some .int) : Cond) ∈ AW := List.mem_filter.mpr ⟨List.mem_of_getElem? (i := 556) (by decide +kernel), rfl⟩
theorem mw_553 : (.methodLink RX9 201 yX2_size : Cond) ∈ AW := List.mem_filter.mpr ⟨List.mem_of_getElem? (i := 553) (by decide +kernel), rfl⟩
theorem mw_554 : (.instanceMethod yX2_size : Cond) ∈ AW := List.mem_filter.mpr ⟨List.mem_of_getElem? (i := 554) (by decide +kernel), rfl⟩
theorem mw_555 : (.selects RX2 yX2_size yX2_size : Cond) ∈ AW := List.mem_filter.mpr ⟨List.mem_of_getElem? (i := 555) (by decide +kernel), rfl⟩
theorem mw_208 : (.fieldLink RX9 72 RX9 "modelVariables" "I" : Cond) ∈ AW := List.mem_filter.mpr ⟨List.mem_of_getElem? (i := 208) (by decide +kernel), rfl⟩
theorem mw_210 : (.fieldLink RX9 78 RX9 "otherChecks" "I" : Cond) ∈ AW := List.mem_filter.mpr ⟨List.mem_of_getElem? (i := 210) (by decide +kernel), rfl⟩
theorem gX9_201 : GoodIn AW (wsV RX9 201 RX2 yX2_size wsX2_size) := aw_V mw_553 mw_554 mw_555 mw_39 mw_556
theorem dX9_settle_0 : decode cX9_settle 0 = .ok (.iload_n 1, 1) := by decide +kernel
theorem dX9_settle_1 : decode cX9_settle 1 = .ok (.iconst (-1), 1) := by decide +kernel
theorem dX9_settle_2 : decode cX9_settle 2 = .ok (.if_icmp .ne 15, 3) := by decide +kernel
theorem dX9_settle_5 : decode cX9_settle 5 = .ok (.aload_n 0, 1) := by decide +kernel
theorem dX9_settle_6 : decode cX9_settle 6 = .ok (.dup, 1) := by decide +kernel
theorem dX9_settle_7 : decode cX9_settle 7 = .ok (.getfield 78, 3) := by decide +kernel
theorem dX9_settle_10 : decode cX9_settle 10 = .ok (.iconst 1, 1) := by decide +kernel
theorem dX9_settle_11 : decode cX9_settle 11 = .ok (.iadd, 1) := by decide +kernel
theorem dX9_settle_12 : decode cX9_settle 12 = .ok (.putfield 78, 3) := by decide +kernel
theorem dX9_settle_15 : decode cX9_settle 15 = .ok (.iconst 0, 1) := by decide +kernel
theorem dX9_settle_16 : decode cX9_settle 16 = .ok (.ireturn, 1) := by decide +kernel
theorem dX9_settle_17 : decode cX9_settle 17 = .ok (.aload_n 0, 1) := by decide +kernel
theorem dX9_settle_18 : decode cX9_settle 18 = .ok (.dup, 1) := by decide +kernel
theorem dX9_settle_19 : decode cX9_settle 19 = .ok (.getfield 75, 3) := by decide +kernel
theorem dX9_settle_22 : decode cX9_settle 22 = .ok (.iconst 1, 1) := by decide +kernel
theorem dX9_settle_23 : decode cX9_settle 23 = .ok (.iadd, 1) := by decide +kernel
theorem dX9_settle_24 : decode cX9_settle 24 = .ok (.putfield 75, 3) := by decide +kernel
theorem dX9_settle_27 : decode cX9_settle 27 = .ok (.aload_n 0, 1) := by decide +kernel
theorem dX9_settle_28 : decode cX9_settle 28 = .ok (.iload_n 1, 1) := by decide +kernel
theorem dX9_settle_29 : decode cX9_settle 29 = .ok (.putfield 68, 3) := by decide +kernel
theorem dX9_settle_32 : decode cX9_settle 32 = .ok (.aload_n 0, 1) := by decide +kernel
theorem dX9_settle_33 : decode cX9_settle 33 = .ok (.aload_n 0, 1) := by decide +kernel
theorem dX9_settle_34 : decode cX9_settle 34 = .ok (.getfield 12, 3) := by decide +kernel
theorem dX9_settle_37 : decode cX9_settle 37 = .ok (.invokevirtual 201, 3) := by decide +kernel
theorem dX9_settle_40 : decode cX9_settle 40 = .ok (.putfield 72, 3) := by decide +kernel
theorem dX9_settle_43 : decode cX9_settle 43 = .ok (.iconst 1, 1) := by decide +kernel
theorem dX9_settle_44 : decode cX9_settle 44 = .ok (.ireturn, 1) := by decide +kernel
def fx_PS_settle (st : XS) (asg : Int32) : Int32 × XS := 
  if asg = (-1 : Int32) then ((0 : Int32), wI st 3 ((gI st 3) + (1 : Int32)))
  else ((1 : Int32), wI (wI (wI st 2 ((gI st 2) + (1 : Int32))) 0 asg) 1 (fx_Vars_size (wI (wI st 2 ((gI st 2) + (1 : Int32))) 0 asg)))
theorem ff_PS_settle (st : XS) (asg : Int32) : XF [0, 1, 2, 3] [] [] st (fx_PS_settle st asg).2 := by
  rw [fx_PS_settle]
  exact (wl_ite (P := fun (q : Int32 × XS) => XF [0, 1, 2, 3] [] [] _ (q.2)) (wl_snd (XF.wI (by decide) XF.rf)) (wl_snd (XF.wI (by decide) (XF.wI (by decide) (XF.wI (by decide) XF.rf)))))
set_option maxHeartbeats 4000000 in
set_option maxRecDepth 100000 in
theorem kx_PS_settle (l : Launch) (dC : Nat → ClassId) (dI : Nat → Nat → Nat) (a : Nat → Nat) (k : Nat → ClassId) (st : XS) (asg : Int32) (sz : Nat) : Met l yX9_settle wsX9_settle ({ frames := 1, cells := 0, slots := 0, locals := 20 }) (va_Pc [.ref (a 0), .int asg] (wl_pre (dC, dI) vwCl (xt k) (xw a k) st sz)) (va_Qi (fun r9 u9 => (r9, u9) = fx_PS_settle st asg) (wl_at (dC, dI) vwCl (xt k) (xw a k) (va_A (xw a k st) sz)) (va_A (xw a k st) sz)) 0 0 (va_A (xw a k st) sz) := by
  refine Met.ofW (cc := cX9_settle) (maxL := 2) (ret := (some .boolean)) (by decide) rfl ?_
  intro p e s m args below meth c s₁ B hml hv
  obtain ⟨rfl, hsz, hP, hK, hD0⟩ := hv
  have hx := B.exec
  have hb := B.bytes
  have hr := B.returns
  have hta := aw_hts (atoms_spec (ws := wsX9_settle) B.pre)
  have hown : s.vm.findClass RX9 = some m.cls := findClass_of_methodNamed B.named
  have hlocks := B.notSynchronized
  have hf75 := hta _ mw_209
  have hf68 := hta _ mw_207
  have hf12 := hta _ mw_200
  have hf72 := hta _ mw_208
  have hf78 := hta _ mw_210
  subst hsz
  have hD := hD0.self (sz := s.heap.size)
  generalize hAe : va_A (xw a k st) s.heap.size = A at hD ⊢
  have hAz : ∀ q : Nat, s.heap.size ≤ q → A q := fun q h => by rw [← hAe]; exact Or.inr h
  have hS : va_S A s.heap s.heap [] := va_S.rf
  have hl := lv_entry ([.ref (a 0), .int asg]) (n := 2) (Nat.le_of_ble_eq_true rfl)
  rw [lg_entry_eq]
  generalize (lg_sl ([.ref (a 0), .int asg]) ++ List.replicate (2 - (lg_sl ([.ref (a 0), .int asg])).length) Slot.unset).toArray = ls at hl ⊢
  have hl : lv_has ls 2 [(0, .ref (a 0)), (1, .int asg)] := hl
  generalize hR : fx_PS_settle st asg = R
  rw [fx_PS_settle] at hR
  refine lv_iload_n hx hb dX9_settle_0 rfl (lv_at hl 1 rfl) ?_
  refine lv_iconst (v := (-1 : Int32)) hx hb dX9_settle_1 (by decide) ?_
  refine lv_icmp_ne (tgt := 17) hx hb dX9_settle_2 (by decide) (fun c2 => ?_) (fun c2 => ?_)
  · skip
    rw [if_neg c2] at hR
    refine lv_aload_n hx hb dX9_settle_17 rfl (lv_at hl 0 rfl) ?_
    refine lv_dup hx hb dX9_settle_18 rfl ?_
    refine va_get (D := (dC, dI)) (ci := 7) (v := .int (gI st 2)) (C := RX9) (T := TX9) (N := 11) hx hb hta inX9 hown hK hP 0 (xr_0 a k st) rfl 9 (by decide) hf75 (fun _ h9 => h9) rfl dX9_settle_19 ?_
    refine lv_iconst (v := (1 : Int32)) hx hb dX9_settle_22 (by decide) ?_
    refine lv_iadd hx hb dX9_settle_23 ?_
    refine va_put (D := (dC, dI)) (ci := 7) (v := .int ((gI st 2) + (1 : Int32))) (ty := .int) (C := RX9) (T := TX9) (N := 11) hx hb hta inX9 tyX9 tyX9_ok nmX9 hown hK hP hD hS 0 (xr_0 a k st) rfl 9 (by decide) hf75 (fun _ h9 => h9) rfl (by decide +kernel) rfl rfl (Nat.le_of_ble_eq_true rfl) dX9_settle_24 (fun H locs hP hD hS => ?_)
    have hP := xp_I2 hP
    have hD := xd_I2 hD
    refine lv_aload_n hx hb dX9_settle_27 rfl (lv_at hl 0 rfl) ?_
    refine lv_iload_n hx hb dX9_settle_28 rfl (lv_at hl 1 rfl) ?_
    refine va_put (D := (dC, dI)) (ci := 7) (v := .int asg) (ty := .int) (C := RX9) (T := TX9) (N := 11) hx hb hta inX9 tyX9 tyX9_ok nmX9 hown hK hP hD hS 0 (xr_0 a k (wI st 2 ((gI st 2) + (1 : Int32)))) rfl 7 (by decide) hf68 (fun _ h9 => h9) rfl (by decide +kernel) rfl rfl (Nat.le_of_ble_eq_true rfl) dX9_settle_29 (fun H locs hP hD hS => ?_)
    have hP := xp_I0 hP
    have hD := xd_I0 hD
    refine lv_aload_n hx hb dX9_settle_32 rfl (lv_at hl 0 rfl) ?_
    refine lv_aload_n hx hb dX9_settle_33 rfl (lv_at hl 0 rfl) ?_
    refine va_get (D := (dC, dI)) (ci := 7) (v := .ref (a 1)) (C := RX9) (T := TX9) (N := 11) hx hb hta inX9 hown hK hP 0 (xr_0 a k (wI (wI st 2 ((gI st 2) + (1 : Int32))) 0 asg)) rfl 0 (by decide) hf12 (fun _ h9 => h9) rfl dX9_settle_34 ?_
    refine wl_ci (va_runV (As := []) (rest := [.ref (a 0)]) ⟨hx, hb, hml, hown, hta⟩ (kx_Vars_size l dC dI a k (wI (wI st 2 ((gI st 2) + (1 : Int32))) 0 asg)) (cwV 0 hta gX9_201 rfl rfl rfl (by decide +kernel) ⟨Nat.le_of_ble_eq_true rfl, Nat.le_of_ble_eq_true rfl⟩) (wl_pR (C := RX2) (ci := 0) (q0 := 1) hK hP rfl (xr_1 a k (wI (wI st 2 ((gI st 2) + (1 : Int32))) 0 asg))) rfl rfl hl.1 rfl (lv_room (Nat.le_of_ble_eq_true rfl)) dX9_settle_37 ⟨Nat.zero_le _, Nat.zero_le _⟩) ?_
    refine va_put (D := (dC, dI)) (ci := 7) (v := .int (fx_Vars_size (wI (wI st 2 ((gI st 2) + (1 : Int32))) 0 asg))) (ty := .int) (C := RX9) (T := TX9) (N := 11) hx hb hta inX9 tyX9 tyX9_ok nmX9 hown hK hP hD hS 0 (xr_0 a k (wI (wI st 2 ((gI st 2) + (1 : Int32))) 0 asg)) rfl 8 (by decide) hf72 (fun _ h9 => h9) rfl (by decide +kernel) rfl rfl (Nat.le_of_ble_eq_true rfl) dX9_settle_40 (fun H locs hP hD hS => ?_)
    have hP := xp_I1 hP
    have hD := xd_I1 hD
    refine lv_iconst (v := (1 : Int32)) hx hb dX9_settle_43 (by decide) ?_
    exact W.zret (v := (1 : Int32)) (ty := .boolean) hx hb hr rfl (fun t ht hW => ⟨⟨_, _, rfl, hR, by rw [ht]; exact hP, va_K.moved hW.alike hK, hD⟩, hS.F ht⟩) hS.2.2 dX9_settle_44
  · skip
    rw [if_pos c2] at hR
    refine lv_aload_n hx hb dX9_settle_5 rfl (lv_at hl 0 rfl) ?_
    refine lv_dup hx hb dX9_settle_6 rfl ?_
    refine va_get (D := (dC, dI)) (ci := 7) (v := .int (gI st 3)) (C := RX9) (T := TX9) (N := 11) hx hb hta inX9 hown hK hP 0 (xr_0 a k st) rfl 10 (by decide) hf78 (fun _ h9 => h9) rfl dX9_settle_7 ?_
    refine lv_iconst (v := (1 : Int32)) hx hb dX9_settle_10 (by decide) ?_
    refine lv_iadd hx hb dX9_settle_11 ?_
    refine va_put (D := (dC, dI)) (ci := 7) (v := .int ((gI st 3) + (1 : Int32))) (ty := .int) (C := RX9) (T := TX9) (N := 11) hx hb hta inX9 tyX9 tyX9_ok nmX9 hown hK hP hD hS 0 (xr_0 a k st) rfl 10 (by decide) hf78 (fun _ h9 => h9) rfl (by decide +kernel) rfl rfl (Nat.le_of_ble_eq_true rfl) dX9_settle_12 (fun H locs hP hD hS => ?_)
    have hP := xp_I3 hP
    have hD := xd_I3 hD
    refine lv_iconst (v := (0 : Int32)) hx hb dX9_settle_15 (by decide) ?_
    exact W.zret (v := (0 : Int32)) (ty := .boolean) hx hb hr rfl (fun t ht hW => ⟨⟨_, _, rfl, hR, by rw [ht]; exact hP, va_K.moved hW.alike hK, hD⟩, hS.F ht⟩) hS.2.2 dX9_settle_16

theorem mw_482 : (.code yX8_firstTaking cX8_firstTaking 4 (some .int) : Cond) ∈ AW := List.mem_filter.mpr ⟨List.mem_of_getElem? (i := 482) (by decide +kernel), rfl⟩
theorem mw_479 : (.methodLink RX9 145 yX8_firstTaking : Cond) ∈ AW := List.mem_filter.mpr ⟨List.mem_of_getElem? (i := 479) (by decide +kernel), rfl⟩
theorem mw_480 : (.instanceMethod yX8_firstTaking : Cond) ∈ AW := List.mem_filter.mpr ⟨List.mem_of_getElem? (i := 480) (by decide +kernel), rfl⟩
theorem mw_481 : (.selects RX8 yX8_firstTaking yX8_firstTaking : Cond) ∈ AW := List.mem_filter.mpr ⟨List.mem_of_getElem? (i := 481) (by decide +kernel), rfl⟩
theorem mw_552 : (.code yX9_settle cX9_settle 2 (some .boolean) : Cond) ∈ AW := List.mem_filter.mpr ⟨List.mem_of_getElem? (i := 552) (by decide +kernel), rfl⟩
theorem mw_549 : (.methodLink RX9 148 yX9_settle : Cond) ∈ AW := List.mem_filter.mpr ⟨List.mem_of_getElem? (i := 549) (by decide +kernel), rfl⟩
theorem mw_38 : (.initialized RX9 : Cond) ∈ AW := List.mem_filter.mpr ⟨List.mem_of_getElem? (i := 38) (by decide +kernel), rfl⟩
theorem mw_551 : (.instanceMethod yX9_settle : Cond) ∈ AW := List.mem_filter.mpr ⟨List.mem_of_getElem? (i := 551) (by decide +kernel), rfl⟩
theorem mw_15 : (.selects RX9 yX9_settle yX9_settle : Cond) ∈ AW := List.mem_filter.mpr ⟨List.mem_of_getElem? (i := 15) (by decide +kernel), rfl⟩
theorem gX9_145 : GoodIn AW (wsV RX9 145 RX8 yX8_firstTaking wsX8_firstTaking) := aw_V mw_479 mw_480 mw_481 mw_45 mw_482
theorem gX9_148 : GoodIn AW (wsV RX9 148 RX9 yX9_settle wsX9_settle) := aw_V mw_549 mw_551 mw_15 mw_38 mw_552
theorem dX9_check_0 : decode cX9_check 0 = .ok (.aload_n 0, 1) := by decide +kernel
theorem dX9_check_1 : decode cX9_check 1 = .ok (.aload_n 0, 1) := by decide +kernel
theorem dX9_check_2 : decode cX9_check 2 = .ok (.getfield 64, 3) := by decide +kernel
theorem dX9_check_5 : decode cX9_check 5 = .ok (.invokevirtual 145, 3) := by decide +kernel
theorem dX9_check_8 : decode cX9_check 8 = .ok (.invokevirtual 148, 3) := by decide +kernel
theorem dX9_check_11 : decode cX9_check 11 = .ok (.ifCond .eq 7, 3) := by decide +kernel
theorem dX9_check_14 : decode cX9_check 14 = .ok (.iconst 1, 1) := by decide +kernel
theorem dX9_check_15 : decode cX9_check 15 = .ok (.goto 4, 3) := by decide +kernel
theorem dX9_check_18 : decode cX9_check 18 = .ok (.iconst 0, 1) := by decide +kernel
theorem dX9_check_19 : decode cX9_check 19 = .ok (.ireturn, 1) := by decide +kernel
def fx_PS_check (st : XS) : Int32 × XS := 
  if ((fx_PS_settle (((fx_Path_firstTaking st).2)) (((fx_Path_firstTaking st).1))).1) = (0 : Int32) then ((0 : Int32), ((fx_PS_settle (((fx_Path_firstTaking st).2)) (((fx_Path_firstTaking st).1))).2))
  else ((1 : Int32), ((fx_PS_settle (((fx_Path_firstTaking st).2)) (((fx_Path_firstTaking st).1))).2))
theorem ff_PS_check (st : XS) : XF [0, 1, 2, 3, 8] [7, 8, 9] [2, 3] st (fx_PS_check st).2 := by
  rw [fx_PS_check]
  exact (wl_ite (P := fun (q : Int32 × XS) => XF [0, 1, 2, 3, 8] [7, 8, 9] [2, 3] _ (q.2)) (wl_snd (XF.tr (XF.tr XF.rf (XF.mono (ff_Path_firstTaking _) (by decide) (by decide) (by decide))) (XF.mono (ff_PS_settle _ _) (by decide) (by decide) (by decide)))) (wl_snd (XF.tr (XF.tr XF.rf (XF.mono (ff_Path_firstTaking _) (by decide) (by decide) (by decide))) (XF.mono (ff_PS_settle _ _) (by decide) (by decide) (by decide)))))
set_option maxHeartbeats 4000000 in
set_option maxRecDepth 100000 in
theorem kx_PS_check (l : Launch) (dC : Nat → ClassId) (dI : Nat → Nat → Nat) (a : Nat → Nat) (k : Nat → ClassId) (st : XS) (sz : Nat) (V : Nat) (N : Nat) (E : Nat) (Bt : Nat) (hW : XW st V N E Bt) : Met l yX9_check wsX9_check ({ frames := 6, cells := 0, slots := 0, locals := 154 }) (va_Pc [.ref (a 0)] (wl_pre (dC, dI) vwCl (xt k) (xw a k) st sz)) (va_Qi (fun r9 u9 => (r9, u9) = fx_PS_check st) (wl_at (dC, dI) vwCl (xt k) (xw a k) (va_A (xw a k st) sz)) (va_A (xw a k st) sz)) 0 0 (va_A (xw a k st) sz) := by
  refine Met.ofW (cc := cX9_check) (maxL := 1) (ret := (some .int)) (by decide) rfl ?_
  intro p e s m args below meth c s₁ B hml hv
  obtain ⟨rfl, hsz, hP, hK, hD0⟩ := hv
  have hx := B.exec
  have hb := B.bytes
  have hr := B.returns
  have hta := aw_hts (atoms_spec (ws := wsX9_check) B.pre)
  have hown : s.vm.findClass RX9 = some m.cls := findClass_of_methodNamed B.named
  have hlocks := B.notSynchronized
  have hf64 := hta _ mw_206
  subst hsz
  have hD := hD0.self (sz := s.heap.size)
  generalize hAe : va_A (xw a k st) s.heap.size = A at hD ⊢
  have hAz : ∀ q : Nat, s.heap.size ≤ q → A q := fun q h => by rw [← hAe]; exact Or.inr h
  have hS : va_S A s.heap s.heap [] := va_S.rf
  have hl := lv_entry ([.ref (a 0)]) (n := 1) (Nat.le_of_ble_eq_true rfl)
  rw [lg_entry_eq]
  generalize (lg_sl ([.ref (a 0)]) ++ List.replicate (1 - (lg_sl ([.ref (a 0)])).length) Slot.unset).toArray = ls at hl ⊢
  have hl : lv_has ls 1 [(0, .ref (a 0))] := hl
  generalize hR : fx_PS_check st = R
  rw [fx_PS_check] at hR
  obtain ⟨hV, hV4, hBt, hBt10, hN, h64, hEl, hE16, hX, hM0, hcN, MV, hMV, hMVV⟩ := id hW
  have hcd : ∀ j : Nat, j < E → vp_in (fA st 10 j) 64 := fun j hj => vp_up (hcN j hj) h64
  refine lv_aload_n hx hb dX9_check_0 rfl (lv_at hl 0 rfl) ?_
  refine lv_aload_n hx hb dX9_check_1 rfl (lv_at hl 0 rfl) ?_
  refine va_get (D := (dC, dI)) (ci := 7) (v := .ref (a 21)) (C := RX9) (T := TX9) (N := 11) hx hb hta inX9 hown hK hP 0 (xr_0 a k st) rfl 6 (by decide) hf64 (fun _ h9 => h9) rfl dX9_check_2 ?_
  refine wl_mi (va_runV (As := []) (rest := [.ref (a 0)]) ⟨hx, hb, hml, hown, hta⟩ (kx_Path_firstTaking l dC dI a k st _ E hEl hE16 hcd N hN h64 V hV4 hX hM0 Bt hBt hBt10) (cwV 0 hta gX9_145 rfl rfl rfl (by decide +kernel) ⟨Nat.le_of_ble_eq_true rfl, Nat.le_of_ble_eq_true rfl⟩) (wl_pM (C := RX8) (ci := 6) (q0 := 21) hK hP hD rfl (xr_21 a k st)) rfl rfl hl.1 rfl (lv_room (Nat.le_of_ble_eq_true rfl)) dX9_check_5 ⟨Nat.zero_le _, Nat.zero_le _⟩) hP hD hS hAz (fun r5 u5 H locs hw5 hP hD hS => ?_)
  have v5 : (fx_Path_firstTaking st).1 = r5 := congrArg Prod.fst hw5.symm
  have w5 : (fx_Path_firstTaking st).2 = u5 := congrArg Prod.snd hw5.symm
  have hf5 : XF [8] [7, 8, 9] [2, 3] st u5 := by rw [← w5]; exact ff_Path_firstTaking st
  try rw [v5] at hR
  try rw [w5] at hR
  refine wl_mi (va_runV (As := [.int (r5)]) (rest := []) ⟨hx, hb, hml, hown, hta⟩ (kx_PS_settle l dC dI a k (u5) (r5) _) (cwV 1 hta gX9_148 rfl rfl rfl (by decide +kernel) ⟨Nat.le_of_ble_eq_true rfl, Nat.le_of_ble_eq_true rfl⟩) (wl_pM (C := RX9) (ci := 7) (q0 := 0) hK hP hD rfl (xr_0 a k (u5))) rfl rfl hl.1 rfl (lv_room (Nat.le_of_ble_eq_true rfl)) dX9_check_8 ⟨Nat.zero_le _, Nat.zero_le _⟩) hP hD hS hAz (fun r8 u8 H locs hw8 hP hD hS => ?_)
  have v8 : (fx_PS_settle (u5) (r5)).1 = r8 := congrArg Prod.fst hw8.symm
  have w8 : (fx_PS_settle (u5) (r5)).2 = u8 := congrArg Prod.snd hw8.symm
  have hf8 : XF [0, 1, 2, 3] [] [] (u5) u8 := by rw [← w8]; exact ff_PS_settle (u5) (r5)
  try rw [v8] at hR
  try rw [w8] at hR
  refine lv_if_eq (tgt := 18) hx hb dX9_check_11 (by decide) (fun c11 => ?_) (fun c11 => ?_)
  · skip
    rw [if_pos c11] at hR
    refine lv_iconst (v := (0 : Int32)) hx hb dX9_check_18 (by decide) ?_
    exact W.iret (v := (0 : Int32)) hx hb hr (fun t ht hW => ⟨⟨_, _, rfl, hR, by rw [ht]; exact hP, va_K.moved hW.alike hK, hD⟩, hS.F ht⟩) hS.2.2 dX9_check_19
  · skip
    rw [if_neg c11] at hR
    refine lv_iconst (v := (1 : Int32)) hx hb dX9_check_14 (by decide) ?_
    refine lv_goto (tgt := 19) hx hb dX9_check_15 (by decide) ?_
    exact W.iret (v := (1 : Int32)) hx hb hr (fun t ht hW => ⟨⟨_, _, rfl, hR, by rw [ht]; exact hP, va_K.moved hW.alike hK, hD⟩, hS.F ht⟩) hS.2.2 dX9_check_19

theorem mw_564 : (.code yX8_firstLeavingAt cX8_firstLeavingAt 5 (some .int) : Cond) ∈ AW := List.mem_filter.mpr ⟨List.mem_of_getElem? (i := 564) (by decide +kernel), rfl⟩
theorem mw_561 : (.methodLink RX9 151 yX8_firstLeavingAt : Cond) ∈ AW := List.mem_filter.mpr ⟨List.mem_of_getElem? (i := 561) (by decide +kernel), rfl⟩
theorem mw_562 : (.instanceMethod yX8_firstLeavingAt : Cond) ∈ AW := List.mem_filter.mpr ⟨List.mem_of_getElem? (i := 562) (by decide +kernel), rfl⟩
theorem mw_563 : (.selects RX8 yX8_firstLeavingAt yX8_firstLeavingAt : Cond) ∈ AW := List.mem_filter.mpr ⟨List.mem_of_getElem? (i := 563) (by decide +kernel), rfl⟩
theorem gX9_151 : GoodIn AW (wsV RX9 151 RX8 yX8_firstLeavingAt wsX8_firstLeavingAt) := aw_V mw_561 mw_562 mw_563 mw_45 mw_564
theorem dX9_flip_0 : decode cX9_flip 0 = .ok (.iload_n 1, 1) := by decide +kernel
theorem dX9_flip_1 : decode cX9_flip 1 = .ok (.ifCond .lt 14, 3) := by decide +kernel
theorem dX9_flip_4 : decode cX9_flip 4 = .ok (.iload_n 1, 1) := by decide +kernel
theorem dX9_flip_5 : decode cX9_flip 5 = .ok (.aload_n 0, 1) := by decide +kernel
theorem dX9_flip_6 : decode cX9_flip 6 = .ok (.getfield 64, 3) := by decide +kernel
theorem dX9_flip_9 : decode cX9_flip 9 = .ok (.invokevirtual 138, 3) := by decide +kernel
theorem dX9_flip_12 : decode cX9_flip 12 = .ok (.if_icmp .lt 5, 3) := by decide +kernel
theorem dX9_flip_15 : decode cX9_flip 15 = .ok (.iconst (-1), 1) := by decide +kernel
theorem dX9_flip_16 : decode cX9_flip 16 = .ok (.ireturn, 1) := by decide +kernel
theorem dX9_flip_17 : decode cX9_flip 17 = .ok (.aload_n 0, 1) := by decide +kernel
theorem dX9_flip_18 : decode cX9_flip 18 = .ok (.aload_n 0, 1) := by decide +kernel
theorem dX9_flip_19 : decode cX9_flip 19 = .ok (.getfield 64, 3) := by decide +kernel
theorem dX9_flip_22 : decode cX9_flip 22 = .ok (.iload_n 1, 1) := by decide +kernel
theorem dX9_flip_23 : decode cX9_flip 23 = .ok (.invokevirtual 151, 3) := by decide +kernel
theorem dX9_flip_26 : decode cX9_flip 26 = .ok (.invokevirtual 148, 3) := by decide +kernel
theorem dX9_flip_29 : decode cX9_flip 29 = .ok (.ifCond .eq 7, 3) := by decide +kernel
theorem dX9_flip_32 : decode cX9_flip 32 = .ok (.iconst 1, 1) := by decide +kernel
theorem dX9_flip_33 : decode cX9_flip 33 = .ok (.goto 4, 3) := by decide +kernel
theorem dX9_flip_36 : decode cX9_flip 36 = .ok (.iconst 0, 1) := by decide +kernel
theorem dX9_flip_37 : decode cX9_flip 37 = .ok (.ireturn, 1) := by decide +kernel
def fx_PS_flip (st : XS) (kx : Int32) : Int32 × XS := 
  if kx < (0 : Int32) then ((-1 : Int32), st)
  else 
    if kx < fx_Path_length st then 
      if ((fx_PS_settle (((fx_Path_firstLeavingAt st (kx)).2)) (((fx_Path_firstLeavingAt st (kx)).1))).1) = (0 : Int32) then ((0 : Int32), ((fx_PS_settle (((fx_Path_firstLeavingAt st (kx)).2)) (((fx_Path_firstLeavingAt st (kx)).1))).2))
      else ((1 : Int32), ((fx_PS_settle (((fx_Path_firstLeavingAt st (kx)).2)) (((fx_Path_firstLeavingAt st (kx)).1))).2))
    else ((-1 : Int32), st)
theorem ff_PS_flip (st : XS) (kx : Int32) : XF [0, 1, 2, 3, 8] [7, 8, 9] [2, 3] st (fx_PS_flip st kx).2 := by
  rw [fx_PS_flip]
  exact (wl_ite (P := fun (q : Int32 × XS) => XF [0, 1, 2, 3, 8] [7, 8, 9] [2, 3] _ (q.2)) (wl_snd XF.rf) (wl_ite (P := fun (q : Int32 × XS) => XF [0, 1, 2, 3, 8] [7, 8, 9] [2, 3] _ (q.2)) (wl_ite (P := fun (q : Int32 × XS) => XF [0, 1, 2, 3, 8] [7, 8, 9] [2, 3] _ (q.2)) (wl_snd (XF.tr (XF.tr XF.rf (XF.mono (ff_Path_firstLeavingAt _ _) (by decide) (by decide) (by decide))) (XF.mono (ff_PS_settle _ _) (by decide) (by decide) (by decide)))) (wl_snd (XF.tr (XF.tr XF.rf (XF.mono (ff_Path_firstLeavingAt _ _) (by decide) (by decide) (by decide))) (XF.mono (ff_PS_settle _ _) (by decide) (by decide) (by decide))))) (wl_snd XF.rf)))
set_option maxHeartbeats 4000000 in
set_option maxRecDepth 100000 in
theorem kx_PS_flip (l : Launch) (dC : Nat → ClassId) (dI : Nat → Nat → Nat) (a : Nat → Nat) (k : Nat → ClassId) (st : XS) (kx : Int32) (sz : Nat) (V : Nat) (N : Nat) (E : Nat) (Bt : Nat) (hW : XW st V N E Bt) : Met l yX9_flip wsX9_flip ({ frames := 6, cells := 0, slots := 0, locals := 155 }) (va_Pc [.ref (a 0), .int kx] (wl_pre (dC, dI) vwCl (xt k) (xw a k) st sz)) (va_Qi (fun r9 u9 => (r9, u9) = fx_PS_flip st kx) (wl_at (dC, dI) vwCl (xt k) (xw a k) (va_A (xw a k st) sz)) (va_A (xw a k st) sz)) 0 0 (va_A (xw a k st) sz) := by
  refine Met.ofW (cc := cX9_flip) (maxL := 2) (ret := (some .int)) (by decide) rfl ?_
  intro p e s m args below meth c s₁ B hml hv
  obtain ⟨rfl, hsz, hP, hK, hD0⟩ := hv
  have hx := B.exec
  have hb := B.bytes
  have hr := B.returns
  have hta := aw_hts (atoms_spec (ws := wsX9_flip) B.pre)
  have hown : s.vm.findClass RX9 = some m.cls := findClass_of_methodNamed B.named
  have hlocks := B.notSynchronized
  have hf64 := hta _ mw_206
  subst hsz
  have hD := hD0.self (sz := s.heap.size)
  generalize hAe : va_A (xw a k st) s.heap.size = A at hD ⊢
  have hAz : ∀ q : Nat, s.heap.size ≤ q → A q := fun q h => by rw [← hAe]; exact Or.inr h
  have hS : va_S A s.heap s.heap [] := va_S.rf
  have hl := lv_entry ([.ref (a 0), .int kx]) (n := 2) (Nat.le_of_ble_eq_true rfl)
  rw [lg_entry_eq]
  generalize (lg_sl ([.ref (a 0), .int kx]) ++ List.replicate (2 - (lg_sl ([.ref (a 0), .int kx])).length) Slot.unset).toArray = ls at hl ⊢
  have hl : lv_has ls 2 [(0, .ref (a 0)), (1, .int kx)] := hl
  generalize hR : fx_PS_flip st kx = R
  rw [fx_PS_flip] at hR
  obtain ⟨hV, hV4, hBt, hBt10, hN, h64, hEl, hE16, hX, hM0, hcN, MV, hMV, hMVV⟩ := id hW
  have hcd : ∀ j : Nat, j < E → vp_in (fA st 10 j) 64 := fun j hj => vp_up (hcN j hj) h64
  refine lv_iload_n hx hb dX9_flip_0 rfl (lv_at hl 1 rfl) ?_
  refine lv_if_lt (tgt := 15) hx hb dX9_flip_1 (by decide) (fun c1 => ?_) (fun c1 => ?_)
  · skip
    rw [if_pos c1] at hR
    refine lv_iconst (v := (-1 : Int32)) hx hb dX9_flip_15 (by decide) ?_
    exact W.iret (v := (-1 : Int32)) hx hb hr (fun t ht hW => ⟨⟨_, _, rfl, hR, by rw [ht]; exact hP, va_K.moved hW.alike hK, hD⟩, hS.F ht⟩) hS.2.2 dX9_flip_16
  · skip
    rw [if_neg c1] at hR
    refine lv_iload_n hx hb dX9_flip_4 rfl (lv_at hl 1 rfl) ?_
    refine lv_aload_n hx hb dX9_flip_5 rfl (lv_at hl 0 rfl) ?_
    refine va_get (D := (dC, dI)) (ci := 7) (v := .ref (a 21)) (C := RX9) (T := TX9) (N := 11) hx hb hta inX9 hown hK hP 0 (xr_0 a k st) rfl 6 (by decide) hf64 (fun _ h9 => h9) rfl dX9_flip_6 ?_
    refine wl_ci (va_runV (As := []) (rest := [.int kx]) ⟨hx, hb, hml, hown, hta⟩ (kx_Path_length l dC dI a k st) (cwV 0 hta gX9_138 rfl rfl rfl (by decide +kernel) ⟨Nat.le_of_ble_eq_true rfl, Nat.le_of_ble_eq_true rfl⟩) (wl_pR (C := RX8) (ci := 6) (q0 := 21) hK hP rfl (xr_21 a k st)) rfl rfl hl.1 rfl (lv_room (Nat.le_of_ble_eq_true rfl)) dX9_flip_9 ⟨Nat.zero_le _, Nat.zero_le _⟩) ?_
    refine lv_icmp_lt (tgt := 17) hx hb dX9_flip_12 (by decide) (fun c12 => ?_) (fun c12 => ?_)
    · skip
      rw [if_pos c12] at hR
      obtain ⟨KK, hKK, rfl⟩ := wl_ixn (by omega) hEl c1 c12
      refine lv_aload_n hx hb dX9_flip_17 rfl (lv_at hl 0 rfl) ?_
      refine lv_aload_n hx hb dX9_flip_18 rfl (lv_at hl 0 rfl) ?_
      refine va_get (D := (dC, dI)) (ci := 7) (v := .ref (a 21)) (C := RX9) (T := TX9) (N := 11) hx hb hta inX9 hown hK hP 0 (xr_0 a k st) rfl 6 (by decide) hf64 (fun _ h9 => h9) rfl dX9_flip_19 ?_
      refine lv_iload_n hx hb dX9_flip_22 rfl (lv_at hl 1 rfl) ?_
      refine wl_mi (va_runV (As := [.int ((nI KK))]) (rest := [.ref (a 0)]) ⟨hx, hb, hml, hown, hta⟩ (kx_Path_firstLeavingAt l dC dI a k st KK _ (by omega) (fun j hj => hcd j (by omega)) N hN h64 V hV4 hX hM0 Bt hBt hBt10) (cwV 1 hta gX9_151 rfl rfl rfl (by decide +kernel) ⟨Nat.le_of_ble_eq_true rfl, Nat.le_of_ble_eq_true rfl⟩) (wl_pM (C := RX8) (ci := 6) (q0 := 21) hK hP hD rfl (xr_21 a k st)) rfl rfl hl.1 rfl (lv_room (Nat.le_of_ble_eq_true rfl)) dX9_flip_23 ⟨Nat.zero_le _, Nat.zero_le _⟩) hP hD hS hAz (fun r23 u23 H locs hw23 hP hD hS => ?_)
      have v23 : (fx_Path_firstLeavingAt st ((nI KK))).1 = r23 := congrArg Prod.fst hw23.symm
      have w23 : (fx_Path_firstLeavingAt st ((nI KK))).2 = u23 := congrArg Prod.snd hw23.symm
      have hf23 : XF [8] [7, 8, 9] [2, 3] st u23 := by rw [← w23]; exact ff_Path_firstLeavingAt st ((nI KK))
      try rw [v23] at hR
      try rw [w23] at hR
      refine wl_mi (va_runV (As := [.int (r23)]) (rest := []) ⟨hx, hb, hml, hown, hta⟩ (kx_PS_settle l dC dI a k (u23) (r23) _) (cwV 1 hta gX9_148 rfl rfl rfl (by decide +kernel) ⟨Nat.le_of_ble_eq_true rfl, Nat.le_of_ble_eq_true rfl⟩) (wl_pM (C := RX9) (ci := 7) (q0 := 0) hK hP hD rfl (xr_0 a k (u23))) rfl rfl hl.1 rfl (lv_room (Nat.le_of_ble_eq_true rfl)) dX9_flip_26 ⟨Nat.zero_le _, Nat.zero_le _⟩) hP hD hS hAz (fun r26 u26 H locs hw26 hP hD hS => ?_)
      have v26 : (fx_PS_settle (u23) (r23)).1 = r26 := congrArg Prod.fst hw26.symm
      have w26 : (fx_PS_settle (u23) (r23)).2 = u26 := congrArg Prod.snd hw26.symm
      have hf26 : XF [0, 1, 2, 3] [] [] (u23) u26 := by rw [← w26]; exact ff_PS_settle (u23) (r23)
      try rw [v26] at hR
      try rw [w26] at hR
      refine lv_if_eq (tgt := 36) hx hb dX9_flip_29 (by decide) (fun c29 => ?_) (fun c29 => ?_)
      · skip
        rw [if_pos c29] at hR
        refine lv_iconst (v := (0 : Int32)) hx hb dX9_flip_36 (by decide) ?_
        exact W.iret (v := (0 : Int32)) hx hb hr (fun t ht hW => ⟨⟨_, _, rfl, hR, by rw [ht]; exact hP, va_K.moved hW.alike hK, hD⟩, hS.F ht⟩) hS.2.2 dX9_flip_37
      · skip
        rw [if_neg c29] at hR
        refine lv_iconst (v := (1 : Int32)) hx hb dX9_flip_32 (by decide) ?_
        refine lv_goto (tgt := 37) hx hb dX9_flip_33 (by decide) ?_
        exact W.iret (v := (1 : Int32)) hx hb hr (fun t ht hW => ⟨⟨_, _, rfl, hR, by rw [ht]; exact hP, va_K.moved hW.alike hK, hD⟩, hS.F ht⟩) hS.2.2 dX9_flip_37
    · skip
      rw [if_neg c12] at hR
      refine lv_iconst (v := (-1 : Int32)) hx hb dX9_flip_15 (by decide) ?_
      exact W.iret (v := (-1 : Int32)) hx hb hr (fun t ht hW => ⟨⟨_, _, rfl, hR, by rw [ht]; exact hP, va_K.moved hW.alike hK, hD⟩, hS.F ht⟩) hS.2.2 dX9_flip_16

theorem mw_579 : (.methodLink RX9 163 yX2_bitsAt : Cond) ∈ AW := List.mem_filter.mpr ⟨List.mem_of_getElem? (i := 579) (by decide +kernel), rfl⟩
theorem gX9_163 : GoodIn AW (wsV RX9 163 RX2 yX2_bitsAt wsX2_bitsAt) := aw_V mw_579 mw_521 mw_522 mw_39 mw_523
theorem dX9_model_0 : decode cX9_model 0 = .ok (.aload_n 0, 1) := by decide +kernel
theorem dX9_model_1 : decode cX9_model 1 = .ok (.getfield 68, 3) := by decide +kernel
theorem dX9_model_4 : decode cX9_model 4 = .ok (.iconst (-1), 1) := by decide +kernel
theorem dX9_model_5 : decode cX9_model 5 = .ok (.if_icmp .eq 15, 3) := by decide +kernel
theorem dX9_model_8 : decode cX9_model 8 = .ok (.iload_n 1, 1) := by decide +kernel
theorem dX9_model_9 : decode cX9_model 9 = .ok (.ifCond .lt 11, 3) := by decide +kernel
theorem dX9_model_12 : decode cX9_model 12 = .ok (.iload_n 1, 1) := by decide +kernel
theorem dX9_model_13 : decode cX9_model 13 = .ok (.aload_n 0, 1) := by decide +kernel
theorem dX9_model_14 : decode cX9_model 14 = .ok (.getfield 72, 3) := by decide +kernel
theorem dX9_model_17 : decode cX9_model 17 = .ok (.if_icmp .lt 5, 3) := by decide +kernel
theorem dX9_model_20 : decode cX9_model 20 = .ok (.iconst (-1), 1) := by decide +kernel
theorem dX9_model_21 : decode cX9_model 21 = .ok (.ireturn, 1) := by decide +kernel
theorem dX9_model_22 : decode cX9_model 22 = .ok (.aload_n 0, 1) := by decide +kernel
theorem dX9_model_23 : decode cX9_model 23 = .ok (.getfield 12, 3) := by decide +kernel
theorem dX9_model_26 : decode cX9_model 26 = .ok (.iload_n 1, 1) := by decide +kernel
theorem dX9_model_27 : decode cX9_model 27 = .ok (.aload_n 0, 1) := by decide +kernel
theorem dX9_model_28 : decode cX9_model 28 = .ok (.getfield 68, 3) := by decide +kernel
theorem dX9_model_31 : decode cX9_model 31 = .ok (.invokevirtual 163, 3) := by decide +kernel
theorem dX9_model_34 : decode cX9_model 34 = .ok (.ireturn, 1) := by decide +kernel
def fx_PS_model (st : XS) (vx : Int32) : Int32 := 
  if gI st 0 = (-1 : Int32) then (-1 : Int32)
  else 
    if vx < (0 : Int32) then (-1 : Int32)
    else 
      if vx < gI st 1 then fx_Vars_bitsAt st vx (gI st 0)
      else (-1 : Int32)
set_option maxHeartbeats 4000000 in
set_option maxRecDepth 100000 in
theorem kx_PS_model (l : Launch) (dC : Nat → ClassId) (dI : Nat → Nat → Nat) (a : Nat → Nat) (k : Nat → ClassId) (st : XS) (vx : Int32) (V : Nat) (N : Nat) (E : Nat) (Bt : Nat) (hW : XW st V N E Bt) : Met l yX9_model wsX9_model ({ frames := 1, cells := 0, slots := 0, locals := 22 }) (va_Pc [.ref (a 0), .int vx] (wl_prR (dC, dI) vwCl (xt k) (xw a k st))) (vp_Si (fun r9 => r9 = fx_PS_model st vx)) 0 0 (fun _ => False) := by
  refine Met.ofW (cc := cX9_model) (maxL := 2) (ret := (some .int)) (by decide) rfl ?_
  intro p e s m args below meth c s₁ B hml hv
  obtain ⟨rfl, hP, hK⟩ := hv
  have hx := B.exec
  have hb := B.bytes
  have hr := B.returns
  have hta := aw_hts (atoms_spec (ws := wsX9_model) B.pre)
  have hown : s.vm.findClass RX9 = some m.cls := findClass_of_methodNamed B.named
  have hlocks := B.notSynchronized
  have hf68 := hta _ mw_207
  have hf72 := hta _ mw_208
  have hf12 := hta _ mw_200
  have hl := lv_entry ([.ref (a 0), .int vx]) (n := 2) (Nat.le_of_ble_eq_true rfl)
  rw [lg_entry_eq]
  generalize (lg_sl ([.ref (a 0), .int vx]) ++ List.replicate (2 - (lg_sl ([.ref (a 0), .int vx])).length) Slot.unset).toArray = ls at hl ⊢
  have hl : lv_has ls 2 [(0, .ref (a 0)), (1, .int vx)] := hl
  generalize hR : fx_PS_model st vx = R
  rw [fx_PS_model] at hR
  obtain ⟨hV, hV4, hBt, hBt10, hN, h64, hEl, hE16, hX, hM0, hcN, MV, hMV, hMVV⟩ := id hW
  have hcd : ∀ j : Nat, j < E → vp_in (fA st 10 j) 64 := fun j hj => vp_up (hcN j hj) h64
  refine lv_aload_n hx hb dX9_model_0 rfl (lv_at hl 0 rfl) ?_
  refine va_get (D := (dC, dI)) (ci := 7) (v := .int (gI st 0)) (C := RX9) (T := TX9) (N := 11) hx hb hta inX9 hown hK hP 0 (xr_0 a k st) rfl 7 (by decide) hf68 (fun _ h9 => h9) rfl dX9_model_1 ?_
  refine lv_iconst (v := (-1 : Int32)) hx hb dX9_model_4 (by decide) ?_
  refine lv_icmp_eq (tgt := 20) hx hb dX9_model_5 (by decide) (fun c5 => ?_) (fun c5 => ?_)
  · skip
    rw [if_pos c5] at hR
    refine lv_iconst (v := (-1 : Int32)) hx hb dX9_model_20 (by decide) ?_
    exact W.iret (v := (-1 : Int32)) hx hb hr (fun t ht hW => ⟨_, rfl, hR, ht⟩) (fun q h => by cases h) dX9_model_21
  · skip
    rw [if_neg c5] at hR
    refine lv_iload_n hx hb dX9_model_8 rfl (lv_at hl 1 rfl) ?_
    refine lv_if_lt (tgt := 20) hx hb dX9_model_9 (by decide) (fun c9 => ?_) (fun c9 => ?_)
    · skip
      rw [if_pos c9] at hR
      refine lv_iconst (v := (-1 : Int32)) hx hb dX9_model_20 (by decide) ?_
      exact W.iret (v := (-1 : Int32)) hx hb hr (fun t ht hW => ⟨_, rfl, hR, ht⟩) (fun q h => by cases h) dX9_model_21
    · skip
      rw [if_neg c9] at hR
      refine lv_iload_n hx hb dX9_model_12 rfl (lv_at hl 1 rfl) ?_
      refine lv_aload_n hx hb dX9_model_13 rfl (lv_at hl 0 rfl) ?_
      refine va_get (D := (dC, dI)) (ci := 7) (v := .int (gI st 1)) (C := RX9) (T := TX9) (N := 11) hx hb hta inX9 hown hK hP 0 (xr_0 a k st) rfl 8 (by decide) hf72 (fun _ h9 => h9) rfl dX9_model_14 ?_
      refine lv_icmp_lt (tgt := 22) hx hb dX9_model_17 (by decide) (fun c17 => ?_) (fun c17 => ?_)
      · skip
        rw [if_pos c17] at hR
        refine lv_aload_n hx hb dX9_model_22 rfl (lv_at hl 0 rfl) ?_
        refine va_get (D := (dC, dI)) (ci := 7) (v := .ref (a 1)) (C := RX9) (T := TX9) (N := 11) hx hb hta inX9 hown hK hP 0 (xr_0 a k st) rfl 0 (by decide) hf12 (fun _ h9 => h9) rfl dX9_model_23 ?_
        refine lv_iload_n hx hb dX9_model_26 rfl (lv_at hl 1 rfl) ?_
        refine lv_aload_n hx hb dX9_model_27 rfl (lv_at hl 0 rfl) ?_
        refine va_get (D := (dC, dI)) (ci := 7) (v := .int (gI st 0)) (C := RX9) (T := TX9) (N := 11) hx hb hta inX9 hown hK hP 0 (xr_0 a k st) rfl 7 (by decide) hf68 (fun _ h9 => h9) rfl dX9_model_28 ?_
        refine wl_ci (va_runV (As := [.int vx, .int (gI st 0)]) (rest := []) ⟨hx, hb, hml, hown, hta⟩ (kx_Vars_bitsAt l dC dI a k st vx (gI st 0) (wl_mvx (by omega) hMV c9 c17)) (cwV 2 hta gX9_163 rfl rfl rfl (by decide +kernel) ⟨Nat.le_of_ble_eq_true rfl, Nat.le_of_ble_eq_true rfl⟩) (wl_pR (C := RX2) (ci := 0) (q0 := 1) hK hP rfl (xr_1 a k st)) rfl rfl hl.1 rfl (lv_room (Nat.le_of_ble_eq_true rfl)) dX9_model_31 ⟨Nat.zero_le _, Nat.zero_le _⟩) ?_
        exact W.iret (v := fx_Vars_bitsAt st vx (gI st 0)) hx hb hr (fun t ht hW => ⟨_, rfl, hR, ht⟩) (fun q h => by cases h) dX9_model_34
      · skip
        rw [if_neg c17] at hR
        refine lv_iconst (v := (-1 : Int32)) hx hb dX9_model_20 (by decide) ?_
        exact W.iret (v := (-1 : Int32)) hx hb hr (fun t ht hW => ⟨_, rfl, hR, ht⟩) (fun q h => by cases h) dX9_model_21

theorem mw_584 : (.constantLong RX9 166 (-9223372036854775807) : Cond) ∈ AW := List.mem_filter.mpr ⟨List.mem_of_getElem? (i := 584) (by decide +kernel), rfl⟩
theorem mw_203 : (.fieldLink RX9 37 RX9 "evaluator" "LPathSolver$Evaluator;" : Cond) ∈ AW := List.mem_filter.mpr ⟨List.mem_of_getElem? (i := 203) (by decide +kernel), rfl⟩
theorem mw_588 : (.code yX5_needOnly cX5_needOnly 2 none : Cond) ∈ AW := List.mem_filter.mpr ⟨List.mem_of_getElem? (i := 588) (by decide +kernel), rfl⟩
theorem mw_585 : (.methodLink RX9 168 yX5_needOnly : Cond) ∈ AW := List.mem_filter.mpr ⟨List.mem_of_getElem? (i := 585) (by decide +kernel), rfl⟩
theorem mw_586 : (.instanceMethod yX5_needOnly : Cond) ∈ AW := List.mem_filter.mpr ⟨List.mem_of_getElem? (i := 586) (by decide +kernel), rfl⟩
theorem mw_587 : (.selects RX5 yX5_needOnly yX5_needOnly : Cond) ∈ AW := List.mem_filter.mpr ⟨List.mem_of_getElem? (i := 587) (by decide +kernel), rfl⟩
theorem mw_592 : (.methodLink RX9 171 yX5_evaluateNeeded : Cond) ∈ AW := List.mem_filter.mpr ⟨List.mem_of_getElem? (i := 592) (by decide +kernel), rfl⟩
theorem mw_593 : (.methodLink RX9 174 yX5_resultAt : Cond) ∈ AW := List.mem_filter.mpr ⟨List.mem_of_getElem? (i := 593) (by decide +kernel), rfl⟩
theorem gX9_168 : GoodIn AW (wsV RX9 168 RX5 yX5_needOnly wsX5_needOnly) := aw_V mw_585 mw_586 mw_587 mw_42 mw_588
theorem gX9_171 : GoodIn AW (wsV RX9 171 RX5 yX5_evaluateNeeded wsX5_evaluateNeeded) := aw_V mw_592 mw_513 mw_514 mw_42 mw_515
theorem gX9_174 : GoodIn AW (wsV RX9 174 RX5 yX5_resultAt wsX5_resultAt) := aw_V mw_593 mw_530 mw_531 mw_42 mw_532
theorem dX9_value_0 : decode cX9_value 0 = .ok (.aload_n 0, 1) := by decide +kernel
theorem dX9_value_1 : decode cX9_value 1 = .ok (.getfield 68, 3) := by decide +kernel
theorem dX9_value_4 : decode cX9_value 4 = .ok (.iconst (-1), 1) := by decide +kernel
theorem dX9_value_5 : decode cX9_value 5 = .ok (.if_icmp .eq 14, 3) := by decide +kernel
theorem dX9_value_8 : decode cX9_value 8 = .ok (.aload_n 0, 1) := by decide +kernel
theorem dX9_value_9 : decode cX9_value 9 = .ok (.getfield 28, 3) := by decide +kernel
theorem dX9_value_12 : decode cX9_value 12 = .ok (.iload_n 1, 1) := by decide +kernel
theorem dX9_value_13 : decode cX9_value 13 = .ok (.invokevirtual 128, 3) := by decide +kernel
theorem dX9_value_16 : decode cX9_value 16 = .ok (.ifCond .ne 7, 3) := by decide +kernel
theorem dX9_value_19 : decode cX9_value 19 = .ok (.ldc2_w 166, 3) := by decide +kernel
theorem dX9_value_22 : decode cX9_value 22 = .ok (.lreturn, 1) := by decide +kernel
theorem dX9_value_23 : decode cX9_value 23 = .ok (.aload_n 0, 1) := by decide +kernel
theorem dX9_value_24 : decode cX9_value 24 = .ok (.getfield 37, 3) := by decide +kernel
theorem dX9_value_27 : decode cX9_value 27 = .ok (.iload_n 1, 1) := by decide +kernel
theorem dX9_value_28 : decode cX9_value 28 = .ok (.invokevirtual 168, 3) := by decide +kernel
theorem dX9_value_31 : decode cX9_value 31 = .ok (.aload_n 0, 1) := by decide +kernel
theorem dX9_value_32 : decode cX9_value 32 = .ok (.getfield 37, 3) := by decide +kernel
theorem dX9_value_35 : decode cX9_value 35 = .ok (.aload_n 0, 1) := by decide +kernel
theorem dX9_value_36 : decode cX9_value 36 = .ok (.getfield 68, 3) := by decide +kernel
theorem dX9_value_39 : decode cX9_value 39 = .ok (.invokevirtual 171, 3) := by decide +kernel
theorem dX9_value_42 : decode cX9_value 42 = .ok (.aload_n 0, 1) := by decide +kernel
theorem dX9_value_43 : decode cX9_value 43 = .ok (.getfield 37, 3) := by decide +kernel
theorem dX9_value_46 : decode cX9_value 46 = .ok (.iload_n 1, 1) := by decide +kernel
theorem dX9_value_47 : decode cX9_value 47 = .ok (.invokevirtual 174, 3) := by decide +kernel
theorem dX9_value_50 : decode cX9_value 50 = .ok (.lreturn, 1) := by decide +kernel
def fx_PS_value (st : XS) (t2 : Int32) : Int64 × XS := 
  if gI st 0 = (-1 : Int32) then ((-9223372036854775807 : Int64), st)
  else 
    if fx_Terms_has st t2 = (0 : Int32) then ((-9223372036854775807 : Int64), st)
    else (fx_Eval_resultAt ((fx_Eval_evaluateNeeded ((fx_Eval_needOnly st t2)) (gI ((fx_Eval_needOnly st t2)) 0))) t2, (fx_Eval_evaluateNeeded ((fx_Eval_needOnly st t2)) (gI ((fx_Eval_needOnly st t2)) 0)))
theorem ff_PS_value (st : XS) (t2 : Int32) : XF [] [7] [2] st (fx_PS_value st t2).2 := by
  rw [fx_PS_value]
  exact (wl_ite (P := fun (q : Int64 × XS) => XF [] [7] [2] _ (q.2)) (wl_snd XF.rf) (wl_ite (P := fun (q : Int64 × XS) => XF [] [7] [2] _ (q.2)) (wl_snd XF.rf) (wl_snd (XF.tr (XF.tr XF.rf (XF.mono (ff_Eval_needOnly _ _) (by decide) (by decide) (by decide))) (XF.mono (ff_Eval_evaluateNeeded _ _) (by decide) (by decide) (by decide))))))
set_option maxHeartbeats 4000000 in
set_option maxRecDepth 100000 in
theorem kx_PS_value (l : Launch) (dC : Nat → ClassId) (dI : Nat → Nat → Nat) (a : Nat → Nat) (k : Nat → ClassId) (st : XS) (t2 : Int32) (sz : Nat) (V : Nat) (N : Nat) (E : Nat) (Bt : Nat) (hW : XW st V N E Bt) : Met l yX9_value wsX9_value ({ frames := 4, cells := 0, slots := 0, locals := 106 }) (va_Pc [.ref (a 0), .int t2] (wl_pre (dC, dI) vwCl (xt k) (xw a k) st sz)) (va_Ql (fun r9 u9 => (r9, u9) = fx_PS_value st t2) (wl_at (dC, dI) vwCl (xt k) (xw a k) (va_A (xw a k st) sz)) (va_A (xw a k st) sz)) 0 0 (va_A (xw a k st) sz) := by
  refine Met.ofW (cc := cX9_value) (maxL := 2) (ret := (some .long)) (by decide) rfl ?_
  intro p e s m args below meth c s₁ B hml hv
  obtain ⟨rfl, hsz, hP, hK, hD0⟩ := hv
  have hx := B.exec
  have hb := B.bytes
  have hr := B.returns
  have hta := aw_hts (atoms_spec (ws := wsX9_value) B.pre)
  have hown : s.vm.findClass RX9 = some m.cls := findClass_of_methodNamed B.named
  have hlocks := B.notSynchronized
  have hf68 := hta _ mw_207
  have hc166 := hta _ mw_584
  have hf28 := hta _ mw_202
  have hf37 := hta _ mw_203
  subst hsz
  have hD := hD0.self (sz := s.heap.size)
  generalize hAe : va_A (xw a k st) s.heap.size = A at hD ⊢
  have hAz : ∀ q : Nat, s.heap.size ≤ q → A q := fun q h => by rw [← hAe]; exact Or.inr h
  have hS : va_S A s.heap s.heap [] := va_S.rf
  have hl := lv_entry ([.ref (a 0), .int t2]) (n := 2) (Nat.le_of_ble_eq_true rfl)
  rw [lg_entry_eq]
  generalize (lg_sl ([.ref (a 0), .int t2]) ++ List.replicate (2 - (lg_sl ([.ref (a 0), .int t2])).length) Slot.unset).toArray = ls at hl ⊢
  have hl : lv_has ls 2 [(0, .ref (a 0)), (1, .int t2)] := hl
  generalize hR : fx_PS_value st t2 = R
  rw [fx_PS_value] at hR
  obtain ⟨hV, hV4, hBt, hBt10, hN, h64, hEl, hE16, hX, hM0, hcN, MV, hMV, hMVV⟩ := id hW
  have hcd : ∀ j : Nat, j < E → vp_in (fA st 10 j) 64 := fun j hj => vp_up (hcN j hj) h64
  refine lv_aload_n hx hb dX9_value_0 rfl (lv_at hl 0 rfl) ?_
  refine va_get (D := (dC, dI)) (ci := 7) (v := .int (gI st 0)) (C := RX9) (T := TX9) (N := 11) hx hb hta inX9 hown hK hP 0 (xr_0 a k st) rfl 7 (by decide) hf68 (fun _ h9 => h9) rfl dX9_value_1 ?_
  refine lv_iconst (v := (-1 : Int32)) hx hb dX9_value_4 (by decide) ?_
  refine lv_icmp_eq (tgt := 19) hx hb dX9_value_5 (by decide) (fun c5 => ?_) (fun c5 => ?_)
  · skip
    rw [if_pos c5] at hR
    refine lv_ldc2 (v := (-9223372036854775807 : Int64)) hx hb hown hc166 dX9_value_19 ?_
    exact W.lret (v := (-9223372036854775807 : Int64)) hx hb hr (fun t ht hW => ⟨⟨_, _, rfl, hR, by rw [ht]; exact hP, va_K.moved hW.alike hK, hD⟩, hS.F ht⟩) hS.2.2 dX9_value_22
  · skip
    rw [if_neg c5] at hR
    refine lv_aload_n hx hb dX9_value_8 rfl (lv_at hl 0 rfl) ?_
    refine va_get (D := (dC, dI)) (ci := 7) (v := .ref (a 7)) (C := RX9) (T := TX9) (N := 11) hx hb hta inX9 hown hK hP 0 (xr_0 a k st) rfl 2 (by decide) hf28 (fun _ h9 => h9) rfl dX9_value_9 ?_
    refine lv_iload_n hx hb dX9_value_12 rfl (lv_at hl 1 rfl) ?_
    refine wl_ci (va_runV (As := [.int t2]) (rest := []) ⟨hx, hb, hml, hown, hta⟩ (kx_Terms_has l dC dI a k st t2) (cwV 1 hta gX9_128 rfl rfl rfl (by decide +kernel) ⟨Nat.le_of_ble_eq_true rfl, Nat.le_of_ble_eq_true rfl⟩) (wl_pR (C := RX4) (ci := 2) (q0 := 7) hK hP rfl (xr_7 a k st)) rfl rfl hl.1 rfl (lv_room (Nat.le_of_ble_eq_true rfl)) dX9_value_13 ⟨Nat.zero_le _, Nat.zero_le _⟩) ?_
    refine lv_if_ne (tgt := 23) hx hb dX9_value_16 (by decide) (fun c16 => ?_) (fun c16 => ?_)
    · skip
      rw [if_neg c16] at hR
      refine lv_aload_n hx hb dX9_value_23 rfl (lv_at hl 0 rfl) ?_
      refine va_get (D := (dC, dI)) (ci := 7) (v := .ref (a 13)) (C := RX9) (T := TX9) (N := 11) hx hb hta inX9 hown hK hP 0 (xr_0 a k st) rfl 3 (by decide) hf37 (fun _ h9 => h9) rfl dX9_value_24 ?_
      refine lv_iload_n hx hb dX9_value_27 rfl (lv_at hl 1 rfl) ?_
      refine wl_mv (va_runV (As := [.int t2]) (rest := []) ⟨hx, hb, hml, hown, hta⟩ (kx_Eval_needOnly l dC dI a k st t2 _ N hN h64 (wl_has hN h64 c16) (wl_opsX hX h64)) (cwV 1 hta gX9_168 rfl rfl rfl (by decide +kernel) ⟨Nat.le_of_ble_eq_true rfl, Nat.le_of_ble_eq_true rfl⟩) (wl_pM (C := RX5) (ci := 3) (q0 := 13) hK hP hD rfl (xr_13 a k st)) rfl rfl hl.1 rfl (lv_room (Nat.le_of_ble_eq_true rfl)) dX9_value_28 ⟨Nat.zero_le _, Nat.zero_le _⟩) hP hD hS hAz (fun u28 H locs hw28 hP hD hS => ?_)
      have w28 : fx_Eval_needOnly st t2 = u28 := hw28.symm
      have hf28 : XF [] [7] [] st u28 := by rw [← w28]; exact ff_Eval_needOnly st t2
      try rw [w28] at hR
      refine lv_aload_n hx hb dX9_value_31 rfl (lv_at hl 0 rfl) ?_
      refine va_get (D := (dC, dI)) (ci := 7) (v := .ref (a 13)) (C := RX9) (T := TX9) (N := 11) hx hb hta inX9 hown hK hP 0 (xr_0 a k (u28)) rfl 3 (by decide) hf37 (fun _ h9 => h9) rfl dX9_value_32 ?_
      refine lv_aload_n hx hb dX9_value_35 rfl (lv_at hl 0 rfl) ?_
      refine va_get (D := (dC, dI)) (ci := 7) (v := .int (gI (u28) 0)) (C := RX9) (T := TX9) (N := 11) hx hb hta inX9 hown hK hP 0 (xr_0 a k (u28)) rfl 7 (by decide) hf68 (fun _ h9 => h9) rfl dX9_value_36 ?_
      refine wl_mv (va_runV (As := [.int (gI (u28) 0)]) (rest := []) ⟨hx, hb, hml, hown, hta⟩ (kx_Eval_evaluateNeeded l dC dI a k (u28) (gI (u28) 0) _ N ((hf28.I 6 (by decide)).trans hN) h64 V hV4 (hX.fr hf28 (by decide) (by decide)) (hM0.fr hf28 (by decide) (by decide))) (cwV 1 hta gX9_171 rfl rfl rfl (by decide +kernel) ⟨Nat.le_of_ble_eq_true rfl, Nat.le_of_ble_eq_true rfl⟩) (wl_pM (C := RX5) (ci := 3) (q0 := 13) hK hP hD rfl (xr_13 a k (u28))) rfl rfl hl.1 rfl (lv_room (Nat.le_of_ble_eq_true rfl)) dX9_value_39 ⟨Nat.zero_le _, Nat.zero_le _⟩) hP hD hS hAz (fun u39 H locs hw39 hP hD hS => ?_)
      have w39 : fx_Eval_evaluateNeeded (u28) (gI (u28) 0) = u39 := hw39.symm
      have hf39 : XF [] [] [2] (u28) u39 := by rw [← w39]; exact ff_Eval_evaluateNeeded (u28) (gI (u28) 0)
      try rw [w39] at hR
      refine lv_aload_n hx hb dX9_value_42 rfl (lv_at hl 0 rfl) ?_
      refine va_get (D := (dC, dI)) (ci := 7) (v := .ref (a 13)) (C := RX9) (T := TX9) (N := 11) hx hb hta inX9 hown hK hP 0 (xr_0 a k (u39)) rfl 3 (by decide) hf37 (fun _ h9 => h9) rfl dX9_value_43 ?_
      refine lv_iload_n hx hb dX9_value_46 rfl (lv_at hl 1 rfl) ?_
      refine wl_cl (va_runV (As := [.int t2]) (rest := []) ⟨hx, hb, hml, hown, hta⟩ (kx_Eval_resultAt l dC dI a k (u39) t2 (wl_has hN h64 c16)) (cwV 1 hta gX9_174 rfl rfl rfl (by decide +kernel) ⟨Nat.le_of_ble_eq_true rfl, Nat.le_of_ble_eq_true rfl⟩) (wl_pR (C := RX5) (ci := 3) (q0 := 13) hK hP rfl (xr_13 a k (u39))) rfl rfl hl.1 rfl (lv_room (Nat.le_of_ble_eq_true rfl)) dX9_value_47 ⟨Nat.zero_le _, Nat.zero_le _⟩) ?_
      exact W.lret (v := fx_Eval_resultAt (u39) t2) hx hb hr (fun t ht hW => ⟨⟨_, _, rfl, hR, by rw [ht]; exact hP, va_K.moved hW.alike hK, hD⟩, hS.F ht⟩) hS.2.2 dX9_value_50
    · skip
      rw [if_pos c16] at hR
      refine lv_ldc2 (v := (-9223372036854775807 : Int64)) hx hb hown hc166 dX9_value_19 ?_
      exact W.lret (v := (-9223372036854775807 : Int64)) hx hb hr (fun t ht hW => ⟨⟨_, _, rfl, hR, by rw [ht]; exact hP, va_K.moved hW.alike hK, hD⟩, hS.F ht⟩) hS.2.2 dX9_value_22

theorem dX9_width_0 : decode cX9_width 0 = .ok (.aload_n 0, 1) := by decide +kernel
theorem dX9_width_1 : decode cX9_width 1 = .ok (.getfield 28, 3) := by decide +kernel
theorem dX9_width_4 : decode cX9_width 4 = .ok (.iload_n 1, 1) := by decide +kernel
theorem dX9_width_5 : decode cX9_width 5 = .ok (.invokevirtual 128, 3) := by decide +kernel
theorem dX9_width_8 : decode cX9_width 8 = .ok (.ifCond .eq 14, 3) := by decide +kernel
theorem dX9_width_11 : decode cX9_width 11 = .ok (.aload_n 0, 1) := by decide +kernel
theorem dX9_width_12 : decode cX9_width 12 = .ok (.getfield 28, 3) := by decide +kernel
theorem dX9_width_15 : decode cX9_width 15 = .ok (.iload_n 1, 1) := by decide +kernel
theorem dX9_width_16 : decode cX9_width 16 = .ok (.invokevirtual 131, 3) := by decide +kernel
theorem dX9_width_19 : decode cX9_width 19 = .ok (.goto 4, 3) := by decide +kernel
theorem dX9_width_22 : decode cX9_width 22 = .ok (.iconst (-1), 1) := by decide +kernel
theorem dX9_width_23 : decode cX9_width 23 = .ok (.ireturn, 1) := by decide +kernel
def fx_PS_width (st : XS) (t2 : Int32) : Int32 := 
  if fx_Terms_has st t2 = (0 : Int32) then (-1 : Int32)
  else fx_Terms_widthOf st t2
set_option maxHeartbeats 4000000 in
set_option maxRecDepth 100000 in
theorem kx_PS_width (l : Launch) (dC : Nat → ClassId) (dI : Nat → Nat → Nat) (a : Nat → Nat) (k : Nat → ClassId) (st : XS) (t2 : Int32) (V : Nat) (N : Nat) (E : Nat) (Bt : Nat) (hW : XW st V N E Bt) : Met l yX9_width wsX9_width ({ frames := 1, cells := 0, slots := 0, locals := 21 }) (va_Pc [.ref (a 0), .int t2] (wl_prR (dC, dI) vwCl (xt k) (xw a k st))) (vp_Si (fun r9 => r9 = fx_PS_width st t2)) 0 0 (fun _ => False) := by
  refine Met.ofW (cc := cX9_width) (maxL := 2) (ret := (some .int)) (by decide) rfl ?_
  intro p e s m args below meth c s₁ B hml hv
  obtain ⟨rfl, hP, hK⟩ := hv
  have hx := B.exec
  have hb := B.bytes
  have hr := B.returns
  have hta := aw_hts (atoms_spec (ws := wsX9_width) B.pre)
  have hown : s.vm.findClass RX9 = some m.cls := findClass_of_methodNamed B.named
  have hlocks := B.notSynchronized
  have hf28 := hta _ mw_202
  have hl := lv_entry ([.ref (a 0), .int t2]) (n := 2) (Nat.le_of_ble_eq_true rfl)
  rw [lg_entry_eq]
  generalize (lg_sl ([.ref (a 0), .int t2]) ++ List.replicate (2 - (lg_sl ([.ref (a 0), .int t2])).length) Slot.unset).toArray = ls at hl ⊢
  have hl : lv_has ls 2 [(0, .ref (a 0)), (1, .int t2)] := hl
  generalize hR : fx_PS_width st t2 = R
  rw [fx_PS_width] at hR
  obtain ⟨hV, hV4, hBt, hBt10, hN, h64, hEl, hE16, hX, hM0, hcN, MV, hMV, hMVV⟩ := id hW
  have hcd : ∀ j : Nat, j < E → vp_in (fA st 10 j) 64 := fun j hj => vp_up (hcN j hj) h64
  refine lv_aload_n hx hb dX9_width_0 rfl (lv_at hl 0 rfl) ?_
  refine va_get (D := (dC, dI)) (ci := 7) (v := .ref (a 7)) (C := RX9) (T := TX9) (N := 11) hx hb hta inX9 hown hK hP 0 (xr_0 a k st) rfl 2 (by decide) hf28 (fun _ h9 => h9) rfl dX9_width_1 ?_
  refine lv_iload_n hx hb dX9_width_4 rfl (lv_at hl 1 rfl) ?_
  refine wl_ci (va_runV (As := [.int t2]) (rest := []) ⟨hx, hb, hml, hown, hta⟩ (kx_Terms_has l dC dI a k st t2) (cwV 1 hta gX9_128 rfl rfl rfl (by decide +kernel) ⟨Nat.le_of_ble_eq_true rfl, Nat.le_of_ble_eq_true rfl⟩) (wl_pR (C := RX4) (ci := 2) (q0 := 7) hK hP rfl (xr_7 a k st)) rfl rfl hl.1 rfl (lv_room (Nat.le_of_ble_eq_true rfl)) dX9_width_5 ⟨Nat.zero_le _, Nat.zero_le _⟩) ?_
  refine lv_if_eq (tgt := 22) hx hb dX9_width_8 (by decide) (fun c8 => ?_) (fun c8 => ?_)
  · skip
    rw [if_pos c8] at hR
    refine lv_iconst (v := (-1 : Int32)) hx hb dX9_width_22 (by decide) ?_
    exact W.iret (v := (-1 : Int32)) hx hb hr (fun t ht hW => ⟨_, rfl, hR, ht⟩) (fun q h => by cases h) dX9_width_23
  · skip
    rw [if_neg c8] at hR
    refine lv_aload_n hx hb dX9_width_11 rfl (lv_at hl 0 rfl) ?_
    refine va_get (D := (dC, dI)) (ci := 7) (v := .ref (a 7)) (C := RX9) (T := TX9) (N := 11) hx hb hta inX9 hown hK hP 0 (xr_0 a k st) rfl 2 (by decide) hf28 (fun _ h9 => h9) rfl dX9_width_12 ?_
    refine lv_iload_n hx hb dX9_width_15 rfl (lv_at hl 1 rfl) ?_
    refine wl_ci (va_runV (As := [.int t2]) (rest := []) ⟨hx, hb, hml, hown, hta⟩ (kx_Terms_widthOf l dC dI a k st t2 (wl_has hN h64 c8)) (cwV 1 hta gX9_131 rfl rfl rfl (by decide +kernel) ⟨Nat.le_of_ble_eq_true rfl, Nat.le_of_ble_eq_true rfl⟩) (wl_pR (C := RX4) (ci := 2) (q0 := 7) hK hP rfl (xr_7 a k st)) rfl rfl hl.1 rfl (lv_room (Nat.le_of_ble_eq_true rfl)) dX9_width_16 ⟨Nat.zero_le _, Nat.zero_le _⟩) ?_
    refine lv_goto (tgt := 23) hx hb dX9_width_19 (by decide) ?_
    exact W.iret (v := fx_Terms_widthOf st t2) hx hb hr (fun t ht hW => ⟨_, rfl, hR, ht⟩) (fun q h => by cases h) dX9_width_23

theorem mw_611 : (.methodLink RX9 184 yX4_operationOf : Cond) ∈ AW := List.mem_filter.mpr ⟨List.mem_of_getElem? (i := 611) (by decide +kernel), rfl⟩
theorem gX9_184 : GoodIn AW (wsV RX9 184 RX4 yX4_operationOf wsX4_operationOf) := aw_V mw_611 mw_424 mw_425 mw_41 mw_426
theorem dX9_operation_0 : decode cX9_operation 0 = .ok (.aload_n 0, 1) := by decide +kernel
theorem dX9_operation_1 : decode cX9_operation 1 = .ok (.getfield 28, 3) := by decide +kernel
theorem dX9_operation_4 : decode cX9_operation 4 = .ok (.iload_n 1, 1) := by decide +kernel
theorem dX9_operation_5 : decode cX9_operation 5 = .ok (.invokevirtual 128, 3) := by decide +kernel
theorem dX9_operation_8 : decode cX9_operation 8 = .ok (.ifCond .eq 14, 3) := by decide +kernel
theorem dX9_operation_11 : decode cX9_operation 11 = .ok (.aload_n 0, 1) := by decide +kernel
theorem dX9_operation_12 : decode cX9_operation 12 = .ok (.getfield 28, 3) := by decide +kernel
theorem dX9_operation_15 : decode cX9_operation 15 = .ok (.iload_n 1, 1) := by decide +kernel
theorem dX9_operation_16 : decode cX9_operation 16 = .ok (.invokevirtual 184, 3) := by decide +kernel
theorem dX9_operation_19 : decode cX9_operation 19 = .ok (.goto 4, 3) := by decide +kernel
theorem dX9_operation_22 : decode cX9_operation 22 = .ok (.iconst (-1), 1) := by decide +kernel
theorem dX9_operation_23 : decode cX9_operation 23 = .ok (.ireturn, 1) := by decide +kernel
def fx_PS_operation (st : XS) (t2 : Int32) : Int32 := 
  if fx_Terms_has st t2 = (0 : Int32) then (-1 : Int32)
  else fx_Terms_operationOf st t2
set_option maxHeartbeats 4000000 in
set_option maxRecDepth 100000 in
theorem kx_PS_operation (l : Launch) (dC : Nat → ClassId) (dI : Nat → Nat → Nat) (a : Nat → Nat) (k : Nat → ClassId) (st : XS) (t2 : Int32) (V : Nat) (N : Nat) (E : Nat) (Bt : Nat) (hW : XW st V N E Bt) : Met l yX9_operation wsX9_operation ({ frames := 1, cells := 0, slots := 0, locals := 21 }) (va_Pc [.ref (a 0), .int t2] (wl_prR (dC, dI) vwCl (xt k) (xw a k st))) (vp_Si (fun r9 => r9 = fx_PS_operation st t2)) 0 0 (fun _ => False) := by
  refine Met.ofW (cc := cX9_operation) (maxL := 2) (ret := (some .int)) (by decide) rfl ?_
  intro p e s m args below meth c s₁ B hml hv
  obtain ⟨rfl, hP, hK⟩ := hv
  have hx := B.exec
  have hb := B.bytes
  have hr := B.returns
  have hta := aw_hts (atoms_spec (ws := wsX9_operation) B.pre)
  have hown : s.vm.findClass RX9 = some m.cls := findClass_of_methodNamed B.named
  have hlocks := B.notSynchronized
  have hf28 := hta _ mw_202
  have hl := lv_entry ([.ref (a 0), .int t2]) (n := 2) (Nat.le_of_ble_eq_true rfl)
  rw [lg_entry_eq]
  generalize (lg_sl ([.ref (a 0), .int t2]) ++ List.replicate (2 - (lg_sl ([.ref (a 0), .int t2])).length) Slot.unset).toArray = ls at hl ⊢
  have hl : lv_has ls 2 [(0, .ref (a 0)), (1, .int t2)] := hl
  generalize hR : fx_PS_operation st t2 = R
  rw [fx_PS_operation] at hR
  obtain ⟨hV, hV4, hBt, hBt10, hN, h64, hEl, hE16, hX, hM0, hcN, MV, hMV, hMVV⟩ := id hW
  have hcd : ∀ j : Nat, j < E → vp_in (fA st 10 j) 64 := fun j hj => vp_up (hcN j hj) h64
  refine lv_aload_n hx hb dX9_operation_0 rfl (lv_at hl 0 rfl) ?_
  refine va_get (D := (dC, dI)) (ci := 7) (v := .ref (a 7)) (C := RX9) (T := TX9) (N := 11) hx hb hta inX9 hown hK hP 0 (xr_0 a k st) rfl 2 (by decide) hf28 (fun _ h9 => h9) rfl dX9_operation_1 ?_
  refine lv_iload_n hx hb dX9_operation_4 rfl (lv_at hl 1 rfl) ?_
  refine wl_ci (va_runV (As := [.int t2]) (rest := []) ⟨hx, hb, hml, hown, hta⟩ (kx_Terms_has l dC dI a k st t2) (cwV 1 hta gX9_128 rfl rfl rfl (by decide +kernel) ⟨Nat.le_of_ble_eq_true rfl, Nat.le_of_ble_eq_true rfl⟩) (wl_pR (C := RX4) (ci := 2) (q0 := 7) hK hP rfl (xr_7 a k st)) rfl rfl hl.1 rfl (lv_room (Nat.le_of_ble_eq_true rfl)) dX9_operation_5 ⟨Nat.zero_le _, Nat.zero_le _⟩) ?_
  refine lv_if_eq (tgt := 22) hx hb dX9_operation_8 (by decide) (fun c8 => ?_) (fun c8 => ?_)
  · skip
    rw [if_pos c8] at hR
    refine lv_iconst (v := (-1 : Int32)) hx hb dX9_operation_22 (by decide) ?_
    exact W.iret (v := (-1 : Int32)) hx hb hr (fun t ht hW => ⟨_, rfl, hR, ht⟩) (fun q h => by cases h) dX9_operation_23
  · skip
    rw [if_neg c8] at hR
    refine lv_aload_n hx hb dX9_operation_11 rfl (lv_at hl 0 rfl) ?_
    refine va_get (D := (dC, dI)) (ci := 7) (v := .ref (a 7)) (C := RX9) (T := TX9) (N := 11) hx hb hta inX9 hown hK hP 0 (xr_0 a k st) rfl 2 (by decide) hf28 (fun _ h9 => h9) rfl dX9_operation_12 ?_
    refine lv_iload_n hx hb dX9_operation_15 rfl (lv_at hl 1 rfl) ?_
    refine wl_ci (va_runV (As := [.int t2]) (rest := []) ⟨hx, hb, hml, hown, hta⟩ (kx_Terms_operationOf l dC dI a k st t2 (wl_has hN h64 c8)) (cwV 1 hta gX9_184 rfl rfl rfl (by decide +kernel) ⟨Nat.le_of_ble_eq_true rfl, Nat.le_of_ble_eq_true rfl⟩) (wl_pR (C := RX4) (ci := 2) (q0 := 7) hK hP rfl (xr_7 a k st)) rfl rfl hl.1 rfl (lv_room (Nat.le_of_ble_eq_true rfl)) dX9_operation_16 ⟨Nat.zero_le _, Nat.zero_le _⟩) ?_
    refine lv_goto (tgt := 23) hx hb dX9_operation_19 (by decide) ?_
    exact W.iret (v := fx_Terms_operationOf st t2) hx hb hr (fun t ht hW => ⟨_, rfl, hR, ht⟩) (fun q h => by cases h) dX9_operation_23

theorem mw_616 : (.methodLink RX9 187 yX1_named : Cond) ∈ AW := List.mem_filter.mpr ⟨List.mem_of_getElem? (i := 616) (by decide +kernel), rfl⟩
theorem mw_617 : (.methodLink RX9 192 yX4_operandOf : Cond) ∈ AW := List.mem_filter.mpr ⟨List.mem_of_getElem? (i := 617) (by decide +kernel), rfl⟩
theorem gX9_187 : GoodIn AW (va_wsS RX9 187 yX1_named wsX1_named) := aw_S mw_616 mw_338 mw_48 mw_339
theorem gX9_192 : GoodIn AW (wsV RX9 192 RX4 yX4_operandOf wsX4_operandOf) := aw_V mw_617 mw_428 mw_429 mw_41 mw_430
theorem dX9_operand_0 : decode cX9_operand 0 = .ok (.aload_n 0, 1) := by decide +kernel
theorem dX9_operand_1 : decode cX9_operand 1 = .ok (.getfield 28, 3) := by decide +kernel
theorem dX9_operand_4 : decode cX9_operand 4 = .ok (.iload_n 1, 1) := by decide +kernel
theorem dX9_operand_5 : decode cX9_operand 5 = .ok (.invokevirtual 128, 3) := by decide +kernel
theorem dX9_operand_8 : decode cX9_operand 8 = .ok (.ifCond .eq 22, 3) := by decide +kernel
theorem dX9_operand_11 : decode cX9_operand 11 = .ok (.iload_n 2, 1) := by decide +kernel
theorem dX9_operand_12 : decode cX9_operand 12 = .ok (.ifCond .lt 18, 3) := by decide +kernel
theorem dX9_operand_15 : decode cX9_operand 15 = .ok (.iload_n 2, 1) := by decide +kernel
theorem dX9_operand_16 : decode cX9_operand 16 = .ok (.aload_n 0, 1) := by decide +kernel
theorem dX9_operand_17 : decode cX9_operand 17 = .ok (.getfield 28, 3) := by decide +kernel
theorem dX9_operand_20 : decode cX9_operand 20 = .ok (.iload_n 1, 1) := by decide +kernel
theorem dX9_operand_21 : decode cX9_operand 21 = .ok (.invokevirtual 184, 3) := by decide +kernel
theorem dX9_operand_24 : decode cX9_operand 24 = .ok (.invokestatic 187, 3) := by decide +kernel
theorem dX9_operand_27 : decode cX9_operand 27 = .ok (.if_icmp .lt 5, 3) := by decide +kernel
theorem dX9_operand_30 : decode cX9_operand 30 = .ok (.iconst (-1), 1) := by decide +kernel
theorem dX9_operand_31 : decode cX9_operand 31 = .ok (.ireturn, 1) := by decide +kernel
theorem dX9_operand_32 : decode cX9_operand 32 = .ok (.aload_n 0, 1) := by decide +kernel
theorem dX9_operand_33 : decode cX9_operand 33 = .ok (.getfield 28, 3) := by decide +kernel
theorem dX9_operand_36 : decode cX9_operand 36 = .ok (.iload_n 1, 1) := by decide +kernel
theorem dX9_operand_37 : decode cX9_operand 37 = .ok (.iload_n 2, 1) := by decide +kernel
theorem dX9_operand_38 : decode cX9_operand 38 = .ok (.invokevirtual 192, 3) := by decide +kernel
theorem dX9_operand_41 : decode cX9_operand 41 = .ok (.ireturn, 1) := by decide +kernel
def fx_PS_operand (st : XS) (t2 : Int32) (i2 : Int32) : Int32 := 
  if fx_Terms_has st t2 = (0 : Int32) then (-1 : Int32)
  else 
    if i2 < (0 : Int32) then (-1 : Int32)
    else 
      if i2 < fx_Op_named (fx_Terms_operationOf st t2) then fx_Terms_operandOf st t2 i2
      else (-1 : Int32)
set_option maxHeartbeats 4000000 in
set_option maxRecDepth 100000 in
theorem kx_PS_operand (l : Launch) (dC : Nat → ClassId) (dI : Nat → Nat → Nat) (a : Nat → Nat) (k : Nat → ClassId) (st : XS) (t2 : Int32) (i2 : Int32) (V : Nat) (N : Nat) (E : Nat) (Bt : Nat) (hW : XW st V N E Bt) : Met l yX9_operand wsX9_operand ({ frames := 1, cells := 0, slots := 0, locals := 22 }) (va_Pc [.ref (a 0), .int t2, .int i2] (wl_prR (dC, dI) vwCl (xt k) (xw a k st))) (vp_Si (fun r9 => r9 = fx_PS_operand st t2 i2)) 0 0 (fun _ => False) := by
  refine Met.ofW (cc := cX9_operand) (maxL := 3) (ret := (some .int)) (by decide) rfl ?_
  intro p e s m args below meth c s₁ B hml hv
  obtain ⟨rfl, hP, hK⟩ := hv
  have hx := B.exec
  have hb := B.bytes
  have hr := B.returns
  have hta := aw_hts (atoms_spec (ws := wsX9_operand) B.pre)
  have hown : s.vm.findClass RX9 = some m.cls := findClass_of_methodNamed B.named
  have hlocks := B.notSynchronized
  have hf28 := hta _ mw_202
  have hl := lv_entry ([.ref (a 0), .int t2, .int i2]) (n := 3) (Nat.le_of_ble_eq_true rfl)
  rw [lg_entry_eq]
  generalize (lg_sl ([.ref (a 0), .int t2, .int i2]) ++ List.replicate (3 - (lg_sl ([.ref (a 0), .int t2, .int i2])).length) Slot.unset).toArray = ls at hl ⊢
  have hl : lv_has ls 3 [(0, .ref (a 0)), (1, .int t2), (2, .int i2)] := hl
  generalize hR : fx_PS_operand st t2 i2 = R
  rw [fx_PS_operand] at hR
  obtain ⟨hV, hV4, hBt, hBt10, hN, h64, hEl, hE16, hX, hM0, hcN, MV, hMV, hMVV⟩ := id hW
  have hcd : ∀ j : Nat, j < E → vp_in (fA st 10 j) 64 := fun j hj => vp_up (hcN j hj) h64
  refine lv_aload_n hx hb dX9_operand_0 rfl (lv_at hl 0 rfl) ?_
  refine va_get (D := (dC, dI)) (ci := 7) (v := .ref (a 7)) (C := RX9) (T := TX9) (N := 11) hx hb hta inX9 hown hK hP 0 (xr_0 a k st) rfl 2 (by decide) hf28 (fun _ h9 => h9) rfl dX9_operand_1 ?_
  refine lv_iload_n hx hb dX9_operand_4 rfl (lv_at hl 1 rfl) ?_
  refine wl_ci (va_runV (As := [.int t2]) (rest := []) ⟨hx, hb, hml, hown, hta⟩ (kx_Terms_has l dC dI a k st t2) (cwV 1 hta gX9_128 rfl rfl rfl (by decide +kernel) ⟨Nat.le_of_ble_eq_true rfl, Nat.le_of_ble_eq_true rfl⟩) (wl_pR (C := RX4) (ci := 2) (q0 := 7) hK hP rfl (xr_7 a k st)) rfl rfl hl.1 rfl (lv_room (Nat.le_of_ble_eq_true rfl)) dX9_operand_5 ⟨Nat.zero_le _, Nat.zero_le _⟩) ?_
  refine lv_if_eq (tgt := 30) hx hb dX9_operand_8 (by decide) (fun c8 => ?_) (fun c8 => ?_)
  · skip
    rw [if_pos c8] at hR
    refine lv_iconst (v := (-1 : Int32)) hx hb dX9_operand_30 (by decide) ?_
    exact W.iret (v := (-1 : Int32)) hx hb hr (fun t ht hW => ⟨_, rfl, hR, ht⟩) (fun q h => by cases h) dX9_operand_31
  · skip
    rw [if_neg c8] at hR
    refine lv_iload_n hx hb dX9_operand_11 rfl (lv_at hl 2 rfl) ?_
    refine lv_if_lt (tgt := 30) hx hb dX9_operand_12 (by decide) (fun c12 => ?_) (fun c12 => ?_)
    · skip
      rw [if_pos c12] at hR
      refine lv_iconst (v := (-1 : Int32)) hx hb dX9_operand_30 (by decide) ?_
      exact W.iret (v := (-1 : Int32)) hx hb hr (fun t ht hW => ⟨_, rfl, hR, ht⟩) (fun q h => by cases h) dX9_operand_31
    · skip
      rw [if_neg c12] at hR
      refine lv_iload_n hx hb dX9_operand_15 rfl (lv_at hl 2 rfl) ?_
      refine lv_aload_n hx hb dX9_operand_16 rfl (lv_at hl 0 rfl) ?_
      refine va_get (D := (dC, dI)) (ci := 7) (v := .ref (a 7)) (C := RX9) (T := TX9) (N := 11) hx hb hta inX9 hown hK hP 0 (xr_0 a k st) rfl 2 (by decide) hf28 (fun _ h9 => h9) rfl dX9_operand_17 ?_
      refine lv_iload_n hx hb dX9_operand_20 rfl (lv_at hl 1 rfl) ?_
      refine wl_ci (va_runV (As := [.int t2]) (rest := [.int i2]) ⟨hx, hb, hml, hown, hta⟩ (kx_Terms_operationOf l dC dI a k st t2 (wl_has hN h64 c8)) (cwV 1 hta gX9_184 rfl rfl rfl (by decide +kernel) ⟨Nat.le_of_ble_eq_true rfl, Nat.le_of_ble_eq_true rfl⟩) (wl_pR (C := RX4) (ci := 2) (q0 := 7) hK hP rfl (xr_7 a k st)) rfl rfl hl.1 rfl (lv_room (Nat.le_of_ble_eq_true rfl)) dX9_operand_21 ⟨Nat.zero_le _, Nat.zero_le _⟩) ?_
      refine wl_ci (va_runS (As := [.int (fx_Terms_operationOf st t2)]) (rest := [.int i2]) ⟨hx, hb, hml, hown, hta⟩ (kx_Op_named l (fx_Terms_operationOf st t2)) (va_cwS 1 hta gX9_187 rfl rfl rfl (by decide +kernel) ⟨Nat.le_of_ble_eq_true rfl, Nat.le_of_ble_eq_true rfl⟩) preEq rfl rfl hl.1 rfl (lv_room (Nat.le_of_ble_eq_true rfl)) dX9_operand_24 ⟨Nat.zero_le _, Nat.zero_le _⟩) ?_
      refine lv_icmp_lt (tgt := 32) hx hb dX9_operand_27 (by decide) (fun c27 => ?_) (fun c27 => ?_)
      · skip
        rw [if_pos c27] at hR
        refine lv_aload_n hx hb dX9_operand_32 rfl (lv_at hl 0 rfl) ?_
        refine va_get (D := (dC, dI)) (ci := 7) (v := .ref (a 7)) (C := RX9) (T := TX9) (N := 11) hx hb hta inX9 hown hK hP 0 (xr_0 a k st) rfl 2 (by decide) hf28 (fun _ h9 => h9) rfl dX9_operand_33 ?_
        refine lv_iload_n hx hb dX9_operand_36 rfl (lv_at hl 1 rfl) ?_
        refine lv_iload_n hx hb dX9_operand_37 rfl (lv_at hl 2 rfl) ?_
        refine wl_ci (va_runV (As := [.int t2, .int i2]) (rest := []) ⟨hx, hb, hml, hown, hta⟩ (kx_Terms_operandOf l dC dI a k st t2 i2 (wl_opd (wl_has hN h64 c8) c12 c27)) (cwV 2 hta gX9_192 rfl rfl rfl (by decide +kernel) ⟨Nat.le_of_ble_eq_true rfl, Nat.le_of_ble_eq_true rfl⟩) (wl_pR (C := RX4) (ci := 2) (q0 := 7) hK hP rfl (xr_7 a k st)) rfl rfl hl.1 rfl (lv_room (Nat.le_of_ble_eq_true rfl)) dX9_operand_38 ⟨Nat.zero_le _, Nat.zero_le _⟩) ?_
        exact W.iret (v := fx_Terms_operandOf st t2 i2) hx hb hr (fun t ht hW => ⟨_, rfl, hR, ht⟩) (fun q h => by cases h) dX9_operand_41
      · skip
        rw [if_neg c27] at hR
        refine lv_iconst (v := (-1 : Int32)) hx hb dX9_operand_30 (by decide) ?_
        exact W.iret (v := (-1 : Int32)) hx hb hr (fun t ht hW => ⟨_, rfl, hR, ht⟩) (fun q h => by cases h) dX9_operand_31

theorem mw_622 : (.methodLink RX9 195 yX4_size : Cond) ∈ AW := List.mem_filter.mpr ⟨List.mem_of_getElem? (i := 622) (by decide +kernel), rfl⟩
theorem mw_626 : (.code yX4_totalCost cX4_totalCost 1 (some .int) : Cond) ∈ AW := List.mem_filter.mpr ⟨List.mem_of_getElem? (i := 626) (by decide +kernel), rfl⟩
theorem mw_623 : (.methodLink RX9 198 yX4_totalCost : Cond) ∈ AW := List.mem_filter.mpr ⟨List.mem_of_getElem? (i := 623) (by decide +kernel), rfl⟩
theorem mw_624 : (.instanceMethod yX4_totalCost : Cond) ∈ AW := List.mem_filter.mpr ⟨List.mem_of_getElem? (i := 624) (by decide +kernel), rfl⟩
theorem mw_625 : (.selects RX4 yX4_totalCost yX4_totalCost : Cond) ∈ AW := List.mem_filter.mpr ⟨List.mem_of_getElem? (i := 625) (by decide +kernel), rfl⟩
theorem gX9_195 : GoodIn AW (wsV RX9 195 RX4 yX4_size wsX4_size) := aw_V mw_622 mw_301 mw_302 mw_41 mw_303
theorem gX9_198 : GoodIn AW (wsV RX9 198 RX4 yX4_totalCost wsX4_totalCost) := aw_V mw_623 mw_624 mw_625 mw_41 mw_626
theorem dX9_count_0 : decode cX9_count 0 = .ok (.iload_n 1, 1) := by decide +kernel
theorem dX9_count_1 : decode cX9_count 1 = .ok (.tableswitch 81 0 5 #[39, 47, 55, 63, 71, 76], 39) := by decide +kernel
theorem dX9_count_40 : decode cX9_count 40 = .ok (.aload_n 0, 1) := by decide +kernel
theorem dX9_count_41 : decode cX9_count 41 = .ok (.getfield 28, 3) := by decide +kernel
theorem dX9_count_44 : decode cX9_count 44 = .ok (.invokevirtual 195, 3) := by decide +kernel
theorem dX9_count_47 : decode cX9_count 47 = .ok (.ireturn, 1) := by decide +kernel
theorem dX9_count_48 : decode cX9_count 48 = .ok (.aload_n 0, 1) := by decide +kernel
theorem dX9_count_49 : decode cX9_count 49 = .ok (.getfield 28, 3) := by decide +kernel
theorem dX9_count_52 : decode cX9_count 52 = .ok (.invokevirtual 198, 3) := by decide +kernel
theorem dX9_count_55 : decode cX9_count 55 = .ok (.ireturn, 1) := by decide +kernel
theorem dX9_count_56 : decode cX9_count 56 = .ok (.aload_n 0, 1) := by decide +kernel
theorem dX9_count_57 : decode cX9_count 57 = .ok (.getfield 64, 3) := by decide +kernel
theorem dX9_count_60 : decode cX9_count 60 = .ok (.invokevirtual 138, 3) := by decide +kernel
theorem dX9_count_63 : decode cX9_count 63 = .ok (.ireturn, 1) := by decide +kernel
theorem dX9_count_64 : decode cX9_count 64 = .ok (.aload_n 0, 1) := by decide +kernel
theorem dX9_count_65 : decode cX9_count 65 = .ok (.getfield 12, 3) := by decide +kernel
theorem dX9_count_68 : decode cX9_count 68 = .ok (.invokevirtual 201, 3) := by decide +kernel
theorem dX9_count_71 : decode cX9_count 71 = .ok (.ireturn, 1) := by decide +kernel
theorem dX9_count_72 : decode cX9_count 72 = .ok (.aload_n 0, 1) := by decide +kernel
theorem dX9_count_73 : decode cX9_count 73 = .ok (.getfield 75, 3) := by decide +kernel
theorem dX9_count_76 : decode cX9_count 76 = .ok (.ireturn, 1) := by decide +kernel
theorem dX9_count_77 : decode cX9_count 77 = .ok (.aload_n 0, 1) := by decide +kernel
theorem dX9_count_78 : decode cX9_count 78 = .ok (.getfield 78, 3) := by decide +kernel
theorem dX9_count_81 : decode cX9_count 81 = .ok (.ireturn, 1) := by decide +kernel
theorem dX9_count_82 : decode cX9_count 82 = .ok (.iconst (-1), 1) := by decide +kernel
theorem dX9_count_83 : decode cX9_count 83 = .ok (.ireturn, 1) := by decide +kernel
def fx_PS_count (st : XS) (wh : Int32) : Int32 := 
  if wh = (0 : Int32) then fx_Terms_size st
  else 
    if wh = (1 : Int32) then fx_Terms_totalCost st
    else 
      if wh = (2 : Int32) then fx_Path_length st
      else 
        if wh = (3 : Int32) then fx_Vars_size st
        else 
          if wh = (4 : Int32) then gI st 2
          else 
            if wh = (5 : Int32) then gI st 3
            else (-1 : Int32)
set_option maxHeartbeats 4000000 in
set_option maxRecDepth 100000 in
theorem kx_PS_count (l : Launch) (dC : Nat → ClassId) (dI : Nat → Nat → Nat) (a : Nat → Nat) (k : Nat → ClassId) (st : XS) (wh : Int32) (V : Nat) (N : Nat) (E : Nat) (Bt : Nat) (hW : XW st V N E Bt) : Met l yX9_count wsX9_count ({ frames := 1, cells := 0, slots := 0, locals := 20 }) (va_Pc [.ref (a 0), .int wh] (wl_prR (dC, dI) vwCl (xt k) (xw a k st))) (vp_Si (fun r9 => r9 = fx_PS_count st wh)) 0 0 (fun _ => False) := by
  refine Met.ofW (cc := cX9_count) (maxL := 2) (ret := (some .int)) (by decide) rfl ?_
  intro p e s m args below meth c s₁ B hml hv
  obtain ⟨rfl, hP, hK⟩ := hv
  have hx := B.exec
  have hb := B.bytes
  have hr := B.returns
  have hta := aw_hts (atoms_spec (ws := wsX9_count) B.pre)
  have hown : s.vm.findClass RX9 = some m.cls := findClass_of_methodNamed B.named
  have hlocks := B.notSynchronized
  have hf28 := hta _ mw_202
  have hf64 := hta _ mw_206
  have hf12 := hta _ mw_200
  have hf75 := hta _ mw_209
  have hf78 := hta _ mw_210
  have hl := lv_entry ([.ref (a 0), .int wh]) (n := 2) (Nat.le_of_ble_eq_true rfl)
  rw [lg_entry_eq]
  generalize (lg_sl ([.ref (a 0), .int wh]) ++ List.replicate (2 - (lg_sl ([.ref (a 0), .int wh])).length) Slot.unset).toArray = ls at hl ⊢
  have hl : lv_has ls 2 [(0, .ref (a 0)), (1, .int wh)] := hl
  generalize hR : fx_PS_count st wh = R
  rw [fx_PS_count] at hR
  obtain ⟨hV, hV4, hBt, hBt10, hN, h64, hEl, hE16, hX, hM0, hcN, MV, hMV, hMVV⟩ := id hW
  have hcd : ∀ j : Nat, j < E → vp_in (fA st 10 j) 64 := fun j hj => vp_up (hcN j hj) h64
  refine lv_iload_n hx hb dX9_count_0 rfl (lv_at hl 1 rfl) ?_
  by_cases c1_0 : wh = (0 : Int32)
  · skip
    rw [if_pos c1_0] at hR
    refine lv_tableIn (tgt := 40) hx hb dX9_count_1 (by rw [c1_0]; decide) (by rw [c1_0]; decide) (by rw [c1_0] <;> rfl) (by decide) ?_
    refine lv_aload_n hx hb dX9_count_40 rfl (lv_at hl 0 rfl) ?_
    refine va_get (D := (dC, dI)) (ci := 7) (v := .ref (a 7)) (C := RX9) (T := TX9) (N := 11) hx hb hta inX9 hown hK hP 0 (xr_0 a k st) rfl 2 (by decide) hf28 (fun _ h9 => h9) rfl dX9_count_41 ?_
    refine wl_ci (va_runV (As := []) (rest := []) ⟨hx, hb, hml, hown, hta⟩ (kx_Terms_size l dC dI a k st) (cwV 0 hta gX9_195 rfl rfl rfl (by decide +kernel) ⟨Nat.le_of_ble_eq_true rfl, Nat.le_of_ble_eq_true rfl⟩) (wl_pR (C := RX4) (ci := 2) (q0 := 7) hK hP rfl (xr_7 a k st)) rfl rfl hl.1 rfl (lv_room (Nat.le_of_ble_eq_true rfl)) dX9_count_44 ⟨Nat.zero_le _, Nat.zero_le _⟩) ?_
    exact W.iret (v := fx_Terms_size st) hx hb hr (fun t ht hW => ⟨_, rfl, hR, ht⟩) (fun q h => by cases h) dX9_count_47
  · skip
    rw [if_neg c1_0] at hR
    by_cases c1_1 : wh = (1 : Int32)
    · skip
      rw [if_pos c1_1] at hR
      refine lv_tableIn (tgt := 48) hx hb dX9_count_1 (by rw [c1_1]; decide) (by rw [c1_1]; decide) (by rw [c1_1] <;> rfl) (by decide) ?_
      refine lv_aload_n hx hb dX9_count_48 rfl (lv_at hl 0 rfl) ?_
      refine va_get (D := (dC, dI)) (ci := 7) (v := .ref (a 7)) (C := RX9) (T := TX9) (N := 11) hx hb hta inX9 hown hK hP 0 (xr_0 a k st) rfl 2 (by decide) hf28 (fun _ h9 => h9) rfl dX9_count_49 ?_
      refine wl_ci (va_runV (As := []) (rest := []) ⟨hx, hb, hml, hown, hta⟩ (kx_Terms_totalCost l dC dI a k st) (cwV 0 hta gX9_198 rfl rfl rfl (by decide +kernel) ⟨Nat.le_of_ble_eq_true rfl, Nat.le_of_ble_eq_true rfl⟩) (wl_pR (C := RX4) (ci := 2) (q0 := 7) hK hP rfl (xr_7 a k st)) rfl rfl hl.1 rfl (lv_room (Nat.le_of_ble_eq_true rfl)) dX9_count_52 ⟨Nat.zero_le _, Nat.zero_le _⟩) ?_
      exact W.iret (v := fx_Terms_totalCost st) hx hb hr (fun t ht hW => ⟨_, rfl, hR, ht⟩) (fun q h => by cases h) dX9_count_55
    · skip
      rw [if_neg c1_1] at hR
      by_cases c1_2 : wh = (2 : Int32)
      · skip
        rw [if_pos c1_2] at hR
        refine lv_tableIn (tgt := 56) hx hb dX9_count_1 (by rw [c1_2]; decide) (by rw [c1_2]; decide) (by rw [c1_2] <;> rfl) (by decide) ?_
        refine lv_aload_n hx hb dX9_count_56 rfl (lv_at hl 0 rfl) ?_
        refine va_get (D := (dC, dI)) (ci := 7) (v := .ref (a 21)) (C := RX9) (T := TX9) (N := 11) hx hb hta inX9 hown hK hP 0 (xr_0 a k st) rfl 6 (by decide) hf64 (fun _ h9 => h9) rfl dX9_count_57 ?_
        refine wl_ci (va_runV (As := []) (rest := []) ⟨hx, hb, hml, hown, hta⟩ (kx_Path_length l dC dI a k st) (cwV 0 hta gX9_138 rfl rfl rfl (by decide +kernel) ⟨Nat.le_of_ble_eq_true rfl, Nat.le_of_ble_eq_true rfl⟩) (wl_pR (C := RX8) (ci := 6) (q0 := 21) hK hP rfl (xr_21 a k st)) rfl rfl hl.1 rfl (lv_room (Nat.le_of_ble_eq_true rfl)) dX9_count_60 ⟨Nat.zero_le _, Nat.zero_le _⟩) ?_
        exact W.iret (v := fx_Path_length st) hx hb hr (fun t ht hW => ⟨_, rfl, hR, ht⟩) (fun q h => by cases h) dX9_count_63
      · skip
        rw [if_neg c1_2] at hR
        by_cases c1_3 : wh = (3 : Int32)
        · skip
          rw [if_pos c1_3] at hR
          refine lv_tableIn (tgt := 64) hx hb dX9_count_1 (by rw [c1_3]; decide) (by rw [c1_3]; decide) (by rw [c1_3] <;> rfl) (by decide) ?_
          refine lv_aload_n hx hb dX9_count_64 rfl (lv_at hl 0 rfl) ?_
          refine va_get (D := (dC, dI)) (ci := 7) (v := .ref (a 1)) (C := RX9) (T := TX9) (N := 11) hx hb hta inX9 hown hK hP 0 (xr_0 a k st) rfl 0 (by decide) hf12 (fun _ h9 => h9) rfl dX9_count_65 ?_
          refine wl_ci (va_runV (As := []) (rest := []) ⟨hx, hb, hml, hown, hta⟩ (kx_Vars_size l dC dI a k st) (cwV 0 hta gX9_201 rfl rfl rfl (by decide +kernel) ⟨Nat.le_of_ble_eq_true rfl, Nat.le_of_ble_eq_true rfl⟩) (wl_pR (C := RX2) (ci := 0) (q0 := 1) hK hP rfl (xr_1 a k st)) rfl rfl hl.1 rfl (lv_room (Nat.le_of_ble_eq_true rfl)) dX9_count_68 ⟨Nat.zero_le _, Nat.zero_le _⟩) ?_
          exact W.iret (v := fx_Vars_size st) hx hb hr (fun t ht hW => ⟨_, rfl, hR, ht⟩) (fun q h => by cases h) dX9_count_71
        · skip
          rw [if_neg c1_3] at hR
          by_cases c1_4 : wh = (4 : Int32)
          · skip
            rw [if_pos c1_4] at hR
            refine lv_tableIn (tgt := 72) hx hb dX9_count_1 (by rw [c1_4]; decide) (by rw [c1_4]; decide) (by rw [c1_4] <;> rfl) (by decide) ?_
            refine lv_aload_n hx hb dX9_count_72 rfl (lv_at hl 0 rfl) ?_
            refine va_get (D := (dC, dI)) (ci := 7) (v := .int (gI st 2)) (C := RX9) (T := TX9) (N := 11) hx hb hta inX9 hown hK hP 0 (xr_0 a k st) rfl 9 (by decide) hf75 (fun _ h9 => h9) rfl dX9_count_73 ?_
            exact W.iret (v := gI st 2) hx hb hr (fun t ht hW => ⟨_, rfl, hR, ht⟩) (fun q h => by cases h) dX9_count_76
          · skip
            rw [if_neg c1_4] at hR
            by_cases c1_5 : wh = (5 : Int32)
            · skip
              rw [if_pos c1_5] at hR
              refine lv_tableIn (tgt := 77) hx hb dX9_count_1 (by rw [c1_5]; decide) (by rw [c1_5]; decide) (by rw [c1_5] <;> rfl) (by decide) ?_
              refine lv_aload_n hx hb dX9_count_77 rfl (lv_at hl 0 rfl) ?_
              refine va_get (D := (dC, dI)) (ci := 7) (v := .int (gI st 3)) (C := RX9) (T := TX9) (N := 11) hx hb hta inX9 hown hK hP 0 (xr_0 a k st) rfl 10 (by decide) hf78 (fun _ h9 => h9) rfl dX9_count_78 ?_
              exact W.iret (v := gI st 3) hx hb hr (fun t ht hW => ⟨_, rfl, hR, ht⟩) (fun q h => by cases h) dX9_count_81
            · skip
              rw [if_neg c1_5] at hR
              have t1_0 := lv_neT (a := 0) c1_0 (by decide)
              have t1_1 := lv_neT (a := 1) c1_1 (by decide)
              have t1_2 := lv_neT (a := 2) c1_2 (by decide)
              have t1_3 := lv_neT (a := 3) c1_3 (by decide)
              have t1_4 := lv_neT (a := 4) c1_4 (by decide)
              have t1_5 := lv_neT (a := 5) c1_5 (by decide)
              refine lv_tableOut (tgt := 82) hx hb dX9_count_1 (by omega) (by decide) ?_
              refine lv_iconst (v := (-1 : Int32)) hx hb dX9_count_82 (by decide) ?_
              exact W.iret (v := (-1 : Int32)) hx hb hr (fun t ht hW => ⟨_, rfl, hR, ht⟩) (fun q h => by cases h) dX9_count_83
