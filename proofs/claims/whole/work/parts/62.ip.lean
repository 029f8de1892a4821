theorem t71 {ms : XS} {N : Nat} {o x y z : Int32} (n0 : gI ms 0 = nI N) (h64 : N ≤ 64) : ∀ (n i : Nat) (S1 : XS), i ≤ N → N - i < n → XF [] [] [1] ms S1 → (∀ j : Nat, j < i → fA ms 0 j = 21 → fL S1 1 j = fL ms 0 j) → ∃ S2 : XS, XF [] [] [1] ms S2 ∧ (∀ j : Nat, j < N → fA ms 0 j = 21 → fL S2 1 j = fL ms 0 j) ∧ fm_Mod_term_L71 ms o x y z n i S1 = ((fm_Mod_constantOf S2 (fm_Mod_widthOf S2 o x y) (fm_Mod_result S2 o x y z)).1, (fm_Mod_constantOf S2 (fm_Mod_widthOf S2 o x y) (fm_Mod_result S2 o x y z)).2) := by
  intro n
  induction n with
  | zero => intro i S1 _ h; exact absurd h (Nat.not_lt_zero _)
  | succ n ih =>
    intro i S1 hi hm hF hK
    rw [fm_Mod_term_L71, hF.I 0 (by decide), n0]
    by_cases c : nI N ≤ nI i
    · rw [if_pos c]
      have hge : N ≤ i := wl_ge c (by omega)
      exact ⟨S1, hF, fun j hj => hK j (by omega), rfl⟩
    · rw [if_neg c]
      have hlt : i < N := wl_lt c (by omega)
      rw [fm_Mod_isConst, nI_clamp (by omega), hF.A 0 (by decide)]
      by_cases k : fA ms 0 i = 21
      · rw [if_pos k, if_neg i10]
        refine ih (i + 1) _ (by omega) (by omega) (XF.wL (by decide) hF) (fun j hj kj => ?_)
        show vp_updL (fL S1 1) i _ j = _
        by_cases e : j = i
        · rw [e, pk_uLs, hF.L 0 (by decide)]
        · rw [pk_uLn e]; exact hK j (by omega) kj
      · rw [if_neg k, if_pos rfl]
        refine ih (i + 1) _ (by omega) (by omega) hF (fun j hj kj => ?_)
        by_cases e : j = i
        · rw [e] at kj; exact absurd kj k
        · exact hK j (by omega) kj
theorem foldN {st ms : XS} {V N E Bt i : Nat} {o b c y z wt : Int32} (h : Rel st ms V N E Bt) (hi : i < N) (k21 : fA st 3 i = 21) (hO : OpTy o (fA st 4 i) (fA st 4 y.toNatClampNeg) (fA st 4 z.toNatClampNeg) y wt) (Kb : nI 1 < fx_Op_namedTerms o → ∃ j : Nat, j < N ∧ y = nI j ∧ b = nI j ∧ fA st 3 j = 21) (Kc : nI 2 < fx_Op_namedTerms o → ∃ j : Nat, j < N ∧ z = nI j ∧ c = nI j ∧ fA st 3 j = 21) (hby : ∀ (tab : Nat → Int64) (w : Int32) (x1 y1 z1 : Int64), opv tab o w b x1 y1 z1 = opv tab o w y x1 y1 z1) (hwx : fx_Terms_widthOfResult st o (nI i) b = wt) (hwm : ∀ S : XS, fA S 4 = fA ms 4 → fm_Mod_widthOf S o (nI i) y = wt) : (fx_Terms_findOrAddConstant st (fx_Terms_widthOfResult st o (nI i) b) (fx_Eval_applyToConstants st o (nI i) b c)).1 = (fm_Mod_term_L71 ms o (nI i) y z 65 0 ms).1 ∧ ∃ N2 : Nat, Rel (fx_Terms_findOrAddConstant st (fx_Terms_widthOfResult st o (nI i) b) (fx_Eval_applyToConstants st o (nI i) b c)).2 (fm_Mod_term_L71 ms o (nI i) y z 65 0 ms).2 V N2 E Bt := by
  have h64 := h.n64
  have n0 : gI ms 0 = nI N := h.2.1.1
  have hr := h
  obtain ⟨S2, f2, k2, e2⟩ := t71 (o := o) (x := nI i) (y := y) (z := z) n0 h64 65 0 ms (Nat.zero_le _) (by omega) XF.rf (fun j hj => absurd hj (Nat.not_lt_zero _))
  obtain ⟨⟨hV, hV4, hBt, hBt10, hN, _, hEl, hE16, hX, hM0, hcN, mv⟩, ⟨_, c0, v0, e0, y0, o0⟩, sr, tb, vb, kz, rz, pa, mo, ro, tr, cu⟩ := h
  have R2 : Rel st S2 V N E Bt := hr.fr (XF.rf (Is := []) (As := []) (Ls := [])) (by decide) (by decide) (by decide) f2 (by decide) (by decide) (by decide) hM0 mv ((f2.I 4 (by decide)).trans y0) ((f2.I 5 (by decide)).trans o0) kz rz (mo.fr (XF.rf (Is := []) (As := []) (Ls := [])) (by decide) (by decide) f2 (by decide) (by decide)) ro
  have val : ∀ j : Nat, j < N → fA st 3 j = 21 → nrm (fA st 4 j) (fL st 1 j) ∧ fL S2 1 j = rp (fA st 4 j) (fL st 1 j) := by
    intro j hj k
    obtain ⟨s0, s4, s21, s1, s23⟩ := sr j hj
    exact ⟨(hX.1 j hj).o21 k, by rw [k2 j hj (by rw [s0]; exact k)]; exact s21 k⟩
  have hres : fm_Mod_result S2 o (nI i) y z = rp wt (opv (fL st 0) o (fA st 4 i) y (fL st 1 i) (fL st 1 b.toNatClampNeg) (fL st 1 c.toNatClampNeg)) := by
    refine resM hO ?_ (by rw [f2.A 10 (by decide)]; exact tb) (val i hi k21).1 ?_ ?_ ?_
    · rw [nI_clamp (by omega), f2.A 4 (by decide)]; exact (sr i hi).2.1
    · rw [nI_clamp (by omega)]; exact (val i hi k21).2
    · intro q
      obtain ⟨j, hj, ey, eb, kj⟩ := Kb q
      rw [ey, eb, nI_clamp (by omega)]; exact val j hj kj
    · intro q
      obtain ⟨j, hj, ey, eb, kj⟩ := Kc q
      rw [ey, eb, nI_clamp (by omega)]; exact val j hj kj
  have hap : fx_Eval_applyToConstants st o (nI i) b c = opv (fL st 0) o (fA st 4 i) y (fL st 1 i) (fL st 1 b.toNatClampNeg) (fL st 1 c.toNatClampNeg) := by
    rw [fx_Eval_applyToConstants, apc_opv, hby, fx_Terms_widthOf, nI_clamp (by omega)]
  have iw : isW wt := hO.2.1
  rw [hwx, e2, hwm S2 (f2.A 4 (by decide)), hres, hap]
  obtain ⟨q1, q2, _⟩ := focN (x := opv (fL st 0) o (fA st 4 i) y (fL st 1 i) (fL st 1 b.toNatClampNeg) (fL st 1 c.toNatClampNeg)) (x2 := rp wt (opv (fL st 0) o (fA st 4 i) y (fL st 1 i) (fL st 1 b.toNatClampNeg) (fL st 1 c.toNatClampNeg))) R2 iw (rprp iw _).symm
  exact ⟨q1, q2⟩
theorem alike0 {st : XS} {x y : Int32} (p : fx_Terms_has st y = 0) : fx_Maker_areAlike st x y = 0 := by
  rw [fx_Maker_areAlike]
  by_cases c : fx_Terms_has st x = 0
  · rw [if_pos c]
  · rw [if_neg c, if_pos p]
theorem alike1 {st : XS} {x y : Int32} (p : fx_Terms_has st x = 0) : fx_Maker_areAlike st x y = 0 := by
  rw [fx_Maker_areAlike, if_pos p]
theorem alikeN {st : XS} {i j : Nat} (hi : i < 64) (hj : j < 64) (p : ¬ fx_Terms_has st (nI i) = 0) (q : ¬ fx_Terms_has st (nI j) = 0) : fx_Maker_areAlike st (nI i) (nI j) = if fA st 4 i = fA st 4 j then 1 else 0 := by
  rw [fx_Maker_areAlike, if_neg p, if_neg q, fx_Terms_widthOf, fx_Terms_widthOf, nI_clamp (by omega), nI_clamp (by omega)]
theorem w17 {w : Int32} (h : isW w) : (16 : Int32) < w ↔ (17 : Int32) ≤ w := by
  rcases h with e | e | e | e | e
  all_goals (rw [e]; decide)
theorem cst_0 {ms : XS} {w : Int32} : fx_Op_costFor 0 w = fm_Mod_cost ms 0 w := by rw [cx_0, cm_0]
theorem cst_1 {ms : XS} {w : Int32} : fx_Op_costFor 1 w = fm_Mod_cost ms 1 w := by rw [cx_1, cm_1]
theorem cst_2 {ms : XS} {w : Int32} : fx_Op_costFor 2 w = fm_Mod_cost ms 2 w := by rw [cx_2, cm_2]
theorem cst_3 {ms : XS} {w : Int32} : fx_Op_costFor 3 w = fm_Mod_cost ms 3 w := by rw [cx_3, cm_3]
theorem cst_4 {ms : XS} {w : Int32} : fx_Op_costFor 4 w = fm_Mod_cost ms 4 w := by rw [cx_4, cm_4]
theorem cst_5 {ms : XS} {w : Int32} : fx_Op_costFor 5 w = fm_Mod_cost ms 5 w := by rw [cx_5, cm_5]
theorem cst_6 {ms : XS} {w : Int32} : fx_Op_costFor 6 w = fm_Mod_cost ms 6 w := by rw [cx_6, cm_6]
theorem cst_7 {ms : XS} {w : Int32} : fx_Op_costFor 7 w = fm_Mod_cost ms 7 w := by rw [cx_7, cm_7]
theorem cst_8 {ms : XS} {w : Int32} : fx_Op_costFor 8 w = fm_Mod_cost ms 8 w := by rw [cx_8, cm_8]
theorem cst_9 {ms : XS} {w : Int32} : fx_Op_costFor 9 w = fm_Mod_cost ms 9 w := by rw [cx_9, cm_9]
theorem cst_10 {ms : XS} {w : Int32} : fx_Op_costFor 10 w = fm_Mod_cost ms 10 w := by rw [cx_10, cm_10, Int32.mul_comm]
theorem cst_11 {ms : XS} {w : Int32} : fx_Op_costFor 11 w = fm_Mod_cost ms 11 w := by rw [cx_11, cm_11, Int32.mul_comm]
theorem cst_12 {ms : XS} {w : Int32} : fx_Op_costFor 12 w = fm_Mod_cost ms 12 w := by rw [cx_12, cm_12, Int32.mul_comm]
theorem cst_13 {ms : XS} {w : Int32} : fx_Op_costFor 13 w = fm_Mod_cost ms 13 w := by rw [cx_13, cm_13]
theorem cst_14 {ms : XS} {w : Int32} : fx_Op_costFor 14 w = fm_Mod_cost ms 14 w := by rw [cx_14, cm_14]
theorem cst_15 {ms : XS} {w : Int32} : fx_Op_costFor 15 w = fm_Mod_cost ms 15 w := by rw [cx_15, cm_15]
theorem cst_16 {ms : XS} {w : Int32} : fx_Op_costFor 16 w = fm_Mod_cost ms 16 w := by rw [cx_16, cm_16]
theorem cst_17 {ms : XS} {w : Int32} : fx_Op_costFor 17 w = fm_Mod_cost ms 17 w := by rw [cx_17, cm_17]
theorem cst_18 {ms : XS} {w : Int32} : fx_Op_costFor 18 w = fm_Mod_cost ms 18 w := by rw [cx_18, cm_18]
theorem cst_19 {ms : XS} {w : Int32} : fx_Op_costFor 19 w = fm_Mod_cost ms 19 w := by rw [cx_19, cm_19]
theorem cst_20 {ms : XS} {w : Int32} : fx_Op_costFor 20 w = fm_Mod_cost ms 20 w := by rw [cx_20, cm_20]
theorem ip_2 {st ms : XS} {V N E Bt i j : Nat} (h : Rel st ms V N E Bt) (hi : i < N) (hj : j < N) (hw : fA st 4 i = fA st 4 j) (z : Int32) : (fx_Maker_makeInPlace st 2 (nI i) (nI j) 0).1 = (fm_Mod_simple ms 2 (nI i) (nI j) z).1 ∧ ∃ N2 : Nat, Rel (fx_Maker_makeInPlace st 2 (nI i) (nI j) 0).2 (fm_Mod_simple ms 2 (nI i) (nI j) z).2 V N2 E Bt := by
  have h64 := h.n64
  have wi : fA ms 4 i = fA st 4 i := (h.sr i hi).2.1
  have iw : isW (fA st 4 i) := (h.xt.1 i hi).1
  refine simpN (wt := fA st 4 i) h (sh_2 h hi hj hw z) si_2 ?_ ?_ (fun q => absurd q (by decide)) (fun _ => ?_) (by decide) (by decide) ?_ (wl_in hi (by omega)) (fun _ => wl_in hj (by omega)) (fun q => absurd q (by decide))
  · rw [wx_2, nI_clamp (by omega)]
  · rw [wm_2, nI_clamp (by omega), wi]
  · rw [nI_clamp (by omega), wi]; exact cst_2
  · rw [nI_clamp (n := i) (by omega), nI_clamp (n := j) (by omega)]
    exact ⟨iw, iw, Or.inr (Or.inl ⟨by decide, hw.symm, rfl⟩)⟩
theorem ip_3 {st ms : XS} {V N E Bt i j : Nat} (h : Rel st ms V N E Bt) (hi : i < N) (hj : j < N) (hw : fA st 4 i = fA st 4 j) (z : Int32) : (fx_Maker_makeInPlace st 3 (nI i) (nI j) 0).1 = (fm_Mod_simple ms 3 (nI i) (nI j) z).1 ∧ ∃ N2 : Nat, Rel (fx_Maker_makeInPlace st 3 (nI i) (nI j) 0).2 (fm_Mod_simple ms 3 (nI i) (nI j) z).2 V N2 E Bt := by
  have h64 := h.n64
  have wi : fA ms 4 i = fA st 4 i := (h.sr i hi).2.1
  have iw : isW (fA st 4 i) := (h.xt.1 i hi).1
  refine simpN (wt := fA st 4 i) h (sh_3 h hi hj hw z) si_3 ?_ ?_ (fun q => absurd q (by decide)) (fun _ => ?_) (by decide) (by decide) ?_ (wl_in hi (by omega)) (fun _ => wl_in hj (by omega)) (fun q => absurd q (by decide))
  · rw [wx_3, nI_clamp (by omega)]
  · rw [wm_3, nI_clamp (by omega), wi]
  · rw [nI_clamp (by omega), wi]; exact cst_3
  · rw [nI_clamp (n := i) (by omega), nI_clamp (n := j) (by omega)]
    exact ⟨iw, iw, Or.inr (Or.inl ⟨by decide, hw.symm, rfl⟩)⟩
theorem ip_4 {st ms : XS} {V N E Bt i j : Nat} (h : Rel st ms V N E Bt) (hi : i < N) (hj : j < N) (hw : fA st 4 i = fA st 4 j) (z : Int32) : (fx_Maker_makeInPlace st 4 (nI i) (nI j) 0).1 = (fm_Mod_simple ms 4 (nI i) (nI j) z).1 ∧ ∃ N2 : Nat, Rel (fx_Maker_makeInPlace st 4 (nI i) (nI j) 0).2 (fm_Mod_simple ms 4 (nI i) (nI j) z).2 V N2 E Bt := by
  have h64 := h.n64
  have wi : fA ms 4 i = fA st 4 i := (h.sr i hi).2.1
  have iw : isW (fA st 4 i) := (h.xt.1 i hi).1
  refine simpN (wt := fA st 4 i) h (sh_4 h hi hj hw z) si_4 ?_ ?_ (fun q => absurd q (by decide)) (fun _ => ?_) (by decide) (by decide) ?_ (wl_in hi (by omega)) (fun _ => wl_in hj (by omega)) (fun q => absurd q (by decide))
  · rw [wx_4, nI_clamp (by omega)]
  · rw [wm_4, nI_clamp (by omega), wi]
  · rw [nI_clamp (by omega), wi]; exact cst_4
  · rw [nI_clamp (n := i) (by omega), nI_clamp (n := j) (by omega)]
    exact ⟨iw, iw, Or.inr (Or.inl ⟨by decide, hw.symm, rfl⟩)⟩
theorem ip_5 {st ms : XS} {V N E Bt i j : Nat} (h : Rel st ms V N E Bt) (hi : i < N) (hj : j < N) (hw : fA st 4 i = fA st 4 j) (z : Int32) : (fx_Maker_makeInPlace st 5 (nI i) (nI j) 0).1 = (fm_Mod_simple ms 5 (nI i) (nI j) z).1 ∧ ∃ N2 : Nat, Rel (fx_Maker_makeInPlace st 5 (nI i) (nI j) 0).2 (fm_Mod_simple ms 5 (nI i) (nI j) z).2 V N2 E Bt := by
  have h64 := h.n64
  have wi : fA ms 4 i = fA st 4 i := (h.sr i hi).2.1
  have iw : isW (fA st 4 i) := (h.xt.1 i hi).1
  refine simpN (wt := fA st 4 i) h (sh_5 h hi hj hw z) si_5 ?_ ?_ (fun q => absurd q (by decide)) (fun _ => ?_) (by decide) (by decide) ?_ (wl_in hi (by omega)) (fun _ => wl_in hj (by omega)) (fun q => absurd q (by decide))
  · rw [wx_5, nI_clamp (by omega)]
  · rw [wm_5, nI_clamp (by omega), wi]
  · rw [nI_clamp (by omega), wi]; exact cst_5
  · rw [nI_clamp (n := i) (by omega), nI_clamp (n := j) (by omega)]
    exact ⟨iw, iw, Or.inr (Or.inl ⟨by decide, hw.symm, rfl⟩)⟩
theorem ip_6 {st ms : XS} {V N E Bt i j : Nat} (h : Rel st ms V N E Bt) (hi : i < N) (hj : j < N) (hw : fA st 4 i = fA st 4 j) (z : Int32) : (fx_Maker_makeInPlace st 6 (nI i) (nI j) 0).1 = (fm_Mod_simple ms 6 (nI i) (nI j) z).1 ∧ ∃ N2 : Nat, Rel (fx_Maker_makeInPlace st 6 (nI i) (nI j) 0).2 (fm_Mod_simple ms 6 (nI i) (nI j) z).2 V N2 E Bt := by
  have h64 := h.n64
  have wi : fA ms 4 i = fA st 4 i := (h.sr i hi).2.1
  have iw : isW (fA st 4 i) := (h.xt.1 i hi).1
  refine simpN (wt := fA st 4 i) h (sh_6 h hi hj hw z) si_6 ?_ ?_ (fun q => absurd q (by decide)) (fun _ => ?_) (by decide) (by decide) ?_ (wl_in hi (by omega)) (fun _ => wl_in hj (by omega)) (fun q => absurd q (by decide))
  · rw [wx_6, nI_clamp (by omega)]
  · rw [wm_6, nI_clamp (by omega), wi]
  · rw [nI_clamp (by omega), wi]; exact cst_6
  · rw [nI_clamp (n := i) (by omega), nI_clamp (n := j) (by omega)]
    exact ⟨iw, iw, Or.inr (Or.inl ⟨by decide, hw.symm, rfl⟩)⟩
theorem ip_7 {st ms : XS} {V N E Bt i j : Nat} (h : Rel st ms V N E Bt) (hi : i < N) (hj : j < N) (hw : fA st 4 i = fA st 4 j) (z : Int32) : (fx_Maker_makeInPlace st 7 (nI i) (nI j) 0).1 = (fm_Mod_simple ms 7 (nI i) (nI j) z).1 ∧ ∃ N2 : Nat, Rel (fx_Maker_makeInPlace st 7 (nI i) (nI j) 0).2 (fm_Mod_simple ms 7 (nI i) (nI j) z).2 V N2 E Bt := by
  have h64 := h.n64
  have wi : fA ms 4 i = fA st 4 i := (h.sr i hi).2.1
  have iw : isW (fA st 4 i) := (h.xt.1 i hi).1
  refine simpN (wt := fA st 4 i) h (sh_7 h hi hj hw z) si_7 ?_ ?_ (fun q => absurd q (by decide)) (fun _ => ?_) (by decide) (by decide) ?_ (wl_in hi (by omega)) (fun _ => wl_in hj (by omega)) (fun q => absurd q (by decide))
  · rw [wx_7, nI_clamp (by omega)]
  · rw [wm_7, nI_clamp (by omega), wi]
  · rw [nI_clamp (by omega), wi]; exact cst_7
  · rw [nI_clamp (n := i) (by omega), nI_clamp (n := j) (by omega)]
    exact ⟨iw, iw, Or.inr (Or.inl ⟨by decide, hw.symm, rfl⟩)⟩
theorem ip_8 {st ms : XS} {V N E Bt i j : Nat} (h : Rel st ms V N E Bt) (hi : i < N) (hj : j < N) (hw : fA st 4 i = fA st 4 j) (h8 : fA st 4 i = 8) (z : Int32) : (fx_Maker_makeInPlace st 8 (nI i) (nI j) 0).1 = (fm_Mod_simple ms 8 (nI i) (nI j) z).1 ∧ ∃ N2 : Nat, Rel (fx_Maker_makeInPlace st 8 (nI i) (nI j) 0).2 (fm_Mod_simple ms 8 (nI i) (nI j) z).2 V N2 E Bt := by
  have h64 := h.n64
  have wi : fA ms 4 i = fA st 4 i := (h.sr i hi).2.1
  have iw : isW (fA st 4 i) := (h.xt.1 i hi).1
  refine simpN (wt := fA st 4 i) h (sh_8 h hi hj hw z) si_8 ?_ ?_ (fun q => absurd q (by decide)) (fun _ => ?_) (by decide) (by decide) ?_ (wl_in hi (by omega)) (fun _ => wl_in hj (by omega)) (fun q => absurd q (by decide))
  · rw [wx_8, nI_clamp (by omega)]
  · rw [wm_8, nI_clamp (by omega), wi]
  · rw [nI_clamp (by omega), wi]; exact cst_8
  · rw [nI_clamp (n := i) (by omega), nI_clamp (n := j) (by omega)]
    exact ⟨iw, iw, Or.inr (Or.inr (Or.inl ⟨by decide, h8, hw.symm.trans h8, h8⟩))⟩
theorem ip_9 {st ms : XS} {V N E Bt i j : Nat} (h : Rel st ms V N E Bt) (hi : i < N) (hj : j < N) (hw : fA st 4 i = fA st 4 j) (h8 : fA st 4 i = 8) (z : Int32) : (fx_Maker_makeInPlace st 9 (nI i) (nI j) 0).1 = (fm_Mod_simple ms 9 (nI i) (nI j) z).1 ∧ ∃ N2 : Nat, Rel (fx_Maker_makeInPlace st 9 (nI i) (nI j) 0).2 (fm_Mod_simple ms 9 (nI i) (nI j) z).2 V N2 E Bt := by
  have h64 := h.n64
  have wi : fA ms 4 i = fA st 4 i := (h.sr i hi).2.1
  have iw : isW (fA st 4 i) := (h.xt.1 i hi).1
  refine simpN (wt := fA st 4 i) h (sh_9 h hi hj hw z) si_9 ?_ ?_ (fun q => absurd q (by decide)) (fun _ => ?_) (by decide) (by decide) ?_ (wl_in hi (by omega)) (fun _ => wl_in hj (by omega)) (fun q => absurd q (by decide))
  · rw [wx_9, nI_clamp (by omega)]
  · rw [wm_9, nI_clamp (by omega), wi]
  · rw [nI_clamp (by omega), wi]; exact cst_9
  · rw [nI_clamp (n := i) (by omega), nI_clamp (n := j) (by omega)]
    exact ⟨iw, iw, Or.inr (Or.inr (Or.inl ⟨by decide, h8, hw.symm.trans h8, h8⟩))⟩
theorem ip_10 {st ms : XS} {V N E Bt i j : Nat} (h : Rel st ms V N E Bt) (hi : i < N) (hj : j < N) (hw : fA st 4 i = fA st 4 j) (z : Int32) : (fx_Maker_makeInPlace st 10 (nI i) (nI j) 0).1 = (fm_Mod_simple ms 10 (nI i) (nI j) z).1 ∧ ∃ N2 : Nat, Rel (fx_Maker_makeInPlace st 10 (nI i) (nI j) 0).2 (fm_Mod_simple ms 10 (nI i) (nI j) z).2 V N2 E Bt := by
  have h64 := h.n64
  have wi : fA ms 4 i = fA st 4 i := (h.sr i hi).2.1
  have iw : isW (fA st 4 i) := (h.xt.1 i hi).1
  refine simpN (wt := fA st 4 i) h (sh_10 h hi hj hw z) si_10 ?_ ?_ (fun q => absurd q (by decide)) (fun _ => ?_) (by decide) (by decide) ?_ (wl_in hi (by omega)) (fun _ => wl_in hj (by omega)) (fun q => absurd q (by decide))
  · rw [wx_10, nI_clamp (by omega)]
  · rw [wm_10, nI_clamp (by omega), wi]
  · rw [nI_clamp (by omega), wi]; exact cst_10
  · rw [nI_clamp (n := i) (by omega), nI_clamp (n := j) (by omega)]
    exact ⟨iw, iw, Or.inr (Or.inl ⟨by decide, hw.symm, rfl⟩)⟩
theorem ip_11 {st ms : XS} {V N E Bt i j : Nat} (h : Rel st ms V N E Bt) (hi : i < N) (hj : j < N) (hw : fA st 4 i = fA st 4 j) (z : Int32) : (fx_Maker_makeInPlace st 11 (nI i) (nI j) 0).1 = (fm_Mod_simple ms 11 (nI i) (nI j) z).1 ∧ ∃ N2 : Nat, Rel (fx_Maker_makeInPlace st 11 (nI i) (nI j) 0).2 (fm_Mod_simple ms 11 (nI i) (nI j) z).2 V N2 E Bt := by
  have h64 := h.n64
  have wi : fA ms 4 i = fA st 4 i := (h.sr i hi).2.1
  have iw : isW (fA st 4 i) := (h.xt.1 i hi).1
  refine simpN (wt := fA st 4 i) h (sh_11 h hi hj hw z) si_11 ?_ ?_ (fun q => absurd q (by decide)) (fun _ => ?_) (by decide) (by decide) ?_ (wl_in hi (by omega)) (fun _ => wl_in hj (by omega)) (fun q => absurd q (by decide))
  · rw [wx_11, nI_clamp (by omega)]
  · rw [wm_11, nI_clamp (by omega), wi]
  · rw [nI_clamp (by omega), wi]; exact cst_11
  · rw [nI_clamp (n := i) (by omega), nI_clamp (n := j) (by omega)]
    exact ⟨iw, iw, Or.inr (Or.inl ⟨by decide, hw.symm, rfl⟩)⟩
theorem ip_12 {st ms : XS} {V N E Bt i j : Nat} (h : Rel st ms V N E Bt) (hi : i < N) (hj : j < N) (hw : fA st 4 i = fA st 4 j) (z : Int32) : (fx_Maker_makeInPlace st 12 (nI i) (nI j) 0).1 = (fm_Mod_simple ms 12 (nI i) (nI j) z).1 ∧ ∃ N2 : Nat, Rel (fx_Maker_makeInPlace st 12 (nI i) (nI j) 0).2 (fm_Mod_simple ms 12 (nI i) (nI j) z).2 V N2 E Bt := by
  have h64 := h.n64
  have wi : fA ms 4 i = fA st 4 i := (h.sr i hi).2.1
  have iw : isW (fA st 4 i) := (h.xt.1 i hi).1
  refine simpN (wt := fA st 4 i) h (sh_12 h hi hj hw z) si_12 ?_ ?_ (fun q => absurd q (by decide)) (fun _ => ?_) (by decide) (by decide) ?_ (wl_in hi (by omega)) (fun _ => wl_in hj (by omega)) (fun q => absurd q (by decide))
  · rw [wx_12, nI_clamp (by omega)]
  · rw [wm_12, nI_clamp (by omega), wi]
  · rw [nI_clamp (by omega), wi]; exact cst_12
  · rw [nI_clamp (n := i) (by omega), nI_clamp (n := j) (by omega)]
    exact ⟨iw, iw, Or.inr (Or.inl ⟨by decide, hw.symm, rfl⟩)⟩
theorem ip_13 {st ms : XS} {V N E Bt i j : Nat} (h : Rel st ms V N E Bt) (hi : i < N) (hj : j < N) (hw : fA st 4 i = fA st 4 j) (z : Int32) : (fx_Maker_makeInPlace st 13 (nI i) (nI j) 0).1 = (fm_Mod_simple ms 13 (nI i) (nI j) z).1 ∧ ∃ N2 : Nat, Rel (fx_Maker_makeInPlace st 13 (nI i) (nI j) 0).2 (fm_Mod_simple ms 13 (nI i) (nI j) z).2 V N2 E Bt := by
  have h64 := h.n64
  have wi : fA ms 4 i = fA st 4 i := (h.sr i hi).2.1
  have iw : isW (fA st 4 i) := (h.xt.1 i hi).1
  refine simpN (wt := 1) h (sh_13 h hi hj hw z) si_13 ?_ ?_ (fun q => absurd q (by decide)) (fun _ => ?_) (by decide) (by decide) ?_ (wl_in hi (by omega)) (fun _ => wl_in hj (by omega)) (fun q => absurd q (by decide))
  · rw [wx_13]
  · rw [wm_13]
  · rw [nI_clamp (by omega), wi]; exact cst_13
  · rw [nI_clamp (n := i) (by omega), nI_clamp (n := j) (by omega)]
    exact ⟨iw, Or.inl rfl, Or.inr (Or.inr (Or.inr (Or.inl ⟨by decide, hw.symm, rfl⟩)))⟩
theorem ip_14 {st ms : XS} {V N E Bt i j : Nat} (h : Rel st ms V N E Bt) (hi : i < N) (hj : j < N) (hw : fA st 4 i = fA st 4 j) (z : Int32) : (fx_Maker_makeInPlace st 14 (nI i) (nI j) 0).1 = (fm_Mod_simple ms 14 (nI i) (nI j) z).1 ∧ ∃ N2 : Nat, Rel (fx_Maker_makeInPlace st 14 (nI i) (nI j) 0).2 (fm_Mod_simple ms 14 (nI i) (nI j) z).2 V N2 E Bt := by
  have h64 := h.n64
  have wi : fA ms 4 i = fA st 4 i := (h.sr i hi).2.1
  have iw : isW (fA st 4 i) := (h.xt.1 i hi).1
  refine simpN (wt := 1) h (sh_14 h hi hj hw z) si_14 ?_ ?_ (fun q => absurd q (by decide)) (fun _ => ?_) (by decide) (by decide) ?_ (wl_in hi (by omega)) (fun _ => wl_in hj (by omega)) (fun q => absurd q (by decide))
  · rw [wx_14]
  · rw [wm_14]
  · rw [nI_clamp (by omega), wi]; exact cst_14
  · rw [nI_clamp (n := i) (by omega), nI_clamp (n := j) (by omega)]
    exact ⟨iw, Or.inl rfl, Or.inr (Or.inr (Or.inr (Or.inl ⟨by decide, hw.symm, rfl⟩)))⟩
theorem ip_15 {st ms : XS} {V N E Bt i j : Nat} (h : Rel st ms V N E Bt) (hi : i < N) (hj : j < N) (hw : fA st 4 i = fA st 4 j) (z : Int32) : (fx_Maker_makeInPlace st 15 (nI i) (nI j) 0).1 = (fm_Mod_simple ms 15 (nI i) (nI j) z).1 ∧ ∃ N2 : Nat, Rel (fx_Maker_makeInPlace st 15 (nI i) (nI j) 0).2 (fm_Mod_simple ms 15 (nI i) (nI j) z).2 V N2 E Bt := by
  have h64 := h.n64
  have wi : fA ms 4 i = fA st 4 i := (h.sr i hi).2.1
  have iw : isW (fA st 4 i) := (h.xt.1 i hi).1
  refine simpN (wt := 1) h (sh_15 h hi hj hw z) si_15 ?_ ?_ (fun q => absurd q (by decide)) (fun _ => ?_) (by decide) (by decide) ?_ (wl_in hi (by omega)) (fun _ => wl_in hj (by omega)) (fun q => absurd q (by decide))
  · rw [wx_15]
  · rw [wm_15]
  · rw [nI_clamp (by omega), wi]; exact cst_15
  · rw [nI_clamp (n := i) (by omega), nI_clamp (n := j) (by omega)]
    exact ⟨iw, Or.inl rfl, Or.inr (Or.inr (Or.inr (Or.inl ⟨by decide, hw.symm, rfl⟩)))⟩
theorem ip_0 {st ms : XS} {V N E Bt i : Nat} (h : Rel st ms V N E Bt) (hi : i < N) (y z : Int32) : (fx_Maker_makeInPlace st 0 (nI i) 0 0).1 = (fm_Mod_simple ms 0 (nI i) y z).1 ∧ ∃ N2 : Nat, Rel (fx_Maker_makeInPlace st 0 (nI i) 0 0).2 (fm_Mod_simple ms 0 (nI i) y z).2 V N2 E Bt := by
  have h64 := h.n64
  have wi : fA ms 4 i = fA st 4 i := (h.sr i hi).2.1
  have iw : isW (fA st 4 i) := (h.xt.1 i hi).1
  refine simpN (wt := fA st 4 i) h (sh_0 h hi y z) si_0 ?_ ?_ (fun q => absurd q (by decide)) (fun _ => ?_) (by decide) (by decide) ?_ (wl_in hi (by omega)) (fun q => absurd q (by decide)) (fun q => absurd q (by decide))
  · rw [wx_0, nI_clamp (by omega)]
  · rw [wm_0, nI_clamp (by omega), wi]
  · rw [nI_clamp (by omega), wi]; exact cst_0
  · rw [nI_clamp (n := i) (by omega)]
    exact ⟨iw, iw, Or.inl ⟨by decide, rfl⟩⟩
theorem ip_1 {st ms : XS} {V N E Bt i : Nat} (h : Rel st ms V N E Bt) (hi : i < N) (y z : Int32) : (fx_Maker_makeInPlace st 1 (nI i) 0 0).1 = (fm_Mod_simple ms 1 (nI i) y z).1 ∧ ∃ N2 : Nat, Rel (fx_Maker_makeInPlace st 1 (nI i) 0 0).2 (fm_Mod_simple ms 1 (nI i) y z).2 V N2 E Bt := by
  have h64 := h.n64
  have wi : fA ms 4 i = fA st 4 i := (h.sr i hi).2.1
  have iw : isW (fA st 4 i) := (h.xt.1 i hi).1
  refine simpN (wt := fA st 4 i) h (sh_1 h hi y z) si_1 ?_ ?_ (fun q => absurd q (by decide)) (fun _ => ?_) (by decide) (by decide) ?_ (wl_in hi (by omega)) (fun q => absurd q (by decide)) (fun q => absurd q (by decide))
  · rw [wx_1, nI_clamp (by omega)]
  · rw [wm_1, nI_clamp (by omega), wi]
  · rw [nI_clamp (by omega), wi]; exact cst_1
  · rw [nI_clamp (n := i) (by omega)]
    exact ⟨iw, iw, Or.inl ⟨by decide, rfl⟩⟩
theorem ip_16 {st ms : XS} {V N E Bt i j k : Nat} (h : Rel st ms V N E Bt) (hi : i < N) (hj : j < N) (hk : k < N) (h1 : fA st 4 i = 1) (hw : fA st 4 j = fA st 4 k) : (fx_Maker_makeInPlace st 16 (nI i) (nI j) (nI k)).1 = (fm_Mod_simple ms 16 (nI i) (nI j) (nI k)).1 ∧ ∃ N2 : Nat, Rel (fx_Maker_makeInPlace st 16 (nI i) (nI j) (nI k)).2 (fm_Mod_simple ms 16 (nI i) (nI j) (nI k)).2 V N2 E Bt := by
  have h64 := h.n64
  have wj : fA ms 4 j = fA st 4 j := (h.sr j hj).2.1
  refine simpN (wt := fA st 4 j) h (sh_16 h hi hj hk h1) si_16 ?_ ?_ (fun _ => ?_) (fun q => absurd rfl q) (by decide) (by decide) ?_ (wl_in hi (by omega)) (fun _ => wl_in hj (by omega)) (fun _ => wl_in hk (by omega))
  · rw [wx_16, nI_clamp (by omega)]
  · rw [wm_16, nI_clamp (by omega), wj]
  · rw [nI_clamp (by omega), wj]; exact cst_16
  · rw [nI_clamp (n := i) (by omega), nI_clamp (n := j) (by omega), nI_clamp (n := k) (by omega)]
    exact ⟨(h.xt.1 i hi).1, (h.xt.1 j hj).1, Or.inr (Or.inr (Or.inr (Or.inr (Or.inl ⟨rfl, h1, rfl, hw.symm⟩))))⟩
theorem ip_17 {st ms : XS} {V N E Bt i : Nat} {b : Int32} (h : Rel st ms V N E Bt) (hi : i < N) (hb : isW b) (hl : fA st 4 i < b) (z : Int32) : (fx_Maker_makeInPlace st 17 (nI i) b 0).1 = (fm_Mod_simple ms 17 (nI i) b z).1 ∧ ∃ N2 : Nat, Rel (fx_Maker_makeInPlace st 17 (nI i) b 0).2 (fm_Mod_simple ms 17 (nI i) b z).2 V N2 E Bt := by
  have h64 := h.n64
  have wi : fA ms 4 i = fA st 4 i := (h.sr i hi).2.1
  have iw : isW (fA st 4 i) := (h.xt.1 i hi).1
  refine simpN (wt := b) h (sh_17 b z) si_17 ?_ ?_ (fun q => absurd q (by decide)) (fun _ => ?_) (by decide) (by decide) ?_ (wl_in hi (by omega)) (fun q => absurd q (by decide)) (fun q => absurd q (by decide))
  · rw [wx_17]
  · rw [wm_17]
  · rw [nI_clamp (by omega), wi]; exact cst_17
  · rw [nI_clamp (n := i) (by omega)]
    exact ⟨iw, hb, Or.inr (Or.inr (Or.inr (Or.inr (Or.inr (Or.inl ⟨by decide, rfl, hl⟩)))))⟩
theorem ip_18 {st ms : XS} {V N E Bt i : Nat} {b : Int32} (h : Rel st ms V N E Bt) (hi : i < N) (hb : isW b) (hl : fA st 4 i < b) (z : Int32) : (fx_Maker_makeInPlace st 18 (nI i) b 0).1 = (fm_Mod_simple ms 18 (nI i) b z).1 ∧ ∃ N2 : Nat, Rel (fx_Maker_makeInPlace st 18 (nI i) b 0).2 (fm_Mod_simple ms 18 (nI i) b z).2 V N2 E Bt := by
  have h64 := h.n64
  have wi : fA ms 4 i = fA st 4 i := (h.sr i hi).2.1
  have iw : isW (fA st 4 i) := (h.xt.1 i hi).1
  refine simpN (wt := b) h (sh_18 b z) si_18 ?_ ?_ (fun q => absurd q (by decide)) (fun _ => ?_) (by decide) (by decide) ?_ (wl_in hi (by omega)) (fun q => absurd q (by decide)) (fun q => absurd q (by decide))
  · rw [wx_18]
  · rw [wm_18]
  · rw [nI_clamp (by omega), wi]; exact cst_18
  · rw [nI_clamp (n := i) (by omega)]
    exact ⟨iw, hb, Or.inr (Or.inr (Or.inr (Or.inr (Or.inr (Or.inl ⟨by decide, rfl, hl⟩)))))⟩
theorem ip_19 {st ms : XS} {V N E Bt i : Nat} {b : Int32} (h : Rel st ms V N E Bt) (hi : i < N) (hb : isW b) (hl : b < fA st 4 i) (z : Int32) : (fx_Maker_makeInPlace st 19 (nI i) b 0).1 = (fm_Mod_simple ms 19 (nI i) b z).1 ∧ ∃ N2 : Nat, Rel (fx_Maker_makeInPlace st 19 (nI i) b 0).2 (fm_Mod_simple ms 19 (nI i) b z).2 V N2 E Bt := by
  have h64 := h.n64
  have wi : fA ms 4 i = fA st 4 i := (h.sr i hi).2.1
  have iw : isW (fA st 4 i) := (h.xt.1 i hi).1
  refine simpN (wt := b) h (sh_19 b z) si_19 ?_ ?_ (fun q => absurd q (by decide)) (fun _ => ?_) (by decide) (by decide) ?_ (wl_in hi (by omega)) (fun q => absurd q (by decide)) (fun q => absurd q (by decide))
  · rw [wx_19]
  · rw [wm_19]
  · rw [nI_clamp (by omega), wi]; exact cst_19
  · rw [nI_clamp (n := i) (by omega)]
    exact ⟨iw, hb, Or.inr (Or.inr (Or.inr (Or.inr (Or.inr (Or.inr (Or.inl ⟨rfl, rfl, hl⟩))))))⟩
theorem ip_20 {st ms : XS} {V N E Bt i : Nat} {b : Int32} (h : Rel st ms V N E Bt) (hi : i < N) (hb : vp_in b 2) (h8 : fA st 4 i = 8) (z : Int32) : (fx_Maker_makeInPlace st 20 (nI i) b 0).1 = (fm_Mod_simple ms 20 (nI i) b z).1 ∧ ∃ N2 : Nat, Rel (fx_Maker_makeInPlace st 20 (nI i) b 0).2 (fm_Mod_simple ms 20 (nI i) b z).2 V N2 E Bt := by
  have h64 := h.n64
  have wi : fA ms 4 i = fA st 4 i := (h.sr i hi).2.1
  have iw : isW (fA st 4 i) := (h.xt.1 i hi).1
  refine simpN (wt := 8) h (sh_20 b z) si_20 ?_ ?_ (fun q => absurd q (by decide)) (fun _ => ?_) (by decide) (by decide) ?_ (wl_in hi (by omega)) (fun q => absurd q (by decide)) (fun q => absurd q (by decide))
  · rw [wx_20, nI_clamp (by omega), h8]
  · rw [wm_20]
  · rw [nI_clamp (by omega), wi]; exact cst_20
  · rw [nI_clamp (n := i) (by omega)]
    exact ⟨iw, Or.inr (Or.inl rfl), Or.inr (Or.inr (Or.inr (Or.inr (Or.inr (Or.inr (Or.inr (⟨rfl, hb, h8, rfl⟩)))))))⟩
