theorem wl_alike {st : XS} {x y : Int32} (c : ¬ fx_Maker_areAlike st x y = 0) : ¬ fx_Terms_has st x = 0 ∧ ¬ fx_Terms_has st y = 0 ∧ fx_Terms_widthOf st x = fx_Terms_widthOf st y := by
  rw [fx_Maker_areAlike] at c
  by_cases h1 : fx_Terms_has st x = (0 : Int32)
  · rw [if_pos h1] at c; exact absurd rfl c
  · rw [if_neg h1] at c
    by_cases h2 : fx_Terms_has st y = (0 : Int32)
    · rw [if_pos h2] at c; exact absurd rfl c
    · rw [if_neg h2] at c
      by_cases h3 : fx_Terms_widthOf st x = fx_Terms_widthOf st y
      · exact ⟨h1, h2, h3⟩
      · rw [if_neg h3] at c; exact absurd rfl c
def ACC (st : XS) (o a b d : Int32) : Prop :=
  (o = 0 ∨ o = 1) ∨ (o = 16 ∧ fx_Terms_widthOf st a = 1 ∧ ¬ fx_Maker_areAlike st b d = 0) ∨ ((o = 17 ∨ o = 18) ∧ ¬ fx_Width_isOne b = 0 ∧ ¬ b ≤ fx_Terms_widthOf st a) ∨ (o = 19 ∧ ¬ fx_Width_isOne b = 0 ∧ ¬ fx_Terms_widthOf st a ≤ b) ∨ (o = 20 ∧ fx_Terms_widthOf st a = 8 ∧ ¬ fx_Tabs_isTable b = 0) ∨
  ((¬ o = 0 ∧ ¬ o = 1 ∧ ¬ o = 16 ∧ ¬ o = 17 ∧ ¬ o = 18 ∧ ¬ o = 19 ∧ ¬ o = 20) ∧ ¬ fx_Maker_areAlike st a b = 0 ∧ ¬ fx_Op_isThereFor o (fx_Terms_widthOf st a) = 0)
theorem wl_accC {st : XS} {o a b d : Int32} (c : ¬ fx_Maker_accepts st o a b d = 0) : ¬ o < 0 ∧ ¬ (20 : Int32) < o ∧ ¬ fx_Terms_has st a = 0 ∧ ACC st o a b d := by
  rw [fx_Maker_accepts] at c
  by_cases h1 : o < (0 : Int32)
  · rw [if_pos h1] at c; exact absurd rfl c
  rw [if_neg h1] at c
  by_cases h2 : (20 : Int32) < o
  · rw [if_pos h2] at c; exact absurd rfl c
  rw [if_neg h2] at c
  by_cases h3 : fx_Terms_has st a = (0 : Int32)
  · rw [if_pos h3] at c; exact absurd rfl c
  rw [if_neg h3] at c
  refine ⟨h1, h2, h3, ?_⟩
  unfold ACC
  by_cases e0 : o = (0 : Int32)
  · exact Or.inl (Or.inl e0)
  rw [if_neg e0] at c
  by_cases e1 : o = (1 : Int32)
  · exact Or.inl (Or.inr e1)
  rw [if_neg e1] at c
  by_cases e16 : o = (16 : Int32)
  · rw [if_pos e16] at c
    by_cases q1 : fx_Terms_widthOf st a = (1 : Int32)
    · rw [if_pos q1] at c
      by_cases q2 : fx_Maker_areAlike st b d = (0 : Int32)
      · rw [if_pos q2] at c; exact absurd rfl c
      · exact Or.inr (Or.inl ⟨e16, q1, q2⟩)
    · rw [if_neg q1] at c; exact absurd rfl c
  rw [if_neg e16] at c
  by_cases e17 : o = (17 : Int32)
  · rw [if_pos e17] at c
    by_cases q1 : fx_Width_isOne b = (0 : Int32)
    · rw [if_pos q1] at c; exact absurd rfl c
    · rw [if_neg q1] at c
      by_cases q2 : b ≤ fx_Terms_widthOf st a
      · rw [if_pos q2] at c; exact absurd rfl c
      · exact Or.inr (Or.inr (Or.inl ⟨Or.inl e17, q1, q2⟩))
  rw [if_neg e17] at c
  by_cases e18 : o = (18 : Int32)
  · rw [if_pos e18] at c
    by_cases q1 : fx_Width_isOne b = (0 : Int32)
    · rw [if_pos q1] at c; exact absurd rfl c
    · rw [if_neg q1] at c
      by_cases q2 : b ≤ fx_Terms_widthOf st a
      · rw [if_pos q2] at c; exact absurd rfl c
      · exact Or.inr (Or.inr (Or.inl ⟨Or.inr e18, q1, q2⟩))
  rw [if_neg e18] at c
  by_cases e19 : o = (19 : Int32)
  · rw [if_pos e19] at c
    by_cases q1 : fx_Width_isOne b = (0 : Int32)
    · rw [if_pos q1] at c; exact absurd rfl c
    · rw [if_neg q1] at c
      by_cases q2 : fx_Terms_widthOf st a ≤ b
      · rw [if_pos q2] at c; exact absurd rfl c
      · exact Or.inr (Or.inr (Or.inr (Or.inl ⟨e19, q1, q2⟩)))
  rw [if_neg e19] at c
  by_cases e20 : o = (20 : Int32)
  · rw [if_pos e20] at c
    by_cases q1 : fx_Terms_widthOf st a = (8 : Int32)
    · rw [if_pos q1] at c
      by_cases q2 : fx_Tabs_isTable b = (0 : Int32)
      · rw [if_pos q2] at c; exact absurd rfl c
      · exact Or.inr (Or.inr (Or.inr (Or.inr (Or.inl ⟨e20, q1, q2⟩))))
    · rw [if_neg q1] at c; exact absurd rfl c
  rw [if_neg e20] at c
  by_cases q1 : fx_Maker_areAlike st a b = (0 : Int32)
  · rw [if_pos q1] at c; exact absurd rfl c
  · rw [if_neg q1] at c
    by_cases q2 : fx_Op_isThereFor o (fx_Terms_widthOf st a) = (0 : Int32)
    · rw [if_pos q2] at c; exact absurd rfl c
    · exact Or.inr (Or.inr (Or.inr (Or.inr (Or.inr ⟨⟨e0, e1, e16, e17, e18, e19, e20⟩, q1, q2⟩))))
theorem wl_nt3 {o : Int32} (h0 : ¬ o < 0) (h20 : ¬ (20 : Int32) < o) (h : (3 : Int32) ≤ fx_Op_namedTerms o) : o = 16 := by
  have key : ∀ k, k < 21 → (3 : Int32) ≤ fx_Op_namedTerms (nI k) → nI k = 16 := by decide +kernel
  obtain ⟨k, hk, rfl⟩ := nI_of2 (x := o) (M := 20) (n := 20) (by decide) h0 (Int32.not_lt.mp h20)
  exact key k (by omega) h
theorem wl_tab2 {t : Int32} (h1 : ¬ fx_Tabs_isTable t = 0) : vp_in t 2 := by
  rw [fx_Tabs_isTable] at h1
  by_cases c1 : t < (0 : Int32)
  · rw [if_pos c1] at h1; exact absurd rfl h1
  · rw [if_neg c1] at h1
    by_cases c2 : (2 : Int32) ≤ t
    · rw [if_pos c2] at h1; exact absurd rfl h1
    · rcases pk_ix t (n := 2) (by decide) with h | h | ⟨j, hj, rfl⟩
      · exact absurd h c1
      · exact absurd h c2
      · exact wl_in hj (by decide)
theorem wl_div8 {o w : Int32} (h : o = 8 ∨ o = 9) (c : ¬ fx_Op_isThereFor o w = 0) : w = 8 := by
  by_cases q : w = (8 : Int32)
  · exact q
  · refine absurd ?_ c
    rw [fx_Op_isThereFor]
    rcases h with rfl | rfl
    · rw [if_neg (show ¬ (8 : Int32) = 7 by decide), if_pos rfl, if_neg q]
    · rw [if_neg (show ¬ (9 : Int32) = 7 by decide), if_neg (show ¬ (9 : Int32) = 8 by decide), if_pos rfl, if_neg q]
theorem wl_const {st : XS} {t : Int32} (c : ¬ fx_Terms_isConstant st t = 0) : fA st 3 t.toNatClampNeg = 21 := by
  rw [fx_Terms_isConstant] at c
  by_cases q : fA st 3 t.toNatClampNeg = (21 : Int32)
  · exact q
  · rw [if_neg q] at c; exact absurd rfl c
theorem wl_acc {st : XS} {V N : Nat} {o a b d : Int32} (hN : gI st 6 = nI N) (h64 : N ≤ 64) (hX : XT st V N) (c : ¬ fx_Maker_accepts st o a b d = 0) :
    ¬ o < 0 ∧ ¬ (20 : Int32) < o ∧ vp_in a 64 ∧ ((2 : Int32) ≤ fx_Op_namedTerms o → vp_in b 64) ∧ ((3 : Int32) ≤ fx_Op_namedTerms o → vp_in d 64) ∧ (o = 20 → vp_in b 2) ∧ (o = 8 ∨ o = 9 → ¬ fx_Terms_isConstant st b = 0 → ¬ fL st 1 b.toNatClampNeg = 0 → ¬ fx_Width_readPlain (fx_Terms_widthOf st a) (fL st 1 b.toNatClampNeg) = 0) := by
  obtain ⟨h0, h20, ha, hc⟩ := wl_accC c
  unfold ACC at hc
  refine ⟨h0, h20, wl_has hN h64 ha, fun h => ?_, fun h => ?_, fun h => ?_, fun h hk h9 => ?_⟩
  · rcases hc with (e | e) | ⟨e, _, q⟩ | ⟨e | e, _⟩ | ⟨e, _⟩ | ⟨e, _⟩ | ⟨_, q, _⟩
    · rw [e] at h; exact absurd h (by decide)
    · rw [e] at h; exact absurd h (by decide)
    · exact wl_has hN h64 (wl_alike q).1
    · rw [e] at h; exact absurd h (by decide)
    · rw [e] at h; exact absurd h (by decide)
    · rw [e] at h; exact absurd h (by decide)
    · rw [e] at h; exact absurd h (by decide)
    · exact wl_has hN h64 (wl_alike q).2.1
  · have e := wl_nt3 h0 h20 h
    rcases hc with (q | q) | ⟨_, _, q⟩ | ⟨q | q, _⟩ | ⟨q, _⟩ | ⟨q, _⟩ | ⟨q, _⟩
    · exact absurd (e.symm.trans q) (by decide)
    · exact absurd (e.symm.trans q) (by decide)
    · exact wl_has hN h64 (wl_alike q).2.1
    · exact absurd (e.symm.trans q) (by decide)
    · exact absurd (e.symm.trans q) (by decide)
    · exact absurd (e.symm.trans q) (by decide)
    · exact absurd (e.symm.trans q) (by decide)
    · exact absurd e q.2.2.1
  · rcases hc with (q | q) | ⟨q, _⟩ | ⟨q | q, _⟩ | ⟨q, _⟩ | ⟨_, _, q⟩ | ⟨q, _⟩
    · exact absurd (h.symm.trans q) (by decide)
    · exact absurd (h.symm.trans q) (by decide)
    · exact absurd (h.symm.trans q) (by decide)
    · exact absurd (h.symm.trans q) (by decide)
    · exact absurd (h.symm.trans q) (by decide)
    · exact absurd (h.symm.trans q) (by decide)
    · exact wl_tab2 q
    · exact absurd h q.2.2.2.2.2.2
  · have no : ∀ {k : Int32} {P : Prop}, o = k → ¬ k = 8 → ¬ k = 9 → P := fun e a8 a9 => h.elim (fun q => absurd (e.symm.trans q) a8) (fun q => absurd (e.symm.trans q) a9)
    rcases hc with (q | q) | ⟨q, _⟩ | ⟨q | q, _⟩ | ⟨q, _⟩ | ⟨q, _⟩ | ⟨_, q, q2⟩
    · exact no q (by decide) (by decide)
    · exact no q (by decide) (by decide)
    · exact no q (by decide) (by decide)
    · exact no q (by decide) (by decide)
    · exact no q (by decide) (by decide)
    · exact no q (by decide) (by decide)
    · exact no q (by decide) (by decide)
    · have w8 := wl_div8 h q2
      obtain ⟨_, hb, wab⟩ := wl_alike q
      obtain ⟨t, ht, e⟩ := vp_in_of (wl_hasN hN h64 hb) (by omega)
      have k21 := wl_const hk
      rw [e, nI_clamp (by omega)] at k21 h9 ⊢
      have hn := (hX.1 t ht).o21 k21
      have wb8 : fA st 4 t = 8 := by
        have q3 := wab.symm.trans w8
        rw [e, fx_Terms_widthOf, nI_clamp (by omega)] at q3
        exact q3
      rw [wb8] at hn
      exact wl_dv w8 hn h9
theorem XW.fr {Is As Ls : List Nat} {st S : XS} {V N E Bt : Nat} (h : XW st V N E Bt) (hF : XF Is As Ls st S) (hI : ∀ k ∈ [1, 4, 5, 6, 9], k ∉ Is) (hA : ∀ k ∈ [0, 1, 2, 3, 4, 5, 10], k ∉ As) (hL : ∀ k ∈ [0, 1], k ∉ Ls) (hM : XM S N) : XW S V N E Bt := by
  obtain ⟨hV, hV4, hBt, hBt10, hN, h64, hEl, hE16, hX, hM0, hcN, MV, hMV, hMVV⟩ := h
  refine ⟨(hF.I 4 (hI 4 (by decide))).trans hV, hV4, (hF.I 5 (hI 5 (by decide))).trans hBt, hBt10, (hF.I 6 (hI 6 (by decide))).trans hN, h64, (hF.I 9 (hI 9 (by decide))).trans hEl, hE16, hX.fr hF (fun k hk => hA k (by revert k; decide)) hL, hM, ?_, MV, (hF.I 1 (hI 1 (by decide))).trans hMV, hMVV⟩
  rw [hF.A 10 (hA 10 (by decide))]
  exact hcN
theorem wl_lrL {st : XS} {V N : Nat} {len : Int32} (hN : gI st 6 = nI N) (h64 : N ≤ 64) (hV4 : V ≤ 4) (hX : XT st V N) : ∀ (n i : Nat) (S1 : XS), XF [8] [7, 8, 9] [2, 3] st S1 → XM S1 N → XM (fx_Rows_learn_L40 st len n i S1) N := by
  intro n
  induction n with
  | zero => intro i S1 _ h; exact h
  | succ n ih =>
    intro i S1 hF hM
    rw [fx_Rows_learn_L40]
    refine wl_ite (P := fun (q : XS) => XM q N) hM (ih _ _ ?_ ?_)
    · exact XF.tr (XF.tr hF ((ff_Eval_evaluateNeeded _ _).mono (by decide) (by decide) (by decide))) ((ff_Rows_noteAsked _ _ _).mono (by decide) (by decide) (by decide))
    · exact (wl_evM ((hF.I 6 (by decide)).trans hN) h64 hV4 (hX.fr hF (by decide) (by decide)) hM).fr (ff_Rows_noteAsked _ _ _) (by decide) (by decide)
theorem wl_lrM {st : XS} {V N : Nat} (len : Int32) (hN : gI st 6 = nI N) (h64 : N ≤ 64) (hV4 : V ≤ 4) (hX : XT st V N) (hM : XM st N) : XM (fx_Rows_learn st len) N := by
  rw [fx_Rows_learn]
  have ma := hM.fr (ff_Rows_ask st len) (by decide) (by decide)
  refine wl_ite (P := fun (q : XS) => XM q N) ma (wl_lrL hN h64 hV4 hX _ _ _ ?_ ?_)
  · exact XF.tr ((ff_Rows_ask st len).mono (by decide) (by decide) (by decide)) ((ff_Eval_needOperands _).mono (by decide) (by decide) (by decide))
  · exact ma.fr (ff_Eval_needOperands _) (by decide) (by decide)
theorem wl_flM {st : XS} {V N : Nat} (kk : Int32) (hN : gI st 6 = nI N) (h64 : N ≤ 64) (hV4 : V ≤ 4) (hX : XT st V N) (hM : XM st N) : XM (fx_Path_firstLeavingAt st kk).2 N := by
  rw [fx_Path_firstLeavingAt]
  have q := wl_lrM (kk + (1 : Int32)) hN h64 hV4 hX hM
  have key : ∀ n i : Nat, XM (fx_Path_firstLeavingAt_L16 st kk n i).2 N := by
    intro n
    induction n with
    | zero => intro i; exact hM
    | succ n ih =>
      intro i
      rw [fx_Path_firstLeavingAt_L16]
      exact wl_ite (P := fun (q : Int32 × XS) => XM q.2 N) q (wl_ite (P := fun (q : Int32 × XS) => XM q.2 N) (ih _) q)
  exact key 17 0
theorem wl_ftM {st : XS} {V N : Nat} (hN : gI st 6 = nI N) (h64 : N ≤ 64) (hV4 : V ≤ 4) (hX : XT st V N) (hM : XM st N) : XM (fx_Path_firstTaking st).2 N := by
  rw [fx_Path_firstTaking]
  have q := wl_lrM (gI st 9) hN h64 hV4 hX hM
  have key : ∀ n i : Nat, XM (fx_Path_firstTaking_L17 st n i).2 N := by
    intro n
    induction n with
    | zero => intro i; exact hM
    | succ n ih =>
      intro i
      rw [fx_Path_firstTaking_L17]
      exact wl_ite (P := fun (q : Int32 × XS) => XM q.2 N) q (wl_ite (P := fun (q : Int32 × XS) => XM q.2 N) (ih _) q)
  exact key 17 0
theorem wl_valW {st : XS} {V N E Bt : Nat} {t : Int32} (h : XW st V N E Bt) : XW (fx_PS_value st t).2 V N E Bt := by
  refine h.fr (ff_PS_value st t) (by decide) (by decide) (by decide) ?_
  obtain ⟨hV, hV4, hBt, hBt10, hN, h64, hEl, hE16, hX, hM0, hcN, MV, hMV, hMVV⟩ := h
  have f := ff_Eval_needOnly st t
  rw [fx_PS_value]
  exact wl_ite (P := fun (q : Int64 × XS) => XM q.2 N) hM0 (wl_ite (P := fun (q : Int64 × XS) => XM q.2 N) hM0 (wl_evM ((f.I 6 (by decide)).trans hN) h64 hV4 (hX.fr f (by decide) (by decide)) (hM0.fr f (by decide) (by decide))))

theorem mw_204 : (.fieldLink RX9 46 RX9 "maker" "LPathSolver$Maker;" : Cond) ∈ AW := List.mem_filter.mpr ⟨List.mem_of_getElem? (i := 204) (by decide +kernel), rfl⟩
theorem mw_315 : (.code yX6_accepts cX6_accepts 6 (some .boolean) : Cond) ∈ AW := List.mem_filter.mpr ⟨List.mem_of_getElem? (i := 315) (by decide +kernel), rfl⟩
theorem mw_312 : (.methodLink RX9 120 yX6_accepts : Cond) ∈ AW := List.mem_filter.mpr ⟨List.mem_of_getElem? (i := 312) (by decide +kernel), rfl⟩
theorem mw_313 : (.instanceMethod yX6_accepts : Cond) ∈ AW := List.mem_filter.mpr ⟨List.mem_of_getElem? (i := 313) (by decide +kernel), rfl⟩
theorem mw_314 : (.selects RX6 yX6_accepts yX6_accepts : Cond) ∈ AW := List.mem_filter.mpr ⟨List.mem_of_getElem? (i := 314) (by decide +kernel), rfl⟩
theorem mw_336 : (.code yX6_make cX6_make 8 (some .int) : Cond) ∈ AW := List.mem_filter.mpr ⟨List.mem_of_getElem? (i := 336) (by decide +kernel), rfl⟩
theorem mw_333 : (.methodLink RX9 124 yX6_make : Cond) ∈ AW := List.mem_filter.mpr ⟨List.mem_of_getElem? (i := 333) (by decide +kernel), rfl⟩
theorem mw_334 : (.instanceMethod yX6_make : Cond) ∈ AW := List.mem_filter.mpr ⟨List.mem_of_getElem? (i := 334) (by decide +kernel), rfl⟩
theorem mw_335 : (.selects RX6 yX6_make yX6_make : Cond) ∈ AW := List.mem_filter.mpr ⟨List.mem_of_getElem? (i := 335) (by decide +kernel), rfl⟩
theorem gX9_120 : GoodIn AW (wsV RX9 120 RX6 yX6_accepts wsX6_accepts) := aw_V mw_312 mw_313 mw_314 mw_43 mw_315
theorem gX9_124 : GoodIn AW (wsV RX9 124 RX6 yX6_make wsX6_make) := aw_V mw_333 mw_334 mw_335 mw_43 mw_336
theorem dX9_term_0 : decode cX9_term 0 = .ok (.aload_n 0, 1) := by decide +kernel
theorem dX9_term_1 : decode cX9_term 1 = .ok (.getfield 46, 3) := by decide +kernel
theorem dX9_term_4 : decode cX9_term 4 = .ok (.iload_n 1, 1) := by decide +kernel
theorem dX9_term_5 : decode cX9_term 5 = .ok (.iload_n 2, 1) := by decide +kernel
theorem dX9_term_6 : decode cX9_term 6 = .ok (.iload_n 3, 1) := by decide +kernel
theorem dX9_term_7 : decode cX9_term 7 = .ok (.iload 4, 2) := by decide +kernel
theorem dX9_term_9 : decode cX9_term 9 = .ok (.invokevirtual 120, 3) := by decide +kernel
theorem dX9_term_12 : decode cX9_term 12 = .ok (.ifCond .ne 5, 3) := by decide +kernel
theorem dX9_term_15 : decode cX9_term 15 = .ok (.iconst (-1), 1) := by decide +kernel
theorem dX9_term_16 : decode cX9_term 16 = .ok (.ireturn, 1) := by decide +kernel
theorem dX9_term_17 : decode cX9_term 17 = .ok (.aload_n 0, 1) := by decide +kernel
theorem dX9_term_18 : decode cX9_term 18 = .ok (.getfield 46, 3) := by decide +kernel
theorem dX9_term_21 : decode cX9_term 21 = .ok (.iload_n 1, 1) := by decide +kernel
theorem dX9_term_22 : decode cX9_term 22 = .ok (.iload_n 2, 1) := by decide +kernel
theorem dX9_term_23 : decode cX9_term 23 = .ok (.iload_n 3, 1) := by decide +kernel
theorem dX9_term_24 : decode cX9_term 24 = .ok (.iload 4, 2) := by decide +kernel
theorem dX9_term_26 : decode cX9_term 26 = .ok (.invokevirtual 124, 3) := by decide +kernel
theorem dX9_term_29 : decode cX9_term 29 = .ok (.ireturn, 1) := by decide +kernel
def fx_PS_term (st : XS) (o : Int32) (a1 : Int32) (b1 : Int32) (d1 : Int32) : Int32 × XS := 
  if fx_Maker_accepts st o a1 b1 d1 = (0 : Int32) then ((-1 : Int32), st)
  else (((fx_Maker_make st o a1 b1 d1).1), ((fx_Maker_make st o a1 b1 d1).2))
theorem ff_PS_term (st : XS) (o : Int32) (a1 : Int32) (b1 : Int32) (d1 : Int32) : XF [6, 7] [3, 4, 5, 6] [1] st (fx_PS_term st o a1 b1 d1).2 := by
  rw [fx_PS_term]
  exact (wl_ite (P := fun (q : Int32 × XS) => XF [6, 7] [3, 4, 5, 6] [1] _ (q.2)) (wl_snd XF.rf) (wl_snd (XF.tr XF.rf (XF.mono (ff_Maker_make _ _ _ _ _) (by decide) (by decide) (by decide)))))
set_option maxHeartbeats 4000000 in
set_option maxRecDepth 100000 in
theorem kx_PS_term (l : Launch) (dC : Nat → ClassId) (dI : Nat → Nat → Nat) (a : Nat → Nat) (k : Nat → ClassId) (st : XS) (o : Int32) (a1 : Int32) (b1 : Int32) (d1 : Int32) (sz : Nat) (V : Nat) (N : Nat) (E : Nat) (Bt : Nat) (hW : XW st V N E Bt) : Met l yX9_term wsX9_term ({ frames := 6, cells := 0, slots := 0, locals := 143 }) (va_Pc [.ref (a 0), .int o, .int a1, .int b1, .int d1] (wl_pre (dC, dI) vwCl (xt k) (xw a k) st sz)) (va_Qi (fun r9 u9 => (r9, u9) = fx_PS_term st o a1 b1 d1) (wl_at (dC, dI) vwCl (xt k) (xw a k) (va_A (xw a k st) sz)) (va_A (xw a k st) sz)) 0 0 (va_A (xw a k st) sz) := by
  refine Met.ofW (cc := cX9_term) (maxL := 5) (ret := (some .int)) (by decide) rfl ?_
  intro p e s m args below meth c s₁ B hml hv
  obtain ⟨rfl, hsz, hP, hK, hD0⟩ := hv
  have hx := B.exec
  have hb := B.bytes
  have hr := B.returns
  have hta := aw_hts (atoms_spec (ws := wsX9_term) B.pre)
  have hown : s.vm.findClass RX9 = some m.cls := findClass_of_methodNamed B.named
  have hlocks := B.notSynchronized
  have hf46 := hta _ mw_204
  subst hsz
  have hD := hD0.self (sz := s.heap.size)
  generalize hAe : va_A (xw a k st) s.heap.size = A at hD ⊢
  have hAz : ∀ q : Nat, s.heap.size ≤ q → A q := fun q h => by rw [← hAe]; exact Or.inr h
  have hS : va_S A s.heap s.heap [] := va_S.rf
  have hl := lv_entry ([.ref (a 0), .int o, .int a1, .int b1, .int d1]) (n := 5) (Nat.le_of_ble_eq_true rfl)
  rw [lg_entry_eq]
  generalize (lg_sl ([.ref (a 0), .int o, .int a1, .int b1, .int d1]) ++ List.replicate (5 - (lg_sl ([.ref (a 0), .int o, .int a1, .int b1, .int d1])).length) Slot.unset).toArray = ls at hl ⊢
  have hl : lv_has ls 5 [(0, .ref (a 0)), (1, .int o), (2, .int a1), (3, .int b1), (4, .int d1)] := hl
  generalize hR : fx_PS_term st o a1 b1 d1 = R
  rw [fx_PS_term] at hR
  obtain ⟨hV, hV4, hBt, hBt10, hN, h64, hEl, hE16, hX, hM0, hcN, MV, hMV, hMVV⟩ := id hW
  have hcd : ∀ j : Nat, j < E → vp_in (fA st 10 j) 64 := fun j hj => vp_up (hcN j hj) h64
  refine lv_aload_n hx hb dX9_term_0 rfl (lv_at hl 0 rfl) ?_
  refine va_get (D := (dC, dI)) (ci := 7) (v := .ref (a 16)) (C := RX9) (T := TX9) (N := 11) hx hb hta inX9 hown hK hP 0 (xr_0 a k st) rfl 4 (by decide) hf46 (fun _ h9 => h9) rfl dX9_term_1 ?_
  refine lv_iload_n hx hb dX9_term_4 rfl (lv_at hl 1 rfl) ?_
  refine lv_iload_n hx hb dX9_term_5 rfl (lv_at hl 2 rfl) ?_
  refine lv_iload_n hx hb dX9_term_6 rfl (lv_at hl 3 rfl) ?_
  refine lv_iload hx hb dX9_term_7 (lv_at hl 4 rfl) ?_
  refine wl_ci (va_runV (As := [.int o, .int a1, .int b1, .int d1]) (rest := []) ⟨hx, hb, hml, hown, hta⟩ (kx_Maker_accepts l dC dI a k st o a1 b1 d1 N hN h64) (cwV 4 hta gX9_120 rfl rfl rfl (by decide +kernel) ⟨Nat.le_of_ble_eq_true rfl, Nat.le_of_ble_eq_true rfl⟩) (wl_pR (C := RX6) (ci := 4) (q0 := 16) hK hP rfl (xr_16 a k st)) rfl rfl hl.1 rfl (lv_room (Nat.le_of_ble_eq_true rfl)) dX9_term_9 ⟨Nat.zero_le _, Nat.zero_le _⟩) ?_
  refine lv_if_ne (tgt := 17) hx hb dX9_term_12 (by decide) (fun c12 => ?_) (fun c12 => ?_)
  · skip
    rw [if_neg c12] at hR
    obtain ⟨q1, q2, q3, q4, q5, q6, q7⟩ := wl_acc hN h64 hX c12
    refine lv_aload_n hx hb dX9_term_17 rfl (lv_at hl 0 rfl) ?_
    refine va_get (D := (dC, dI)) (ci := 7) (v := .ref (a 16)) (C := RX9) (T := TX9) (N := 11) hx hb hta inX9 hown hK hP 0 (xr_0 a k st) rfl 4 (by decide) hf46 (fun _ h9 => h9) rfl dX9_term_18 ?_
    refine lv_iload_n hx hb dX9_term_21 rfl (lv_at hl 1 rfl) ?_
    refine lv_iload_n hx hb dX9_term_22 rfl (lv_at hl 2 rfl) ?_
    refine lv_iload_n hx hb dX9_term_23 rfl (lv_at hl 3 rfl) ?_
    refine lv_iload hx hb dX9_term_24 (lv_at hl 4 rfl) ?_
    refine wl_mi (va_runV (As := [.int o, .int a1, .int b1, .int d1]) (rest := []) ⟨hx, hb, hml, hown, hta⟩ (kx_Maker_make l dC dI a k st o a1 b1 d1 _ N hN h64 q1 q2 q3 q4 q5 q6 q7) (cwV 4 hta gX9_124 rfl rfl rfl (by decide +kernel) ⟨Nat.le_of_ble_eq_true rfl, Nat.le_of_ble_eq_true rfl⟩) (wl_pM (C := RX6) (ci := 4) (q0 := 16) hK hP hD rfl (xr_16 a k st)) rfl rfl hl.1 rfl (lv_room (Nat.le_of_ble_eq_true rfl)) dX9_term_26 ⟨Nat.zero_le _, Nat.zero_le _⟩) hP hD hS hAz (fun r26 u26 H locs hw26 hP hD hS => ?_)
    have v26 : (fx_Maker_make st o a1 b1 d1).1 = r26 := congrArg Prod.fst hw26.symm
    have w26 : (fx_Maker_make st o a1 b1 d1).2 = u26 := congrArg Prod.snd hw26.symm
    have hf26 : XF [6, 7] [3, 4, 5, 6] [1] st u26 := by rw [← w26]; exact ff_Maker_make st o a1 b1 d1
    try rw [v26] at hR
    try rw [w26] at hR
    exact W.iret (v := r26) hx hb hr (fun t ht hW => ⟨⟨_, _, rfl, hR, by rw [ht]; exact hP, va_K.moved hW.alike hK, hD⟩, hS.F ht⟩) hS.2.2 dX9_term_29
  · skip
    rw [if_pos c12] at hR
    refine lv_iconst (v := (-1 : Int32)) hx hb dX9_term_15 (by decide) ?_
    exact W.iret (v := (-1 : Int32)) hx hb hr (fun t ht hW => ⟨⟨_, _, rfl, hR, by rw [ht]; exact hP, va_K.moved hW.alike hK, hD⟩, hS.F ht⟩) hS.2.2 dX9_term_16

theorem mw_569 : (.methodLink RX9 154 Lib.Math.min.name : Cond) ∈ AW := List.mem_filter.mpr ⟨List.mem_of_getElem? (i := 569) (by decide +kernel), rfl⟩
theorem mw_570 : (.static Lib.Math.min.name : Cond) ∈ AW := List.mem_filter.mpr ⟨List.mem_of_getElem? (i := 570) (by decide +kernel), rfl⟩
theorem mw_49 : (.initialized "java/lang/Math" : Cond) ∈ AW := List.mem_filter.mpr ⟨List.mem_of_getElem? (i := 49) (by decide +kernel), rfl⟩
theorem mw_571 : (.code Lib.Math.min.name Lib.Math.min.code 2 (some .int) : Cond) ∈ AW := List.mem_filter.mpr ⟨List.mem_of_getElem? (i := 571) (by decide +kernel), rfl⟩
theorem mw_572 : (.methodLink RX9 160 Lib.Math.max.name : Cond) ∈ AW := List.mem_filter.mpr ⟨List.mem_of_getElem? (i := 572) (by decide +kernel), rfl⟩
theorem mw_573 : (.static Lib.Math.max.name : Cond) ∈ AW := List.mem_filter.mpr ⟨List.mem_of_getElem? (i := 573) (by decide +kernel), rfl⟩
theorem mw_574 : (.code Lib.Math.max.name Lib.Math.max.code 2 (some .int) : Cond) ∈ AW := List.mem_filter.mpr ⟨List.mem_of_getElem? (i := 574) (by decide +kernel), rfl⟩
theorem dX9_search_0 : decode cX9_search 0 = .ok (.iconst 0, 1) := by decide +kernel
theorem dX9_search_1 : decode cX9_search 1 = .ok (.iload_n 1, 1) := by decide +kernel
theorem dX9_search_2 : decode cX9_search 2 = .ok (.aload_n 0, 1) := by decide +kernel
theorem dX9_search_3 : decode cX9_search 3 = .ok (.getfield 64, 3) := by decide +kernel
theorem dX9_search_6 : decode cX9_search 6 = .ok (.invokevirtual 138, 3) := by decide +kernel
theorem dX9_search_9 : decode cX9_search 9 = .ok (.invokestatic 154, 3) := by decide +kernel
theorem dX9_search_12 : decode cX9_search 12 = .ok (.invokestatic 160, 3) := by decide +kernel
theorem dX9_search_15 : decode cX9_search 15 = .ok (.istore_n 2, 1) := by decide +kernel
theorem dX9_search_16 : decode cX9_search 16 = .ok (.iload_n 2, 1) := by decide +kernel
theorem dX9_search_17 : decode cX9_search 17 = .ok (.iconst 1, 1) := by decide +kernel
theorem dX9_search_18 : decode cX9_search 18 = .ok (.isub, 1) := by decide +kernel
theorem dX9_search_19 : decode cX9_search 19 = .ok (.istore_n 3, 1) := by decide +kernel
theorem dX9_search_20 : decode cX9_search 20 = .ok (.iload_n 3, 1) := by decide +kernel
theorem dX9_search_21 : decode cX9_search 21 = .ok (.ifCond .lt 26, 3) := by decide +kernel
theorem dX9_search_24 : decode cX9_search 24 = .ok (.aload_n 0, 1) := by decide +kernel
theorem dX9_search_25 : decode cX9_search 25 = .ok (.aload_n 0, 1) := by decide +kernel
theorem dX9_search_26 : decode cX9_search 26 = .ok (.getfield 64, 3) := by decide +kernel
theorem dX9_search_29 : decode cX9_search 29 = .ok (.iload_n 3, 1) := by decide +kernel
theorem dX9_search_30 : decode cX9_search 30 = .ok (.invokevirtual 151, 3) := by decide +kernel
theorem dX9_search_33 : decode cX9_search 33 = .ok (.invokevirtual 148, 3) := by decide +kernel
theorem dX9_search_36 : decode cX9_search 36 = .ok (.ifCond .eq 5, 3) := by decide +kernel
theorem dX9_search_39 : decode cX9_search 39 = .ok (.iload_n 3, 1) := by decide +kernel
theorem dX9_search_40 : decode cX9_search 40 = .ok (.ireturn, 1) := by decide +kernel
theorem dX9_search_41 : decode cX9_search 41 = .ok (.iinc 3 (-1), 3) := by decide +kernel
theorem dX9_search_44 : decode cX9_search 44 = .ok (.goto (-24), 3) := by decide +kernel
theorem dX9_search_47 : decode cX9_search 47 = .ok (.iconst (-1), 1) := by decide +kernel
theorem dX9_search_48 : decode cX9_search 48 = .ok (.ireturn, 1) := by decide +kernel
def fx_PS_search_L20 (st : XS) (lim : Int32) : Nat → Int32 → XS → Int32 × XS
  | 0, x, S1 => (0, S1)
  | n + 1, x, S1 => 
    if x < (0 : Int32) then ((-1 : Int32), S1)
    else 
      if ((fx_PS_settle (((fx_Path_firstLeavingAt S1 (x)).2)) (((fx_Path_firstLeavingAt S1 (x)).1))).1) = (0 : Int32) then fx_PS_search_L20 st lim n ((x) + (-1 : Int32)) (((fx_PS_settle (((fx_Path_firstLeavingAt S1 (x)).2)) (((fx_Path_firstLeavingAt S1 (x)).1))).2))
      else (x, ((fx_PS_settle (((fx_Path_firstLeavingAt S1 (x)).2)) (((fx_Path_firstLeavingAt S1 (x)).1))).2))
def fx_PS_search (st : XS) (lim : Int32) : Int32 × XS := fx_PS_search_L20 st lim 17 (((if (0 : Int32) < (if (fx_Path_length st) < lim then (fx_Path_length st) else lim) then (if (fx_Path_length st) < lim then (fx_Path_length st) else lim) else (0 : Int32))) - (1 : Int32)) st
theorem fr_PS_search_L20 {S0 : XS} (st : XS) (lim : Int32) : ∀ (n : Nat) (x : Int32) (S1 : XS), XF [0, 1, 2, 3, 8] [7, 8, 9] [2, 3] S0 S1 → XF [0, 1, 2, 3, 8] [7, 8, 9] [2, 3] S0 (fx_PS_search_L20 st lim n x S1).2 := by
  intro n
  induction n with
  | zero => intro x S1 h; exact h
  | succ n ih =>
    intro x S1 h
    rw [fx_PS_search_L20]
    exact (wl_ite (P := fun (q : Int32 × XS) => XF [0, 1, 2, 3, 8] [7, 8, 9] [2, 3] _ (q.2)) (wl_snd h) (wl_ite (P := fun (q : Int32 × XS) => XF [0, 1, 2, 3, 8] [7, 8, 9] [2, 3] _ (q.2)) (ih _ _ (XF.tr (XF.tr h (XF.mono (ff_Path_firstLeavingAt _ _) (by decide) (by decide) (by decide))) (XF.mono (ff_PS_settle _ _) (by decide) (by decide) (by decide)))) (wl_snd (XF.tr (XF.tr h (XF.mono (ff_Path_firstLeavingAt _ _) (by decide) (by decide) (by decide))) (XF.mono (ff_PS_settle _ _) (by decide) (by decide) (by decide))))))
theorem ff_PS_search (st : XS) (lim : Int32) : XF [0, 1, 2, 3, 8] [7, 8, 9] [2, 3] st (fx_PS_search st lim).2 := by
  rw [fx_PS_search]
  exact (fr_PS_search_L20 _ _ _ _ _ XF.rf)
set_option maxHeartbeats 4000000 in
set_option maxRecDepth 100000 in
theorem kx_PS_search (l : Launch) (dC : Nat → ClassId) (dI : Nat → Nat → Nat) (a : Nat → Nat) (k : Nat → ClassId) (st : XS) (lim : Int32) (sz : Nat) (V : Nat) (N : Nat) (E : Nat) (Bt : Nat) (hW : XW st V N E Bt) : Met l yX9_search wsX9_search ({ frames := 6, cells := 0, slots := 0, locals := 155 }) (va_Pc [.ref (a 0), .int lim] (wl_pre (dC, dI) vwCl (xt k) (xw a k) st sz)) (va_Qi (fun r9 u9 => (r9, u9) = fx_PS_search st lim) (wl_at (dC, dI) vwCl (xt k) (xw a k) (va_A (xw a k st) sz)) (va_A (xw a k st) sz)) 0 0 (va_A (xw a k st) sz) := by
  refine Met.ofW (cc := cX9_search) (maxL := 4) (ret := (some .int)) (by decide) rfl ?_
  intro p e s m args below meth c s₁ B hml hv
  obtain ⟨rfl, hsz, hP, hK, hD0⟩ := hv
  have hx := B.exec
  have hb := B.bytes
  have hr := B.returns
  have hta := aw_hts (atoms_spec (ws := wsX9_search) B.pre)
  have hown : s.vm.findClass RX9 = some m.cls := findClass_of_methodNamed B.named
  have hlocks := B.notSynchronized
  have hf64 := hta _ mw_206
  have hm154 := hta _ mw_569
  have hmsmin := hta _ mw_570
  have hmi := hta _ mw_49
  have hmcmin := hta _ mw_571
  have hm160 := hta _ mw_572
  have hmsmax := hta _ mw_573
  have hmcmax := hta _ mw_574
  subst hsz
  have hD := hD0.self (sz := s.heap.size)
  generalize hAe : va_A (xw a k st) s.heap.size = A at hD ⊢
  have hAz : ∀ q : Nat, s.heap.size ≤ q → A q := fun q h => by rw [← hAe]; exact Or.inr h
  have hS : va_S A s.heap s.heap [] := va_S.rf
  have hl := lv_entry ([.ref (a 0), .int lim]) (n := 4) (Nat.le_of_ble_eq_true rfl)
  rw [lg_entry_eq]
  generalize (lg_sl ([.ref (a 0), .int lim]) ++ List.replicate (4 - (lg_sl ([.ref (a 0), .int lim])).length) Slot.unset).toArray = ls at hl ⊢
  have hl : lv_has ls 4 [(0, .ref (a 0)), (1, .int lim)] := hl
  generalize hR : fx_PS_search st lim = R
  rw [fx_PS_search] at hR
  obtain ⟨hV, hV4, hBt, hBt10, hN, h64, hEl, hE16, hX, hM0, hcN, MV, hMV, hMVV⟩ := id hW
  have hcd : ∀ j : Nat, j < E → vp_in (fA st 10 j) 64 := fun j hj => vp_up (hcN j hj) h64
  refine lv_iconst (v := (0 : Int32)) hx hb dX9_search_0 (by decide) ?_
  refine lv_iload_n hx hb dX9_search_1 rfl (lv_at hl 1 rfl) ?_
  refine lv_aload_n hx hb dX9_search_2 rfl (lv_at hl 0 rfl) ?_
  refine va_get (D := (dC, dI)) (ci := 7) (v := .ref (a 21)) (C := RX9) (T := TX9) (N := 11) hx hb hta inX9 hown hK hP 0 (xr_0 a k st) rfl 6 (by decide) hf64 (fun _ h9 => h9) rfl dX9_search_3 ?_
  refine wl_ci (va_runV (As := []) (rest := [.int lim, .int (0 : Int32)]) ⟨hx, hb, hml, hown, hta⟩ (kx_Path_length l dC dI a k st) (cwV 0 hta gX9_138 rfl rfl rfl (by decide +kernel) ⟨Nat.le_of_ble_eq_true rfl, Nat.le_of_ble_eq_true rfl⟩) (wl_pR (C := RX8) (ci := 6) (q0 := 21) hK hP rfl (xr_21 a k st)) rfl rfl hl.1 rfl (lv_room (Nat.le_of_ble_eq_true rfl)) dX9_search_6 ⟨Nat.zero_le _, Nat.zero_le _⟩) ?_
  refine va_mmin hx hb (by rw [hml]; exact hl.1.symm) hown hm154 hmsmin hmi hmcmin (Nat.le_of_ble_eq_true rfl) (Nat.le_of_ble_eq_true rfl) (Nat.zero_le _) (Nat.zero_le _) dX9_search_9 ?_
  obtain ⟨Bd, hBd, hBdE⟩ := wl_bnd (lim := lim) hEl hE16
  refine va_mmax hx hb (by rw [hml]; exact hl.1.symm) hown hm160 hmsmax hmi hmcmax (Nat.le_of_ble_eq_true rfl) (Nat.le_of_ble_eq_true rfl) (Nat.zero_le _) (Nat.zero_le _) dX9_search_12 ?_
  have e12 : (if (0 : Int32) < (if (fx_Path_length st) < lim then (fx_Path_length st) else lim) then (if (fx_Path_length st) < lim then (fx_Path_length st) else lim) else (0 : Int32)) = nI Bd := hBd
  rw [e12]
  try rw [e12] at hR
  refine lv_istore_n (lv' := [(2, .int ((nI Bd))), (0, .ref (a 0)), (1, .int lim)]) hx hb dX9_search_15 rfl hl (by decide) rfl (fun ls hl => ?_)
  refine lv_iload_n hx hb dX9_search_16 rfl (lv_at hl 0 rfl) ?_
  refine lv_iconst (v := (1 : Int32)) hx hb dX9_search_17 (by decide) ?_
  refine lv_isub hx hb dX9_search_18 ?_
  refine lv_istore_n (lv' := [(3, .int (((nI Bd)) - (1 : Int32))), (2, .int ((nI Bd))), (0, .ref (a 0)), (1, .int lim)]) hx hb dX9_search_19 rfl hl (by decide) rfl (fun ls hl => ?_)
  have L20 : ∀ (n : Nat) (x : Int32) (S1 : XS) (H : Heap) (locs : List Loc) (ls : Array Slot), fx_PS_search_L20 st lim n x S1 = R → (∃ i : Nat, i ≤ E ∧ x = nI i - (1 : Int32)) → (XF [0, 1, 2, 3, 8] [7, 8, 9] [2, 3] st S1) → (XM S1 N) → (x + (1 : Int32)).toNatClampNeg < n → va_P (dC, dI) vwCl (xw a k S1) H → va_D A (xw a k S1) → va_S A s.heap H locs → lv_has ls 4 [(3, .int x), (0, .ref (a 0))] → W p l e (headSpec wsX9_search ({ frames := 6, cells := 0, slots := 0, locals := 155 })).room s m ([.ref (a 0), .int lim] : List Value).toArray below meth c H locs 0 0 (MQ below (va_Qi (fun r9 u9 => (r9, u9) = R) (wl_at (dC, dI) vwCl (xt k) (xw a k) A) A) ([.ref (a 0), .int lim] : List Value).toArray s 0 0 A) (F0 m 20 ls []) := by
    intro n
    induction n with
    | zero =>
      intro x S1 H locs ls hR hxi hF hM hm hP hD hS hl
      exact absurd hm (Nat.not_lt_zero _)
    | succ n ih =>
      intro x S1 H locs ls hR hxi hF hM hm hP hD hS hl
      rw [fx_PS_search_L20] at hR
      try rw [e12] at hR
      refine lv_iload_n hx hb dX9_search_20 rfl (lv_at hl 0 rfl) ?_
      refine lv_if_lt (tgt := 47) hx hb dX9_search_21 (by decide) (fun c21 => ?_) (fun c21 => ?_)
      · skip
        rw [if_pos c21] at hR
        refine lv_iconst (v := (-1 : Int32)) hx hb dX9_search_47 (by decide) ?_
        exact W.iret (v := (-1 : Int32)) hx hb hr (fun t ht hW => ⟨⟨_, _, rfl, hR, by rw [ht]; exact hP, va_K.moved hW.alike hK, hD⟩, hS.F ht⟩) hS.2.2 dX9_search_48
      · skip
        rw [if_neg c21] at hR
        obtain ⟨t, ht, rfl⟩ := wl_desc (by omega) hxi c21
        refine lv_aload_n hx hb dX9_search_24 rfl (lv_at hl 1 rfl) ?_
        refine lv_aload_n hx hb dX9_search_25 rfl (lv_at hl 1 rfl) ?_
        refine va_get (D := (dC, dI)) (ci := 7) (v := .ref (a 21)) (C := RX9) (T := TX9) (N := 11) hx hb hta inX9 hown hK hP 0 (xr_0 a k S1) rfl 6 (by decide) hf64 (fun _ h9 => h9) rfl dX9_search_26 ?_
        refine lv_iload_n hx hb dX9_search_29 rfl (lv_at hl 0 rfl) ?_
        refine wl_mi (va_runV (As := [.int ((nI t))]) (rest := [.ref (a 0)]) ⟨hx, hb, hml, hown, hta⟩ (kx_Path_firstLeavingAt l dC dI a k S1 t _ (by omega) (fun j hj => by rw [hF.A 10 (by decide)]; exact hcd j (by omega)) N ((hF.I 6 (by decide)).trans hN) h64 V hV4 (hX.fr hF (by decide) (by decide)) hM Bt ((hF.I 5 (by decide)).trans hBt) hBt10) (cwV 1 hta gX9_151 rfl rfl rfl (by decide +kernel) ⟨Nat.le_of_ble_eq_true rfl, Nat.le_of_ble_eq_true rfl⟩) (wl_pM (C := RX8) (ci := 6) (q0 := 21) hK hP hD rfl (xr_21 a k S1)) rfl rfl hl.1 rfl (lv_room (Nat.le_of_ble_eq_true rfl)) dX9_search_30 ⟨Nat.zero_le _, Nat.zero_le _⟩) hP hD hS hAz (fun r30 u30 H locs hw30 hP hD hS => ?_)
        have v30 : (fx_Path_firstLeavingAt S1 ((nI t))).1 = r30 := congrArg Prod.fst hw30.symm
        have w30 : (fx_Path_firstLeavingAt S1 ((nI t))).2 = u30 := congrArg Prod.snd hw30.symm
        have hf30 : XF [8] [7, 8, 9] [2, 3] S1 u30 := by rw [← w30]; exact ff_Path_firstLeavingAt S1 ((nI t))
        try rw [v30] at hR
        try rw [w30] at hR
        refine wl_mi (va_runV (As := [.int (r30)]) (rest := []) ⟨hx, hb, hml, hown, hta⟩ (kx_PS_settle l dC dI a k (u30) (r30) _) (cwV 1 hta gX9_148 rfl rfl rfl (by decide +kernel) ⟨Nat.le_of_ble_eq_true rfl, Nat.le_of_ble_eq_true rfl⟩) (wl_pM (C := RX9) (ci := 7) (q0 := 0) hK hP hD rfl (xr_0 a k (u30))) rfl rfl hl.1 rfl (lv_room (Nat.le_of_ble_eq_true rfl)) dX9_search_33 ⟨Nat.zero_le _, Nat.zero_le _⟩) hP hD hS hAz (fun r33 u33 H locs hw33 hP hD hS => ?_)
        have v33 : (fx_PS_settle (u30) (r30)).1 = r33 := congrArg Prod.fst hw33.symm
        have w33 : (fx_PS_settle (u30) (r30)).2 = u33 := congrArg Prod.snd hw33.symm
        have hf33 : XF [0, 1, 2, 3] [] [] (u30) u33 := by rw [← w33]; exact ff_PS_settle (u30) (r30)
        try rw [v33] at hR
        try rw [w33] at hR
        refine lv_if_eq (tgt := 41) hx hb dX9_search_36 (by decide) (fun c36 => ?_) (fun c36 => ?_)
        · skip
          rw [if_pos c36] at hR
          refine lv_iinc (v := ((nI t)) + (-1 : Int32)) (lv' := [(3, .int (((nI t)) + (-1 : Int32))), (0, .ref (a 0))]) hx hb dX9_search_41 hl (k := 0) rfl rfl (by decide) rfl (fun ls hl => ?_)
          refine lv_goto (tgt := 20) hx hb dX9_search_44 (by decide) ?_
          exact ih (((nI t)) + (-1 : Int32)) (u33) _ _ ls hR ⟨t, by omega, wl_m1 t⟩ (XF.tr (XF.tr hF (hf30.mono (by decide) (by decide) (by decide))) (hf33.mono (by decide) (by decide) (by decide))) ((show XM u30 N from by rw [← w30]; exact wl_flM (nI t) ((hF.I 6 (by decide)).trans hN) h64 hV4 (hX.fr hF (by decide) (by decide)) hM).fr hf33 (by decide) (by decide)) (by rw [wl_mA (by omega)]; rw [wl_mB (by omega)] at hm; omega) hP hD hS (lv_sub hl [0, 1] rfl)
        · skip
          rw [if_neg c36] at hR
          refine lv_iload_n hx hb dX9_search_39 rfl (lv_at hl 0 rfl) ?_
          exact W.iret (v := (nI t)) hx hb hr (fun t ht hW => ⟨⟨_, _, rfl, hR, by rw [ht]; exact hP, va_K.moved hW.alike hK, hD⟩, hS.F ht⟩) hS.2.2 dX9_search_40
  exact L20 17 (((nI Bd)) - (1 : Int32)) st _ _ ls hR ⟨Bd, hBdE, rfl⟩ XF.rf hM0 (by rw [wl_m1p1, nI_clamp (by omega)]; omega) hP hD hS (lv_sub hl [0, 2] rfl)

theorem mw_601 : (.code yX8_conditionAt cX8_conditionAt 2 (some .int) : Cond) ∈ AW := List.mem_filter.mpr ⟨List.mem_of_getElem? (i := 601) (by decide +kernel), rfl⟩
theorem mw_598 : (.methodLink RX9 178 yX8_conditionAt : Cond) ∈ AW := List.mem_filter.mpr ⟨List.mem_of_getElem? (i := 598) (by decide +kernel), rfl⟩
theorem mw_599 : (.instanceMethod yX8_conditionAt : Cond) ∈ AW := List.mem_filter.mpr ⟨List.mem_of_getElem? (i := 599) (by decide +kernel), rfl⟩
theorem mw_600 : (.selects RX8 yX8_conditionAt yX8_conditionAt : Cond) ∈ AW := List.mem_filter.mpr ⟨List.mem_of_getElem? (i := 600) (by decide +kernel), rfl⟩
theorem mw_583 : (.code yX9_value cX9_value 2 (some .long) : Cond) ∈ AW := List.mem_filter.mpr ⟨List.mem_of_getElem? (i := 583) (by decide +kernel), rfl⟩
theorem mw_602 : (.methodLink RX9 181 yX9_value : Cond) ∈ AW := List.mem_filter.mpr ⟨List.mem_of_getElem? (i := 602) (by decide +kernel), rfl⟩
theorem mw_581 : (.instanceMethod yX9_value : Cond) ∈ AW := List.mem_filter.mpr ⟨List.mem_of_getElem? (i := 581) (by decide +kernel), rfl⟩
theorem mw_582 : (.selects RX9 yX9_value yX9_value : Cond) ∈ AW := List.mem_filter.mpr ⟨List.mem_of_getElem? (i := 582) (by decide +kernel), rfl⟩
theorem gX9_178 : GoodIn AW (wsV RX9 178 RX8 yX8_conditionAt wsX8_conditionAt) := aw_V mw_598 mw_599 mw_600 mw_45 mw_601
theorem gX9_181 : GoodIn AW (wsV RX9 181 RX9 yX9_value wsX9_value) := aw_V mw_602 mw_581 mw_582 mw_38 mw_583
theorem dX9_follows_0 : decode cX9_follows 0 = .ok (.aload_n 0, 1) := by decide +kernel
theorem dX9_follows_1 : decode cX9_follows 1 = .ok (.getfield 68, 3) := by decide +kernel
theorem dX9_follows_4 : decode cX9_follows 4 = .ok (.iconst (-1), 1) := by decide +kernel
theorem dX9_follows_5 : decode cX9_follows 5 = .ok (.if_icmp .ne 5, 3) := by decide +kernel
theorem dX9_follows_8 : decode cX9_follows 8 = .ok (.iconst (-1), 1) := by decide +kernel
theorem dX9_follows_9 : decode cX9_follows 9 = .ok (.ireturn, 1) := by decide +kernel
theorem dX9_follows_10 : decode cX9_follows 10 = .ok (.aload_n 0, 1) := by decide +kernel
theorem dX9_follows_11 : decode cX9_follows 11 = .ok (.getfield 64, 3) := by decide +kernel
theorem dX9_follows_14 : decode cX9_follows 14 = .ok (.invokevirtual 138, 3) := by decide +kernel
theorem dX9_follows_17 : decode cX9_follows 17 = .ok (.istore_n 1, 1) := by decide +kernel
theorem dX9_follows_18 : decode cX9_follows 18 = .ok (.iconst 0, 1) := by decide +kernel
theorem dX9_follows_19 : decode cX9_follows 19 = .ok (.istore_n 2, 1) := by decide +kernel
theorem dX9_follows_20 : decode cX9_follows 20 = .ok (.iload_n 2, 1) := by decide +kernel
theorem dX9_follows_21 : decode cX9_follows 21 = .ok (.iload_n 1, 1) := by decide +kernel
theorem dX9_follows_22 : decode cX9_follows 22 = .ok (.if_icmp .ge 28, 3) := by decide +kernel
theorem dX9_follows_25 : decode cX9_follows 25 = .ok (.aload_n 0, 1) := by decide +kernel
theorem dX9_follows_26 : decode cX9_follows 26 = .ok (.aload_n 0, 1) := by decide +kernel
theorem dX9_follows_27 : decode cX9_follows 27 = .ok (.getfield 64, 3) := by decide +kernel
theorem dX9_follows_30 : decode cX9_follows 30 = .ok (.iload_n 2, 1) := by decide +kernel
theorem dX9_follows_31 : decode cX9_follows 31 = .ok (.invokevirtual 178, 3) := by decide +kernel
theorem dX9_follows_34 : decode cX9_follows 34 = .ok (.invokevirtual 181, 3) := by decide +kernel
theorem dX9_follows_37 : decode cX9_follows 37 = .ok (.lconst 0, 1) := by decide +kernel
theorem dX9_follows_38 : decode cX9_follows 38 = .ok (.lcmp, 1) := by decide +kernel
theorem dX9_follows_39 : decode cX9_follows 39 = .ok (.ifCond .ne 5, 3) := by decide +kernel
theorem dX9_follows_42 : decode cX9_follows 42 = .ok (.iload_n 2, 1) := by decide +kernel
theorem dX9_follows_43 : decode cX9_follows 43 = .ok (.ireturn, 1) := by decide +kernel
theorem dX9_follows_44 : decode cX9_follows 44 = .ok (.iinc 2 1, 3) := by decide +kernel
theorem dX9_follows_47 : decode cX9_follows 47 = .ok (.goto (-27), 3) := by decide +kernel
theorem dX9_follows_50 : decode cX9_follows 50 = .ok (.iload_n 1, 1) := by decide +kernel
theorem dX9_follows_51 : decode cX9_follows 51 = .ok (.ireturn, 1) := by decide +kernel
def fx_PS_follows_L20 (st : XS) : Nat → Nat → XS → Int32 × XS
  | 0, i, S1 => (0, S1)
  | n + 1, i, S1 => 
    if (fx_Path_length st) ≤ nI i then ((fx_Path_length st), S1)
    else 
      if lg_cmp (((fx_PS_value S1 (fx_Path_conditionAt S1 (nI i))).1)) (0 : Int64) = (0 : Int32) then (nI i, ((fx_PS_value S1 (fx_Path_conditionAt S1 (nI i))).2))
      else fx_PS_follows_L20 st n (i + 1) (((fx_PS_value S1 (fx_Path_conditionAt S1 (nI i))).2))
def fx_PS_follows (st : XS) : Int32 × XS := 
  if gI st 0 = (-1 : Int32) then ((-1 : Int32), st)
  else fx_PS_follows_L20 st 17 0 st
theorem fr_PS_follows_L20 {S0 : XS} (st : XS) : ∀ (n : Nat) (i : Nat) (S1 : XS), XF [] [7] [2] S0 S1 → XF [] [7] [2] S0 (fx_PS_follows_L20 st n i S1).2 := by
  intro n
  induction n with
  | zero => intro i S1 h; exact h
  | succ n ih =>
    intro i S1 h
    rw [fx_PS_follows_L20]
    exact (wl_ite (P := fun (q : Int32 × XS) => XF [] [7] [2] _ (q.2)) (wl_snd h) (wl_ite (P := fun (q : Int32 × XS) => XF [] [7] [2] _ (q.2)) (wl_snd (XF.tr h (XF.mono (ff_PS_value _ _) (by decide) (by decide) (by decide)))) (ih _ _ (XF.tr h (XF.mono (ff_PS_value _ _) (by decide) (by decide) (by decide))))))
theorem ff_PS_follows (st : XS) : XF [] [7] [2] st (fx_PS_follows st).2 := by
  rw [fx_PS_follows]
  exact (wl_ite (P := fun (q : Int32 × XS) => XF [] [7] [2] _ (q.2)) (wl_snd XF.rf) (fr_PS_follows_L20 _ _ _ _ XF.rf))
set_option maxHeartbeats 4000000 in
set_option maxRecDepth 100000 in
theorem kx_PS_follows (l : Launch) (dC : Nat → ClassId) (dI : Nat → Nat → Nat) (a : Nat → Nat) (k : Nat → ClassId) (st : XS) (sz : Nat) (V : Nat) (N : Nat) (E : Nat) (Bt : Nat) (hW : XW st V N E Bt) : Met l yX9_follows wsX9_follows ({ frames := 5, cells := 0, slots := 0, locals := 127 }) (va_Pc [.ref (a 0)] (wl_pre (dC, dI) vwCl (xt k) (xw a k) st sz)) (va_Qi (fun r9 u9 => (r9, u9) = fx_PS_follows st) (wl_at (dC, dI) vwCl (xt k) (xw a k) (va_A (xw a k st) sz)) (va_A (xw a k st) sz)) 0 0 (va_A (xw a k st) sz) := by
  refine Met.ofW (cc := cX9_follows) (maxL := 3) (ret := (some .int)) (by decide) rfl ?_
  intro p e s m args below meth c s₁ B hml hv
  obtain ⟨rfl, hsz, hP, hK, hD0⟩ := hv
  have hx := B.exec
  have hb := B.bytes
  have hr := B.returns
  have hta := aw_hts (atoms_spec (ws := wsX9_follows) B.pre)
  have hown : s.vm.findClass RX9 = some m.cls := findClass_of_methodNamed B.named
  have hlocks := B.notSynchronized
  have hf68 := hta _ mw_207
  have hf64 := hta _ mw_206
  subst hsz
  have hD := hD0.self (sz := s.heap.size)
  generalize hAe : va_A (xw a k st) s.heap.size = A at hD ⊢
  have hAz : ∀ q : Nat, s.heap.size ≤ q → A q := fun q h => by rw [← hAe]; exact Or.inr h
  have hS : va_S A s.heap s.heap [] := va_S.rf
  have hl := lv_entry ([.ref (a 0)]) (n := 3) (Nat.le_of_ble_eq_true rfl)
  rw [lg_entry_eq]
  generalize (lg_sl ([.ref (a 0)]) ++ List.replicate (3 - (lg_sl ([.ref (a 0)])).length) Slot.unset).toArray = ls at hl ⊢
  have hl : lv_has ls 3 [(0, .ref (a 0))] := hl
  generalize hR : fx_PS_follows st = R
  rw [fx_PS_follows] at hR
  obtain ⟨hV, hV4, hBt, hBt10, hN, h64, hEl, hE16, hX, hM0, hcN, MV, hMV, hMVV⟩ := id hW
  have hcd : ∀ j : Nat, j < E → vp_in (fA st 10 j) 64 := fun j hj => vp_up (hcN j hj) h64
  refine lv_aload_n hx hb dX9_follows_0 rfl (lv_at hl 0 rfl) ?_
  refine va_get (D := (dC, dI)) (ci := 7) (v := .int (gI st 0)) (C := RX9) (T := TX9) (N := 11) hx hb hta inX9 hown hK hP 0 (xr_0 a k st) rfl 7 (by decide) hf68 (fun _ h9 => h9) rfl dX9_follows_1 ?_
  refine lv_iconst (v := (-1 : Int32)) hx hb dX9_follows_4 (by decide) ?_
  refine lv_icmp_ne (tgt := 10) hx hb dX9_follows_5 (by decide) (fun c5 => ?_) (fun c5 => ?_)
  · skip
    rw [if_neg c5] at hR
    refine lv_aload_n hx hb dX9_follows_10 rfl (lv_at hl 0 rfl) ?_
    refine va_get (D := (dC, dI)) (ci := 7) (v := .ref (a 21)) (C := RX9) (T := TX9) (N := 11) hx hb hta inX9 hown hK hP 0 (xr_0 a k st) rfl 6 (by decide) hf64 (fun _ h9 => h9) rfl dX9_follows_11 ?_
    refine wl_ci (va_runV (As := []) (rest := []) ⟨hx, hb, hml, hown, hta⟩ (kx_Path_length l dC dI a k st) (cwV 0 hta gX9_138 rfl rfl rfl (by decide +kernel) ⟨Nat.le_of_ble_eq_true rfl, Nat.le_of_ble_eq_true rfl⟩) (wl_pR (C := RX8) (ci := 6) (q0 := 21) hK hP rfl (xr_21 a k st)) rfl rfl hl.1 rfl (lv_room (Nat.le_of_ble_eq_true rfl)) dX9_follows_14 ⟨Nat.zero_le _, Nat.zero_le _⟩) ?_
    have e14 : (fx_Path_length st) = nI E := hEl
    rw [e14]
    try rw [e14] at hR
    refine lv_istore_n (lv' := [(1, .int ((nI E))), (0, .ref (a 0))]) hx hb dX9_follows_17 rfl hl (by decide) rfl (fun ls hl => ?_)
    refine lv_iconst (v := (0 : Int32)) hx hb dX9_follows_18 (by decide) ?_
    refine lv_istore_n (lv' := [(2, .int (0 : Int32)), (1, .int ((nI E))), (0, .ref (a 0))]) hx hb dX9_follows_19 rfl hl (by decide) rfl (fun ls hl => ?_)
    have L20 : ∀ (n : Nat) (i : Nat) (S1 : XS) (H : Heap) (locs : List Loc) (ls : Array Slot), fx_PS_follows_L20 st n i S1 = R → (i ≤ E) → (XW S1 V N E Bt) → E - i < n → va_P (dC, dI) vwCl (xw a k S1) H → va_D A (xw a k S1) → va_S A s.heap H locs → lv_has ls 3 [(2, .int (nI i)), (1, .int ((nI E))), (0, .ref (a 0))] → W p l e (headSpec wsX9_follows ({ frames := 5, cells := 0, slots := 0, locals := 127 })).room s m ([.ref (a 0)] : List Value).toArray below meth c H locs 0 0 (MQ below (va_Qi (fun r9 u9 => (r9, u9) = R) (wl_at (dC, dI) vwCl (xt k) (xw a k) A) A) ([.ref (a 0)] : List Value).toArray s 0 0 A) (F0 m 20 ls []) := by
      intro n
      induction n with
      | zero =>
        intro i S1 H locs ls hR hi hW1 hm hP hD hS hl
        exact absurd hm (Nat.not_lt_zero _)
      | succ n ih =>
        intro i S1 H locs ls hR hi hW1 hm hP hD hS hl
        rw [fx_PS_follows_L20] at hR
        try rw [e14] at hR
        refine lv_iload_n hx hb dX9_follows_20 rfl (lv_at hl 0 rfl) ?_
        refine lv_iload_n hx hb dX9_follows_21 rfl (lv_at hl 1 rfl) ?_
        refine lv_icmp_ge (tgt := 50) hx hb dX9_follows_22 (by decide) (fun c22 => ?_) (fun c22 => ?_)
        · skip
          rw [if_pos c22] at hR
          refine lv_iload_n hx hb dX9_follows_50 rfl (lv_at hl 1 rfl) ?_
          exact W.iret (v := (nI E)) hx hb hr (fun t ht hW => ⟨⟨_, _, rfl, hR, by rw [ht]; exact hP, va_K.moved hW.alike hK, hD⟩, hS.F ht⟩) hS.2.2 dX9_follows_51
        · skip
          rw [if_neg c22] at hR
          have hlt : i < E := wl_lt c22 (by omega)
          refine lv_aload_n hx hb dX9_follows_25 rfl (lv_at hl 2 rfl) ?_
          refine lv_aload_n hx hb dX9_follows_26 rfl (lv_at hl 2 rfl) ?_
          refine va_get (D := (dC, dI)) (ci := 7) (v := .ref (a 21)) (C := RX9) (T := TX9) (N := 11) hx hb hta inX9 hown hK hP 0 (xr_0 a k S1) rfl 6 (by decide) hf64 (fun _ h9 => h9) rfl dX9_follows_27 ?_
          refine lv_iload_n hx hb dX9_follows_30 rfl (lv_at hl 0 rfl) ?_
          refine wl_ci (va_runV (As := [.int (nI i)]) (rest := [.ref (a 0)]) ⟨hx, hb, hml, hown, hta⟩ (kx_Path_conditionAt l dC dI a k S1 (nI i) (wl_in (by omega) (by decide))) (cwV 1 hta gX9_178 rfl rfl rfl (by decide +kernel) ⟨Nat.le_of_ble_eq_true rfl, Nat.le_of_ble_eq_true rfl⟩) (wl_pR (C := RX8) (ci := 6) (q0 := 21) hK hP rfl (xr_21 a k S1)) rfl rfl hl.1 rfl (lv_room (Nat.le_of_ble_eq_true rfl)) dX9_follows_31 ⟨Nat.zero_le _, Nat.zero_le _⟩) ?_
          refine wl_ml (va_runV (As := [.int (fx_Path_conditionAt S1 (nI i))]) (rest := []) ⟨hx, hb, hml, hown, hta⟩ (kx_PS_value l dC dI a k S1 (fx_Path_conditionAt S1 (nI i)) _ V N E Bt hW1) (cwV 1 hta gX9_181 rfl rfl rfl (by decide +kernel) ⟨Nat.le_of_ble_eq_true rfl, Nat.le_of_ble_eq_true rfl⟩) (wl_pM (C := RX9) (ci := 7) (q0 := 0) hK hP hD rfl (xr_0 a k S1)) rfl rfl hl.1 rfl (lv_room (Nat.le_of_ble_eq_true rfl)) dX9_follows_34 ⟨Nat.zero_le _, Nat.zero_le _⟩) hP hD hS hAz (fun r34 u34 H locs hw34 hP hD hS => ?_)
          have v34 : (fx_PS_value S1 (fx_Path_conditionAt S1 (nI i))).1 = r34 := congrArg Prod.fst hw34.symm
          have w34 : (fx_PS_value S1 (fx_Path_conditionAt S1 (nI i))).2 = u34 := congrArg Prod.snd hw34.symm
          have hf34 : XF [] [7] [2] S1 u34 := by rw [← w34]; exact ff_PS_value S1 (fx_Path_conditionAt S1 (nI i))
          try rw [v34] at hR
          try rw [w34] at hR
          refine lv_lconst (v := (0 : Int64)) hx hb dX9_follows_37 (by decide) ?_
          refine W.lcmp hx hb dX9_follows_38 ?_
          refine lv_if_ne (tgt := 44) hx hb dX9_follows_39 (by decide) (fun c39 => ?_) (fun c39 => ?_)
          · skip
            rw [if_neg c39] at hR
            refine lv_iinc (v := nI (i + 1)) (lv' := [(2, .int (nI (i + 1))), (1, .int ((nI E))), (0, .ref (a 0))]) hx hb dX9_follows_44 hl (k := 0) rfl (nI_1 _) (by decide) rfl (fun ls hl => ?_)
            refine lv_goto (tgt := 20) hx hb dX9_follows_47 (by decide) ?_
            exact ih (i + 1) (u34) _ _ ls hR (by omega) (show XW u34 V N E Bt from by rw [← w34]; exact wl_valW hW1) (by omega) hP hD hS (lv_sub hl [0, 1, 2] rfl)
          · skip
            rw [if_pos c39] at hR
            refine lv_iload_n hx hb dX9_follows_42 rfl (lv_at hl 0 rfl) ?_
            exact W.iret (v := nI i) hx hb hr (fun t ht hW => ⟨⟨_, _, rfl, hR, by rw [ht]; exact hP, va_K.moved hW.alike hK, hD⟩, hS.F ht⟩) hS.2.2 dX9_follows_43
    exact L20 17 0 st _ _ ls hR (Nat.zero_le _) hW (by omega) hP hD hS (lv_sub hl [0, 1, 2] rfl)
  · skip
    rw [if_pos c5] at hR
    refine lv_iconst (v := (-1 : Int32)) hx hb dX9_follows_8 (by decide) ?_
    exact W.iret (v := (-1 : Int32)) hx hb hr (fun t ht hW => ⟨⟨_, _, rfl, hR, by rw [ht]; exact hP, va_K.moved hW.alike hK, hD⟩, hS.F ht⟩) hS.2.2 dX9_follows_9
