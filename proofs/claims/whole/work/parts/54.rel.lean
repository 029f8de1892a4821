def MO (st ms : XS) (V Bt : Nat) : Prop := (gI st 0 = -1 ∧ gI ms 6 = -1) ∨ ∃ n MV : Nat, n < 1024 ∧ n % 2 ^ (10 - Bt) = 0 ∧ gI st 0 = nI n ∧ gI st 1 = nI MV ∧ gI ms 6 = nI MV ∧ MV ≤ V ∧ (∀ v : Nat, v < V → fA ms 8 v = fx_Vars_bitsAt st (nI v) (nI n)) ∧ ∀ v : Nat, V ≤ v → v < 4 → fA ms 8 v = 0
def rdb (st : XS) (t b : Nat) : Bool := (fA st 6 t).toBitVec.getLsbD b
def TRt (st : XS) (t : Nat) : Prop := (∀ b : Nat, b < 2 → fA st 3 t = 20 → fA st 5 (3 * t + 1) = nI b → rdb st t b = true) ∧ ∀ j b : Nat, j < 3 → b < 2 → nI j < fx_Op_namedTerms (fA st 3 t) → rdb st (fA st 5 (3 * t + j)).toNatClampNeg b = true → rdb st t b = true
def TR (st : XS) (N : Nat) : Prop := ∀ t : Nat, t < N → TRt st t
def CU (st : XS) (N : Nat) : Prop := ∀ i j : Nat, i < N → j < N → fA st 3 i = 21 → fA st 3 j = 21 → fA st 4 i = fA st 4 j → fL st 1 i = fL st 1 j → i = j
def KZ (st : XS) (N : Nat) : Prop := ∀ t : Nat, N ≤ t → t < 64 → fA st 8 t = 0
def RZ (st : XS) (N : Nat) : Prop := ∀ t : Nat, N ≤ t → t < 64 → fL st 2 t = 0
def PA (st ms : XS) (E : Nat) : Prop := ∀ i : Nat, i < E → fA ms 11 i = fA st 10 i ∧ fA st 4 (cnd st i) = 1
def Rel (st ms : XS) (V N E Bt : Nat) : Prop := XW st V N E Bt ∧ (gI ms 0 = nI N ∧ gI ms 1 = gI st 7 ∧ gI ms 2 = nI V ∧ gI ms 3 = nI E ∧ gI ms 4 = gI st 2 ∧ gI ms 5 = gI st 3) ∧ SR st ms N ∧ TabOK (fL st 0) (fA ms 10) ∧ VB st ms V Bt ∧ KZ st N ∧ RZ st N ∧ PA st ms E ∧ MO st ms V Bt ∧ RowOK st N ∧ TR st N ∧ CU st N
theorem TR.fr {Is As Ls : List Nat} {st S : XS} {N : Nat} (h : TR st N) (hF : XF Is As Ls st S) (hA : ∀ k ∈ [3, 5, 6], k ∉ As) : TR S N := by
  unfold TR TRt rdb at *
  rw [hF.A 3 (hA 3 (by decide)), hF.A 5 (hA 5 (by decide)), hF.A 6 (hA 6 (by decide))]
  exact h
theorem CU.fr {Is As Ls : List Nat} {st S : XS} {N : Nat} (h : CU st N) (hF : XF Is As Ls st S) (hA : ∀ k ∈ [3, 4], k ∉ As) (hL : 1 ∉ Ls) : CU S N := by
  unfold CU at *
  rw [hF.A 3 (hA 3 (by decide)), hF.A 4 (hA 4 (by decide)), hF.L 1 hL]
  exact h
theorem PA.fr {Is As Ls Js Bs Ms : List Nat} {st ms S T : XS} {E : Nat} (h : PA st ms E) (hF : XF Is As Ls st S) (hA : ∀ k ∈ [4, 10], k ∉ As) (hG : XF Js Bs Ms ms T) (hB : 11 ∉ Bs) : PA S T E := by
  unfold PA cnd at *
  rw [hF.A 4 (hA 4 (by decide)), hF.A 10 (hA 10 (by decide)), hG.A 11 hB]
  exact h
theorem MO.fr {Is As Ls Js Bs Ms : List Nat} {st ms S T : XS} {V Bt : Nat} (h : MO st ms V Bt) (hF : XF Is As Ls st S) (hI : ∀ k ∈ [0, 1], k ∉ Is) (hA : ∀ k ∈ [0, 1], k ∉ As) (hG : XF Js Bs Ms ms T) (hJ : 6 ∉ Js) (hB : 8 ∉ Bs) : MO S T V Bt := by
  unfold MO fx_Vars_bitsAt at *
  rw [hF.I 0 (hI 0 (by decide)), hF.I 1 (hI 1 (by decide)), hF.A 0 (hA 0 (by decide)), hF.A 1 (hA 1 (by decide)), hG.I 6 hJ, hG.A 8 hB]
  exact h
theorem RZ.fr {Is As Ls : List Nat} {st S : XS} {N : Nat} (h : RZ st N) (hF : XF Is As Ls st S) (hL : 2 ∉ Ls) : RZ S N := by
  unfold RZ at *
  rw [hF.L 2 hL]; exact h
theorem Rel.fr {Is As Ls Js Bs Ms : List Nat} {st ms S T : XS} {V N E Bt : Nat} (h : Rel st ms V N E Bt) (hF : XF Is As Ls st S) (hI : ∀ k ∈ [4, 5, 6, 7, 9], k ∉ Is) (hA : ∀ k ∈ [0, 1, 2, 3, 4, 5, 6, 10], k ∉ As) (hL : ∀ k ∈ [0, 1], k ∉ Ls) (hG : XF Js Bs Ms ms T) (hJ : ∀ k ∈ [0, 1, 2, 3], k ∉ Js) (hB : ∀ k ∈ [0, 1, 2, 3, 4, 5, 9, 10, 11], k ∉ Bs) (hM : 0 ∉ Ms) (xm : XM S N) (mv : ∃ MV : Nat, gI S 1 = nI MV ∧ MV ≤ V) (ye : gI T 4 = gI S 2) (no : gI T 5 = gI S 3) (kz : KZ S N) (rz : RZ S N) (mo : MO S T V Bt) (ro : RowOK S N) : Rel S T V N E Bt := by
  obtain ⟨⟨hV, hV4, hBt, hBt10, hN, h64, hEl, hE16, hX, hM0, hcN, _⟩, ⟨n0, c0, v0, e0, y0, o0⟩, sr, tb, vb, _, _, pa, _, _, tr, cu⟩ := h
  refine ⟨⟨(hF.I 4 (hI 4 (by decide))).trans hV, hV4, (hF.I 5 (hI 5 (by decide))).trans hBt, hBt10, (hF.I 6 (hI 6 (by decide))).trans hN, h64, (hF.I 9 (hI 9 (by decide))).trans hEl, hE16, hX.fr hF (fun k hk => hA k (by revert k; decide)) hL, xm, ?_, mv⟩, ⟨(hG.I 0 (hJ 0 (by decide))).trans n0, ?_, (hG.I 2 (hJ 2 (by decide))).trans v0, (hG.I 3 (hJ 3 (by decide))).trans e0, ye, no⟩, sr.fr hF (fun k hk => hA k (by revert k; decide)) (hL 1 (by decide)) hG (fun k hk => hB k (by revert k; decide)) hM, ?_, vb.fr hF (fun k hk => hA k (by revert k; decide)) hG (fun k hk => hB k (by revert k; decide)), kz, rz, pa.fr hF (fun k hk => hA k (by revert k; decide)) hG (hB 11 (by decide)), mo, ro, tr.fr hF (fun k hk => hA k (by revert k; decide)), cu.fr hF (fun k hk => hA k (by revert k; decide)) (hL 1 (by decide))⟩
  · rw [hF.A 10 (hA 10 (by decide))]; exact hcN
  · rw [hG.I 1 (hJ 1 (by decide)), hF.I 7 (hI 7 (by decide))]; exact c0
  · rw [hF.L 0 (hL 0 (by decide)), hG.A 10 (hB 10 (by decide))]; exact tb
theorem evz {st : XS} {N : Nat} {asg : Int32} (hN : gI st 6 = nI N) (h64 : N ≤ 64) : ∀ (n i : Nat) (S1 : XS), i ≤ N → RZ S1 N → RZ (fx_Eval_evaluateNeeded_L10 st asg n i S1) N := by
  intro n
  induction n with
  | zero => intro i S1 _ h; exact h
  | succ n ih =>
    intro i S1 hi h
    rw [fx_Eval_evaluateNeeded_L10]
    by_cases c : fx_Terms_size st ≤ nI i
    · rw [if_pos c]; exact h
    · rw [if_neg c]
      have hlt : i < N := wl_lt (by rw [← hN]; exact c) (by omega)
      have w : ∀ v : Int64, RZ (wL S1 2 (nI i).toNatClampNeg v) N := by
        intro v t ht h2
        rw [nI_clamp (by omega)]
        show vp_updL (fL S1 2) i v t = 0
        rw [pk_uLn (by omega)]; exact h t ht h2
      exact wl_ite (P := fun q : XS => RZ q N) (ih _ _ (by omega) h) (wl_ite (P := fun q : XS => RZ q N) (ih _ _ (by omega) (w _)) (wl_ite (P := fun q : XS => RZ q N) (ih _ _ (by omega) (w _)) (ih _ _ (by omega) (w _))))
theorem evZ {st : XS} {N : Nat} (asg : Int32) (hN : gI st 6 = nI N) (h64 : N ≤ 64) (h : RZ st N) : RZ (fx_Eval_evaluateNeeded st asg) N := by
  rw [fx_Eval_evaluateNeeded]
  exact evz hN h64 65 0 st (Nat.zero_le _) h
theorem lrz {st : XS} {N : Nat} {len : Int32} (hN : gI st 6 = nI N) (h64 : N ≤ 64) : ∀ (n i : Nat) (S1 : XS), XF [8] [7, 8, 9] [2, 3] st S1 → RZ S1 N → RZ (fx_Rows_learn_L40 st len n i S1) N := by
  intro n
  induction n with
  | zero => intro i S1 _ h; exact h
  | succ n ih =>
    intro i S1 hF h
    rw [fx_Rows_learn_L40]
    refine wl_ite (P := fun (q : XS) => RZ q N) h (ih _ _ ?_ ?_)
    · exact XF.tr (XF.tr hF ((ff_Eval_evaluateNeeded _ _).mono (by decide) (by decide) (by decide))) ((ff_Rows_noteAsked _ _ _).mono (by decide) (by decide) (by decide))
    · exact (evZ _ ((hF.I 6 (by decide)).trans hN) h64 h).fr (ff_Rows_noteAsked _ _ _) (by decide)
theorem lrZ {st : XS} {N : Nat} (len : Int32) (hN : gI st 6 = nI N) (h64 : N ≤ 64) (h : RZ st N) : RZ (fx_Rows_learn st len) N := by
  rw [fx_Rows_learn]
  have ma := h.fr (ff_Rows_ask st len) (by decide)
  refine wl_ite (P := fun (q : XS) => RZ q N) ma (lrz hN h64 _ _ _ ?_ ?_)
  · exact XF.tr ((ff_Rows_ask st len).mono (by decide) (by decide) (by decide)) ((ff_Eval_needOperands _).mono (by decide) (by decide) (by decide))
  · exact ma.fr (ff_Eval_needOperands _) (by decide)
theorem Rel.learn {st ms T : XS} {V N E Bt K : Nat} (h : Rel st ms V N E Bt) (hK : K ≤ E) (hG : XF [] [7] [1] ms T) : Rel (fx_Rows_learn st (nI K)) T V N E Bt := by
  have h0 := h
  obtain ⟨⟨hV, hV4, hBt, hBt10, hN, h64, hEl, hE16, hX, hM0, hcN, mv⟩, ⟨n0, c0, v0, e0, y0, o0⟩, sr, tb, vb, kz, rz, pa, mo, ro, tr, cu⟩ := h
  have fl := ff_Rows_learn st (nI K)
  have hcK : ∀ j : Nat, j < K → vp_in (fA st 10 j) N := fun j hj => hcN j (by omega)
  obtain ⟨r1, r2⟩ := lnN hN h64 hV4 hX hBt hBt10 (vb.lo hBt10) (by omega) hcK ro
  refine h0.fr fl (by decide) (by decide) (by decide) hG (by decide) (by decide) (by decide) (wl_lrM _ hN h64 hV4 hX hM0) ?_ ?_ ?_ ?_ (lrZ _ hN h64 rz) (mo.fr fl (by decide) (by decide) hG (by decide) (by decide)) r1
  · rw [fl.I 1 (by decide)]; exact mv
  · rw [hG.I 4 (by decide), fl.I 2 (by decide)]; exact y0
  · rw [hG.I 5 (by decide), fl.I 3 (by decide)]; exact o0
  · intro t ht h2
    by_cases q : fA (fx_Rows_learn st (nI K)) 8 t = 0
    · exact q
    · rcases (r2 t).mp q with q | ⟨k, hk, e⟩
      · exact absurd (kz t ht h2) q
      · have := cndN h64 (hcK k hk); omega
theorem nI_p0 {n : Nat} (h0 : 0 < n) (h : n < 2147483648) : (0 : Int32) < nI n := nI_lt (a := 0) h0 h
theorem RowOK.fr {Is As Ls : List Nat} {st S : XS} {N : Nat} (ro : RowOK st N) (f : XF Is As Ls st S) (hA : ∀ k ∈ [0, 1, 2, 3, 4, 5, 8], k ∉ As) (hL : ∀ k ∈ [0, 1, 3], k ∉ Ls) : RowOK S N := by
  intro t m ht hm hk
  rw [f.A 8 (hA 8 (by decide))] at hk
  rw [xval_fr f (fun k hk => hA k (by revert k; decide)) (fun k hk => hL k (by revert k; decide)), ← ro t m ht hm hk]
  unfold rbit
  rw [f.L 3 (hL 3 (by decide))]
theorem nI_m1 {m : Nat} (h : m < 1024) : ¬ nI m = (-1 : Int32) := by
  intro e
  have h0 : ¬ nI m < 0 := nI_pos (by omega)
  rw [e] at h0
  exact h0 (by decide)
theorem settleN {st ms : XS} {V N E Bt : Nat} (h : Rel st ms V N E Bt) {r fd : Int32} (ho : (r = -1 ∧ fd = 0) ∨ ∃ m : Nat, m < 1024 ∧ m % 2 ^ (10 - Bt) = 0 ∧ r = nI m ∧ fd = 1 ∧ ∀ v : Nat, v < V → fA ms 7 v = fx_Vars_bitsAt st (nI v) (nI m)) : (fx_PS_settle st r).1 = (fm_Mod_answer ms fd).1 ∧ ((fx_PS_settle st r).1 = 0 ∨ (fx_PS_settle st r).1 = 1) ∧ Rel (fx_PS_settle st r).2 (fm_Mod_answer ms fd).2 V N E Bt := by
  have h0 := h
  obtain ⟨⟨hV, hV4, hBt, hBt10, hN, h64, hEl, hE16, hX, hM0, hcN, mv⟩, ⟨n0, c0, v0, e0, y0, o0⟩, sr, tb, vb, kz, rz, pa, mo, ro, tr, cu⟩ := h
  rcases ho with ⟨e1, e2⟩ | ⟨m, hm, hd, e1, e2, hv⟩
  · rw [fx_PS_settle, if_pos e1, fm_Mod_answer, if_pos e2]
    have f : XF [3] [] [] st (wI st 3 (gI st 3 + (1 : Int32))) := XF.wI (by decide) XF.rf
    have g : XF [5] [] [] ms (wI ms 5 (gI ms 5 + (1 : Int32))) := XF.wI (by decide) XF.rf
    refine ⟨rfl, Or.inl rfl, h0.fr f (by decide) (by decide) (by decide) g (by decide) (by decide) (by decide) hM0 mv y0 ?_ kz rz (mo.fr f (by decide) (by decide) g (by decide) (by decide)) (ro.fr f (by decide) (by decide))⟩
    show gI ms 5 + (1 : Int32) = gI st 3 + (1 : Int32)
    rw [o0]
  · obtain ⟨a1, a2, g, a4, a6⟩ := ansN hV4 v0
    rw [e2, fx_PS_settle, if_neg (by rw [e1]; exact nI_m1 hm)]
    rw [a1]
    obtain ⟨T, eT⟩ : ∃ z, (fm_Mod_answer ms 1).2 = z := ⟨_, rfl⟩
    rw [eT] at a2 g a4 a6 ⊢
    obtain ⟨S, eS⟩ : ∃ z, wI (wI (wI st 2 ((gI st 2) + (1 : Int32))) 0 r) 1 (fx_Vars_size (wI (wI st 2 ((gI st 2) + (1 : Int32))) 0 r)) = z := ⟨_, rfl⟩
    have f : XF [0, 1, 2] [] [] st S := by rw [← eS]; exact XF.wI (by decide) (XF.wI (by decide) (XF.wI (by decide) XF.rf))
    have s0 : gI S 0 = nI m := by rw [← eS]; exact e1
    have s1 : gI S 1 = nI V := by rw [← eS]; exact hV
    have s2 : gI S 2 = gI st 2 + 1 := by rw [← eS]; rfl
    rw [eS]
    refine ⟨rfl, Or.inr rfl, h0.fr f (by decide) (by decide) (by decide) g (by decide) (by decide) (by decide) (hM0.fr f (by decide) (by decide)) ⟨V, s1, Nat.le_refl _⟩ ?_ ?_ ?_ (rz.fr f (by decide)) ?_ ?_⟩
    · rw [a4, s2, y0]
    · rw [g.I 5 (by decide), f.I 3 (by decide)]; exact o0
    · unfold KZ; rw [f.A 8 (by decide)]; exact kz
    · refine Or.inr ⟨m, V, hm, hd, s0, s1, a6, Nat.le_refl _, fun v hv2 => ?_, fun v h1 h2 => ?_⟩
      · rw [a2 v (by omega), if_pos hv2, hv v hv2]
        unfold fx_Vars_bitsAt
        rw [f.A 0 (by decide), f.A 1 (by decide)]
      · rw [a2 v h2, if_neg (by omega)]
    · intro t m2 ht hm2 hk
      rw [f.A 8 (by decide)] at hk
      rw [xval_fr f (by decide) (by decide), ← ro t m2 ht hm2 hk]
      unfold rbit
      rw [f.L 3 (by decide)]
theorem Rel.row {st ms : XS} {V N E Bt : Nat} (h : Rel st ms V N E Bt) {i : Nat} (hi : i < E) : fA ms 11 i = fA st 10 i ∧ cnd st i < N ∧ fA st 4 (cnd st i) = 1 := by
  obtain ⟨⟨hV, hV4, hBt, hBt10, hN, h64, hEl, hE16, hX, hM0, hcN, mv⟩, _, _, _, _, _, _, pa, _⟩ := h
  exact ⟨(pa i hi).1, cndN h64 (hcN i hi), (pa i hi).2⟩
theorem div_mul_div (m : Nat) {d : Nat} (hd : 0 < d) : m / d * d / d = m / d := Nat.mul_div_cancel _ hd
theorem checkN {st ms : XS} {V N E Bt : Nat} (h : Rel st ms V N E Bt) : (fx_PS_check st).1 = (fm_Mod_check ms).1 ∧ Rel (fx_PS_check st).2 (fm_Mod_check ms).2 V N E Bt := by
  have h0 := h
  obtain ⟨⟨hV, hV4, hBt, hBt10, hN, h64, hEl, hE16, hX, hM0, hcN, mv⟩, ⟨n0, c0, v0, e0, y0, o0⟩, sr, tb, vb, kz, rz, pa, mo, ro, tr, cu⟩ := h
  obtain ⟨f1, f2⟩ := ftN hN h64 hV4 hX hBt hBt10 (vb.lo hBt10) hEl hE16 hcN ro
  have hpos := wl_p2pos (10 - Bt)
  have sv := solveN (tu := 0) h64 hV4 hX n0 v0 sr tb vb hBt10 hE16 (fun i hi => by
      rcases hi with hi | ⟨hi, _⟩
      · exact h0.row hi
      · exact absurd rfl hi) f1 (fun m hm q => by
      intro j hj
      have hd : m / 2 ^ (10 - Bt) * 2 ^ (10 - Bt) ≤ m := Nat.div_mul_le_self _ _
      rw [xval_low (m2 := m) hV4 hX (vb.lo hBt10) (by omega) hm (div_mul_div m hpos) (cndN h64 (hcN j hj))]
      exact q j hj) (fun c hc => ⟨fun q => ⟨q, fun q2 => absurd rfl q2⟩, fun q => q.1⟩)
  have R1 := h0.learn (Nat.le_refl E) (ff_Mod_solve ms (nI E) 0)
  have fl := ff_Rows_learn st (nI E)
  have key := settleN R1 (r := (fx_Path_firstTaking st).1) (fd := (fm_Mod_solve ms (nI E) 0).1) (by
    rcases sv with q | ⟨m, q1, q2, q3, q4, q5⟩
    · exact Or.inl q
    · refine Or.inr ⟨m, q1, q2, q3, q4, fun v hv => ?_⟩
      rw [q5 v hv]
      unfold fx_Vars_bitsAt
      rw [fl.A 0 (by decide), fl.A 1 (by decide)])
  obtain ⟨k1, k2, k3⟩ := key
  rw [fx_PS_check, fm_Mod_check, e0, f2]
  obtain ⟨F, eF⟩ : ∃ z, fx_PS_settle (fx_Rows_learn st (nI E)) (fx_Path_firstTaking st).1 = z := ⟨_, rfl⟩
  rw [eF] at k1 k2 k3 ⊢
  rcases k2 with k2 | k2
  · rw [if_pos k2]
    exact ⟨k2.symm.trans k1, k3⟩
  · rw [if_neg (by rw [k2]; decide)]
    exact ⟨k2.symm.trans k1, k3⟩
theorem flipC {st ms : XS} {V N E Bt K : Nat} (h : Rel st ms V N E Bt) (hK : K < E) : (fx_PS_settle (fx_Path_firstLeavingAt st (nI K)).2 (fx_Path_firstLeavingAt st (nI K)).1).1 = (fm_Mod_flip ms (nI K)).1 ∧ ((fx_PS_settle (fx_Path_firstLeavingAt st (nI K)).2 (fx_Path_firstLeavingAt st (nI K)).1).1 = 0 ∨ (fx_PS_settle (fx_Path_firstLeavingAt st (nI K)).2 (fx_Path_firstLeavingAt st (nI K)).1).1 = 1) ∧ Rel (fx_PS_settle (fx_Path_firstLeavingAt st (nI K)).2 (fx_Path_firstLeavingAt st (nI K)).1).2 (fm_Mod_flip ms (nI K)).2 V N E Bt := by
  have h0 := h
  obtain ⟨⟨hV, hV4, hBt, hBt10, hN, h64, hEl, hE16, hX, hM0, hcN, mv⟩, ⟨n0, c0, v0, e0, y0, o0⟩, sr, tb, vb, kz, rz, pa, mo, ro, tr, cu⟩ := h
  obtain ⟨f1, f2⟩ := flN hN h64 hV4 hX hBt hBt10 (vb.lo hBt10) hE16 hK hcN ro
  have hpos := wl_p2pos (10 - Bt)
  have t1 : ¬ (1 : Int32) = 0 := by decide
  have sv := solveN (tu := 1) (K := K) h64 hV4 hX n0 v0 sr tb vb hBt10 (by omega) (fun i hi => by
      rcases hi with hi | ⟨_, hi⟩
      · exact h0.row (by omega)
      · exact h0.row (by omega)) f1 (fun m hm q => by
      have hd : m / 2 ^ (10 - Bt) * 2 ^ (10 - Bt) ≤ m := Nat.div_mul_le_self _ _
      refine ⟨fun j hj => ?_, ?_⟩
      · rw [xval_low (m2 := m) hV4 hX (vb.lo hBt10) (by omega) hm (div_mul_div m hpos) (cndN h64 (hcN j (by omega)))]
        exact q.1 j hj
      · rw [xval_low (m2 := m) hV4 hX (vb.lo hBt10) (by omega) hm (div_mul_div m hpos) (cndN h64 (hcN K hK))]
        exact q.2) (fun c hc => ⟨fun q => ⟨q.1, fun _ => q.2⟩, fun q => ⟨q.1, q.2 t1⟩⟩)
  have R1 := h0.learn (K := K + 1) hK (ff_Mod_solve ms (nI K) 1)
  have fl := ff_Rows_learn st (nI (K + 1))
  have key := settleN R1 (r := (fx_Path_firstLeavingAt st (nI K)).1) (fd := (fm_Mod_solve ms (nI K) 1).1) (by
    rcases sv with q | ⟨m, q1, q2, q3, q4, q5⟩
    · exact Or.inl q
    · refine Or.inr ⟨m, q1, q2, q3, q4, fun v hv => ?_⟩
      rw [q5 v hv]
      unfold fx_Vars_bitsAt
      rw [fl.A 0 (by decide), fl.A 1 (by decide)])
  rw [fm_Mod_flip, if_neg (nI_pos (by omega)), e0, if_pos (nI_lt hK (by omega)), f2]
  exact key
theorem flipN {st ms : XS} {V N E Bt : Nat} (h : Rel st ms V N E Bt) (kx : Int32) : (fx_PS_flip st kx).1 = (fm_Mod_flip ms kx).1 ∧ Rel (fx_PS_flip st kx).2 (fm_Mod_flip ms kx).2 V N E Bt := by
  have hEl : gI st 9 = nI E := h.1.2.2.2.2.2.2.1
  have hE16 : E ≤ 16 := h.1.2.2.2.2.2.2.2.1
  have e0 : gI ms 3 = nI E := h.2.1.2.2.2.1
  by_cases c0 : kx < (0 : Int32)
  · rw [fx_PS_flip, fm_Mod_flip, if_pos c0, if_pos c0]; exact ⟨rfl, h⟩
  · by_cases c1 : kx < nI E
    · obtain ⟨K, hK, e⟩ := wl_ixn (by omega) rfl c0 c1
      obtain ⟨k1, k2, k3⟩ := flipC h hK
      rw [fx_PS_flip, if_neg c0, fx_Path_length, hEl, if_pos c1, e]
      obtain ⟨F, eF⟩ : ∃ z, fx_PS_settle (fx_Path_firstLeavingAt st (nI K)).2 (fx_Path_firstLeavingAt st (nI K)).1 = z := ⟨_, rfl⟩
      rw [eF] at k1 k2 k3 ⊢
      rcases k2 with k2 | k2
      · rw [if_pos k2]
        exact ⟨k2.symm.trans k1, k3⟩
      · rw [if_neg (by rw [k2]; decide)]
        exact ⟨k2.symm.trans k1, k3⟩
    · rw [fx_PS_flip, fm_Mod_flip, if_neg c0, if_neg c0, fx_Path_length, hEl, e0, if_neg c1, if_neg c1]; exact ⟨rfl, h⟩
theorem searchL {V N E Bt : Nat} {st0 ms0 : XS} {lim lim2 : Int32} (hE16 : E ≤ 16) : ∀ (n i : Nat) (st ms : XS), i ≤ E → i < n → Rel st ms V N E Bt → (fx_PS_search_L20 st0 lim n (nI i - 1) st).1 = (fm_Mod_search_L29 ms0 lim2 n (nI i - 1) ms).1 ∧ Rel (fx_PS_search_L20 st0 lim n (nI i - 1) st).2 (fm_Mod_search_L29 ms0 lim2 n (nI i - 1) ms).2 V N E Bt := by
  intro n
  induction n with
  | zero => intro i st ms _ h; exact absurd h (Nat.not_lt_zero _)
  | succ n ih =>
    intro i st ms hi hm h
    rw [fx_PS_search_L20, fm_Mod_search_L29]
    rcases Nat.eq_zero_or_pos i with e | hp
    · have c : nI i - 1 < (0 : Int32) := by rw [e]; decide
      rw [if_pos c, if_pos c]; exact ⟨rfl, h⟩
    · obtain ⟨K, eK⟩ : ∃ K : Nat, i = K + 1 := ⟨i - 1, by omega⟩
      have ex : nI i - 1 = nI K := by rw [eK]; exact nI_pred K
      rw [ex, if_neg (nI_pos (by omega)), if_neg (nI_pos (by omega))]
      obtain ⟨k1, k2, k3⟩ := flipC h (K := K) (by omega)
      obtain ⟨F, eF⟩ : ∃ z, fx_PS_settle (fx_Path_firstLeavingAt st (nI K)).2 (fx_Path_firstLeavingAt st (nI K)).1 = z := ⟨_, rfl⟩
      obtain ⟨G, eG⟩ : ∃ z, fm_Mod_flip ms (nI K) = z := ⟨_, rfl⟩
      rw [eF] at k1 k2 k3 ⊢
      rw [eG] at k1 k3 ⊢
      rw [wl_m1]
      rcases k2 with k2 | k2
      · rw [if_pos k2, if_neg (by rw [← k1, k2]; decide)]
        exact ih K _ _ (by omega) (by omega) k3
      · rw [if_neg (by rw [k2]; decide), if_pos (by rw [← k1, k2])]
        exact ⟨rfl, k3⟩
theorem searchN {st ms : XS} {V N E Bt : Nat} (h : Rel st ms V N E Bt) (lim : Int32) : (fx_PS_search st lim).1 = (fm_Mod_search ms lim).1 ∧ Rel (fx_PS_search st lim).2 (fm_Mod_search ms lim).2 V N E Bt := by
  have hEl : gI st 9 = nI E := h.1.2.2.2.2.2.2.1
  have hE16 : E ≤ 16 := h.1.2.2.2.2.2.2.2.1
  have e0 : gI ms 3 = nI E := h.2.1.2.2.2.1
  rw [fx_PS_search, fm_Mod_search, fx_Path_length, hEl, e0]
  by_cases c1 : (0 : Int32) ≤ lim
  · rw [if_pos c1]
    by_cases c2 : lim ≤ nI E
    · rw [if_pos c2]
      obtain ⟨L, hL, e⟩ := nI_of2 (M := nI E) (nI_toInt (by omega)) (Int32.not_lt.mpr c1) c2
      have q1 : (if nI E < lim then nI E else lim) = nI L := by rw [if_neg (Int32.not_lt.mpr c2)]; exact e
      rw [q1, e]
      have q2 : (if (0 : Int32) < nI L then nI L else 0) = nI L := by
        by_cases z : (0 : Int32) < nI L
        · rw [if_pos z]
        · rw [if_neg z]
          have : L = 0 := by
            rcases Nat.eq_zero_or_pos L with q | q
            · exact q
            · exact absurd (nI_p0 q (by omega)) z
          rw [this]; rfl
      rw [q2]
      exact searchL hE16 17 L st ms hL (by omega) h
    · rw [if_neg c2]
      have q1 : (if nI E < lim then nI E else lim) = nI E := by rw [if_pos (Int32.not_le.mp c2)]
      rw [q1]
      have q2 : (if (0 : Int32) < nI E then nI E else 0) = nI E := by
        by_cases z : (0 : Int32) < nI E
        · rw [if_pos z]
        · rw [if_neg z]
          have : E = 0 := by
            rcases Nat.eq_zero_or_pos E with q | q
            · exact q
            · exact absurd (nI_p0 q (by omega)) z
          rw [this]; rfl
      rw [q2]
      exact searchL hE16 17 E st ms (Nat.le_refl _) (by omega) h
  · rw [if_neg c1]
    have hlt : lim < (0 : Int32) := Int32.not_le.mp c1
    have q1 : (if nI E < lim then nI E else lim) = lim := by
      rw [if_neg (fun q => nI_pos (n := E) (by omega) (Int32.lt_trans q hlt))]
    rw [q1]
    have q2 : (if (0 : Int32) < lim then lim else 0) = nI 0 := by
      rw [if_neg (fun q => Int32.lt_irrefl (Int32.lt_trans q hlt))]; rfl
    rw [q2]
    exact searchL hE16 17 0 st ms (Nat.zero_le _) (by omega) h
