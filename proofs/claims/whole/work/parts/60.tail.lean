theorem nI_m3 {m : Nat} (h : m < 1024) : ¬ nI m = (-3 : Int32) := by
  intro e
  have h0 : ¬ nI m < 0 := nI_pos (by omega)
  rw [e] at h0
  exact h0 (by decide)
theorem nI_m9 {m : Nat} (h : m < 1024) : ¬ nI m = (-9 : Int32) := by
  intro e
  have h0 : ¬ nI m < 0 := nI_pos (by omega)
  rw [e] at h0
  exact h0 (by decide)
theorem ntrL {S0 : XS} {t : Nat} (ht : t < 64) : ∀ (n i : Nat) (rd : Int32), i ≤ 3 → 3 - i < n → ∃ r : Int32, fx_Terms_noteTablesRead_L37 S0 (nI t) n rd i = wA S0 6 t r ∧ (∀ b : Nat, rd.toBitVec.getLsbD b = true → r.toBitVec.getLsbD b = true) ∧ ∀ j b : Nat, i ≤ j → j < 3 → nI j < fx_Op_namedTerms (fA S0 3 t) → (fA S0 6 (fA S0 5 (3 * t + j)).toNatClampNeg).toBitVec.getLsbD b = true → r.toBitVec.getLsbD b = true := by
  intro n
  induction n with
  | zero => intro i rd _ h; exact absurd h (Nat.not_lt_zero _)
  | succ n ih =>
    intro i rd hi hm
    rw [fx_Terms_noteTablesRead_L37, nI_clamp (by omega)]
    by_cases c : fx_Op_namedTerms (fA S0 3 t) ≤ nI i
    · rw [if_pos c]
      refine ⟨rd, rfl, fun b h => h, fun j b h1 h2 h3 _ => ?_⟩
      exact absurd (Int32.lt_of_lt_of_le h3 c) (nI_nlt h1 (by omega))
    · rw [if_neg c]
      have hi3 : i < 3 := wl_nm3 hi c
      rw [wl_opn ht hi3]
      obtain ⟨r, e, k1, k2⟩ := ih (i + 1) (rd ||| fA S0 6 (fA S0 5 (3 * t + i)).toNatClampNeg) (by omega) (by omega)
      refine ⟨r, e, fun b h => k1 b (by rw [Int32.toBitVec_or, BitVec.getLsbD_or, h]; rfl), fun j b h1 h2 h3 h4 => ?_⟩
      by_cases e2 : j = i
      · rw [e2] at h4
        exact k1 b (by rw [Int32.toBitVec_or, BitVec.getLsbD_or, h4, Bool.or_true])
      · exact k2 j b (by omega) h2 h3 h4
theorem sh1b : ∀ b, b < 2 → ((1 : Int32) <<< (nI b &&& 31)).toBitVec.getLsbD b = true := by decide
theorem ntrN {S0 : XS} {t : Nat} (ht : t < 64) : ∃ r : Int32, fx_Terms_noteTablesRead S0 (nI t) = wA S0 6 t r ∧ (∀ b : Nat, b < 2 → fA S0 3 t = 20 → fA S0 5 (3 * t + 1) = nI b → r.toBitVec.getLsbD b = true) ∧ ∀ j b : Nat, j < 3 → nI j < fx_Op_namedTerms (fA S0 3 t) → (fA S0 6 (fA S0 5 (3 * t + j)).toNatClampNeg).toBitVec.getLsbD b = true → r.toBitVec.getLsbD b = true := by
  rw [fx_Terms_noteTablesRead, nI_clamp (by omega)]
  by_cases c : fA S0 3 t = 20
  · rw [if_pos c]
    obtain ⟨r, e, k1, k2⟩ := ntrL (S0 := S0) ht 4 0 ((1 : Int32) <<< ((fx_Terms_operandOf S0 (nI t) (1 : Int32)) &&& 31)) (by omega) (by omega)
    refine ⟨r, e, fun b hb _ h5 => k1 b ?_, fun j b hj h1 h2 => k2 j b (Nat.zero_le _) hj h1 h2⟩
    rw [wl_op1 ht, h5]; exact sh1b b hb
  · rw [if_neg c]
    obtain ⟨r, e, k1, k2⟩ := ntrL (S0 := S0) ht 4 0 0 (by omega) (by omega)
    exact ⟨r, e, fun b hb z => absurd z c, fun j b hj h1 h2 => k2 j b (Nat.zero_le _) hj h1 h2⟩
theorem nmB {o : Int32} (h : o = 2 ∨ o = 3 ∨ o = 4 ∨ o = 5 ∨ o = 6 ∨ o = 7 ∨ o = 10 ∨ o = 11 ∨ o = 12) : nI 1 < fx_Op_namedTerms o := by
  rcases h with e | e | e | e | e | e | e | e | e
  all_goals (rw [e]; decide)
theorem nmD {o : Int32} (h : o = 8 ∨ o = 9) : nI 1 < fx_Op_namedTerms o := by
  rcases h with e | e
  all_goals (rw [e]; decide)
theorem nmC {o : Int32} (h : o = 13 ∨ o = 14 ∨ o = 15) : nI 1 < fx_Op_namedTerms o := by
  rcases h with e | e | e
  all_goals (rw [e]; decide)
theorem nmI {o : Int32} (h : o = 16) : nI 1 < fx_Op_namedTerms o ∧ nI 2 < fx_Op_namedTerms o := by
  rw [h]; decide
theorem OpTy.cg {o wa wb wc b wt wb2 wc2 : Int32} (h : OpTy o wa wb wc b wt) (hb : nI 1 < fx_Op_namedTerms o → wb = wb2) (hc : nI 2 < fx_Op_namedTerms o → wc = wc2) : OpTy o wa wb2 wc2 b wt := by
  obtain ⟨hw, hv, h⟩ := h
  refine ⟨hw, hv, ?_⟩
  rcases h with h | ⟨ho, h1, h2⟩ | ⟨ho, h1, h2, h3⟩ | ⟨ho, h1, h2⟩ | ⟨ho, h1, h2, h3⟩ | h | h | h
  · exact Or.inl h
  · exact Or.inr (Or.inl ⟨ho, (hb (nmB ho)).symm.trans h1, h2⟩)
  · exact Or.inr (Or.inr (Or.inl ⟨ho, h1, (hb (nmD ho)).symm.trans h2, h3⟩))
  · exact Or.inr (Or.inr (Or.inr (Or.inl ⟨ho, (hb (nmC ho)).symm.trans h1, h2⟩)))
  · exact Or.inr (Or.inr (Or.inr (Or.inr (Or.inl ⟨ho, h1, (hb (nmI ho).1).symm.trans h2, (hc (nmI ho).2).symm.trans h3⟩))))
  · exact Or.inr (Or.inr (Or.inr (Or.inr (Or.inr (Or.inl h)))))
  · exact Or.inr (Or.inr (Or.inr (Or.inr (Or.inr (Or.inr (Or.inl h))))))
  · exact Or.inr (Or.inr (Or.inr (Or.inr (Or.inr (Or.inr (Or.inr h))))))
theorem OpTy.xt {S : XS} {V N : Nat} {o a b c wt : Int32} (h : OpTy o (fA S 4 a.toNatClampNeg) (fA S 4 b.toNatClampNeg) (fA S 4 c.toNatClampNeg) b wt) (ha : vp_in a N) (hb : nI 1 < fx_Op_namedTerms o → vp_in b N) (hc : nI 2 < fx_Op_namedTerms o → vp_in c N) (e3 : fA S 3 N = o) (e4 : fA S 4 N = wt) (e0 : fA S 5 (3 * N) = a) (e1 : fA S 5 (3 * N + 1) = b) (e2 : fA S 5 (3 * N + 2) = c) : XTt S V N := by
  obtain ⟨hw, hv, h⟩ := h
  unfold XTt oA oB oC
  rw [e3, e4, e0, e1, e2]
  refine ⟨hv, ?_⟩
  rcases h with ⟨ho, h1⟩ | ⟨ho, h1, h2⟩ | ⟨ho, h1, h2, h3⟩ | ⟨ho, h1, h2⟩ | ⟨ho, h1, h2, h3⟩ | ⟨ho, h1, h2⟩ | ⟨ho, h1, h2⟩ | ⟨ho, h1, h2, h3⟩
  · exact Or.inr (Or.inr (Or.inl ⟨ho, ha, h1.symm⟩))
  · exact Or.inr (Or.inr (Or.inr (Or.inl ⟨ho, ha, hb (nmB ho), h2.symm, h1.trans h2.symm⟩)))
  · exact Or.inr (Or.inr (Or.inr (Or.inr (Or.inl ⟨ho, ha, hb (nmD ho), h1, h2, h3⟩))))
  · exact Or.inr (Or.inr (Or.inr (Or.inr (Or.inr (Or.inl ⟨ho, ha, hb (nmC ho), h1.symm, h2⟩)))))
  · exact Or.inr (Or.inr (Or.inr (Or.inr (Or.inr (Or.inr (Or.inl ⟨ho, ha, hb (nmI ho).1, hc (nmI ho).2, h1, h2, h3⟩))))))
  · exact Or.inr (Or.inr (Or.inr (Or.inr (Or.inr (Or.inr (Or.inr (Or.inl ⟨ho, ha, h1, h2⟩)))))))
  · exact Or.inr (Or.inr (Or.inr (Or.inr (Or.inr (Or.inr (Or.inr (Or.inr (Or.inl ⟨ho, ha, h1, h2⟩))))))))
  · exact Or.inr (Or.inr (Or.inr (Or.inr (Or.inr (Or.inr (Or.inr (Or.inr (Or.inr ⟨ho, ha, h1, h2, h3⟩))))))))
theorem addC {st ms : XS} {V N E Bt : Nat} {o a b c wt q : Int32} (h : Rel st ms V N E Bt) (hN1 : N < 64) (h21 : ¬ o = 21) (h22 : ¬ o = 22) (hO : OpTy o (fA st 4 a.toNatClampNeg) (fA st 4 b.toNatClampNeg) (fA st 4 c.toNatClampNeg) b wt) (ha : vp_in a N) (hb : nI 1 < fx_Op_namedTerms o → vp_in b N) (hc : nI 2 < fx_Op_namedTerms o → vp_in c N) : (fx_Terms_addPlain st o wt).1 = (fm_Mod_fresh (wI ms 1 (gI ms 1 + q)) o a b c wt).1 ∧ Rel (fx_Terms_noteTablesRead (wI (wA (wA (wA (fx_Terms_addPlain st o wt).2 5 (((fx_Terms_addPlain st o wt).1 * (3 : Int32)).toNatClampNeg) a) 5 ((((fx_Terms_addPlain st o wt).1 * (3 : Int32)) + (1 : Int32)).toNatClampNeg) b) 5 ((((fx_Terms_addPlain st o wt).1 * (3 : Int32)) + (2 : Int32)).toNatClampNeg) c) 7 ((gI (fx_Terms_addPlain st o wt).2 7) + q)) (fx_Terms_addPlain st o wt).1) (fm_Mod_fresh (wI ms 1 (gI ms 1 + q)) o a b c wt).2 V (N + 1) E Bt := by
  have hr := h
  obtain ⟨⟨hV, hV4, hBt, hBt10, hN, h64, hEl, hE16, hX, hM0, hcN, mv⟩, ⟨n0, c0, v0, e0, y0, o0⟩, sr, tb, vb, kz, rz, pa, mo, ro, tr, cu⟩ := h
  obtain ⟨p1, p2, p3, p4⟩ := apN (o := o) (w := wt) hN hN1
  have fp := ff_Terms_addPlain st o wt
  obtain ⟨P, eP⟩ : ∃ z, fx_Terms_addPlain st o wt = z := ⟨_, rfl⟩
  rw [eP] at p1 p2 p3 p4 fp ⊢
  rw [p1, c30 hN1, c31 hN1, c32 hN1, fp.I 7 (by decide)]
  obtain ⟨M, eM⟩ : ∃ z, wI ms 1 (gI ms 1 + q) = z := ⟨_, rfl⟩
  have fM : XF [0, 1] [0, 1, 2, 3, 4] [0, 1] ms M := by rw [← eM]; exact XF.wI (by decide) XF.rf
  have m0 : gI M 0 = nI N := by rw [← eM]; exact n0
  have m1 : gI M 1 = gI ms 1 + q := by rw [← eM]; rfl
  have ma : ∀ k : Nat, fA M k = fA ms k := by intro k; rw [← eM]; rfl
  have ml : fL M 0 = fL ms 0 := by rw [← eM]; rfl
  rw [eM]
  obtain ⟨q1, q2, q3, q4, q5, q6, q7⟩ := frN (o := o) (x := a) (y := b) (z := c) (w := wt) m0 hN1
  have gf := ff_Mod_fresh M o a b c wt
  obtain ⟨G, eG⟩ : ∃ z, fm_Mod_fresh M o a b c wt = z := ⟨_, rfl⟩
  rw [eG] at q1 q2 q3 q4 q5 q6 q7 gf ⊢
  obtain ⟨S1, e1⟩ : ∃ z, wI (wA (wA (wA P.2 5 (3 * N) a) 5 (3 * N + 1) b) 5 (3 * N + 2) c) 7 (gI st 7 + q) = z := ⟨_, rfl⟩
  have f1 : XF [6, 7] [3, 4, 5, 6] [1] st S1 := by rw [← e1]; exact XF.wI (by decide) (XF.wA (by decide) (XF.wA (by decide) (XF.wA (by decide) (fp.mono (by decide) (by decide) (by decide)))))
  have a3 : ∀ t : Nat, fA S1 3 t = upd (fA st 3) N o t := by intro t; rw [← e1]; exact p3 t
  have a4 : ∀ t : Nat, fA S1 4 t = upd (fA st 4) N wt t := by intro t; rw [← e1]; exact p4 t
  have a5 : ∀ t : Nat, fA S1 5 t = upd (upd (upd (fA st 5) (3 * N) a) (3 * N + 1) b) (3 * N + 2) c t := by
    intro t; rw [← e1]
    show upd (upd (upd (fA P.2 5) (3 * N) a) (3 * N + 1) b) (3 * N + 2) c t = _
    rw [fp.A 5 (by decide)]
  have a6 : fA S1 6 = fA st 6 := by rw [← e1]; exact fp.A 6 (by decide)
  have l1 : fL S1 1 = fL st 1 := by rw [← e1]; exact fp.L 1 (by decide)
  have i6 : gI S1 6 = nI (N + 1) := by rw [← e1]; exact p2
  have i7 : gI S1 7 = gI st 7 + q := by rw [← e1]; rfl
  have b0 : fA S1 5 (3 * N) = a := by rw [a5, pk_un (by omega), pk_un (by omega), pk_us]
  have b1 : fA S1 5 (3 * N + 1) = b := by rw [a5, pk_un (by omega), pk_us]
  have b2 : fA S1 5 (3 * N + 2) = c := by rw [a5, pk_us]
  rw [e1]
  obtain ⟨r, er, r1, r2⟩ := ntrN (S0 := S1) hN1
  obtain ⟨S, eS⟩ : ∃ z, wA S1 6 N r = z := ⟨_, rfl⟩
  rw [er, eS]
  have fS : XF [] [6] [] S1 S := by rw [← eS]; exact XF.wA (by decide) XF.rf
  have F : XF [6, 7] [3, 4, 5, 6] [1] st S := XF.tr f1 (fS.mono (by decide) (by decide) (by decide))
  have s6 : ∀ t : Nat, fA S 6 t = upd (fA st 6) N r t := by
    intro t; rw [← eS]
    show upd (fA S1 6) N r t = _
    rw [a6]
  have hE : Ext st S N := fun t ht => ⟨by rw [fS.A 3 (by decide), a3, pk_un (by omega)], by rw [fS.A 4 (by decide), a4, pk_un (by omega)], fun j hj => by rw [fS.A 5 (by decide), a5, pk_un (by omega), pk_un (by omega), pk_un (by omega)], by rw [fS.L 1 (by decide), l1]⟩
  have k3 : fA S 3 N = o := by rw [fS.A 3 (by decide), a3, pk_us]
  have k4 : fA S 4 N = wt := by rw [fS.A 4 (by decide), a4, pk_us]
  have k50 : fA S 5 (3 * N) = a := by rw [fS.A 5 (by decide)]; exact b0
  have k51 : fA S 5 (3 * N + 1) = b := by rw [fS.A 5 (by decide)]; exact b1
  have k52 : fA S 5 (3 * N + 2) = c := by rw [fS.A 5 (by decide)]; exact b2
  have wS : ∀ x : Int32, vp_in x N → fA S 4 x.toNatClampNeg = fA st 4 x.toNatClampNeg := fun x hx => (hE _ (vin_lt hx (by omega))).2.1
  have op : ∀ j : Nat, j < 3 → nI j < fx_Op_namedTerms o → vp_in (fA S 5 (3 * N + j)) N := by
    intro j hj z
    have q : j = 0 ∨ j = 1 ∨ j = 2 := by omega
    rcases q with e | e | e
    · rw [e]; show vp_in (fA S 5 (3 * N)) N; rw [k50]; exact ha
    · rw [e] at z ⊢; rw [k51]; exact hb z
    · rw [e] at z ⊢; rw [k52]; exact hc z
  refine ⟨q1.symm, hr.add hN1 F (XF.tr fM (gf.mono (by decide) (by decide) (by decide))) hE (fun t ht => by rw [s6, pk_un (by omega)]) (fun t ht => ?_) ((fS.I 6 (by decide)).trans i6) q2 ?_ ?_ ?_ ?_ (fun z => absurd (k3.symm.trans z) h21)⟩
  · exact ⟨by rw [q3, pk_un (by omega), ma], by rw [q4, pk_un (by omega), ma], by rw [q5, pk_un (by omega), ma], by rw [q6, pk_un (by omega), ma], by rw [q7, pk_un (by omega), ma], by rw [gf.L 0 (by decide), ml]⟩
  · rw [gf.I 1 (by decide), m1, fS.I 7 (by decide), i7, c0]
  · refine OpTy.xt (o := o) (a := a) (b := b) (c := c) (wt := wt) ?_ ha hb hc k3 k4 k50 k51 k52
    rw [wS a ha]
    exact hO.cg (fun z => (wS b (hb z)).symm) (fun z => (wS c (hc z)).symm)
  · refine ⟨by rw [q3, pk_us, k3], by rw [q7, pk_us, k4], fun z => absurd (k3.symm.trans z) h21, fun _ => by rw [q4, pk_us, k50], fun _ _ => ⟨by rw [q5, pk_us, k51], by rw [q6, pk_us, k52]⟩⟩
  · have rN : ∀ d : Nat, rdb S N d = r.toBitVec.getLsbD d := fun d => by unfold rdb; rw [s6, pk_us]
    refine ⟨fun d hd z1 z2 => ?_, fun j d hj hd z1 z2 => ?_⟩
    · rw [rN]
      rw [fS.A 3 (by decide)] at z1
      rw [fS.A 5 (by decide)] at z2
      exact r1 d hd z1 z2
    · rw [rN]
      have z3 := z1
      rw [k3] at z3
      have lt := vin_lt (op j hj z3) (by omega)
      rw [fS.A 3 (by decide)] at z1
      refine r2 j d hj z1 ?_
      unfold rdb at z2
      rw [s6, pk_un (by omega), fS.A 5 (by decide)] at z2
      rw [a6]; exact z2
theorem tailN {st ms : XS} {V N E Bt : Nat} {o a b c wt y z : Int32} (h : Rel st ms V N E Bt) (hs2 : (fm_Mod_shorter ms o a y z).2 = ms) (hwx : fx_Terms_widthOfResult st o a b = wt) (hwm : fm_Mod_widthOf ms o a y = wt) (hc16 : o = 16 → fx_Op_costFor o (fA st 4 b.toNatClampNeg) = fm_Mod_cost ms o (fA ms 4 y.toNatClampNeg)) (hcn : ¬ o = 16 → fx_Op_costFor o (fA st 4 a.toNatClampNeg) = fm_Mod_cost ms o (fA ms 4 a.toNatClampNeg)) (h21 : ¬ o = 21) (h22 : ¬ o = 22) (hO : OpTy o (fA st 4 a.toNatClampNeg) (fA st 4 b.toNatClampNeg) (fA st 4 c.toNatClampNeg) b wt) (ha : vp_in a N) (hb : nI 1 < fx_Op_namedTerms o → vp_in b N) (hc : nI 2 < fx_Op_namedTerms o → vp_in c N) : (fx_Terms_add st o a b c).1 = (fm_Mod_simple_L59 ms o a y z (0 + 1) b c N).1 ∧ ∃ N2 : Nat, Rel (fx_Terms_add st o a b c).2 (fm_Mod_simple_L59 ms o a y z (0 + 1) b c N).2 V N2 E Bt := by
  have h64 := h.n64
  have hN : gI st 6 = nI N := h.1.2.2.2.2.1
  have n0 : gI ms 0 = nI N := h.2.1.1
  have c0 : gI ms 1 = gI st 7 := h.2.1.2.1
  have cN : gI ms 0 ≤ nI N := by rw [n0]; exact nI_le (Nat.le_refl _) (by omega)
  rw [fx_Terms_add, fm_Mod_simple_L59, hs2, if_pos cN, hwx, hwm]
  by_cases o16 : o = 16
  · rw [if_pos o16, if_pos o16, hc16 o16]
    rcases full64 hN n0 h64 with ⟨q, a1, z1⟩ | ⟨q, a1, z1⟩
    · rw [if_pos a1, if_neg z1]
      by_cases k : gI st 7 + fm_Mod_cost ms o (fA ms 4 y.toNatClampNeg) ≤ 400
      · rw [if_pos k, if_pos (show gI ms 1 + fm_Mod_cost ms o (fA ms 4 y.toNatClampNeg) ≤ 400 by rw [c0]; exact k)]
        obtain ⟨r1, r2⟩ := addC (q := fm_Mod_cost ms o (fA ms 4 y.toNatClampNeg)) h q h21 h22 hO ha hb hc
        exact ⟨r1, N + 1, r2⟩
      · rw [if_neg k, if_neg (show ¬ gI ms 1 + fm_Mod_cost ms o (fA ms 4 y.toNatClampNeg) ≤ 400 by rw [c0]; exact k)]
        exact ⟨rfl, N, h⟩
    · rw [if_neg a1, if_pos z1]; exact ⟨rfl, N, h⟩
  · rw [if_neg o16, if_neg o16, hcn o16]
    rcases full64 hN n0 h64 with ⟨q, a1, z1⟩ | ⟨q, a1, z1⟩
    · rw [if_pos a1, if_neg z1]
      by_cases k : gI st 7 + fm_Mod_cost ms o (fA ms 4 a.toNatClampNeg) ≤ 400
      · rw [if_pos k, if_pos (show gI ms 1 + fm_Mod_cost ms o (fA ms 4 a.toNatClampNeg) ≤ 400 by rw [c0]; exact k)]
        obtain ⟨r1, r2⟩ := addC (q := fm_Mod_cost ms o (fA ms 4 a.toNatClampNeg)) h q h21 h22 hO ha hb hc
        exact ⟨r1, N + 1, r2⟩
      · rw [if_neg k, if_neg (show ¬ gI ms 1 + fm_Mod_cost ms o (fA ms 4 a.toNatClampNeg) ≤ 400 by rw [c0]; exact k)]
        exact ⟨rfl, N, h⟩
    · rw [if_neg a1, if_pos z1]; exact ⟨rfl, N, h⟩
theorem findL {st ms : XS} {V N E Bt : Nat} {o x b c y z : Int32} (h : Rel st ms V N E Bt) (h21 : ¬ o = 21) (h22 : ¬ o = 22) (hs2 : (fm_Mod_shorter ms o x y z).2 = ms) : ∀ n i : Nat, i ≤ N → N - i < n → (∃ j : Nat, j < N ∧ fx_Terms_find_L3 st o x b c n i = nI j ∧ fm_Mod_simple_L59 ms o x y z n b c i = (nI j, ms)) ∨ (fx_Terms_find_L3 st o x b c n i = -3 ∧ fm_Mod_simple_L59 ms o x y z n b c i = fm_Mod_simple_L59 ms o x y z (0 + 1) b c N) := by
  have h64 := h.n64
  have hN : gI st 6 = nI N := h.1.2.2.2.2.1
  have n0 : gI ms 0 = nI N := h.2.1.1
  have cN : gI ms 0 ≤ nI N := by rw [n0]; exact nI_le (Nat.le_refl _) (by omega)
  have cX : gI st 6 ≤ nI N := by rw [hN]; exact nI_le (Nat.le_refl _) (by omega)
  intro n
  induction n with
  | zero => intro i _ h; exact absurd h (Nat.not_lt_zero _)
  | succ n ih =>
    intro i hi hm
    by_cases e : i = N
    · refine Or.inr ⟨?_, ?_⟩
      · rw [e, fx_Terms_find_L3, if_pos cX]
      · rw [e, fm_Mod_simple_L59, hs2, if_pos cN, fm_Mod_simple_L59, hs2, if_pos cN]
    · have hlt : i < N := by omega
      have d1 : ¬ gI st 6 ≤ nI i := by rw [hN]; exact nI_ge hlt (by omega)
      have d2 : ¬ gI ms 0 ≤ nI i := by rw [n0]; exact nI_ge hlt (by omega)
      obtain ⟨s0, s4, s21, s1, s23⟩ := h.sr i hlt
      have E1 : fx_Terms_find_L3 st o x b c (n + 1) i = if fA st 3 i = o then (if fA st 5 (3 * i) = x then (if fA st 5 (3 * i + 1) = b then (if fA st 5 (3 * i + 2) = c then nI i else fx_Terms_find_L3 st o x b c n (i + 1)) else fx_Terms_find_L3 st o x b c n (i + 1)) else fx_Terms_find_L3 st o x b c n (i + 1)) else fx_Terms_find_L3 st o x b c n (i + 1) := by
        rw [fx_Terms_find_L3, if_neg d1, nI_clamp (by omega), wl_op0 (by omega), wl_op1 (by omega), wl_op2 (by omega)]
      have E2 : fm_Mod_simple_L59 ms o x y z (n + 1) b c i = if fA st 3 i = o then (if fA ms 1 i = x then (if fA ms 2 i = b then (if fA ms 3 i = c then (nI i, ms) else fm_Mod_simple_L59 ms o x y z n b c (i + 1)) else fm_Mod_simple_L59 ms o x y z n b c (i + 1)) else fm_Mod_simple_L59 ms o x y z n b c (i + 1)) else fm_Mod_simple_L59 ms o x y z n b c (i + 1) := by
        rw [fm_Mod_simple_L59, hs2, if_neg d2, nI_clamp (by omega), s0]
      rw [E1, E2]
      have nx := ih (i + 1) (by omega) (by omega)
      by_cases k : fA st 3 i = o
      · rw [if_pos k, if_pos k, s1 (by rw [k]; exact h21), (s23 (by rw [k]; exact h21) (by rw [k]; exact h22)).1, (s23 (by rw [k]; exact h21) (by rw [k]; exact h22)).2]
        by_cases k0 : fA st 5 (3 * i) = x
        · rw [if_pos k0, if_pos k0]
          by_cases k1 : fA st 5 (3 * i + 1) = b
          · rw [if_pos k1, if_pos k1]
            by_cases k2 : fA st 5 (3 * i + 2) = c
            · rw [if_pos k2, if_pos k2]
              exact Or.inl ⟨i, hlt, rfl, rfl⟩
            · rw [if_neg k2, if_neg k2]; exact nx
          · rw [if_neg k1, if_neg k1]; exact nx
        · rw [if_neg k0, if_neg k0]; exact nx
      · rw [if_neg k, if_neg k]; exact nx
theorem mip1 {st : XS} {o a b c : Int32} (h : ¬ (fx_Maker_ofSameOperands st o a b c).1 = -3) : fx_Maker_makeInPlace st o a b c = ((fx_Maker_ofSameOperands st o a b c).1, (fx_Maker_ofSameOperands st o a b c).2) := by
  rw [fx_Maker_makeInPlace, if_neg h]
theorem mip2 {st : XS} {o a b c : Int32} (h1 : (fx_Maker_ofSameOperands st o a b c).1 = -3) (h2 : (fx_Maker_ofSameOperands st o a b c).2 = st) (hz : ¬ fx_Maker_ofZero st o a b = -3) : fx_Maker_makeInPlace st o a b c = (fx_Maker_ofZero st o a b, st) := by
  rw [fx_Maker_makeInPlace, if_pos h1, h2, if_neg hz]
theorem mip3 {st : XS} {o a b c : Int32} (h1 : (fx_Maker_ofSameOperands st o a b c).1 = -3) (h2 : (fx_Maker_ofSameOperands st o a b c).2 = st) (hz : fx_Maker_ofZero st o a b = -3) (hu : ¬ fx_Maker_ofUndoing st o a = -3) : fx_Maker_makeInPlace st o a b c = (fx_Maker_ofUndoing st o a, st) := by
  rw [fx_Maker_makeInPlace, if_pos h1, h2, if_pos hz, if_neg hu]
theorem mip4 {st : XS} {o a b c : Int32} (h1 : (fx_Maker_ofSameOperands st o a b c).1 = -3) (h2 : (fx_Maker_ofSameOperands st o a b c).2 = st) (hz : fx_Maker_ofZero st o a b = -3) (hu : fx_Maker_ofUndoing st o a = -3) : fx_Maker_makeInPlace st o a b c = if fx_Terms_find st o a b c = -3 then ((fx_Terms_add st o a b c).1, (fx_Terms_add st o a b c).2) else (fx_Terms_find st o a b c, st) := by
  rw [fx_Maker_makeInPlace, if_pos h1, h2, if_pos hz, if_pos hu]
def Sh (st ms : XS) (V E Bt : Nat) (o a b c y z : Int32) : Prop :=
  ((fm_Mod_shorter ms o a y z).1 = -9 ∧ (fm_Mod_shorter ms o a y z).2 = ms ∧ (fx_Maker_ofSameOperands st o a b c).1 = -3 ∧ (fx_Maker_ofSameOperands st o a b c).2 = st ∧ fx_Maker_ofZero st o a b = -3 ∧ fx_Maker_ofUndoing st o a = -3) ∨
  (¬ (fm_Mod_shorter ms o a y z).1 = -9 ∧ (fx_Maker_makeInPlace st o a b c).1 = (fm_Mod_shorter ms o a y z).1 ∧ ∃ N2 : Nat, Rel (fx_Maker_makeInPlace st o a b c).2 (fm_Mod_shorter ms o a y z).2 V N2 E Bt)
theorem simpN {st ms : XS} {V N E Bt : Nat} {o a b c wt y z : Int32} (h : Rel st ms V N E Bt) (hS : Sh st ms V E Bt o a b c y z) (hsi : fm_Mod_simple ms o a y z = if (fm_Mod_shorter ms o a y z).1 = -9 then fm_Mod_simple_L59 ms o a y z 65 b c 0 else ((fm_Mod_shorter ms o a y z).1, (fm_Mod_shorter ms o a y z).2)) (hwx : fx_Terms_widthOfResult st o a b = wt) (hwm : fm_Mod_widthOf ms o a y = wt) (hc16 : o = 16 → fx_Op_costFor o (fA st 4 b.toNatClampNeg) = fm_Mod_cost ms o (fA ms 4 y.toNatClampNeg)) (hcn : ¬ o = 16 → fx_Op_costFor o (fA st 4 a.toNatClampNeg) = fm_Mod_cost ms o (fA ms 4 a.toNatClampNeg)) (h21 : ¬ o = 21) (h22 : ¬ o = 22) (hO : OpTy o (fA st 4 a.toNatClampNeg) (fA st 4 b.toNatClampNeg) (fA st 4 c.toNatClampNeg) b wt) (ha : vp_in a N) (hb : nI 1 < fx_Op_namedTerms o → vp_in b N) (hc : nI 2 < fx_Op_namedTerms o → vp_in c N) : (fx_Maker_makeInPlace st o a b c).1 = (fm_Mod_simple ms o a y z).1 ∧ ∃ N2 : Nat, Rel (fx_Maker_makeInPlace st o a b c).2 (fm_Mod_simple ms o a y z).2 V N2 E Bt := by
  have h64 := h.n64
  rw [hsi]
  rcases hS with ⟨s1, s2, s3, s4, s5, s6⟩ | ⟨s1, s2, s3⟩
  · rw [if_pos s1, mip4 s3 s4 s5 s6, fx_Terms_find]
    rcases findL (b := b) (c := c) h h21 h22 s2 65 0 (Nat.zero_le _) (by omega) with ⟨j, hj, f1, f2⟩ | ⟨f1, f2⟩
    · rw [f1, f2, if_neg (nI_m3 (by omega))]; exact ⟨rfl, N, h⟩
    · rw [f1, f2, if_pos rfl]
      exact tailN h s2 hwx hwm hc16 hcn h21 h22 hO ha hb hc
  · rw [if_neg s1]; exact ⟨s2, s3⟩
theorem constN {st ms : XS} {V N E Bt i : Nat} (h : Rel st ms V N E Bt) (hi : i < N) : fm_Mod_isConst ms (nI i) = fx_Terms_isConstant st (nI i) := by
  have h64 := h.n64
  rw [fm_Mod_isConst, fx_Terms_isConstant, nI_clamp (by omega), (h.sr i hi).1]
theorem zeroN {st ms : XS} {V N E Bt i : Nat} (h : Rel st ms V N E Bt) (hi : i < N) : fm_Mod_isZero ms (nI i) = fx_Terms_isZero st (nI i) := by
  have h64 := h.n64
  obtain ⟨s0, s4, s21, s1, s23⟩ := h.sr i hi
  rw [fm_Mod_isZero, fx_Terms_isZero, fx_Terms_isConstant, nI_clamp (by omega), s0]
  by_cases c : fA st 3 i = 21
  · have hT := h.xt.1 i hi
    obtain ⟨k, h1, h2, ek⟩ := hT.1.k
    have hn := hT.o21 c
    rw [if_pos c, if_pos c, if_neg i10, s21 c]
    rw [ek] at hn ⊢
    by_cases z : fL st 1 i = 0
    · rw [if_pos ((lg_cmp_eq _ _).mpr ((rp_eq0 h1 h2 hn).mpr z)), if_pos ((lg_cmp_eq _ _).mpr z)]
    · rw [if_neg (fun q => z ((rp_eq0 h1 h2 hn).mp ((lg_cmp_eq _ _).mp q))), if_neg (fun q => z ((lg_cmp_eq _ _).mp q))]
  · rw [if_neg c, if_neg c, if_pos rfl]
theorem zeroIs {st : XS} {i : Nat} (h64 : i < 64) (h : ¬ fx_Terms_isZero st (nI i) = 0) : fA st 3 i = 21 ∧ fL st 1 i = 0 := by
  rw [fx_Terms_isZero, fx_Terms_isConstant, nI_clamp (by omega)] at h
  by_cases c : fA st 3 i = 21
  · rw [if_pos c, if_neg i10] at h
    by_cases z : lg_cmp (fL st 1 i) 0 = 0
    · exact ⟨c, (lg_cmp_eq _ _).mp z⟩
    · rw [if_neg z] at h; exact absurd rfl h
  · rw [if_neg c, if_pos rfl] at h; exact absurd rfl h
theorem cofL {st ms : XS} {V N E Bt j : Nat} {w : Int32} (h : Rel st ms V N E Bt) (hj : j < N) (h21 : fA st 3 j = 21) (hz : fL st 1 j = 0) (hw : fA st 4 j = w) : ∀ n i : Nat, i ≤ j → j - i < n → fm_Mod_constantOf_L3 ms w 0 n i = (nI j, ms) := by
  have h64 := h.n64
  have n0 : gI ms 0 = nI N := h.2.1.1
  have cu : CU st N := h.2.2.2.2.2.2.2.2.2.2.2
  have iw : isW w := by rw [← hw]; exact (h.xt.1 j hj).1
  intro n
  induction n with
  | zero => intro i _ h; exact absurd h (Nat.not_lt_zero _)
  | succ n ih =>
    intro i hi hm
    have hlt : i < N := by omega
    obtain ⟨s0, s4, s21, s1, s23⟩ := h.sr i hlt
    rw [fm_Mod_constantOf_L3, if_neg (show ¬ gI ms 0 ≤ nI i by rw [n0]; exact nI_ge hlt (by omega)), nI_clamp (by omega), s0, s4, cut_rp iw]
    by_cases e : i = j
    · rw [e] at s21 ⊢
      rw [if_pos h21, if_pos hw, s21 h21, hw, hz, if_pos ((lg_cmp_eq _ _).mpr rfl)]
    · have nx := ih (i + 1) (by omega) (by omega)
      by_cases k : fA st 3 i = 21
      · rw [if_pos k]
        by_cases kw : fA st 4 i = w
        · rw [if_pos kw, s21 k, kw]
          have hn : nrm w (fL st 1 i) := by rw [← kw]; exact (h.xt.1 i hlt).o21 k
          by_cases kz : lg_cmp (rp w (fL st 1 i)) (rp w 0) = 0
          · have z := (rpi iw hn (nrm_0 iw)).mp ((lg_cmp_eq _ _).mp kz)
            exact absurd (cu i j hlt hj k h21 (kw.trans hw.symm) (z.trans hz.symm)) e
          · rw [if_neg kz]; exact nx
        · rw [if_neg kw]; exact nx
      · rw [if_neg k]; exact nx
theorem cofZ {st ms : XS} {V N E Bt j : Nat} {w : Int32} (h : Rel st ms V N E Bt) (hj : j < N) (hz : ¬ fx_Terms_isZero st (nI j) = 0) (hw : fA st 4 j = w) : fm_Mod_constantOf ms w 0 = (nI j, ms) := by
  have h64 := h.n64
  obtain ⟨z1, z2⟩ := zeroIs (by omega) hz
  rw [fm_Mod_constantOf]
  exact cofL h hj z1 z2 hw 65 0 (Nat.zero_le _) (by omega)
