theorem vin_lt {x : Int32} {t : Nat} (h : vp_in x t) (ht : t < 2147483648) : x.toNatClampNeg < t := by
  obtain ⟨j, hj, e⟩ := vp_in_of h ht
  rw [e, nI_clamp (by omega)]; exact hj
def Ext (st S : XS) (N : Nat) : Prop := ∀ t : Nat, t < N → fA S 3 t = fA st 3 t ∧ fA S 4 t = fA st 4 t ∧ (∀ j : Nat, j < 3 → fA S 5 (3 * t + j) = fA st 5 (3 * t + j)) ∧ fL S 1 t = fL st 1 t
theorem XTt.ext {st S : XS} {V V2 N t : Nat} (h : XTt st V t) (hE : Ext st S N) (ht : t < N) (h64 : N ≤ 64) (hV : V ≤ V2) : XTt S V2 t := by
  obtain ⟨e3, e4, e5, e1⟩ := hE t ht
  have a0 : fA S 5 (3 * t) = fA st 5 (3 * t) := e5 0 (by decide)
  have a1 : fA S 5 (3 * t + 1) = fA st 5 (3 * t + 1) := e5 1 (by decide)
  have a2 : fA S 5 (3 * t + 2) = fA st 5 (3 * t + 2) := e5 2 (by decide)
  have oa : oA S t = oA st t := by unfold oA; rw [a0]
  have ob : oB S t = oB st t := by unfold oB; rw [a1]
  have oc : oC S t = oC st t := by unfold oC; rw [a2]
  have wa : vp_in (fA st 5 (3 * t)) t → fA S 4 (oA st t) = fA st 4 (oA st t) := fun q => (hE _ (Nat.lt_trans (vin_lt q (by omega)) ht)).2.1
  have wb : vp_in (fA st 5 (3 * t + 1)) t → fA S 4 (oB st t) = fA st 4 (oB st t) := fun q => (hE _ (Nat.lt_trans (vin_lt q (by omega)) ht)).2.1
  have wc : vp_in (fA st 5 (3 * t + 2)) t → fA S 4 (oC st t) = fA st 4 (oC st t) := fun q => (hE _ (Nat.lt_trans (vin_lt q (by omega)) ht)).2.1
  obtain ⟨hw, h⟩ := h
  unfold XTt
  rw [e3, e4, e1, a0, a1, a2, oa, ob, oc]
  refine ⟨hw, ?_⟩
  rcases h with h | ⟨ho, h8, hv⟩ | ⟨ho, ha, h1⟩ | ⟨ho, ha, hb, h1, h2⟩ | ⟨ho, ha, hb, h1, h2, h3⟩ | ⟨ho, ha, hb, h1, h2⟩ | ⟨ho, ha, hb, hc, h1, h2, h3⟩ | ⟨ho, ha, eb, h1⟩ | ⟨ho, ha, eb, h1⟩ | ⟨ho, ha, hb, h1, h2⟩
  · exact Or.inl h
  · exact Or.inr (Or.inl ⟨ho, h8, vp_up hv hV⟩)
  · exact Or.inr (Or.inr (Or.inl ⟨ho, ha, (wa ha).trans h1⟩))
  · exact Or.inr (Or.inr (Or.inr (Or.inl ⟨ho, ha, hb, (wa ha).trans h1, (wb hb).trans h2⟩)))
  · exact Or.inr (Or.inr (Or.inr (Or.inr (Or.inl ⟨ho, ha, hb, (wa ha).trans h1, (wb hb).trans h2, h3⟩))))
  · exact Or.inr (Or.inr (Or.inr (Or.inr (Or.inr (Or.inl ⟨ho, ha, hb, by rw [wa ha, wb hb]; exact h1, h2⟩)))))
  · exact Or.inr (Or.inr (Or.inr (Or.inr (Or.inr (Or.inr (Or.inl ⟨ho, ha, hb, hc, (wa ha).trans h1, (wb hb).trans h2, (wc hc).trans h3⟩))))))
  · exact Or.inr (Or.inr (Or.inr (Or.inr (Or.inr (Or.inr (Or.inr (Or.inl ⟨ho, ha, eb, by rw [wa ha]; exact h1⟩)))))))
  · exact Or.inr (Or.inr (Or.inr (Or.inr (Or.inr (Or.inr (Or.inr (Or.inr (Or.inl ⟨ho, ha, eb, by rw [wa ha]; exact h1⟩))))))))
  · exact Or.inr (Or.inr (Or.inr (Or.inr (Or.inr (Or.inr (Or.inr (Or.inr (Or.inr ⟨ho, ha, hb, (wa ha).trans h1, h2⟩))))))))
theorem xval_ext {st S : XS} {V V2 N : Nat} {n : Int32} (h64 : N ≤ 64) (hV4 : V ≤ 4) (hX : XT st V N) (hXS : XT S V2 N) (hE : Ext st S N) (hv : ∀ v : Nat, v < V → fA S 0 v = fA st 0 v ∧ fA S 1 v = fA st 1 v ∧ fA S 2 v = fA st 2 v) (l0 : fL S 0 = fL st 0) : ∀ t : Nat, t < N → xval S n t = xval st n t := by
  intro t
  induction t using Nat.strongRecOn with
  | ind t ih =>
    intro ht
    obtain ⟨e3, e4, e5, e1⟩ := hE t ht
    have a0 : fA S 5 (3 * t) = fA st 5 (3 * t) := e5 0 (by decide)
    have a1 : fA S 5 (3 * t + 1) = fA st 5 (3 * t + 1) := e5 1 (by decide)
    have a2 : fA S 5 (3 * t + 2) = fA st 5 (3 * t + 2) := e5 2 (by decide)
    have hT := hX.1 t ht
    have lt := hT.lt (by omega)
    have ops : ∀ j : Nat, j < 3 → nI j < fx_Op_namedTerms (fA st 3 t) → xval S n (fA st 5 (3 * t + j)).toNatClampNeg = xval st n (fA st 5 (3 * t + j)).toNatClampNeg := by
      intro j hj q
      have l := lt j hj q
      exact ih _ l (by omega)
    rw [xval_eq hXS h64 ht, xval_eq hX h64 ht]
    have c1 : xstep S n (xval S n) t = xstep S n (xval st n) t := xstep_congr (hXS.1 t ht) (fun j hj q => by rw [e5 j hj]; rw [e3] at q; exact ops j hj q)
    rw [c1]
    unfold xstep oA oB oC
    rw [e3, a0, a1, a2, e1, l0]
    by_cases h21 : fA st 3 t = 21
    · rw [if_pos h21, if_pos h21]
    · rw [if_neg h21, if_neg h21]
      by_cases h22 : fA st 3 t = 22
      · rw [if_pos h22, if_pos h22]
        obtain ⟨v, hvV, ev⟩ := vp_in_of (hT.o22 h22).2 (by omega)
        obtain ⟨b0, b1, b2⟩ := hv v hvV
        rw [ev, fx_Vars_readAt, fx_Vars_readAt, fx_Vars_bitsAt, fx_Vars_bitsAt, nI_clamp (by omega), b0, b1, b2]
      · rw [if_neg h22, if_neg h22]
        have l : (fA st 5 (3 * t)).toNatClampNeg < t := lt 0 (by decide) (nt_0 hT h21 h22)
        rw [(hE _ (Nat.lt_trans l ht)).2.1]
theorem Rel.add {st ms S T : XS} {V N E Bt : Nat} (h : Rel st ms V N E Bt) (hN1 : N < 64) (f : XF [6, 7] [3, 4, 5, 6] [1] st S) (g : XF [0, 1] [0, 1, 2, 3, 4] [0, 1] ms T) (hE : Ext st S N) (r6 : ∀ t : Nat, t < N → fA S 6 t = fA st 6 t) (hG : ∀ t : Nat, t < N → fA T 0 t = fA ms 0 t ∧ fA T 1 t = fA ms 1 t ∧ fA T 2 t = fA ms 2 t ∧ fA T 3 t = fA ms 3 t ∧ fA T 4 t = fA ms 4 t ∧ fL T 0 t = fL ms 0 t) (s6 : gI S 6 = nI (N + 1)) (t0 : gI T 0 = nI (N + 1)) (cc : gI T 1 = gI S 7) (xt : XTt S V N) (srN : SRt S T N) (trN : TRt S N) (cuN : fA S 3 N = 21 → ∀ i : Nat, i < N → fA S 3 i = 21 → fA S 4 i = fA S 4 N → ¬ fL S 1 i = fL S 1 N) : Rel S T V (N + 1) E Bt := by
  obtain ⟨⟨hV, hV4, hBt, hBt10, hN, h64, hEl, hE16, hX, hM0, hcN, mv⟩, ⟨n0, c0, v0, e0, y0, o0⟩, sr, tb, vb, kz, rz, pa, mo, ro, tr, cu⟩ := h
  have hXN : XT S V N := ⟨fun t ht => (hX.1 t ht).ext hE ht h64 (Nat.le_refl _), by rw [f.L 0 (by decide)]; exact hX.2.1, fun v hv => by
    have q := hX.2.2 v hv
    unfold XVv at *
    rw [f.A 0 (by decide), f.A 1 (by decide)]
    exact q⟩
  have hXS : XT S V (N + 1) := ⟨fun t ht => by
    by_cases e : t = N
    · rw [e]; exact xt
    · exact hXN.1 t (by omega), hXN.2⟩
  refine ⟨⟨(f.I 4 (by decide)).trans hV, hV4, (f.I 5 (by decide)).trans hBt, hBt10, s6, hN1, (f.I 9 (by decide)).trans hEl, hE16, hXS, ?_, ?_, ?_⟩, ⟨t0, cc, (g.I 2 (by decide)).trans v0, (g.I 3 (by decide)).trans e0, ?_, ?_⟩, ?_, ?_, vb.fr f (by decide) g (by decide), ?_, ?_, ?_, mo.fr f (by decide) (by decide) g (by decide) (by decide), ?_, ?_, ?_⟩
  · intro t ht
    rw [f.L 2 (by decide)]
    by_cases e : t = N
    · rw [e, rz N (Nat.le_refl _) hN1]; exact nrm_0 xt.1
    · rw [(hE t (by omega)).2.1]; exact hM0 t (by omega)
  · intro i hi
    rw [f.A 10 (by decide)]
    exact vp_up (hcN i hi) (Nat.le_succ _)
  · rw [f.I 1 (by decide)]; exact mv
  · rw [g.I 4 (by decide), f.I 2 (by decide)]; exact y0
  · rw [g.I 5 (by decide), f.I 3 (by decide)]; exact o0
  · intro t ht
    by_cases e : t = N
    · rw [e]; exact srN
    · obtain ⟨e3, e4, e5, e1⟩ := hE t (by omega)
      obtain ⟨g0, g1, g2, g3, g4, gl⟩ := hG t (by omega)
      have q := sr t (by omega)
      unfold SRt at *
      have a0 : fA S 5 (3 * t) = fA st 5 (3 * t) := e5 0 (by decide)
      rw [e3, e4, e1, a0, e5 1 (by decide), e5 2 (by decide), g0, g1, g2, g3, g4, gl]
      exact q
  · rw [f.L 0 (by decide), g.A 10 (by decide)]; exact tb
  · intro t ht h2
    rw [f.A 8 (by decide)]; exact kz t (by omega) h2
  · intro t ht h2
    rw [f.L 2 (by decide)]; exact rz t (by omega) h2
  · intro i hi
    obtain ⟨p1, p2⟩ := pa i hi
    have ec : cnd S i = cnd st i := by unfold cnd; rw [f.A 10 (by decide)]
    rw [g.A 11 (by decide), f.A 10 (by decide), ec]
    exact ⟨p1, ((hE _ (cndN h64 (hcN i hi))).2.1).trans p2⟩
  · intro t m ht hm hk
    rw [f.A 8 (by decide)] at hk
    by_cases e : t = N
    · rw [e] at hk; exact absurd (kz N (Nat.le_refl _) hN1) hk
    · rw [xval_ext h64 hV4 hX hXN hE (fun v hv => by rw [f.A 0 (by decide), f.A 1 (by decide), f.A 2 (by decide)]; exact ⟨rfl, rfl, rfl⟩) (f.L 0 (by decide)) t (by omega), ← ro t m (by omega) hm hk]
      unfold rbit
      rw [f.L 3 (by decide)]
  · intro t ht
    by_cases e : t = N
    · rw [e]; exact trN
    · have htN : t < N := by omega
      obtain ⟨e3, e4, e5, e1⟩ := hE t htN
      have q := tr t htN
      have lt := (hX.1 t htN).lt (by omega)
      have rt : ∀ b : Nat, rdb S t b = rdb st t b := fun b => by unfold rdb; rw [r6 t htN]
      refine ⟨fun b hb o1 o2 => ?_, fun j b hj hb o1 o2 => ?_⟩
      · rw [rt]
        rw [e3] at o1
        rw [e5 1 (by decide)] at o2
        exact q.1 b hb o1 o2
      · rw [rt]
        rw [e3] at o1
        rw [e5 j hj] at o2
        have l := lt j hj o1
        have rj : rdb S (fA st 5 (3 * t + j)).toNatClampNeg b = rdb st (fA st 5 (3 * t + j)).toNatClampNeg b := by unfold rdb; rw [r6 _ (Nat.lt_trans l htN)]
        rw [rj] at o2
        exact q.2 j b hj hb o1 o2
  · intro i j hi hj h1 h2 h3 h4
    by_cases ei : i = N
    · by_cases ej : j = N
      · omega
      · rw [ei] at h1 h3 h4
        exact absurd h4.symm (cuN h1 j (by omega) h2 h3.symm)
    · by_cases ej : j = N
      · rw [ej] at h2 h3 h4
        exact absurd h4 (cuN h2 i (by omega) h1 h3)
      · obtain ⟨e3, e4, e5, e1⟩ := hE i (by omega)
        obtain ⟨d3, d4, d5, d1⟩ := hE j (by omega)
        rw [e3] at h1
        rw [d3] at h2
        rw [e4, d4] at h3
        rw [e1, d1] at h4
        exact cu i j (by omega) (by omega) h1 h2 h3 h4
theorem apN {st : XS} {N : Nat} {o w : Int32} (hN : gI st 6 = nI N) (h64 : N < 64) : (fx_Terms_addPlain st o w).1 = nI N ∧ gI (fx_Terms_addPlain st o w).2 6 = nI (N + 1) ∧ (∀ t : Nat, fA (fx_Terms_addPlain st o w).2 3 t = upd (fA st 3) N o t) ∧ ∀ t : Nat, fA (fx_Terms_addPlain st o w).2 4 t = upd (fA st 4) N w t := by
  rw [fx_Terms_addPlain, hN, nI_clamp (by omega), nI_1]
  exact ⟨rfl, rfl, fun t => rfl, fun t => rfl⟩
theorem frN {ms : XS} {N : Nat} {o x y z w : Int32} (hN : gI ms 0 = nI N) (h64 : N < 64) : (fm_Mod_fresh ms o x y z w).1 = nI N ∧ gI (fm_Mod_fresh ms o x y z w).2 0 = nI (N + 1) ∧ (∀ t : Nat, fA (fm_Mod_fresh ms o x y z w).2 0 t = upd (fA ms 0) N o t) ∧ (∀ t : Nat, fA (fm_Mod_fresh ms o x y z w).2 1 t = upd (fA ms 1) N x t) ∧ (∀ t : Nat, fA (fm_Mod_fresh ms o x y z w).2 2 t = upd (fA ms 2) N y t) ∧ (∀ t : Nat, fA (fm_Mod_fresh ms o x y z w).2 3 t = upd (fA ms 3) N z t) ∧ ∀ t : Nat, fA (fm_Mod_fresh ms o x y z w).2 4 t = upd (fA ms 4) N w t := by
  rw [fm_Mod_fresh, hN, nI_clamp (by omega), nI_1]
  exact ⟨nI_pred N, rfl, fun t => rfl, fun t => rfl, fun t => rfl, fun t => rfl, fun t => rfl⟩
theorem full64 {st ms : XS} {N : Nat} (hN : gI st 6 = nI N) (n0 : gI ms 0 = nI N) (h64 : N ≤ 64) : (N < 64 ∧ fx_Terms_isFull st = 0 ∧ ¬ gI ms 0 = 64) ∨ (N = 64 ∧ ¬ fx_Terms_isFull st = 0 ∧ gI ms 0 = 64) := by
  rcases Nat.lt_or_ge N 64 with q | q
  · refine Or.inl ⟨q, by rw [fx_Terms_isFull, hN, if_pos (show nI N < (64 : Int32) from nI_lt (b := 64) q (by decide))], ?_⟩
    rw [n0]
    intro z
    have := (nI_eq (a := N) (b := 64) (by omega) (by decide)).mp z
    omega
  · have e : N = 64 := by omega
    refine Or.inr ⟨e, ?_, by rw [n0, e]; rfl⟩
    rw [fx_Terms_isFull, hN, e]; decide
theorem rpi {w : Int32} (hw : isW w) {x y : Int64} (hx : nrm w x) (hy : nrm w y) : rp w x = rp w y ↔ x = y := by
  obtain ⟨k, h1, h2, e⟩ := hw.k
  rw [e] at hx hy ⊢
  exact rp_inj h1 h2 hx hy
theorem rprs {w : Int32} (hw : isW w) (x : Int64) : rp w (rs w x) = rp w x := by
  obtain ⟨k, h1, h2, e⟩ := hw.k
  rw [e]; exact rp_rs h1 h2 x
theorem rprp {w : Int32} (hw : isW w) (x : Int64) : rp w (rp w x) = rp w x := by
  obtain ⟨k, h1, h2, e⟩ := hw.k
  rw [e]; exact rp_rp h1 h2 x
theorem nt21 : ∀ j, j < 3 → ¬ nI j < fx_Op_namedTerms 21 := by decide
theorem nt22 : ∀ j, j < 3 → ¬ nI j < fx_Op_namedTerms 22 := by decide
theorem focL {st ms : XS} {V N E Bt : Nat} {w : Int32} {x x2 : Int64} (h : Rel st ms V N E Bt) (hw : isW w) (hx : rp w x = rp w x2) : ∀ n i : Nat, i ≤ N → N - i < n → (∀ j : Nat, j < i → ¬ (fA st 3 j = 21 ∧ fA st 4 j = w ∧ fL st 1 j = rs w x)) → (fx_Terms_findOrAddConstant_L10 st w x n i).1 = (fm_Mod_constantOf_L3 ms w x2 n i).1 ∧ (∃ N2 : Nat, Rel (fx_Terms_findOrAddConstant_L10 st w x n i).2 (fm_Mod_constantOf_L3 ms w x2 n i).2 V N2 E Bt) ∧ ((fx_Terms_findOrAddConstant_L10 st w x n i).1 = -2 ∨ ∃ j : Nat, j ≤ N ∧ j < 64 ∧ (fx_Terms_findOrAddConstant_L10 st w x n i).1 = nI j ∧ (j < N → fA st 3 j = 21 ∧ fA st 4 j = w ∧ fL st 1 j = rs w x)) := by
  have hr := h
  obtain ⟨⟨hV, hV4, hBt, hBt10, hN, h64, hEl, hE16, hX, hM0, hcN, mv⟩, ⟨n0, c0, v0, e0, y0, o0⟩, sr, tb, vb, kz, rz, pa, mo, ro, tr, cu⟩ := h
  intro n
  induction n with
  | zero => intro i _ h; exact absurd h (Nat.not_lt_zero _)
  | succ n ih =>
    intro i hi hm hK
    rw [fx_Terms_findOrAddConstant_L10, fm_Mod_constantOf_L3, hN]
    by_cases c : nI N ≤ nI i
    · rw [if_pos c, if_pos (show gI ms 0 ≤ nI i by rw [n0]; exact c)]
      have hge : N ≤ i := wl_ge c (by omega)
      have ei : i = N := by omega
      rcases full64 hN n0 h64 with ⟨q, a, b⟩ | ⟨q, a, b⟩
      · rw [if_pos a, if_neg b]
        obtain ⟨p1, p2, p3, p4⟩ := apN (o := 21) (w := w) hN q
        have fp := ff_Terms_addPlain st 21 w
        obtain ⟨P, eP⟩ : ∃ z, fx_Terms_addPlain st 21 w = z := ⟨_, rfl⟩
        rw [eP] at p1 p2 p3 p4 fp ⊢
        rw [p1, n0, nI_clamp (by omega), cut_rp hw]
        obtain ⟨M, eM⟩ : ∃ z, wL ms 0 N (rp w x2) = z := ⟨_, rfl⟩
        have fM : XF [0, 1] [0, 1, 2, 3, 4] [0, 1] ms M := by rw [← eM]; exact XF.wL (by decide) XF.rf
        have m0 : gI M 0 = nI N := by rw [← eM]; exact n0
        have ml : ∀ t : Nat, fL M 0 t = vp_updL (fL ms 0) N (rp w x2) t := by intro t; rw [← eM]; rfl
        have ma : ∀ k : Nat, fA M k = fA ms k := by intro k; rw [← eM]; rfl
        rw [eM]
        obtain ⟨q1, q2, q3, q4, q5, q6, q7⟩ := frN (o := 21) (x := 0) (y := 0) (z := 0) (w := w) m0 q
        have gf := ff_Mod_fresh M 21 0 0 0 w
        obtain ⟨G, eG⟩ : ∃ z, fm_Mod_fresh M 21 0 0 0 w = z := ⟨_, rfl⟩
        rw [eG] at q1 q2 q3 q4 q5 q6 q7 gf ⊢
        obtain ⟨S, eS⟩ : ∃ z, wL P.2 1 N (fx_Width_readSigned w x) = z := ⟨_, rfl⟩
        have sl : ∀ t : Nat, fL S 1 t = vp_updL (fL P.2 1) N (rs w x) t := by intro t; rw [← eS]; rfl
        have sa : ∀ k : Nat, fA S k = fA P.2 k := by intro k; rw [← eS]; rfl
        have si : ∀ k : Nat, gI S k = gI P.2 k := by intro k; rw [← eS]; rfl
        have F : XF [6, 7] [3, 4, 5, 6] [1] st S := by rw [← eS]; exact XF.wL (by decide) (fp.mono (by decide) (by decide) (by decide))
        rw [eS]
        have s3 : fA S 3 N = 21 := by rw [sa, p3, pk_us]
        have s4 : fA S 4 N = w := by rw [sa, p4, pk_us]
        have s1 : fL S 1 N = rs w x := by rw [sl, pk_uLs]
        have hE : Ext st S N := fun t ht => ⟨by rw [sa, p3, pk_un (by omega)], by rw [sa, p4, pk_un (by omega)], fun j hj => by rw [sa, fp.A 5 (by decide)], by rw [sl, pk_uLn (by omega), fp.L 1 (by decide)]⟩
        refine ⟨q1.symm, ⟨N + 1, hr.add q F (XF.tr fM (gf.mono (by decide) (by decide) (by decide))) hE (fun t ht => by rw [sa, fp.A 6 (by decide)]) (fun t ht => ?_) (by rw [si]; exact p2) q2 ?_ ?_ ?_ ?_ ?_⟩, Or.inr ⟨N, Nat.le_refl _, q, rfl, fun z => absurd z (Nat.lt_irrefl _)⟩⟩
        · refine ⟨by rw [q3, pk_un (by omega), ma], by rw [q4, pk_un (by omega), ma], by rw [q5, pk_un (by omega), ma], by rw [q6, pk_un (by omega), ma], by rw [q7, pk_un (by omega), ma], by rw [gf.L 0 (by decide), ml, pk_uLn (by omega)]⟩
        · rw [gf.I 1 (by decide), si, fp.I 7 (by decide)]
          rw [← eM]; exact c0
        · exact ⟨by rw [s4]; exact hw, Or.inl ⟨s3, by rw [s4, s1]; exact nrm_rs hw x⟩⟩
        · refine ⟨by rw [q3, pk_us, s3], by rw [q7, pk_us, s4], fun _ => ?_, fun z => absurd s3 z, fun z => absurd s3 z⟩
          rw [gf.L 0 (by decide), ml, pk_uLs, s4, s1, rprs hw, hx]
        · refine ⟨fun b _ z => ?_, fun j b hj _ z => ?_⟩
          · rw [s3] at z; exact absurd z (by decide)
          · rw [s3] at z; exact absurd z (nt21 j hj)
        · intro _ t ht t3 t4 t1
          obtain ⟨e3, e4, e5, e1⟩ := hE t ht
          rw [e3] at t3
          rw [e4, s4] at t4
          rw [e1, s1] at t1
          exact hK t (by omega) ⟨t3, t4, t1⟩
      · rw [if_neg a, if_pos b]
        exact ⟨rfl, ⟨N, hr⟩, Or.inl rfl⟩
    · rw [if_neg c, if_neg (show ¬ gI ms 0 ≤ nI i by rw [n0]; exact c)]
      have hlt : i < N := wl_lt c (by omega)
      obtain ⟨s0, s4, s21, s1, s23⟩ := sr i hlt
      rw [nI_clamp (by omega), s0, s4, fx_Terms_isConstant, nI_clamp (by omega)]
      have next : ¬ (fA st 3 i = 21 ∧ fA st 4 i = w ∧ fL st 1 i = rs w x) → ∀ j : Nat, j < i + 1 → ¬ (fA st 3 j = 21 ∧ fA st 4 j = w ∧ fL st 1 j = rs w x) := by
        intro hq j hj
        by_cases e : j = i
        · rw [e]; exact hq
        · exact hK j (by omega)
      by_cases h21 : fA st 3 i = 21
      · rw [if_pos h21, if_neg i10, if_pos h21]
        by_cases hw4 : fA st 4 i = w
        · rw [if_pos hw4, if_pos hw4, s21 h21, cut_rp hw, hw4]
          have hn : nrm w (fL st 1 i) := by rw [← hw4]; exact (hX.1 i hlt).o21 h21
          have key : rp w (fL st 1 i) = rp w x2 ↔ fL st 1 i = rs w x := by
            rw [← hx, ← rprs hw x]; exact rpi hw hn (nrm_rs hw x)
          by_cases hv : fL st 1 i = rs w x
          · rw [if_pos ((lg_cmp_eq _ _).mpr hv), if_pos ((lg_cmp_eq _ _).mpr (key.mpr hv))]
            exact ⟨rfl, ⟨N, hr⟩, Or.inr ⟨i, by omega, by omega, rfl, fun _ => ⟨h21, hw4, hv⟩⟩⟩
          · rw [if_neg (fun q => hv ((lg_cmp_eq _ _).mp q)), if_neg (fun q => hv (key.mp ((lg_cmp_eq _ _).mp q)))]
            exact ih (i + 1) (by omega) (by omega) (next (fun q => hv q.2.2))
        · rw [if_neg hw4, if_neg hw4]
          exact ih (i + 1) (by omega) (by omega) (next (fun q => hw4 q.2.1))
      · rw [if_neg h21, if_pos rfl, if_neg h21]
        exact ih (i + 1) (by omega) (by omega) (next (fun q => h21 q.1))
theorem focN {st ms : XS} {V N E Bt : Nat} {w : Int32} {x x2 : Int64} (h : Rel st ms V N E Bt) (hw : isW w) (hx : rp w x = rp w x2) : (fx_Terms_findOrAddConstant st w x).1 = (fm_Mod_constantOf ms w x2).1 ∧ (∃ N2 : Nat, Rel (fx_Terms_findOrAddConstant st w x).2 (fm_Mod_constantOf ms w x2).2 V N2 E Bt) ∧ ((fx_Terms_findOrAddConstant st w x).1 = -2 ∨ ∃ j : Nat, j ≤ N ∧ j < 64 ∧ (fx_Terms_findOrAddConstant st w x).1 = nI j ∧ (j < N → fA st 3 j = 21 ∧ fA st 4 j = w ∧ fL st 1 j = rs w x)) := by
  have h64 := h.n64
  rw [fx_Terms_findOrAddConstant, fm_Mod_constantOf]
  exact focL h hw hx 65 0 (Nat.zero_le _) (by omega) (fun j hj => absurd hj (Nat.not_lt_zero _))
theorem isOne {w : Int32} : ¬ fx_Width_isOne w = 0 → isW w := by
  intro h
  rw [fx_Width_isOne] at h
  by_cases c1 : w = 1
  · exact Or.inl c1
  · rw [if_neg c1] at h
    by_cases c2 : w = 8
    · exact Or.inr (Or.inl c2)
    · rw [if_neg c2] at h
      by_cases c3 : w = 16
      · exact Or.inr (Or.inr (Or.inl c3))
      · rw [if_neg c3] at h
        by_cases c4 : w = 32
        · exact Or.inr (Or.inr (Or.inr (Or.inl c4)))
        · rw [if_neg c4] at h
          by_cases c5 : w = 64
          · exact Or.inr (Or.inr (Or.inr (Or.inr c5)))
          · rw [if_neg c5] at h; exact absurd rfl h
theorem isWid {S : XS} {w : Int32} : fm_Mod_isWidth S w = fx_Width_isOne w := by rw [fm_Mod_isWidth, fx_Width_isOne]
theorem constantN {st ms : XS} {V N E Bt : Nat} (h : Rel st ms V N E Bt) (w : Int32) (x : Int64) : (fx_PS_constant st w x).1 = (fm_Mod_constant ms w x).1 ∧ ∃ N2 : Nat, Rel (fx_PS_constant st w x).2 (fm_Mod_constant ms w x).2 V N2 E Bt := by
  rw [fx_PS_constant, fm_Mod_constant, isWid]
  by_cases c : fx_Width_isOne w = 0
  · rw [if_pos c, if_pos c]; exact ⟨rfl, N, h⟩
  · rw [if_neg c, if_neg c]
    obtain ⟨q1, q2, _⟩ := focN (x := x) (x2 := x) h (isOne c) rfl
    exact ⟨q1, q2⟩
