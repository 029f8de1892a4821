theorem xf_wAA {Is As Ls : List Nat} {a b : XS} (h : XF Is As Ls a b) (k n : Nat) (v : Int32) : XF Is As Ls (wA a k n v) (wA b k n v) := by
  refine ⟨h.1, fun j hj => ?_, h.2.2⟩
  show va_up b.2.1 k (upd (b.2.1 k) n v) j = va_up a.2.1 k (upd (a.2.1 k) n v) j
  by_cases e : j = k
  · rw [e] at hj ⊢
    rw [va_up_self, va_up_self, h.2.1 k hj]
  · rw [va_up_ne _ _ e, va_up_ne _ _ e, h.2.1 j hj]
theorem xf_wII {Is As Ls : List Nat} {a b : XS} (h : XF Is As Ls a b) (k : Nat) (v : Int32) : XF Is As Ls (wI a k v) (wI b k v) := by
  refine ⟨fun j hj => ?_, h.2.1, h.2.2⟩
  show va_up b.1 k v j = va_up a.1 k v j
  by_cases e : j = k
  · rw [e, va_up_self, va_up_self]
  · rw [va_up_ne _ _ e, va_up_ne _ _ e, h.1 j hj]
theorem c3m : ∀ t, t < 64 → nI t * (3 : Int32) = nI (3 * t) := by decide +kernel
theorem c30 {t : Nat} (ht : t < 64) : (nI t * (3 : Int32)).toNatClampNeg = 3 * t := by rw [c3m t ht, nI_clamp (by omega)]
theorem c31 {t : Nat} (ht : t < 64) : (nI t * (3 : Int32) + (1 : Int32)).toNatClampNeg = 3 * t + 1 := by rw [c3m t ht, nI_1, nI_clamp (by omega)]
theorem c32 {t : Nat} (ht : t < 64) : (nI t * (3 : Int32) + (2 : Int32)).toNatClampNeg = 3 * t + 2 := by rw [c3m t ht, show nI (3 * t) + (2 : Int32) = nI (3 * t + 2) from nI_add _ 2, nI_clamp (by omega)]
theorem Rel.var {st ms S T : XS} {V N E Bt B : Nat} {sg : Int32} (h : Rel st ms V N E Bt) (hV1 : V < 4) (h1 : 1 ≤ B) (h8 : B ≤ 8) (h10 : Bt + B ≤ 10) (f : XF [4, 5] [0, 1, 2] [] st S) (s4 : gI S 4 = nI (V + 1)) (s5 : gI S 5 = nI (Bt + B)) (a0 : ∀ v : Nat, fA S 0 v = upd (fA st 0) V (nI B) v) (a1 : ∀ v : Nat, fA S 1 v = upd (fA st 1) V (nI (10 - (Bt + B))) v) (a2 : ∀ v : Nat, fA S 2 v = upd (fA st 2) V sg v) (g : XF [2] [5, 6, 9] [] ms T) (t2 : gI T 2 = nI (V + 1)) (b5 : ∀ v : Nat, fA T 5 v = upd (fA ms 5) V (nI B) v) (b9 : ∀ v : Nat, fA T 9 v = upd (fA ms 9) V sg v) : Rel S T (V + 1) N E (Bt + B) := by
  obtain ⟨⟨hV, hV4, hBt, hBt10, hN, h64, hEl, hE16, hX, hM0, hcN, MV, mv1, mv2⟩, ⟨n0, c0, v0, e0, y0, o0⟩, sr, tb, vb, kz, rz, pa, mo, ro, tr, cu⟩ := h
  have old : ∀ v : Nat, v < V → fA S 0 v = fA st 0 v ∧ fA S 1 v = fA st 1 v ∧ fA S 2 v = fA st 2 v := fun v hv => ⟨by rw [a0, pk_un (by omega)], by rw [a1, pk_un (by omega)], by rw [a2, pk_un (by omega)]⟩
  have hE : Ext st S N := fun t ht => ⟨by rw [f.A 3 (by decide)], by rw [f.A 4 (by decide)], fun j hj => by rw [f.A 5 (by decide)], by rw [f.L 1 (by decide)]⟩
  have hXS : XT S (V + 1) N := ⟨fun t ht => (hX.1 t ht).ext hE ht h64 (Nat.le_succ _), by rw [f.L 0 (by decide)]; exact hX.2.1, fun v hv => by
    by_cases e : v = V
    · refine ⟨B, 10 - (Bt + B), h1, h8, by omega, ?_, ?_⟩
      · rw [e, a0, pk_us]
      · rw [e, a1, pk_us]
    · have q := hX.2.2 v (by omega)
      obtain ⟨q0, q1, _⟩ := old v (by omega)
      unfold XVv at *
      rw [q0, q1]
      exact q⟩
  have sV : bs (fA S 0) V = bs (fA st 0) V := bs_congr (fun v hv => (old v hv).1)
  have sV1 : bs (fA S 0) (V + 1) = Bt + B := by
    show bs (fA S 0) V + (fA S 0 V).toNatClampNeg = _
    rw [sV, vb.2, a0, pk_us, nI_clamp (by omega)]
  refine ⟨⟨s4, hV1, s5, h10, (f.I 6 (by decide)).trans hN, h64, (f.I 9 (by decide)).trans hEl, hE16, hXS, hM0.fr f (by decide) (by decide), ?_, MV, (f.I 1 (by decide)).trans mv1, by omega⟩, ⟨(g.I 0 (by decide)).trans n0, ?_, t2, (g.I 3 (by decide)).trans e0, ?_, ?_⟩, sr.fr f (by decide) (by decide) g (by decide) (by decide), ?_, ⟨fun v hv => ?_, sV1⟩, ?_, rz.fr f (by decide), pa.fr f (by decide) g (by decide), ?_, ?_, tr.fr f (by decide), cu.fr f (by decide) (by decide)⟩
  · rw [f.A 10 (by decide)]; exact hcN
  · rw [g.I 1 (by decide), f.I 7 (by decide)]; exact c0
  · rw [g.I 4 (by decide), f.I 2 (by decide)]; exact y0
  · rw [g.I 5 (by decide), f.I 3 (by decide)]; exact o0
  · rw [f.L 0 (by decide), g.A 10 (by decide)]; exact tb
  · by_cases e : v = V
    · refine ⟨B, h1, h8, by rw [e, a0, pk_us], by rw [e, b5, pk_us], by rw [e, a1, pk_us, sV1], by rw [e, b9, a2, pk_us, pk_us]⟩
    · obtain ⟨q0, q1, q2⟩ := old v (by omega)
      obtain ⟨b, r1, r2, r3, r4, r5, r6⟩ := vb.1 v (by omega)
      have sv : bs (fA S 0) (v + 1) = bs (fA st 0) (v + 1) := bs_congr (fun u hu => (old u (by omega)).1)
      exact ⟨b, r1, r2, q0.trans r3, by rw [b5, pk_un e]; exact r4, by rw [sv, q1]; exact r5, by rw [b9, pk_un e, q2]; exact r6⟩
  · unfold KZ; rw [f.A 8 (by decide)]; exact kz
  · rcases mo with ⟨m1, m2⟩ | ⟨n, W, hn, hd, m0, m1, m6, mW, m8, mz⟩
    · exact Or.inl ⟨(f.I 0 (by decide)).trans m1, (g.I 6 (by decide)).trans m2⟩
    · have ep : 2 ^ (10 - Bt) = 2 ^ B * 2 ^ (10 - (Bt + B)) := by rw [← Nat.pow_add]; congr 1; omega
      have en : n = n / 2 ^ (10 - Bt) * 2 ^ B * 2 ^ (10 - (Bt + B)) := by
        rw [Nat.mul_assoc, ← ep]
        have q := Nat.div_add_mod n (2 ^ (10 - Bt))
        rw [hd, Nat.add_zero, Nat.mul_comm] at q
        exact q.symm
      have hpos := wl_p2pos (10 - (Bt + B))
      refine Or.inr ⟨n, W, hn, ?_, (f.I 0 (by decide)).trans m0, (f.I 1 (by decide)).trans m1, (g.I 6 (by decide)).trans m6, by omega, fun v hv => ?_, fun v q1 q2 => by rw [g.A 8 (by decide)]; exact mz v (by omega) q2⟩
      · rw [en]; exact Nat.mul_mod_left _ _
      · rw [g.A 8 (by decide)]
        by_cases e : v = V
        · rw [e, mz V (Nat.le_refl _) hV1, fx_Vars_bitsAt, nI_clamp (by omega), a0, a1, pk_us, pk_us, shr_lo hn (by omega)]
          have hq : n / 2 ^ (10 - (Bt + B)) = n / 2 ^ (10 - Bt) * 2 ^ B := by
            have q := Nat.mul_div_cancel (n / 2 ^ (10 - Bt) * 2 ^ B) hpos
            rw [← en] at q
            exact q
          have hl : n / 2 ^ (10 - (Bt + B)) ≤ n := Nat.div_le_self _ _
          rw [pk_andN (by omega) B (mask8 B (by omega)), hq, Nat.mul_mod_left]
          rfl
        · obtain ⟨q0, q1, _⟩ := old v (by omega)
          rw [m8 v (by omega), fx_Vars_bitsAt, fx_Vars_bitsAt, nI_clamp (by omega), q0, q1]
  · intro t m ht hm hk
    rw [f.A 8 (by decide)] at hk
    rw [xval_ext h64 (by omega) hX hXS hE old (f.L 0 (by decide)) t ht, ← ro t m ht hm hk]
    unfold rbit
    rw [f.L 3 (by decide)]
theorem varL {ms : XS} {V : Nat} {b sg : Int32} (hV : gI ms 2 = nI V) (hV4 : V ≤ 4) : ∀ (n i : Nat) (all : Int32), i ≤ V → V - i < n → all = bsum (fA ms 5) i → fm_Mod_variable_L5 ms b sg n all i = fm_Mod_variable_L5 ms b sg (0 + 1) (bsum (fA ms 5) V) V := by
  intro n
  induction n with
  | zero => intro i all _ h; exact absurd h (Nat.not_lt_zero _)
  | succ n ih =>
    intro i all hi hm ha
    by_cases e : i = V
    · have c : gI ms 2 ≤ nI V := by rw [hV]; exact nI_le (Nat.le_refl _) (by omega)
      rw [ha, e, fm_Mod_variable_L5, if_pos c, fm_Mod_variable_L5, if_pos c]
    · have c : ¬ gI ms 2 ≤ nI i := by rw [hV]; exact nI_ge (by omega) (by omega)
      rw [fm_Mod_variable_L5, if_neg c]
      refine ih (i + 1) _ (by omega) (by omega) ?_
      rw [ha, nI_clamp (by omega)]
      rfl
theorem variableN {st ms : XS} {V N E Bt : Nat} (h : Rel st ms V N E Bt) (b sg : Int32) : (fx_PS_variable st b sg).1 = (fm_Mod_variable ms b sg).1 ∧ ∃ V2 N2 B2 : Nat, Rel (fx_PS_variable st b sg).2 (fm_Mod_variable ms b sg).2 V2 N2 E B2 := by
  have hr := h
  obtain ⟨⟨hV, hV4, hBt, hBt10, hN, h64, hEl, hE16, hX, hM0, hcN, mv⟩, ⟨n0, c0, v0, e0, y0, o0⟩, sr, tb, vb, kz, rz, pa, mo, ro, tr, cu⟩ := h
  have cV : gI ms 2 ≤ nI V := by rw [v0]; exact nI_le (Nat.le_refl _) (by omega)
  rw [fx_PS_variable, fm_Mod_variable, varL v0 hV4 5 0 0 (Nat.zero_le _) (by omega) rfl, fm_Mod_variable_L5, if_pos cV, fx_Vars_admits, vb.sum V (Nat.le_refl _), vb.2]
  by_cases c1 : b < (1 : Int32)
  · rw [if_pos c1, if_pos c1, if_pos rfl]; exact ⟨rfl, V, N, Bt, hr⟩
  · rw [if_neg c1, if_neg c1]
    by_cases c2 : (8 : Int32) < b
    · rw [if_pos c2, if_pos c2, if_pos rfl]; exact ⟨rfl, V, N, Bt, hr⟩
    · rw [if_neg c2, if_neg c2]
      obtain ⟨B, hB8, eB⟩ := nI_of2 (M := 8) (n := 8) (by decide) (fun q => c1 (Int32.lt_trans q (by decide))) (Int32.not_lt.mp c2)
      have hB1 : 1 ≤ B := by
        rcases Nat.eq_zero_or_pos B with z | z
        · exact absurd (by rw [eB, z]; decide) c1
        · exact z
      rcases Nat.lt_or_ge V 4 with hV1 | hV1
      · rw [if_neg (show ¬ (4 : Int32) ≤ gI st 4 by rw [hV]; exact nI_ge (b := 4) hV1 (by decide)), if_neg (show ¬ gI ms 2 = (4 : Int32) by rw [v0]; intro z; have := (nI_eq (a := V) (b := 4) (by omega) (by decide)).mp z; omega)]
        rw [hBt, eB, nI_add]
        rcases Nat.lt_or_ge 10 (Bt + B) with h10 | h10
        · rw [if_pos (show (10 : Int32) < nI (Bt + B) from nI_lt (a := 10) h10 (by omega)), if_pos rfl, if_neg (show ¬ nI (Bt + B) ≤ (10 : Int32) from nI_ge (a := 10) h10 (by omega))]
          exact ⟨rfl, V, N, Bt, hr⟩
        · rw [if_neg (show ¬ (10 : Int32) < nI (Bt + B) from nI_nlt (a := 10) h10 (by omega)), if_neg i10, if_pos (show nI (Bt + B) ≤ (10 : Int32) from nI_le (b := 10) h10 (by decide))]
          rcases full64 hN n0 h64 with ⟨q, a, z⟩ | ⟨q, a, z⟩
          · rw [if_pos a, if_neg z]
            obtain ⟨S0, eS0⟩ : ∃ z, (fx_Vars_add st (nI B) sg).2 = z := ⟨_, rfl⟩
            have fS : XF [4, 5] [0, 1, 2] [] st S0 := by rw [← eS0]; exact ff_Vars_add st (nI B) sg
            have p1 : (fx_Vars_add st (nI B) sg).1 = nI V := by rw [fx_Vars_add]; exact hV
            have s4 : gI S0 4 = nI (V + 1) := by
              rw [← eS0, fx_Vars_add]
              show gI st 4 + (1 : Int32) = _
              rw [hV, nI_1]
            have s5 : gI S0 5 = nI (Bt + B) := by
              rw [← eS0, fx_Vars_add]
              show gI st 5 + nI B = _
              rw [hBt, nI_add]
            have a0 : ∀ v : Nat, fA S0 0 v = upd (fA st 0) V (nI B) v := by
              intro v
              rw [← eS0, fx_Vars_add]
              show upd (fA st 0) (gI st 4).toNatClampNeg (nI B) v = _
              rw [hV, nI_clamp (by omega)]
            have a1 : ∀ v : Nat, fA S0 1 v = upd (fA st 1) V (nI (10 - (Bt + B))) v := by
              intro v
              rw [← eS0, fx_Vars_add]
              show upd (fA st 1) (gI st 4).toNatClampNeg ((10 : Int32) - (gI st 5 + nI B)) v = _
              rw [hV, nI_clamp (by omega), hBt, nI_add, show (10 : Int32) - nI (Bt + B) = nI (10 - (Bt + B)) from nI_sb (a := 10) h10]
            have a2 : ∀ v : Nat, fA S0 2 v = upd (fA st 2) V (vp_nar .boolean sg) v := by
              intro v
              rw [← eS0, fx_Vars_add]
              show upd (fA st 2) (gI st 4).toNatClampNeg (vp_nar .boolean sg) v = _
              rw [hV, nI_clamp (by omega)]
            rw [eS0, p1, v0, nI_clamp (n := V) (by omega), fx_Terms_addVariable]
            obtain ⟨M1, eM1⟩ : ∃ z, wA (wA ms 5 V (nI B)) 9 V (vp_nar .boolean sg) = z := ⟨_, rfl⟩
            have fM1 : XF [2] [5, 6, 9] [] ms M1 := by rw [← eM1]; exact XF.wA (by decide) (XF.wA (by decide) XF.rf)
            have m5 : ∀ v : Nat, fA M1 5 v = upd (fA ms 5) V (nI B) v := by intro v; rw [← eM1]; rfl
            have m9 : ∀ v : Nat, fA M1 9 v = upd (fA ms 9) V (vp_nar .boolean sg) v := by intro v; rw [← eM1]; rfl
            rw [eM1]
            have m0 : gI M1 0 = nI N := (fM1.I 0 (by decide)).trans n0
            obtain ⟨q1, q2, q3, q4, q5, q6, q7⟩ := frN (o := 22) (x := nI V) (y := 0) (z := 0) (w := 8) m0 q
            have gf := ff_Mod_fresh M1 22 (nI V) 0 0 8
            obtain ⟨G, eG⟩ : ∃ z, fm_Mod_fresh M1 22 (nI V) 0 0 8 = z := ⟨_, rfl⟩
            rw [eG] at q1 q2 q3 q4 q5 q6 q7 gf ⊢
            have g2 : gI G.2 2 = nI V := by rw [gf.I 2 (by decide), ← eM1]; exact v0
            rw [q1, q2, g2, nI_1, nI_pred]
            have hN0 : gI S0 6 = nI N := (fS.I 6 (by decide)).trans hN
            obtain ⟨p1, p2, p3, p4⟩ := apN (o := 22) (w := 8) hN0 q
            have fp := ff_Terms_addPlain S0 22 8
            obtain ⟨P, eP⟩ : ∃ z, fx_Terms_addPlain S0 22 8 = z := ⟨_, rfl⟩
            rw [eP] at p1 p2 p3 p4 fp ⊢
            rw [p1, c30 q]
            have R1 : Rel S0 (wI (wA M1 6 V (nI N)) 2 (nI (V + 1))) (V + 1) N E (Bt + B) := hr.var hV1 hB1 hB8 h10 fS s4 s5 a0 a1 a2 (XF.wI (by decide) (XF.wA (by decide) fM1)) rfl (fun v => (m5 v)) (fun v => (m9 v))
            obtain ⟨S, eS⟩ : ∃ z, wA P.2 5 (3 * N) (nI V) = z := ⟨_, rfl⟩
            have F : XF [6, 7] [3, 4, 5, 6] [1] S0 S := by rw [← eS]; exact XF.wA (by decide) (fp.mono (by decide) (by decide) (by decide))
            have s3 : ∀ t : Nat, fA S 3 t = upd (fA S0 3) N 22 t := by intro t; rw [← eS]; exact p3 t
            have s4b : ∀ t : Nat, fA S 4 t = upd (fA S0 4) N 8 t := by intro t; rw [← eS]; exact p4 t
            have s5b : ∀ t : Nat, fA S 5 t = upd (fA S0 5) (3 * N) (nI V) t := by
              intro t; rw [← eS]
              show upd (fA P.2 5) (3 * N) (nI V) t = _
              rw [fp.A 5 (by decide)]
            have s6 : gI S 6 = nI (N + 1) := by rw [← eS]; exact p2
            rw [eS]
            refine ⟨rfl, V + 1, N + 1, Bt + B, R1.add q F (xf_wII (xf_wAA (gf.mono (by decide) (by decide) (by decide)) 6 V (nI N)) 2 (nI (V + 1))) (fun t ht => ⟨by rw [s3, pk_un (by omega)], by rw [s4b, pk_un (by omega)], fun j hj => by rw [s5b, pk_un (by omega)], by rw [← eS]; exact congrFun (fp.L 1 (by decide)) t⟩) (fun t ht => by rw [← eS]; exact congrFun (fp.A 6 (by decide)) t) (fun t ht => ⟨(q3 t).trans (pk_un (by omega)), (q4 t).trans (pk_un (by omega)), (q5 t).trans (pk_un (by omega)), (q6 t).trans (pk_un (by omega)), (q7 t).trans (pk_un (by omega)), congrFun (gf.L 0 (by decide)) t⟩) s6 q2 ?_ ?_ ?_ ?_ ?_⟩
            · show gI G.2 1 = _
              have s7 : gI S 7 = gI S0 7 := by rw [← eS]; exact fp.I 7 (by decide)
              rw [gf.I 1 (by decide), fM1.I 1 (by decide), s7, fS.I 7 (by decide)]; exact c0
            · refine ⟨by rw [s4b, pk_us]; exact Or.inr (Or.inl rfl), Or.inr (Or.inl ⟨by rw [s3, pk_us], by rw [s4b, pk_us], ?_⟩)⟩
              rw [s5b, pk_us]; exact wl_in (Nat.lt_succ_self _) (by omega)
            · refine ⟨?_, ?_, fun z => ?_, fun _ => ?_, fun _ z => ?_⟩
              · rw [s3, pk_us]; exact (q3 N).trans pk_us
              · rw [s4b, pk_us]; exact (q7 N).trans pk_us
              · rw [s3, pk_us] at z; exact absurd z (by decide)
              · rw [s5b, pk_us]; exact (q4 N).trans pk_us
              · rw [s3, pk_us] at z; exact absurd rfl z
            · refine ⟨fun c _ z => ?_, fun j c hj _ z => ?_⟩
              · rw [s3, pk_us] at z; exact absurd z (by decide)
              · rw [s3, pk_us] at z; exact absurd z (nt22 j hj)
            · intro z
              rw [s3, pk_us] at z; exact absurd z (by decide)
          · rw [if_neg a, if_pos z]
            exact ⟨rfl, V, N, Bt, hr⟩
      · have e4 : V = 4 := by omega
        rw [if_pos (show (4 : Int32) ≤ gI st 4 by rw [hV, e4]; decide), if_pos rfl, if_pos (show gI ms 2 = (4 : Int32) by rw [v0, e4]; rfl)]
        exact ⟨rfl, V, N, Bt, hr⟩
