theorem ib_ext {x y : Int32} (h : ∀ i, i < 32 → x.toBitVec.getLsbD i = y.toBitVec.getLsbD i) : x = y := Int32.toBitVec_inj.mp (BitVec.eq_of_getLsbD_eq (fun i hi => h i hi))
theorem ib_sshr {n : Nat} (hn : n < 2) (x : Int32) {i : Nat} (hi : i < 32) : (x >>> (nI n &&& 31)).toBitVec.getLsbD i = if n + i < 32 then x.toBitVec.getLsbD (n + i) else x.toBitVec.getLsbD 31 := by
  rw [Int32.toBitVec_shiftRight]
  show (x.toBitVec.sshiftRight ((nI n &&& 31).toBitVec.smod 32).toNat).getLsbD i = _
  rw [wl_sm10 n (by omega), BitVec.getLsbD_sshiftRight, BitVec.msb_eq_getLsbD_last]
  simp [hi]
theorem ib_1 : ∀ j, j < 32 → (1 : Int32).toBitVec.getLsbD j = decide (j = 0) := by decide +kernel
theorem rd_bit (x : Int32) {b : Nat} (hb : b < 2) : (x >>> (nI b &&& 31)) &&& (1 : Int32) = 1 ↔ x.toBitVec.getLsbD b = true := by
  constructor
  · intro h
    have q : ((x >>> (nI b &&& 31)) &&& (1 : Int32)).toBitVec.getLsbD 0 = (1 : Int32).toBitVec.getLsbD 0 := by rw [h]
    rw [Int32.toBitVec_and, BitVec.getLsbD_and, ib_sshr hb x (by decide), ib_1 0 (by decide), if_pos (by omega)] at q
    simpa using q
  · intro h
    apply ib_ext
    intro j hj
    rw [Int32.toBitVec_and, BitVec.getLsbD_and, ib_1 j hj]
    by_cases e : j = 0
    · rw [e, ib_sshr hb x (by decide), if_pos (by omega), Nat.add_zero, h]; rfl
    · rw [decide_eq_false e, Bool.and_false]
theorem rdN {st : XS} {t b : Nat} (ht : t < 64) (hb : b < 2) : fx_Terms_readsTable st (nI t) (nI b) = 0 ↔ rdb st t b = false := by
  rw [fx_Terms_readsTable, nI_clamp (by omega)]
  by_cases q : (fA st 6 t) >>> (nI b &&& 31) &&& (1 : Int32) = 1
  · rw [if_pos q]
    have q2 : rdb st t b = true := (rd_bit _ hb).mp q
    rw [q2]
    exact ⟨fun z => absurd z i10, fun z => absurd z (by decide)⟩
  · rw [if_neg q]
    refine ⟨fun _ => ?_, fun _ => rfl⟩
    rcases Bool.eq_false_or_eq_true (rdb st t b) with p | p
    · exact absurd ((rd_bit _ hb).mpr p) q
    · exact p
theorem fgL {st : XS} {N b : Nat} (hN : gI st 6 = nI N) (h64 : N ≤ 64) (hb : b < 2) : ∀ (n i : Nat) (S1 : XS), i ≤ N → N - i < n → XF [] [8] [] st S1 → (∀ t : Nat, ¬ fA S1 8 t = 0 → ¬ fA st 8 t = 0 ∧ (t < i → rdb st t b = false)) → ∀ t : Nat, ¬ fA (fx_Rows_forgetReadersOf_L10 st (nI b) n i S1) 8 t = 0 → ¬ fA st 8 t = 0 ∧ (t < N → rdb st t b = false) := by
  intro n
  induction n with
  | zero => intro i S1 _ h; exact absurd h (Nat.not_lt_zero _)
  | succ n ih =>
    intro i S1 hi hm hF hK
    rw [fx_Rows_forgetReadersOf_L10]
    by_cases c : fx_Terms_size st ≤ nI i
    · rw [if_pos c]
      have hge : N ≤ i := wl_ge (by rw [← hN]; exact c) (by omega)
      intro t ht
      exact ⟨(hK t ht).1, fun h => (hK t ht).2 (by omega)⟩
    · rw [if_neg c]
      have hlt : i < N := wl_lt (by rw [← hN]; exact c) (by omega)
      have er : rdb S1 i b = rdb st i b := by unfold rdb; rw [hF.A 6 (by decide)]
      by_cases q : fx_Terms_readsTable S1 (nI i) (nI b) = 0
      · rw [if_pos q]
        have q2 := (rdN (by omega) hb).mp q
        rw [er] at q2
        refine ih _ _ (by omega) (by omega) hF (fun t ht => ⟨(hK t ht).1, fun h => ?_⟩)
        by_cases e : t = i
        · rw [e]; exact q2
        · exact (hK t ht).2 (by omega)
      · rw [if_neg q, nI_clamp (by omega), nar0]
        refine ih _ _ (by omega) (by omega) (XF.wA (by decide) hF) (fun t ht => ?_)
        have e : t ≠ i := by
          intro e
          rw [e] at ht
          exact ht (show upd (fA S1 8) i 0 i = 0 from pk_us)
        have e2 : fA (wA S1 8 i 0) 8 t = fA S1 8 t := (show upd (fA S1 8) i 0 t = fA S1 8 t from pk_un e)
        rw [e2] at ht
        exact ⟨(hK t ht).1, fun h => (hK t ht).2 (by omega)⟩
theorem fgN {st : XS} {N b : Nat} (hN : gI st 6 = nI N) (h64 : N ≤ 64) (hb : b < 2) : ∀ t : Nat, ¬ fA (fx_Rows_forgetReadersOf st (nI b)) 8 t = 0 → ¬ fA st 8 t = 0 ∧ (t < N → rdb st t b = false) := by
  rw [fx_Rows_forgetReadersOf]
  exact fgL hN h64 hb 65 0 st (Nat.zero_le _) (by omega) XF.rf (fun t ht => ⟨ht, fun h => absurd h (Nat.not_lt_zero _)⟩)
theorem OpTy.t20 {wa wb wc b wt : Int32} (h : OpTy 20 wa wb wc b wt) : vp_in b 2 := by
  obtain ⟨hw, hv, h⟩ := h
  rcases h with ⟨ho, _⟩ | ⟨ho, _⟩ | ⟨ho, _⟩ | ⟨ho, _⟩ | ⟨ho, _⟩ | ⟨ho, _⟩ | ⟨ho, _⟩ | ⟨ho, hb, _⟩
  · exact absurd ho (by decide)
  · exact absurd ho (by decide)
  · exact absurd ho (by decide)
  · exact absurd ho (by decide)
  · exact absurd ho (by decide)
  · exact absurd ho (by decide)
  · exact absurd ho (by decide)
  · exact hb
theorem opv_tab {tab tab2 : Nat → Int64} {o w b : Int32} {x y z : Int64} (h : ¬ o = 20) : opv tab o w b x y z = opv tab2 o w b x y z := by
  unfold opv
  rw [if_neg h, if_neg h]
theorem c8 {k j : Nat} (hk : k < 2) (hj : j < 8) : (nI k * (8 : Int32) + nI j).toNatClampNeg = 8 * k + j := by
  have e : nI k * (8 : Int32) = nI (8 * k) := by
    have key : ∀ k, k < 2 → nI k * (8 : Int32) = nI (8 * k) := by decide
    exact key k hk
  rw [e, nI_add, nI_clamp (by omega)]
theorem xval_tab {Is As : List Nat} {st S : XS} {V N b : Nat} {n : Int32} (h64 : N ≤ 64) (hX : XT st V N) (hXS : XT S V N) (hF : XF Is As [0] st S) (hA : ∀ k ∈ [0, 1, 2, 3, 4, 5], k ∉ As) (hb : b < 2) (htb : ∀ j : Nat, ¬ (8 * b ≤ j ∧ j < 8 * b + 8) → fL S 0 j = fL st 0 j) (hR : TR st N) : ∀ t : Nat, t < N → rdb st t b = false → xval S n t = xval st n t := by
  have h3 := hF.A 3 (hA 3 (by decide))
  have h4 := hF.A 4 (hA 4 (by decide))
  have h5 := hF.A 5 (hA 5 (by decide))
  have l1 := hF.L 1 (by decide)
  intro t
  induction t using Nat.strongRecOn with
  | ind t ih =>
    intro ht hr
    have hT := hX.1 t ht
    have ops : ∀ j : Nat, j < 3 → nI j < fx_Op_namedTerms (fA st 3 t) → xval S n (fA st 5 (3 * t + j)).toNatClampNeg = xval st n (fA st 5 (3 * t + j)).toNatClampNeg := by
      intro j hj q
      have lt := hT.lt (by omega) j hj q
      refine ih _ lt (by omega) ?_
      rcases Bool.eq_false_or_eq_true (rdb st (fA st 5 (3 * t + j)).toNatClampNeg b) with z | z
      · have w := (hR t ht).2 j b hj hb q z
        rw [hr] at w
        exact absurd w (by decide)
      · exact z
    rw [xval_eq hXS h64 ht, xval_eq hX h64 ht]
    have c1 : xstep S n (xval S n) t = xstep S n (xval st n) t := xstep_congr (hXS.1 t ht) (fun j hj q => by rw [h5]; rw [h3] at q; exact ops j hj q)
    rw [c1]
    unfold xstep oA oB oC
    rw [h3, h4, h5, l1, readAt_fr hF (fun k hk => hA k (by revert k; decide))]
    by_cases h21 : fA st 3 t = 21
    · rw [if_pos h21, if_pos h21]
    · rw [if_neg h21, if_neg h21]
      by_cases h22 : fA st 3 t = 22
      · rw [if_pos h22, if_pos h22]
      · rw [if_neg h22, if_neg h22]
        by_cases h20 : fA st 3 t = 20
        · have ty := hT.ty (by omega) (fun j hj => (hX.1 j (by omega)).1) h21 h22
          rw [h20] at ty
          obtain ⟨k, hk, ek⟩ := vp_in_of ty.t20 (by decide)
          have nb : k ≠ b := by
            intro e
            have w := (hR t ht).1 b hb h20 (by rw [ek, e])
            rw [hr] at w
            exact absurd w (by decide)
          rw [h20, opv_20, opv_20, ek]
          obtain ⟨j, hj, ej⟩ := wl_and7 (xval st n (fA st 5 (3 * t)).toNatClampNeg)
          rw [ej, c8 hk hj]
          exact htb _ (by omega)
        · exact opv_tab h20
theorem XTt.fr {Is As Ls : List Nat} {st S : XS} {V t : Nat} (h : XTt st V t) (hF : XF Is As Ls st S) (hA : ∀ k ∈ [3, 4, 5], k ∉ As) (hL : 1 ∉ Ls) : XTt S V t := by
  unfold XTt oA oB oC at *
  rw [hF.A 3 (hA 3 (by decide)), hF.A 4 (hA 4 (by decide)), hF.A 5 (hA 5 (by decide)), hF.L 1 hL]
  exact h
theorem lb_ext32 (v : Int32) {i : Nat} (hi : i < 32) : lb v.toInt64 i = v.toBitVec.getLsbD i := by
  unfold lb
  rw [Int32.toBitVec_toInt64, BitVec.getLsbD_signExtend]
  simp [hi, show i < 64 by omega]
theorem and255 (v : Int32) : ∃ b : Nat, b < 256 ∧ v &&& (255 : Int32) = nI b ∧ rs 8 v.toInt64 = rs 8 (lN b) := by
  have hm : v.toBitVec.toNat % 2 ^ 8 < 256 := Nat.mod_lt _ (by decide)
  refine ⟨v.toBitVec.toNat % 2 ^ 8, hm, pk_and v 8 (by decide), ?_⟩
  refine alk_rs (k := 8) (by decide) (by decide) (fun i hi => ?_)
  rw [lb_ext32 v (by omega), ← un_bit, un_lN (by omega), Nat.testBit_mod_two_pow, decide_eq_true hi, Bool.true_and, BitVec.testBit_toNat]
theorem tabIs {t : Int32} : fx_Tabs_isTable t = 0 ↔ t < 0 ∨ nI 2 ≤ t := by
  rw [fx_Tabs_isTable]
  by_cases c : t < (0 : Int32)
  · rw [if_pos c]; exact ⟨fun _ => Or.inl c, fun _ => rfl⟩
  · rw [if_neg c]
    by_cases d : (2 : Int32) ≤ t
    · rw [if_pos d]; exact ⟨fun _ => Or.inr d, fun _ => rfl⟩
    · rw [if_neg d]
      exact ⟨fun z => absurd z i10, fun z => by rcases z with z | z; exact absurd z c; exact absurd z d⟩
theorem plaIs {t : Int32} : fx_Tabs_isPlace t = 0 ↔ t < 0 ∨ nI 8 ≤ t := by
  rw [fx_Tabs_isPlace]
  by_cases c : t < (0 : Int32)
  · rw [if_pos c]; exact ⟨fun _ => Or.inl c, fun _ => rfl⟩
  · rw [if_neg c]
    by_cases d : (8 : Int32) ≤ t
    · rw [if_pos d]; exact ⟨fun _ => Or.inr d, fun _ => rfl⟩
    · rw [if_neg d]
      exact ⟨fun z => absurd z i10, fun z => by rcases z with z | z; exact absurd z c; exact absurd z d⟩
theorem entryN {st ms : XS} {V N E Bt : Nat} (h : Rel st ms V N E Bt) (tt ii vv : Int32) : (fx_PS_entry st tt ii vv).1 = (fm_Mod_entry ms tt ii vv).1 ∧ Rel (fx_PS_entry st tt ii vv).2 (fm_Mod_entry ms tt ii vv).2 V N E Bt := by
  rcases pk_ix tt (n := 2) (by decide) with c | c | ⟨k, hk, ek⟩
  · rw [fx_PS_entry, if_pos (tabIs.mpr (Or.inl c)), fm_Mod_entry, if_pos c]; exact ⟨rfl, h⟩
  · rw [fx_PS_entry, if_pos (tabIs.mpr (Or.inr c)), fm_Mod_entry]
    by_cases c0 : tt < (0 : Int32)
    · rw [if_pos c0]; exact ⟨rfl, h⟩
    · rw [if_neg c0, if_pos (Int32.lt_of_lt_of_le (show (1 : Int32) < nI 2 by decide) c)]; exact ⟨rfl, h⟩
  · have t0 : ¬ tt < (0 : Int32) := by rw [ek]; exact nI_pos (by omega)
    have t1 : ¬ (1 : Int32) < tt := by rw [ek]; exact nI_nlt (a := 1) (b := k) (by omega) (by decide)
    have t2 : ¬ nI 2 ≤ tt := by rw [ek]; exact nI_ge hk (by decide)
    rw [fx_PS_entry, if_neg (fun z => by rcases tabIs.mp z with z | z; exact t0 z; exact t2 z), fm_Mod_entry, if_neg t0, if_neg t1]
    rcases pk_ix ii (n := 8) (by decide) with c | c | ⟨j, hj, ej⟩
    · rw [if_pos (plaIs.mpr (Or.inl c)), if_pos c]; exact ⟨rfl, h⟩
    · rw [if_pos (plaIs.mpr (Or.inr c))]
      by_cases c0 : ii < (0 : Int32)
      · rw [if_pos c0]; exact ⟨rfl, h⟩
      · rw [if_neg c0, if_neg (Int32.not_le.mpr (Int32.lt_of_lt_of_le (show (7 : Int32) < nI 8 by decide) c))]; exact ⟨rfl, h⟩
    · have i0 : ¬ ii < (0 : Int32) := by rw [ej]; exact nI_pos (by omega)
      have i8 : ¬ nI 8 ≤ ii := by rw [ej]; exact nI_ge hj (by decide)
      have i7 : ii ≤ (7 : Int32) := by rw [ej]; exact nI_le (a := j) (b := 7) (by omega) (by decide)
      rw [if_neg (fun z => by rcases plaIs.mp z with z | z; exact i0 z; exact i8 z), if_neg i0, if_pos i7]
      rw [fx_Tabs_set, ek, ej, c8 hk hj]
      have hr := h
      obtain ⟨⟨hV, hV4, hBt, hBt10, hN, h64, hEl, hE16, hX, hM0, hcN, mv⟩, ⟨n0, c0, v0, e0, y0, o0⟩, sr, tb, vb, kz, rz, pa, mo, ro, tr, cu⟩ := h
      obtain ⟨S1, e1⟩ : ∃ z, wL st 0 (8 * k + j) (fx_Width_readSigned (8 : Int32) vv.toInt64) = z := ⟨_, rfl⟩
      obtain ⟨T, eT⟩ : ∃ z, wA ms 10 (8 * k + j) (vv &&& (255 : Int32)) = z := ⟨_, rfl⟩
      have f1 : XF [] [] [0] st S1 := by rw [← e1]; exact XF.wL (by decide) XF.rf
      have g : XF [] [10] [] ms T := by rw [← eT]; exact XF.wA (by decide) XF.rf
      have s0 : ∀ q : Nat, fL S1 0 q = vp_updL (fL st 0) (8 * k + j) (rs 8 vv.toInt64) q := by intro q; rw [← e1]; rfl
      have t10 : ∀ q : Nat, fA T 10 q = upd (fA ms 10) (8 * k + j) (vv &&& (255 : Int32)) q := by intro q; rw [← eT]; rfl
      rw [e1, eT]
      have kn := fgN (st := S1) ((f1.I 6 (by decide)).trans hN) h64 hk
      have f2 := ff_Rows_forgetReadersOf S1 (nI k)
      obtain ⟨S, eS⟩ : ∃ z, fx_Rows_forgetReadersOf S1 (nI k) = z := ⟨_, rfl⟩
      rw [eS] at kn f2 ⊢
      have F : XF [] [8] [0] st S := XF.tr (f1.mono (by decide) (by decide) (by decide)) (f2.mono (by decide) (by decide) (by decide))
      have l0 : fL S 0 = fL S1 0 := f2.L 0 (by decide)
      have tb2 : TabOK (fL S 0) (fA T 10) := by
        intro q hq
        rw [l0, s0 q, t10 q]
        by_cases e : q = 8 * k + j
        · obtain ⟨b, b1, b2, b3⟩ := and255 vv
          rw [e, pk_us, pk_uLs]
          exact ⟨b, b1, b2, b3⟩
        · rw [pk_un e, pk_uLn e]
          exact tb q hq
      have hXS : XT S V N := ⟨fun t ht => (hX.1 t ht).fr F (by decide) (by decide), fun q hq => tb2.n hq, fun v hv => by
        have q := hX.2.2 v hv
        unfold XVv at *
        rw [F.A 0 (by decide), F.A 1 (by decide)]
        exact q⟩
      have kn2 : ∀ t : Nat, ¬ fA S 8 t = 0 → ¬ fA st 8 t = 0 ∧ (t < N → rdb st t k = false) := by
        intro t ht
        have q := kn t ht
        unfold rdb at *
        rw [f1.A 8 (by decide), f1.A 6 (by decide)] at q
        exact q
      refine ⟨rfl, ⟨(F.I 4 (by decide)).trans hV, hV4, (F.I 5 (by decide)).trans hBt, hBt10, (F.I 6 (by decide)).trans hN, h64, (F.I 9 (by decide)).trans hEl, hE16, hXS, hM0.fr F (by decide) (by decide), ?_, ?_⟩, ⟨(g.I 0 (by decide)).trans n0, ?_, (g.I 2 (by decide)).trans v0, (g.I 3 (by decide)).trans e0, ?_, ?_⟩, sr.fr F (by decide) (by decide) g (by decide) (by decide), tb2, vb.fr F (by decide) g (by decide), ?_, rz.fr F (by decide), pa.fr F (by decide) g (by decide), mo.fr F (by decide) (by decide) g (by decide) (by decide), ?_, tr.fr F (by decide), cu.fr F (by decide) (by decide)⟩
      · rw [F.A 10 (by decide)]; exact hcN
      · rw [F.I 1 (by decide)]; exact mv
      · rw [g.I 1 (by decide), F.I 7 (by decide)]; exact c0
      · rw [g.I 4 (by decide), F.I 2 (by decide)]; exact y0
      · rw [g.I 5 (by decide), F.I 3 (by decide)]; exact o0
      · intro t ht h2
        by_cases q : fA S 8 t = 0
        · exact q
        · exact absurd (kz t ht h2) (kn2 t q).1
      · intro t m ht hm hkn
        obtain ⟨q1, q2⟩ := kn2 t hkn
        rw [xval_tab h64 hX hXS F (by decide) hk (fun q hq => by rw [l0, s0 q]; exact pk_uLn (by omega)) tr t ht (q2 ht), ← ro t m ht hm q1]
        unfold rbit
        rw [F.L 3 (by decide)]
