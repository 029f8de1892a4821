theorem nI_sb {a b : Nat} (h : b ≤ a) : nI a - nI b = nI (a - b) := by
  have e : nI a = nI (a - b) + nI b := by rw [nI_add, Nat.sub_add_cancel h]
  rw [e]; exact Int32.add_sub_cancel _ _
theorem wl_fA5 {S : XS} {j : Nat} {x : Int32} : fA (wA S 7 j x) 5 = fA S 5 := (show XF [] [7] [] S (wA S 7 j x) from XF.wA (by decide) XF.rf).A 5 (by decide)
theorem bits_code {st ms : XS} {V Bt v c : Nat} (hVB : VB st ms V Bt) (hV4 : V ≤ 4) (hBt10 : Bt ≤ 10) (hv : v < V) (hc : c < 2 ^ Bt) : fx_Vars_bitsAt st (nI v) (nI (c * 2 ^ (10 - Bt))) = (nI c >>> (nI (Bt - bs (fA st 0) (v + 1)) &&& 31)) &&& (((1 : Int32) <<< ((fA st 0 v) &&& 31)) - (1 : Int32)) := by
  obtain ⟨b, h1, h2, e0, e5, e1, e9⟩ := hVB.1 v hv
  have hle : bs (fA st 0) (v + 1) ≤ Bt := by rw [← hVB.2]; exact bs_mono _ hv
  have hpos := wl_p2pos (10 - Bt)
  have hc1 : c * 2 ^ (10 - Bt) < 1024 := by have := wl_fg hBt10 hc; omega
  have hc2 : c < 1024 := Nat.lt_of_lt_of_le hc (wl_p2le hBt10)
  rw [fx_Vars_bitsAt, nI_clamp (by omega), e1, shr_lo hc1 (by omega), shr_lo hc2 (by omega)]
  have e : 10 - bs (fA st 0) (v + 1) = (10 - Bt) + (Bt - bs (fA st 0) (v + 1)) := by omega
  rw [e, Nat.pow_add, ← Nat.div_div_eq_div_mul, Nat.mul_div_cancel _ hpos]
theorem sv47 {st ms ms0 S1 : XS} {V Bt c : Nat} {kq tu : Int32} (hVB : VB st ms V Bt) (hV4 : V ≤ 4) (hBt10 : Bt ≤ 10) (hc : c < 2 ^ Bt) : ∀ (n j : Nat) (lf : Int32) (S2 : XS), j ≤ V → V - j < n → lf = nI (Bt - bs (fA st 0) j) → gI S2 2 = nI V → fA S2 5 = fA ms 5 → (∀ v : Nat, v < j → fA S2 7 v = fx_Vars_bitsAt st (nI v) (nI (c * 2 ^ (10 - Bt)))) → ∀ v : Nat, v < V → fA (fm_Mod_solve_L47 ms0 kq tu c S1 n lf j S2).2.2 7 v = fx_Vars_bitsAt st (nI v) (nI (c * 2 ^ (10 - Bt))) := by
  intro n
  induction n with
  | zero => intro j lf S2 _ h; exact absurd h (Nat.not_lt_zero _)
  | succ n ih =>
    intro j lf S2 hj hm hl h2 h5 hK
    rw [fm_Mod_solve_L47, h2]
    by_cases q : nI V ≤ nI j
    · rw [if_pos q]
      have hge : V ≤ j := wl_ge q (by omega)
      intro v hv; exact hK v (by omega)
    · rw [if_neg q]
      have hlt : j < V := wl_lt q (by omega)
      obtain ⟨b, h1, h8, e0, e5, e1, e9⟩ := hVB.1 j hlt
      have hle : bs (fA st 0) (j + 1) ≤ Bt := by rw [← hVB.2]; exact bs_mono _ hlt
      have hs : bs (fA st 0) (j + 1) = bs (fA st 0) j + b := by
        show bs (fA st 0) j + (fA st 0 j).toNatClampNeg = _
        rw [e0, nI_clamp (by omega)]
      have el : lf - fA ms 5 j = nI (Bt - bs (fA st 0) (j + 1)) := by
        rw [hl, e5, nI_sb (by omega), hs, Nat.sub_sub]
      rw [nI_clamp (by omega), h5, el]
      refine ih (j + 1) _ _ (by omega) (by omega) rfl h2 (wl_fA5.trans h5) (fun v hv => ?_)
      show upd (fA S2 7) j _ v = _
      by_cases e : v = j
      · rw [e, pk_us, bits_code hVB hV4 hBt10 hlt hc, e0, e5]
      · rw [pk_un e]; exact hK v (by omega)
theorem sv132 {ms S1 W : XS} {K c : Nat} {tu : Int32} (hK : K ≤ 16) (eW : fm_Mod_work (fm_Mod_solve_L47 ms (nI K) tu c S1 5 (fm_Mod_solve_L5 ms (nI K) tu 5 (0 : Int32) 0).1 0 S1).2.2 = W) : ∀ (n j : Nat) (hd : Int32), j ≤ K → K - j < n → (¬ (fm_Mod_solve_L132 ms (nI K) tu c S1 n hd j).1 = 0 ↔ ¬ hd = 0 ∧ ∀ i : Nat, j ≤ i → i < K → fL W 1 (fA W 11 i).toNatClampNeg = 1) := by
  intro n
  induction n with
  | zero => intro j hd _ h; exact absurd h (Nat.not_lt_zero _)
  | succ n ih =>
    intro j hd hj hm
    rw [fm_Mod_solve_L132, eW]
    by_cases q : nI K ≤ nI j
    · rw [if_pos q]
      have hge : K ≤ j := wl_ge q (by omega)
      exact ⟨fun h => ⟨h, fun i h1 h2 => absurd h2 (by omega)⟩, fun h => h.1⟩
    · rw [if_neg q]
      have hlt : j < K := wl_lt q (by omega)
      by_cases z : hd = (0 : Int32)
      · rw [if_pos z]
        exact ⟨fun h => absurd z h, fun h => absurd z h.1⟩
      · rw [if_neg z, nI_clamp (by omega)]
        by_cases t : lg_cmp (fL W 1 (fA W 11 j).toNatClampNeg) (1 : Int64) = (0 : Int32)
        · rw [if_pos t, ih (j + 1) 1 (by omega) (by omega)]
          have t1 := (lg_cmp_eq _ _).mp t
          constructor
          · rintro ⟨_, h⟩
            refine ⟨z, fun i h1 h2 => ?_⟩
            by_cases e : i = j
            · rw [e]; exact t1
            · exact h i (by omega) h2
          · rintro ⟨_, h⟩
            exact ⟨by decide, fun i h1 h2 => h i (by omega) h2⟩
        · rw [if_neg t, ih (j + 1) 0 (by omega) (by omega)]
          constructor
          · rintro ⟨h, _⟩
            exact absurd rfl h
          · rintro ⟨_, h⟩
            exact absurd ((lg_cmp_eq _ _).mpr (h j (Nat.le_refl _) hlt)) t
def SolP (st : XS) (K Bt : Nat) (tu : Int32) (c : Nat) : Prop := Holds st K (c * 2 ^ (10 - Bt)) ∧ (¬ tu = 0 → xval st (nI (c * 2 ^ (10 - Bt))) (cnd st K) = 0)
theorem sv33 {st ms : XS} {V N K Bt : Nat} {tu : Int32} (h64 : N ≤ 64) (hV4 : V ≤ 4) (hX : XT st V N) (hN : gI ms 0 = nI N) (hV : gI ms 2 = nI V) (hS : SR st ms N) (hT : TabOK (fL st 0) (fA ms 10)) (hVB : VB st ms V Bt) (hBt10 : Bt ≤ 10) (hK : K ≤ 16) (hrow : ∀ i : Nat, (i < K ∨ (¬ tu = 0 ∧ i = K)) → fA ms 11 i = fA st 10 i ∧ cnd st i < N ∧ fA st 4 (cnd st i) = 1) : ∀ (n c : Nat) (S1 : XS), c ≤ 2 ^ Bt → 2 ^ Bt - c < n → XF [] [7] [1] ms S1 → (∀ i : Nat, i < c → ¬ SolP st K Bt tu i) → ((fm_Mod_solve_L33 ms (nI K) tu n c S1).1 = 0 ∧ ∀ i : Nat, i < 2 ^ Bt → ¬ SolP st K Bt tu i) ∨ ((fm_Mod_solve_L33 ms (nI K) tu n c S1).1 = 1 ∧ ∃ i : Nat, i < 2 ^ Bt ∧ SolP st K Bt tu i ∧ (∀ j : Nat, j < i → ¬ SolP st K Bt tu j) ∧ ∀ v : Nat, v < V → fA (fm_Mod_solve_L33 ms (nI K) tu n c S1).2 7 v = fx_Vars_bitsAt st (nI v) (nI (i * 2 ^ (10 - Bt)))) := by
  have h5 : (fm_Mod_solve_L5 ms (nI K) tu 5 (0 : Int32) 0).1 = nI Bt := by
    rw [wm_sum hV hV4, hVB.sum V (Nat.le_refl _), hVB.2]
  intro n
  induction n with
  | zero => intro c S1 _ h; exact absurd h (Nat.not_lt_zero _)
  | succ n ih =>
    intro c S1 hc hm hF hK0
    obtain ⟨W, eW⟩ : ∃ z, fm_Mod_work (fm_Mod_solve_L47 ms (nI K) tu c S1 5 (fm_Mod_solve_L5 ms (nI K) tu 5 (0 : Int32) 0).1 0 S1).2.2 = z := ⟨_, rfl⟩
    rw [fm_Mod_solve_L33, eW, h5, wm_sh hBt10]
    by_cases q : nI (2 ^ Bt) ≤ nI c
    · rw [if_pos q]
      have hge : 2 ^ Bt ≤ c := wl_ge q (wl_plt hBt10 (Nat.le_refl _))
      exact Or.inl ⟨rfl, fun i hi => hK0 i (by omega)⟩
    · rw [if_neg q]
      have hlt : c < 2 ^ Bt := wl_lt q (wl_plt hBt10 hc)
      obtain ⟨S2, e2⟩ : ∃ z, (fm_Mod_solve_L47 ms (nI K) tu c S1 5 (fm_Mod_solve_L5 ms (nI K) tu 5 (0 : Int32) 0).1 0 S1).2.2 = z := ⟨_, rfl⟩
      have f2 : XF [] [7] [1] ms S2 := by
        rw [← e2]; exact fr_Mod_solve_L47 ms (nI K) tu c S1 5 _ 0 S1 hF
      have v2 : ∀ v : Nat, v < V → fA S2 7 v = fx_Vars_bitsAt st (nI v) (nI (c * 2 ^ (10 - Bt))) := by
        rw [← e2]
        exact sv47 hVB hV4 hBt10 hlt 5 0 _ S1 (Nat.zero_le _) (by omega) h5 ((hF.I 2 (by decide)).trans hV) (hF.A 5 (by decide)) (fun v hv => absurd hv (Nat.not_lt_zero _))
      have eW2 : fm_Mod_work S2 = W := by rw [← e2]; exact eW
      have fW := ff_Mod_work S2
      have hw := workN (asg := nI (c * 2 ^ (10 - Bt))) h64 hV4 hX ((f2.I 0 (by decide)).trans hN) (hS.fr (XF.rf (Is := []) (As := []) (Ls := [])) (by decide) (by decide) f2 (by decide) (by decide)) (by rw [f2.A 10 (by decide)]; exact hT) (by rw [f2.A 5 (by decide), f2.A 9 (by decide)]; exact hVB.B) v2
      rw [eW2] at fW hw
      have FW : XF [] [7] [1] ms W := XF.tr f2 (fW.mono (by decide) (by decide) (by decide))
      have vW : ∀ v : Nat, v < V → fA W 7 v = fx_Vars_bitsAt st (nI v) (nI (c * 2 ^ (10 - Bt))) := by
        rw [fW.A 7 (by decide)]; exact v2
      have one : ∀ i : Nat, (i < K ∨ (¬ tu = 0 ∧ i = K)) → fL W 1 (fA W 11 i).toNatClampNeg = rp 1 (xval st (nI (c * 2 ^ (10 - Bt))) (cnd st i)) ∧ nrm 1 (xval st (nI (c * 2 ^ (10 - Bt))) (cnd st i)) := by
        intro i hi
        obtain ⟨r1, r2, r3⟩ := hrow i hi
        have hn := xvalN (n := nI (c * 2 ^ (10 - Bt))) hX h64 hV4 _ r2
        have hx := hw _ r2
        rw [r3] at hn hx
        refine ⟨?_, hn⟩
        rw [FW.A 11 (by decide), r1]
        exact hx
      have z1 : ∀ x : Int64, nrm 1 x → (rp 1 x = 0 ↔ x = 0) := fun x hx => rp_eq0 (k := 1) (by decide) (by decide) hx
      have hh : (∀ i : Nat, 0 ≤ i → i < K → fL W 1 (fA W 11 i).toNatClampNeg = 1) ↔ Holds st K (c * 2 ^ (10 - Bt)) := by
        constructor
        · intro h i hi
          obtain ⟨o1, o2⟩ := one i (Or.inl hi)
          exact (rp1_1 o2).mp (o1.symm.trans (h i (Nat.zero_le _) hi))
        · intro h i _ hi
          obtain ⟨o1, o2⟩ := one i (Or.inl hi)
          exact o1.trans ((rp1_1 o2).mpr (h i hi))
      have m1 := sv132 (tu := tu) hK eW 17 0 1 (Nat.zero_le _) (by omega)
      have m0 := sv132 (tu := tu) hK eW 17 0 0 (Nat.zero_le _) (by omega)
      by_cases tz : tu = (0 : Int32)
      · rw [if_pos tz]
        by_cases z : (fm_Mod_solve_L132 ms (nI K) tu c S1 17 (1 : Int32) 0).1 = (0 : Int32)
        · rw [if_pos z]
          refine ih (c + 1) W (by omega) (by omega) FW (fun i hi => ?_)
          by_cases e : i = c
          · rw [e]; exact fun hs => m1.mpr ⟨by decide, hh.mpr hs.1⟩ z
          · exact hK0 i (by omega)
        · rw [if_neg z]
          exact Or.inr ⟨rfl, c, hlt, ⟨hh.mp (m1.mp z).2, fun h => absurd tz h⟩, hK0, vW⟩
      · rw [if_neg tz, nI_clamp (by omega)]
        by_cases zk : lg_cmp (fL W 1 (fA W 11 K).toNatClampNeg) (0 : Int64) = (0 : Int32)
        · rw [if_pos zk]
          obtain ⟨o1, o2⟩ := one K (Or.inr ⟨tz, rfl⟩)
          have xz : xval st (nI (c * 2 ^ (10 - Bt))) (cnd st K) = 0 := (z1 _ o2).mp (o1.symm.trans ((lg_cmp_eq _ _).mp zk))
          by_cases z : (fm_Mod_solve_L132 ms (nI K) tu c S1 17 (1 : Int32) 0).1 = (0 : Int32)
          · rw [if_pos z]
            refine ih (c + 1) W (by omega) (by omega) FW (fun i hi => ?_)
            by_cases e : i = c
            · rw [e]; exact fun hs => m1.mpr ⟨by decide, hh.mpr hs.1⟩ z
            · exact hK0 i (by omega)
          · rw [if_neg z]
            exact Or.inr ⟨rfl, c, hlt, ⟨hh.mp (m1.mp z).2, fun _ => xz⟩, hK0, vW⟩
        · rw [if_neg zk]
          obtain ⟨o1, o2⟩ := one K (Or.inr ⟨tz, rfl⟩)
          by_cases z : (fm_Mod_solve_L132 ms (nI K) tu c S1 17 (0 : Int32) 0).1 = (0 : Int32)
          · rw [if_pos z]
            refine ih (c + 1) W (by omega) (by omega) FW (fun i hi => ?_)
            by_cases e : i = c
            · rw [e]; exact fun hs => zk ((lg_cmp_eq _ _).mpr (o1.trans ((z1 _ o2).mpr (hs.2 tz))))
            · exact hK0 i (by omega)
          · exact absurd rfl (m0.mp z).1
theorem solveN {st ms : XS} {V N K Bt : Nat} {tu : Int32} (h64 : N ≤ 64) (hV4 : V ≤ 4) (hX : XT st V N) (hN : gI ms 0 = nI N) (hV : gI ms 2 = nI V) (hS : SR st ms N) (hT : TabOK (fL st 0) (fA ms 10)) (hVB : VB st ms V Bt) (hBt10 : Bt ≤ 10) (hK : K ≤ 16) (hrow : ∀ i : Nat, (i < K ∨ (¬ tu = 0 ∧ i = K)) → fA ms 11 i = fA st 10 i ∧ cnd st i < N ∧ fA st 4 (cnd st i) = 1) {P : Nat → Prop} {r : Int32} (hP : FirstOf P r) (hinv : ∀ m : Nat, m < 1024 → P m → P (m / 2 ^ (10 - Bt) * 2 ^ (10 - Bt))) (hPS : ∀ c : Nat, c < 2 ^ Bt → (P (c * 2 ^ (10 - Bt)) ↔ SolP st K Bt tu c)) : (r = -1 ∧ (fm_Mod_solve ms (nI K) tu).1 = 0) ∨ ∃ m : Nat, m < 1024 ∧ m % 2 ^ (10 - Bt) = 0 ∧ r = nI m ∧ (fm_Mod_solve ms (nI K) tu).1 = 1 ∧ ∀ v : Nat, v < V → fA (fm_Mod_solve ms (nI K) tu).2 7 v = fx_Vars_bitsAt st (nI v) (nI m) := by
  have hp := wl_p2 hBt10
  have hpos := wl_p2pos (10 - Bt)
  have h := sv33 h64 hV4 hX hN hV hS hT hVB hBt10 hK hrow 1025 0 ms (Nat.zero_le _) (by have := wl_p2le hBt10; omega) XF.rf (fun i hi => absurd hi (Nat.not_lt_zero _))
  rw [fm_Mod_solve]
  rcases hP with ⟨e, hn⟩ | ⟨m, hm, e, hPm, hl⟩
  · rcases h with ⟨h1, h2⟩ | ⟨h1, i, hi, hs, _⟩
    · exact Or.inl ⟨e, h1⟩
    · exact absurd ((hPS i hi).mpr hs) (hn _ (by have := wl_fg hBt10 hi; omega))
  · have hd : m / 2 ^ (10 - Bt) * 2 ^ (10 - Bt) ≤ m := Nat.div_mul_le_self _ _
    have em : m / 2 ^ (10 - Bt) * 2 ^ (10 - Bt) = m := by
      rcases Nat.lt_or_ge (m / 2 ^ (10 - Bt) * 2 ^ (10 - Bt)) m with q | q
      · exact absurd (hinv m hm hPm) (hl _ q)
      · exact Nat.le_antisymm hd q
    have hc : m / 2 ^ (10 - Bt) < 2 ^ Bt := Nat.div_lt_of_lt_mul (by rw [Nat.mul_comm, hp]; exact hm)
    have hPc : SolP st K Bt tu (m / 2 ^ (10 - Bt)) := (hPS _ hc).mp (by rw [em]; exact hPm)
    rcases h with ⟨h1, h2⟩ | ⟨h1, i, hi, hs, hl2, hv⟩
    · exact absurd hPc (h2 _ hc)
    · have ei : i = m / 2 ^ (10 - Bt) := by
        rcases Nat.lt_trichotomy i (m / 2 ^ (10 - Bt)) with q | q | q
        · have q2 : (i + 1) * 2 ^ (10 - Bt) ≤ m / 2 ^ (10 - Bt) * 2 ^ (10 - Bt) := Nat.mul_le_mul_right _ q
          rw [em, Nat.succ_mul] at q2
          exact absurd ((hPS i hi).mpr hs) (hl _ (by omega))
        · exact q
        · exact absurd hPc (hl2 _ q)
      refine Or.inr ⟨m, hm, ?_, e, h1, fun v hv2 => ?_⟩
      · have q : (m / 2 ^ (10 - Bt) * 2 ^ (10 - Bt)) % 2 ^ (10 - Bt) = 0 := Nat.mul_mod_left _ _
        rw [em] at q; exact q
      · have q := hv v hv2
        rw [ei, em] at q; exact q
theorem ansL {st0 ms : XS} {V : Nat} {fd : Int32} (hV4 : V ≤ 4) : ∀ (n i : Nat) (S1 : XS), i ≤ 4 → 4 - i < n → gI S1 2 = nI V → fA S1 7 = fA ms 7 → (∀ v : Nat, v < i → fA S1 8 v = if v < V then fA ms 7 v else 0) → (fm_Mod_answer_L36 st0 fd n i S1).1 = 1 ∧ ∀ v : Nat, v < 4 → fA (fm_Mod_answer_L36 st0 fd n i S1).2 8 v = if v < V then fA ms 7 v else 0 := by
  intro n
  induction n with
  | zero => intro i S1 _ h; exact absurd h (Nat.not_lt_zero _)
  | succ n ih =>
    intro i S1 hi hm h2 h7 hK
    rw [fm_Mod_answer_L36, h2]
    have w7 : ∀ x : Int32, fA (wA S1 8 i x) 7 = fA ms 7 := fun x => ((show XF [] [8] [] S1 (wA S1 8 i x) from XF.wA (by decide) XF.rf).A 7 (by decide)).trans h7
    have grow : ∀ x : Int32, (x = if i < V then fA ms 7 i else 0) → ∀ v : Nat, v < i + 1 → fA (wA S1 8 i x) 8 v = if v < V then fA ms 7 v else 0 := by
      intro x hx v hv
      show upd (fA S1 8) i x v = _
      by_cases e : v = i
      · rw [e, pk_us]; exact hx
      · rw [pk_un e]; exact hK v (by omega)
    by_cases q : (4 : Int32) ≤ nI i
    · rw [if_pos q]
      have hge : 4 ≤ i := wl_ge (N := 4) q (by omega)
      exact ⟨rfl, fun v hv => hK v (by omega)⟩
    · rw [if_neg q]
      have hlt : i < 4 := wl_lt (N := 4) q (by omega)
      rw [nI_clamp (by omega)]
      by_cases c : nI V ≤ nI i
      · rw [if_pos c]
        have hge : V ≤ i := wl_ge c (by omega)
        exact ih (i + 1) _ (by omega) (by omega) h2 (w7 _) (grow _ (by rw [if_neg (by omega)]))
      · rw [if_neg c]
        have hlt2 : i < V := wl_lt c (by omega)
        exact ih (i + 1) _ (by omega) (by omega) h2 (w7 _) (grow _ (by rw [if_pos hlt2, h7]))
theorem ansN {ms : XS} {V : Nat} (hV4 : V ≤ 4) (hV : gI ms 2 = nI V) : (fm_Mod_answer ms 1).1 = 1 ∧ (∀ v : Nat, v < 4 → fA (fm_Mod_answer ms 1).2 8 v = if v < V then fA ms 7 v else 0) ∧ XF [4, 6] [8] [] ms (fm_Mod_answer ms 1).2 ∧ gI (fm_Mod_answer ms 1).2 4 = gI ms 4 + 1 ∧ gI (fm_Mod_answer ms 1).2 6 = nI V := by
  rw [fm_Mod_answer, if_neg (show ¬ (1 : Int32) = 0 by decide)]
  obtain ⟨S0, e0⟩ : ∃ z, wI (wI ms 4 ((gI ms 4) + (1 : Int32))) 6 (gI ms 2) = z := ⟨_, rfl⟩
  have f0 : XF [4, 6] [] [] ms S0 := by rw [← e0]; exact XF.wI (by decide) (XF.wI (by decide) XF.rf)
  have g4 : gI S0 4 = gI ms 4 + 1 := by rw [← e0]; rfl
  have g6 : gI S0 6 = nI V := by rw [← e0]; exact hV
  rw [e0]
  obtain ⟨h1, h2⟩ := ansL (st0 := ms) (ms := ms) (fd := 1) hV4 5 0 S0 (by omega) (by omega) ((f0.I 2 (by decide)).trans hV) (f0.A 7 (by decide)) (fun v hv => absurd hv (Nat.not_lt_zero _))
  have fa : ∀ (n i : Nat) (S1 : XS), XF [] [8] [] S0 S1 → XF [] [8] [] S0 (fm_Mod_answer_L36 ms 1 n i S1).2 := by
    intro n
    induction n with
    | zero => intro i S1 h; exact h
    | succ n ih =>
      intro i S1 h
      rw [fm_Mod_answer_L36]
      exact (wl_ite (P := fun (q : Int32 × XS) => XF [] [8] [] _ (q.2)) (wl_snd h) (wl_ite (P := fun (q : Int32 × XS) => XF [] [8] [] _ (q.2)) (ih _ _ (XF.wA (by decide) h)) (ih _ _ (XF.wA (by decide) h))))
  have f1 := fa 5 0 S0 XF.rf
  exact ⟨h1, h2, XF.tr (f0.mono (by decide) (by decide) (by decide)) (f1.mono (by decide) (by decide) (by decide)), (f1.I 4 (by decide)).trans g4, (f1.I 6 (by decide)).trans g6⟩
