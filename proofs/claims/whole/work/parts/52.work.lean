def bs (f : Nat → Int32) : Nat → Nat
  | 0 => 0
  | n + 1 => bs f n + (f n).toNatClampNeg
theorem bs_mono (f : Nat → Int32) {a b : Nat} (h : a ≤ b) : bs f a ≤ bs f b := by
  induction b with
  | zero =>
    have e : a = 0 := by omega
    rw [e]; exact Nat.le_refl _
  | succ b ih =>
    rcases Nat.lt_or_ge a (b + 1) with q | q
    · exact Nat.le_trans (ih (by omega)) (Nat.le_add_right _ _)
    · have e : a = b + 1 := by omega
      rw [e]; exact Nat.le_refl _
theorem bs_congr {f g : Nat → Int32} : ∀ {n : Nat}, (∀ v : Nat, v < n → f v = g v) → bs f n = bs g n := by
  intro n
  induction n with
  | zero => intro _; rfl
  | succ n ih =>
    intro h
    show bs f n + (f n).toNatClampNeg = bs g n + (g n).toNatClampNeg
    rw [ih (fun v hv => h v (by omega)), h n (by omega)]
def VB (st ms : XS) (V Bt : Nat) : Prop := (∀ v : Nat, v < V → ∃ b : Nat, 1 ≤ b ∧ b ≤ 8 ∧ fA st 0 v = nI b ∧ fA ms 5 v = nI b ∧ fA st 1 v = nI (10 - bs (fA st 0) (v + 1)) ∧ fA ms 9 v = fA st 2 v) ∧ bs (fA st 0) V = Bt
theorem VB.sum {st ms : XS} {V Bt : Nat} (h : VB st ms V Bt) : ∀ n : Nat, n ≤ V → bsum (fA ms 5) n = nI (bs (fA st 0) n) := by
  intro n
  induction n with
  | zero => intro _; exact nI_0.symm
  | succ n ih =>
    intro hn
    obtain ⟨b, h1, h2, e0, e5, _⟩ := h.1 n (by omega)
    show bsum (fA ms 5) n + fA ms 5 n = nI (bs (fA st 0) n + (fA st 0 n).toNatClampNeg)
    rw [ih (by omega), e5, e0, nI_clamp (by omega), nI_add]
theorem VB.fr {Is As Ls Js Bs Ms : List Nat} {st ms S T : XS} {V Bt : Nat} (h : VB st ms V Bt) (hF : XF Is As Ls st S) (hA : ∀ k ∈ [0, 1, 2], k ∉ As) (hG : XF Js Bs Ms ms T) (hB : ∀ k ∈ [5, 9], k ∉ Bs) : VB S T V Bt := by
  unfold VB at *
  rw [hF.A 0 (hA 0 (by decide)), hF.A 1 (hA 1 (by decide)), hF.A 2 (hA 2 (by decide)), hG.A 5 (hB 5 (by decide)), hG.A 9 (hB 9 (by decide))]
  exact h
theorem VB.lo {st ms : XS} {V Bt : Nat} (h : VB st ms V Bt) (hB : Bt ≤ 10) : ∀ v : Nat, v < V → ∃ lo : Nat, fA st 1 v = nI lo ∧ 10 - Bt ≤ lo ∧ lo ≤ 10 := by
  intro v hv
  obtain ⟨b, h1, h2, e0, e5, e1, _⟩ := h.1 v hv
  have hle : bs (fA st 0) (v + 1) ≤ Bt := by rw [← h.2]; exact bs_mono _ hv
  exact ⟨_, e1, by omega, by omega⟩
def SRt (st ms : XS) (t : Nat) : Prop := fA ms 0 t = fA st 3 t ∧ fA ms 4 t = fA st 4 t ∧ (fA st 3 t = 21 → fL ms 0 t = rp (fA st 4 t) (fL st 1 t)) ∧ (¬ fA st 3 t = 21 → fA ms 1 t = fA st 5 (3 * t)) ∧ (¬ fA st 3 t = 21 → ¬ fA st 3 t = 22 → fA ms 2 t = fA st 5 (3 * t + 1) ∧ fA ms 3 t = fA st 5 (3 * t + 2))
def SR (st ms : XS) (N : Nat) : Prop := ∀ t : Nat, t < N → SRt st ms t
theorem SR.fr {Is As Ls Js Bs Ms : List Nat} {st ms S T : XS} {N : Nat} (h : SR st ms N) (hF : XF Is As Ls st S) (hA : ∀ k ∈ [3, 4, 5], k ∉ As) (hL : 1 ∉ Ls) (hG : XF Js Bs Ms ms T) (hB : ∀ k ∈ [0, 1, 2, 3, 4], k ∉ Bs) (hM : 0 ∉ Ms) : SR S T N := by
  unfold SR SRt at *
  rw [hF.A 3 (hA 3 (by decide)), hF.A 4 (hA 4 (by decide)), hF.A 5 (hA 5 (by decide)), hF.L 1 hL, hG.A 0 (hB 0 (by decide)), hG.A 1 (hB 1 (by decide)), hG.A 2 (hB 2 (by decide)), hG.A 3 (hB 3 (by decide)), hG.A 4 (hB 4 (by decide)), hG.L 0 hM]
  exact h
theorem mask8 : ∀ b, b < 9 → (((1 : Int32) <<< (nI b &&& 31)) - (1 : Int32)).toBitVec.toNat = 2 ^ b - 1 := by decide +kernel
theorem bitsAt_lt {st : XS} {v : Nat} {n : Int32} (hv : v < 4) (h : XVv st v) : ∃ q : Nat, q < 256 ∧ fx_Vars_bitsAt st (nI v) n = nI q := by
  obtain ⟨b, lo, h1, h2, h3, e0, e1⟩ := h
  obtain ⟨q, hq, e⟩ := pk_andE (n >>> ((fA st 1 v) &&& 31)) b (mask8 b (by omega))
  have h8 : 2 ^ b ≤ 2 ^ 8 := Nat.pow_le_pow_right (by decide) h2
  refine ⟨q, by omega, ?_⟩
  rw [fx_Vars_bitsAt, nI_clamp (by omega), e0]
  exact e
theorem wkL {st ms : XS} {V N : Nat} {asg : Int32} (h64 : N ≤ 64) (hV4 : V ≤ 4) (hX : XT st V N) (hN : gI ms 0 = nI N) (hS : SR st ms N) (hT : TabOK (fL st 0) (fA ms 10)) (hB : ∀ v : Nat, v < V → fA ms 5 v = fA st 0 v ∧ fA ms 9 v = fA st 2 v) (hv : ∀ v : Nat, v < V → fA ms 7 v = fx_Vars_bitsAt st (nI v) asg) : ∀ (n i : Nat) (S1 : XS), i ≤ N → N - i < n → XF [] [] [1] ms S1 → (∀ j : Nat, j < i → fL S1 1 j = rp (fA st 4 j) (xval st asg j)) → ∀ j : Nat, j < N → fL (fm_Mod_work_L2 ms n i S1) 1 j = rp (fA st 4 j) (xval st asg j) := by
  intro n
  induction n with
  | zero => intro i S1 _ h; exact absurd h (Nat.not_lt_zero _)
  | succ n ih =>
    intro i S1 hi hm hE hK
    rw [fm_Mod_work_L2, hE.I 0 (by decide), hN]
    by_cases c : nI N ≤ nI i
    · rw [if_pos c]
      have hge : N ≤ i := wl_ge c (by omega)
      intro j hj; exact hK j (by omega)
    · rw [if_neg c]
      have hlt : i < N := wl_lt c (by omega)
      have grow : ∀ v : Int64, v = rp (fA st 4 i) (xval st asg i) → ∀ j : Nat, j < i + 1 → fL (wL S1 1 i v) 1 j = rp (fA st 4 j) (xval st asg j) := by
        intro v hv j hj
        show vp_updL (fL S1 1) i v j = _
        by_cases e : j = i
        · rw [e, pk_uLs]; exact hv
        · rw [pk_uLn e]; exact hK j (by omega)
      obtain ⟨s0, s4, s21, s1, s23⟩ := hS i hlt
      have hT1 := hX.1 i hlt
      rw [nI_clamp (by omega), hE.A 0 (by decide), s0]
      by_cases h21 : fA st 3 i = (21 : Int32)
      · rw [if_pos h21]
        refine ih _ _ (by omega) (by omega) (XF.wL (by decide) hE) (grow _ ?_)
        rw [hE.L 0 (by decide), s21 h21]
        unfold xval xstep
        rw [if_pos h21]
      · rw [if_neg h21]
        by_cases h22 : fA st 3 i = (22 : Int32)
        · rw [if_pos h22]
          obtain ⟨v, hvV, ev⟩ := vp_in_of (hT1.o22 h22).2 (by omega)
          have a1 : fA ms 1 i = nI v := (s1 h21).trans ev
          rw [hE.A 1 (by decide), a1, nI_clamp (n := v) (by omega), hE.A 9 (by decide), hE.A 7 (by decide), hE.A 5 (by decide), (hB v hvV).1, (hB v hvV).2, hv v hvV]
          have xv : xval st asg i = fx_Vars_readAt st (nI v) asg := by
            unfold xval xstep
            rw [if_neg h21, if_pos h22, ev]
          by_cases sg : fA st 2 v = (0 : Int32)
          · rw [if_pos sg]
            refine ih _ _ (by omega) (by omega) (XF.wL (by decide) hE) (grow _ ?_)
            obtain ⟨q, hq, eq⟩ := bitsAt_lt (n := asg) (by omega) (hX.2.2 v hvV)
            rw [xv, (hT1.o22 h22).1, fx_Vars_readAt, nI_clamp (by omega), if_pos sg, rp8s, eq, nI_l (by omega), rp8n hq]
          · rw [if_neg sg]
            refine ih _ _ (by omega) (by omega) (XF.wL (by decide) hE) (grow _ ?_)
            rw [xv, (hT1.o22 h22).1, fx_Vars_readAt, nI_clamp (by omega), if_neg sg, cut_rp (Or.inr (Or.inl rfl)), sign_rs]
        · rw [if_neg h22]
          refine ih _ _ (by omega) (by omega) (XF.wL (by decide) hE) (grow _ ?_)
          rw [hE.A 1 (by decide), hE.A 2 (by decide), hE.A 3 (by decide), s1 h21, (s23 h21 h22).1, (s23 h21 h22).2, xval_eq hX h64 hlt]
          have lt := hT1.lt (by omega)
          have val : ∀ j : Nat, j < 3 → nI j < fx_Op_namedTerms (fA st 3 i) → nrm (fA st 4 (fA st 5 (3 * i + j)).toNatClampNeg) (xval st asg (fA st 5 (3 * i + j)).toNatClampNeg) ∧ fL S1 1 (fA st 5 (3 * i + j)).toNatClampNeg = rp (fA st 4 (fA st 5 (3 * i + j)).toNatClampNeg) (xval st asg (fA st 5 (3 * i + j)).toNatClampNeg) := fun j hj q => ⟨xvalN hX h64 hV4 _ (by have := lt j hj q; omega), hK _ (lt j hj q)⟩
          unfold xstep
          rw [if_neg h21, if_neg h22]
          have h0 := nt_0 hT1 h21 h22
          have l0 := lt 0 (by decide) h0
          have w0 : fA S1 4 (fA st 5 (3 * i)).toNatClampNeg = fA st 4 (oA st i) := by
            rw [hE.A 4 (by decide)]
            exact (hS _ (Nat.lt_trans l0 hlt)).2.1
          exact resM (hT1.ty (by omega) (fun j hj => (hX.1 j (by omega)).1) h21 h22) w0 (by rw [hE.A 10 (by decide)]; exact hT) (val 0 (by decide) h0).1 (val 0 (by decide) h0).2 (val 1 (by decide)) (val 2 (by decide))
theorem workN {st ms : XS} {V N : Nat} {asg : Int32} (h64 : N ≤ 64) (hV4 : V ≤ 4) (hX : XT st V N) (hN : gI ms 0 = nI N) (hS : SR st ms N) (hT : TabOK (fL st 0) (fA ms 10)) (hB : ∀ v : Nat, v < V → fA ms 5 v = fA st 0 v ∧ fA ms 9 v = fA st 2 v) (hv : ∀ v : Nat, v < V → fA ms 7 v = fx_Vars_bitsAt st (nI v) asg) : ∀ j : Nat, j < N → fL (fm_Mod_work ms) 1 j = rp (fA st 4 j) (xval st asg j) := by
  rw [fm_Mod_work]
  exact wkL h64 hV4 hX hN hS hT hB hv 65 0 ms (Nat.zero_le _) (by omega) XF.rf (fun j hj => absurd hj (Nat.not_lt_zero _))
theorem VB.B {st ms : XS} {V Bt : Nat} (h : VB st ms V Bt) : ∀ v : Nat, v < V → fA ms 5 v = fA st 0 v ∧ fA ms 9 v = fA st 2 v := by
  intro v hv
  obtain ⟨b, _, _, e0, e5, _, e9⟩ := h.1 v hv
  exact ⟨e5.trans e0.symm, e9⟩
