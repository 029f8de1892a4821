theorem readAt_fr {Is As Ls : List Nat} {st S : XS} (hF : XF Is As Ls st S) (hA : ∀ k ∈ [0, 1, 2], k ∉ As) (v n : Int32) : fx_Vars_readAt S v n = fx_Vars_readAt st v n := by
  rw [fx_Vars_readAt, fx_Vars_readAt, fx_Vars_bitsAt, fx_Vars_bitsAt, hF.A 0 (hA 0 (by decide)), hF.A 1 (hA 1 (by decide)), hF.A 2 (hA 2 (by decide))]
def NC (st : XS) (N : Nat) : Prop := ∀ t j : Nat, t < N → j < 3 → nI j < fx_Op_namedTerms (fA st 3 t) → ¬ fA st 7 t = 0 → ¬ fA st 7 (fA st 5 (3 * t + j)).toNatClampNeg = 0
theorem ev_op {st S1 : XS} {i : Nat} {asg : Int32} (hE : XF [] [] [2] st S1) (hi : i < 64) (h21 : ¬ fA st 3 i = 21) (h22 : ¬ fA st 3 i = 22) : fx_Eval_apply_r S1 (fx_Terms_operationOf S1 (nI i)) (fx_Terms_operandOf S1 (nI i) (0 : Int32)) (fx_Terms_operandOf S1 (nI i) (1 : Int32)) (fx_Terms_operandOf S1 (nI i) (2 : Int32)) = xstep st asg (fL S1 2) i := by
  rw [wl_opo hi, wl_op0 hi, wl_op1 hi, wl_op2 hi, apr_opv, fx_Terms_widthOf, hE.A 3 (by decide), hE.A 4 (by decide), hE.A 5 (by decide), hE.L 0 (by decide)]
  unfold xstep
  rw [if_neg h21, if_neg h22]
  rfl
theorem evL {st : XS} {V N : Nat} {asg : Int32} (hN : gI st 6 = nI N) (h64 : N ≤ 64) (hX : XT st V N) (hC : NC st N) : ∀ (n i : Nat) (S1 : XS), i ≤ N → N - i < n → XF [] [] [2] st S1 → (∀ j : Nat, j < i → ¬ fA st 7 j = 0 → fL S1 2 j = xval st asg j) → ∀ j : Nat, j < N → ¬ fA st 7 j = 0 → fL (fx_Eval_evaluateNeeded_L10 st asg n i S1) 2 j = xval st asg j := by
  intro n
  induction n with
  | zero => intro i S1 _ h; exact absurd h (Nat.not_lt_zero _)
  | succ n ih =>
    intro i S1 hi hm hE hK
    rw [fx_Eval_evaluateNeeded_L10]
    by_cases c12 : fx_Terms_size st ≤ nI i
    · rw [if_pos c12]
      have hge : N ≤ i := wl_ge (by rw [← hN]; exact c12) (by omega)
      intro j hj; exact hK j (by omega)
    · rw [if_neg c12]
      have hlt : i < N := wl_lt (by rw [← hN]; exact c12) (by omega)
      have grow : ∀ v : Int64, v = xval st asg i → ∀ j : Nat, j < i + 1 → ¬ fA st 7 j = 0 → fL (wL S1 2 i v) 2 j = xval st asg j := by
        intro v hv j hj hn
        show vp_updL (fL S1 2) i v j = _
        by_cases e : j = i
        · rw [e, pk_uLs]; exact hv
        · rw [pk_uLn e]; exact hK j (by omega) hn
      rw [nI_clamp (by omega), hE.A 7 (by decide)]
      by_cases c21 : fA st 7 i = (0 : Int32)
      · rw [if_pos c21]
        refine ih _ _ (by omega) (by omega) hE (fun j hj hn => ?_)
        by_cases e : j = i
        · exact absurd (by rw [e]; exact c21) hn
        · exact hK j (by omega) hn
      · rw [if_neg c21]
        have hT := hX.1 i hlt
        by_cases c52 : fx_Terms_operationOf S1 (nI i) = (21 : Int32)
        · rw [if_pos c52]
          rw [wl_opo (by omega), hE.A 3 (by decide)] at c52
          refine ih _ _ (by omega) (by omega) (XF.wL (by decide) hE) (grow _ ?_)
          rw [hE.L 1 (by decide)]
          unfold xval xstep
          rw [if_pos c52]
        · rw [if_neg c52]
          have d52 := c52
          rw [wl_opo (by omega), hE.A 3 (by decide)] at d52
          by_cases c77 : fx_Terms_operationOf S1 (nI i) = (22 : Int32)
          · rw [if_pos c77]
            rw [wl_opo (by omega), hE.A 3 (by decide)] at c77
            refine ih _ _ (by omega) (by omega) (XF.wL (by decide) hE) (grow _ ?_)
            rw [readAt_fr hE (by decide), wl_op0 (by omega), hE.A 5 (by decide)]
            unfold xval xstep
            rw [if_neg d52, if_pos c77]
          · rw [if_neg c77]
            rw [wl_opo (by omega), hE.A 3 (by decide)] at c77
            refine ih _ _ (by omega) (by omega) (XF.wL (by decide) hE) (grow _ ?_)
            rw [ev_op (asg := asg) hE (by omega) d52 c77, xval_eq hX h64 hlt]
            refine xstep_congr hT (fun j hj q => ?_)
            exact hK _ (hT.lt (by omega) j hj q) (hC i j hlt hj q c21)
theorem evN {st : XS} {V N : Nat} {asg : Int32} (hN : gI st 6 = nI N) (h64 : N ≤ 64) (hX : XT st V N) (hC : NC st N) : ∀ j : Nat, j < N → ¬ fA st 7 j = 0 → fL (fx_Eval_evaluateNeeded st asg) 2 j = xval st asg j := by
  rw [fx_Eval_evaluateNeeded]
  exact evL hN h64 hX hC 65 0 st (Nat.zero_le _) (by omega) XF.rf (fun j hj => absurd hj (Nat.not_lt_zero _))
theorem xvs_fr {Is As Ls : List Nat} {st S : XS} {asg : Int32} (hF : XF Is As Ls st S) (hA : ∀ k ∈ [0, 1, 2, 3, 4, 5], k ∉ As) (hL : ∀ k ∈ [0, 1], k ∉ Ls) : ∀ t : Nat, xvs S asg t = xvs st asg t := by
  have h3 := hF.A 3 (hA 3 (by decide))
  have h4 := hF.A 4 (hA 4 (by decide))
  have h5 := hF.A 5 (hA 5 (by decide))
  have l0 := hF.L 0 (hL 0 (by decide))
  have l1 := hF.L 1 (hL 1 (by decide))
  have hs : ∀ (K : Nat → Int64) (t : Nat), xstep S asg K t = xstep st asg K t := by
    intro K t
    unfold xstep oA oB oC
    rw [h3, h4, h5, l0, l1, readAt_fr hF (fun k hk => hA k (by revert k; decide))]
  intro t
  induction t with
  | zero => rfl
  | succ t ih =>
    funext j
    show (if j = t then xstep S asg (xvs S asg t) t else xvs S asg t j) = (if j = t then xstep st asg (xvs st asg t) t else xvs st asg t j)
    rw [ih, hs]
theorem xval_fr {Is As Ls : List Nat} {st S : XS} {asg : Int32} (hF : XF Is As Ls st S) (hA : ∀ k ∈ [0, 1, 2, 3, 4, 5], k ∉ As) (hL : ∀ k ∈ [0, 1], k ∉ Ls) (t : Nat) : xval S asg t = xval st asg t := by
  have q := congrFun (xvs_fr (asg := asg) hF hA hL (t + 1)) t
  rw [xvs_lt (t + 1) t (by omega), xvs_lt (t + 1) t (by omega)] at q
  exact q
