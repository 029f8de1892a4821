theorem nar1 : vp_nar .boolean (1 : Int32) = 1 := by decide
theorem nar0 : vp_nar .boolean (0 : Int32) = 0 := by decide
theorem nd41 {st S0 S1 : XS} {t : Nat} {nm : Int32} (ht : t < 64) (hnm : nm ≤ (3 : Int32)) (hlo : ∀ j : Nat, j < 3 → nI j < nm → (fA S0 5 (3 * t + j)).toNatClampNeg < t) :
    ∀ (n j : Nat) (S2 : XS), XF [] [7] [] S0 S2 → j ≤ 3 → 3 - j < n →
      (∀ p : Nat, ¬ fA S2 7 p = 0 → ¬ fA (fx_Eval_needOperands_L41 st (nI t) S1 n nm j S2).2.2 7 p = 0) ∧
      (∀ k : Nat, j ≤ k → k < 3 → nI k < nm → ¬ fA (fx_Eval_needOperands_L41 st (nI t) S1 n nm j S2).2.2 7 (fA S0 5 (3 * t + k)).toNatClampNeg = 0) ∧
      (∀ p : Nat, t ≤ p → fA (fx_Eval_needOperands_L41 st (nI t) S1 n nm j S2).2.2 7 p = fA S2 7 p) := by
  intro n
  induction n with
  | zero => intro j S2 _ _ h; exact absurd h (Nat.not_lt_zero _)
  | succ n ih =>
    intro j S2 hF hj hm
    rw [fx_Eval_needOperands_L41]
    by_cases c : nm ≤ nI j
    · rw [if_pos c]
      refine ⟨fun p h => h, fun k hk hk3 hq => ?_, fun p _ => rfl⟩
      exact absurd (Int32.lt_of_lt_of_le hq (Int32.le_trans c (nI_le hk (by omega)))) (Int32.lt_irrefl)
    · rw [if_neg c]
      have hj3 : j < 3 := wl_lt3 hj hnm c
      have hq : nI j < nm := wl_nle c
      rw [wl_opn ht hj3, hF.A 5 (by decide), nar1]
      obtain ⟨S3, e3⟩ : ∃ z, wA S2 7 (fA S0 5 (3 * t + j)).toNatClampNeg (1 : Int32) = z := ⟨_, rfl⟩
      have f3 : ∀ p : Nat, fA S3 7 p = upd (fA S2 7) (fA S0 5 (3 * t + j)).toNatClampNeg 1 p := fun p => by rw [← e3]; rfl
      rw [e3]
      obtain ⟨i1, i2, i3⟩ := ih (j + 1) S3 (by rw [← e3]; exact XF.wA (by decide) hF) (by omega) (by omega)
      have mono : ∀ p : Nat, ¬ fA S2 7 p = 0 → ¬ fA S3 7 p = 0 := by
        intro p h
        rw [f3]
        by_cases e : p = (fA S0 5 (3 * t + j)).toNatClampNeg
        · rw [e, pk_us]; decide
        · rw [pk_un e]; exact h
      refine ⟨fun p h => i1 p (mono p h), fun k hk hk3 hq2 => ?_, fun p hp => ?_⟩
      · by_cases e : k = j
        · subst e
          refine i1 _ ?_
          rw [f3, pk_us]; decide
        · exact i2 k (by omega) hk3 hq2
      · rw [i3 p hp, f3, pk_un]
        have := hlo j hj3 hq
        omega
theorem ndL {st : XS} {V N : Nat} (h64 : N ≤ 64) (hX : XT st V N) : ∀ (n i : Nat) (S1 : XS), i ≤ N → i < n → XF [] [7] [] st S1 →
    (∀ t j : Nat, i ≤ t → t < N → j < 3 → nI j < fx_Op_namedTerms (fA st 3 t) → ¬ fA S1 7 t = 0 → ¬ fA S1 7 (fA st 5 (3 * t + j)).toNatClampNeg = 0) →
    (∀ t j : Nat, t < N → j < 3 → nI j < fx_Op_namedTerms (fA st 3 t) → ¬ fA (fx_Eval_needOperands_L10 st n (nI i - (1 : Int32)) S1) 7 t = 0 → ¬ fA (fx_Eval_needOperands_L10 st n (nI i - (1 : Int32)) S1) 7 (fA st 5 (3 * t + j)).toNatClampNeg = 0) ∧
    (∀ p : Nat, ¬ fA S1 7 p = 0 → ¬ fA (fx_Eval_needOperands_L10 st n (nI i - (1 : Int32)) S1) 7 p = 0) := by
  intro n
  induction n with
  | zero => intro i S1 _ h; exact absurd h (Nat.not_lt_zero _)
  | succ n ih =>
    intro i S1 hi hm hF hcl
    cases i with
    | zero =>
      rw [fx_Eval_needOperands_L10, if_pos (show nI 0 - (1 : Int32) < (0 : Int32) by decide)]
      exact ⟨fun t j ht => hcl t j (Nat.zero_le _) ht, fun p h => h⟩
    | succ t =>
      rw [nI_pred, fx_Eval_needOperands_L10, if_neg (show ¬ nI t < (0 : Int32) from nI_pos (by omega)), nI_clamp (by omega), wl_m1]
      have hT := hX.1 t (by omega)
      by_cases c : fA S1 7 t = (0 : Int32)
      · rw [if_pos c, fx_Eval_needOperands_L41, if_pos (show (0 : Int32) ≤ nI 0 by decide)]
        refine ih t S1 (by omega) (by omega) hF (fun u j hu huN hj hq hn => ?_)
        by_cases e : u = t
        · rw [e] at hn; exact absurd c hn
        · exact hcl u j (by omega) huN hj hq hn
      · rw [if_neg c, wl_opo (by omega), hF.A 3 (by decide)]
        obtain ⟨q1, q2, q3⟩ := nd41 (st := st) (S0 := st) (S1 := S1) (t := t) (nm := fx_Op_namedTerms (fA st 3 t)) (by omega) (wl_nmle _) (fun j hj hq => hT.lt (by omega) j hj hq) 4 0 S1 hF (by omega) (by omega)
        have f1 := fr_Eval_needOperands_L41 st (nI t) S1 4 (fx_Op_namedTerms (fA st 3 t)) 0 S1 hF
        obtain ⟨S2, e2⟩ : ∃ z, (fx_Eval_needOperands_L41 st (nI t) S1 4 (fx_Op_namedTerms (fA st 3 t)) 0 S1).2.2 = z := ⟨_, rfl⟩
        rw [e2] at q1 q2 q3 f1 ⊢
        obtain ⟨r1, r2⟩ := ih t S2 (by omega) (by omega) f1 (fun u j hu huN hj hq hn => by
          by_cases e : u = t
          · subst e; exact q2 j (Nat.zero_le _) hj hq
          · rw [q3 u (by omega)] at hn
            exact q1 _ (hcl u j (by omega) huN hj hq hn))
        exact ⟨r1, fun p h => r2 p (q1 p h)⟩
theorem ndN {st : XS} {V N : Nat} (hN : gI st 6 = nI N) (h64 : N ≤ 64) (hX : XT st V N) : NC (fx_Eval_needOperands st) N ∧ ∀ p : Nat, ¬ fA st 7 p = 0 → ¬ fA (fx_Eval_needOperands st) 7 p = 0 := by
  have f := ff_Eval_needOperands st
  unfold NC
  rw [f.A 3 (by decide), f.A 5 (by decide)]
  rw [fx_Eval_needOperands, show fx_Terms_size st = nI N from hN]
  exact ndL h64 hX 65 N st (Nat.le_refl _) (by omega) XF.rf (fun t j h1 h2 => absurd h2 (by omega))
