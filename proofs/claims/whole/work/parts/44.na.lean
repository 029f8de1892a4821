theorem naL {st : XS} {Q F G : Nat} (hQ : gI st 8 = nI Q) (hQ64 : Q ≤ 64) (hak : ∀ j : Nat, j < Q → vp_in (fA st 9 j) 64) (hFG : F + G ≤ 1024) : ∀ (n i : Nat) (S1 : XS), i ≤ Q → Q - i < n → XF [] [] [3] st S1 → ∀ t m : Nat, t < 64 → m < 1024 →
    (rbit (fx_Rows_noteAsked_L2 st (nI F) (nI G) n i S1) t m = true ↔ rbit S1 t m = true ∨ ((∃ k : Nat, i ≤ k ∧ k < Q ∧ (fA st 9 k).toNatClampNeg = t) ∧ ¬ fL st 2 t = 0 ∧ F ≤ m ∧ m < F + G)) := by
  intro n
  induction n with
  | zero => intro i S1 _ h; exact absurd h (Nat.not_lt_zero _)
  | succ n ih =>
    intro i S1 hi hm hE t m ht hm2
    rw [fx_Rows_noteAsked_L2, hE.I 8 (by decide), hQ]
    by_cases c : nI Q ≤ nI i
    · rw [if_pos c]
      have hge : Q ≤ i := wl_ge c (by omega)
      constructor
      · exact Or.inl
      · rintro (h | ⟨⟨k, h1, h2, _⟩, _⟩)
        · exact h
        · omega
    · rw [if_neg c]
      have hlt : i < Q := wl_lt c (by omega)
      obtain ⟨T, hT, eT⟩ := vp_in_of (hak i hlt) (by decide)
      rw [nI_clamp (by omega), hE.A 9 (by decide), eT]
      have er : fx_Eval_resultAt S1 (nI T) = fL st 2 T := by
        rw [fx_Eval_resultAt, nI_clamp (by omega), hE.L 2 (by decide)]
      have cT : (fA st 9 i).toNatClampNeg = T := by rw [eT, nI_clamp (by omega)]
      rw [er]
      by_cases c2 : lg_cmp (fL st 2 T) (0 : Int64) = (0 : Int32)
      · rw [if_pos c2]
        have z := (lg_cmp_eq _ _).mp c2
        rw [ih (i + 1) S1 (by omega) (by omega) hE t m ht hm2]
        constructor
        · rintro (h | ⟨⟨k, h1, h2, h3⟩, h4⟩)
          · exact Or.inl h
          · exact Or.inr ⟨⟨k, by omega, h2, h3⟩, h4⟩
        · rintro (h | ⟨⟨k, h1, h2, h3⟩, h4⟩)
          · exact Or.inl h
          · refine Or.inr ⟨⟨k, ?_, h2, h3⟩, h4⟩
            by_cases e : k = i
            · exact absurd (by rw [← h3, e, cT]; exact z) h4.1
            · omega
      · rw [if_neg c2]
        have nz : ¬ fL st 2 T = 0 := fun q => c2 ((lg_cmp_eq _ _).mpr q)
        rw [ih (i + 1) _ (by omega) (by omega) (XF.tr hE (ff_Rows_setBits _ _ _ _)) t m ht hm2, sbN hT hFG ht hm2, Bool.or_eq_true, decide_eq_true_eq]
        constructor
        · rintro ((h | ⟨h1, h2, h3⟩) | ⟨⟨k, h1, h2, h3⟩, h4⟩)
          · exact Or.inl h
          · exact Or.inr ⟨⟨i, Nat.le_refl _, hlt, by rw [cT]; exact h1.symm⟩, by rw [h1]; exact nz, h2, h3⟩
          · exact Or.inr ⟨⟨k, by omega, h2, h3⟩, h4⟩
        · rintro (h | ⟨⟨k, h1, h2, h3⟩, h4⟩)
          · exact Or.inl (Or.inl h)
          · by_cases e : k = i
            · exact Or.inl (Or.inr ⟨by rw [← h3, e, cT], h4.2.1, h4.2.2⟩)
            · exact Or.inr ⟨⟨k, by omega, h2, h3⟩, h4⟩
theorem naN {st : XS} {Q F G : Nat} (hQ : gI st 8 = nI Q) (hQ64 : Q ≤ 64) (hak : ∀ j : Nat, j < Q → vp_in (fA st 9 j) 64) (hFG : F + G ≤ 1024) {t m : Nat} (ht : t < 64) (hm : m < 1024) :
    (rbit (fx_Rows_noteAsked st (nI F) (nI G)) t m = true ↔ rbit st t m = true ∨ ((∃ k : Nat, k < Q ∧ (fA st 9 k).toNatClampNeg = t) ∧ ¬ fL st 2 t = 0 ∧ F ≤ m ∧ m < F + G)) := by
  rw [fx_Rows_noteAsked, naL hQ hQ64 hak hFG 65 0 st (Nat.zero_le _) (by omega) XF.rf t m ht hm]
  constructor
  · rintro (h | ⟨⟨k, _, h2, h3⟩, h4⟩)
    · exact Or.inl h
    · exact Or.inr ⟨⟨k, h2, h3⟩, h4⟩
  · rintro (h | ⟨⟨k, h2, h3⟩, h4⟩)
    · exact Or.inl h
    · exact Or.inr ⟨⟨k, Nat.zero_le _, h2, h3⟩, h4⟩
