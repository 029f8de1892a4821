def RowOK (st : XS) (N : Nat) : Prop := ∀ t m : Nat, t < N → m < 1024 → ¬ fA st 8 t = 0 → (rbit st t m = true ↔ ¬ xval st (nI m) t = 0)
theorem NC.fr {Is As Ls : List Nat} {st S : XS} {N : Nat} (h : NC st N) (hF : XF Is As Ls st S) (hA : ∀ k ∈ [3, 5, 7], k ∉ As) : NC S N := by
  unfold NC at *
  rw [hF.A 3 (hA 3 (by decide)), hF.A 5 (hA 5 (by decide)), hF.A 7 (hA 7 (by decide))]
  exact h
theorem lnL {st : XS} {V N E Bt Q : Nat} (hN : gI st 6 = nI N) (h64 : N ≤ 64) (hX : XT st V N) (hBt10 : Bt ≤ 10) {Sb : XS} (hSb : fx_Eval_needOperands (fx_Rows_ask st (nI E)) = Sb) (hfree : fx_Vars_freeBits Sb = nI (10 - Bt)) (hFb : XF [8] [7, 8, 9] [3] st Sb) (hC : NC Sb N) (hQ : gI Sb 8 = nI Q) (hQ64 : Q ≤ 64) (hak : ∀ k : Nat, k < Q → vp_in (fA Sb 9 k) 64) (hfe : ∀ t : Nat, (∃ k : Nat, k < Q ∧ (fA Sb 9 k).toNatClampNeg = t) ↔ Fre st E t) (hnd : ∀ t : Nat, t < N → Fre st E t → ¬ fA Sb 7 t = 0) :
    ∀ (n i : Nat) (S1 : XS), i ≤ 2 ^ Bt → 2 ^ Bt - i < n → XF [] [] [2, 3] Sb S1 → (∀ t m : Nat, t < N → m < 1024 → (rbit S1 t m = true ↔ rbit Sb t m = true ∨ (Fre st E t ∧ m < i * 2 ^ (10 - Bt) ∧ ¬ xval st (nI (m / 2 ^ (10 - Bt) * 2 ^ (10 - Bt))) t = 0))) →
      ∀ t m : Nat, t < N → m < 1024 → (rbit (fx_Rows_learn_L40 st (nI E) n i S1) t m = true ↔ rbit Sb t m = true ∨ (Fre st E t ∧ ¬ xval st (nI (m / 2 ^ (10 - Bt) * 2 ^ (10 - Bt))) t = 0)) := by
  have hp := wl_p2 hBt10
  have hpf := wl_p2pos (10 - Bt)
  intro n
  induction n with
  | zero => intro i S1 _ h; exact absurd h (Nat.not_lt_zero _)
  | succ n ih =>
    intro i S1 hi hm hF hR
    rw [fx_Rows_learn_L40, hSb, hfree, wl_diff hBt10]
    by_cases c : nI (2 ^ Bt) ≤ nI i
    · rw [if_pos c]
      have e : i = 2 ^ Bt := by have := wl_ge c (wl_plt hBt10 (Nat.le_refl _)); omega
      intro t m ht hm2
      rw [hR t m ht hm2, e, hp]
      constructor
      · rintro (h | ⟨h1, _, h2⟩)
        · exact Or.inl h
        · exact Or.inr ⟨h1, h2⟩
      · rintro (h | ⟨h1, h2⟩)
        · exact Or.inl h
        · exact Or.inr ⟨h1, hm2, h2⟩
    · rw [if_neg c]
      have hlt : i < 2 ^ Bt := wl_lt c (wl_plt hBt10 hi)
      have hfg := wl_fg hBt10 hlt
      rw [wl_shl hBt10 hlt, wl_sh1 hBt10]
      obtain ⟨S2, e2⟩ : ∃ z, fx_Eval_evaluateNeeded S1 (nI (i * 2 ^ (10 - Bt))) = z := ⟨_, rfl⟩
      have f2 := ff_Eval_evaluateNeeded S1 (nI (i * 2 ^ (10 - Bt)))
      have hF1 : XF [8] [7, 8, 9] [2, 3] st S1 := XF.tr (hFb.mono (by decide) (by decide) (by decide)) (hF.mono (by decide) (by decide) (by decide))
      have hv := evN (asg := nI (i * 2 ^ (10 - Bt))) ((hF1.I 6 (by decide)).trans hN) h64 (hX.fr hF1 (by decide) (by decide)) (hC.fr hF (by decide))
      rw [e2] at f2 hv ⊢
      have v2 : ∀ t : Nat, t < N → Fre st E t → fL S2 2 t = xval st (nI (i * 2 ^ (10 - Bt))) t := by
        intro t ht h
        rw [hv t ht (by rw [hF.A 7 (by decide)]; exact hnd t ht h), xval_fr hF1 (by decide) (by decide)]
      have hF2 : XF [] [] [2, 3] Sb S2 := XF.tr hF (f2.mono (by decide) (by decide) (by decide))
      refine ih (i + 1) _ (by omega) (by omega) (XF.tr hF2 ((ff_Rows_noteAsked _ _ _).mono (by decide) (by decide) (by decide))) (fun t m ht hm2 => ?_)
      rw [naN ((hF2.I 8 (by decide)).trans hQ) hQ64 (fun j hj => by rw [hF2.A 9 (by decide)]; exact hak j hj) hfg (by omega) hm2, hF2.A 9 (by decide), hfe t]
      have er : rbit S2 t m = rbit S1 t m := by unfold rbit; rw [f2.L 3 (by decide)]
      rw [er, hR t m ht hm2, Nat.succ_mul]
      have dm : i * 2 ^ (10 - Bt) ≤ m → m < i * 2 ^ (10 - Bt) + 2 ^ (10 - Bt) → m / 2 ^ (10 - Bt) = i := by
        intro h1 h2
        exact Nat.div_eq_of_lt_le h1 (by rw [Nat.succ_mul]; exact h2)
      constructor
      · rintro ((h | ⟨h1, h2, h3⟩) | ⟨h1, h2, h3, h4⟩)
        · exact Or.inl h
        · exact Or.inr ⟨h1, by omega, h3⟩
        · refine Or.inr ⟨h1, h4, ?_⟩
          rw [dm h3 h4, ← v2 t ht h1]; exact h2
      · rintro (h | ⟨h1, h2, h3⟩)
        · exact Or.inl (Or.inl h)
        · by_cases q : m < i * 2 ^ (10 - Bt)
          · exact Or.inl (Or.inr ⟨h1, q, h3⟩)
          · have h4 : i * 2 ^ (10 - Bt) ≤ m := by omega
            refine Or.inr ⟨h1, ?_, h4, h2⟩
            rw [dm h4 h2, ← v2 t ht h1] at h3; exact h3
theorem lnN {st : XS} {V N E Bt : Nat} (hN : gI st 6 = nI N) (h64 : N ≤ 64) (hV4 : V ≤ 4) (hX : XT st V N) (hBt : gI st 5 = nI Bt) (hBt10 : Bt ≤ 10) (hlow : ∀ v : Nat, v < V → ∃ lo : Nat, fA st 1 v = nI lo ∧ 10 - Bt ≤ lo ∧ lo ≤ 10) (hE16 : E ≤ 16) (hcd : ∀ j : Nat, j < E → vp_in (fA st 10 j) N) (hR : RowOK st N) :
    RowOK (fx_Rows_learn st (nI E)) N ∧ ∀ t : Nat, ¬ fA (fx_Rows_learn st (nI E)) 8 t = 0 ↔ ¬ fA st 8 t = 0 ∨ InC st E t := by
  obtain ⟨k1, ⟨Q, q1, q2, q3, q4⟩, k3, k4⟩ := askN hE16 (fun j hj => vp_up (hcd j hj) h64)
  have fa := ff_Rows_ask st (nI E)
  have inN : ∀ t : Nat, InC st E t → t < N := by
    rintro t ⟨k, h1, h2⟩
    obtain ⟨a, ha, e⟩ := vp_in_of (hcd k h1) (by omega)
    have h2 : (fA st 10 k).toNatClampNeg = t := h2
    rw [e, nI_clamp (by omega)] at h2
    omega
  have fl := ff_Rows_learn st (nI E)
  rw [fx_Rows_learn] at fl ⊢
  by_cases c : gI (fx_Rows_ask st (nI E)) 8 = (0 : Int32)
  · rw [if_pos c] at fl ⊢
    refine ⟨fun t m ht hm hk => ?_, k1⟩
    have nf : ¬ Fre st E t := by
      rw [← q4 t]
      rintro ⟨k, h, _⟩
      rw [q1] at c
      exact absurd c (nI_ne0 (by omega) (by omega))
    have hk0 : ¬ fA st 8 t = 0 := by
      rcases (k1 t).mp hk with h | h
      · exact h
      · exact fun q => nf ⟨h, q⟩
    rw [k3 t m (by omega) hm, xval_fr fa (by decide) (by decide), ← hR t m ht hm hk0]
    exact ⟨fun h => h.1, fun h => ⟨h, nf⟩⟩
  · rw [if_neg c] at fl ⊢
    obtain ⟨Sb, hSb⟩ : ∃ z, fx_Eval_needOperands (fx_Rows_ask st (nI E)) = z := ⟨_, rfl⟩
    have fb := ff_Eval_needOperands (fx_Rows_ask st (nI E))
    obtain ⟨hC, hmn⟩ := ndN ((fa.I 6 (by decide)).trans hN) h64 (hX.fr fa (by decide) (by decide))
    rw [hSb] at fb hC hmn fl ⊢
    have hFb : XF [8] [7, 8, 9] [3] st Sb := XF.tr (fa.mono (by decide) (by decide) (by decide)) (fb.mono (by decide) (by decide) (by decide))
    have hfree := wl_free hBt10 ((hFb.I 5 (by decide)).trans hBt)
    have main := lnL (E := E) hN h64 hX hBt10 hSb hfree hFb hC ((fb.I 8 (by decide)).trans q1) (by omega) (fun k hk => by rw [fb.A 9 (by decide)]; exact q3 k hk) (fun t => by rw [fb.A 9 (by decide)]; exact q4 t) (fun t ht h => hmn t ((k4 t (by omega)).mpr h)) 1025 0 Sb (Nat.zero_le _) (wl_p1025 hBt10) XF.rf (fun t m _ _ => ⟨Or.inl, fun h => h.elim id (fun q => absurd q.2.1 (by omega))⟩)
    have fk := (fr_Rows_learn_L40 (S0 := Sb) st (nI E) 1025 0 Sb XF.rf)
    have kk : fA (fx_Rows_learn_L40 st (nI E) 1025 0 Sb) 8 = fA Sb 8 := by
      have key : ∀ (n i : Nat) (S1 : XS), XF [] [] [2, 3] Sb S1 → XF [] [] [2, 3] Sb (fx_Rows_learn_L40 st (nI E) n i S1) := by
        intro n
        induction n with
        | zero => intro i S1 h; exact h
        | succ n ih =>
          intro i S1 h
          rw [fx_Rows_learn_L40]
          exact wl_ite (P := fun (q : XS) => XF [] [] [2, 3] Sb q) h (ih _ _ (XF.tr (XF.tr h ((ff_Eval_evaluateNeeded _ _).mono (by decide) (by decide) (by decide))) ((ff_Rows_noteAsked _ _ _).mono (by decide) (by decide) (by decide))))
      exact (key 1025 0 Sb XF.rf).A 8 (by decide)
    rw [fb.A 8 (by decide)] at kk
    refine ⟨fun t m ht hm hk => ?_, fun t => by rw [kk]; exact k1 t⟩
    rw [kk] at hk
    rw [main t m ht hm, xval_fr fl (by decide) (by decide)]
    have es : rbit Sb t m = rbit (fx_Rows_ask st (nI E)) t m := by unfold rbit; rw [fb.L 3 (by decide)]
    rw [es, k3 t m (by omega) hm]
    have lowm : xval st (nI (m / 2 ^ (10 - Bt) * 2 ^ (10 - Bt))) t = xval st (nI m) t := by
      have h1 : m / 2 ^ (10 - Bt) * 2 ^ (10 - Bt) ≤ m := Nat.div_mul_le_self _ _
      exact xval_low hV4 hX hlow (by omega) hm (Nat.mul_div_cancel _ (wl_p2pos _)) ht
    rw [lowm]
    by_cases f : Fre st E t
    · constructor
      · rintro (h | h)
        · exact absurd f h.2
        · exact h.2
      · exact fun h => Or.inr ⟨f, h⟩
    · have hk0 : ¬ fA st 8 t = 0 := by
        rcases (k1 t).mp hk with h | h
        · exact h
        · exact fun q => f ⟨h, q⟩
      rw [hR t m ht hm hk0]
      constructor
      · rintro (h | h)
        · exact h.1
        · exact absurd h.1 f
      · exact fun h => Or.inl ⟨h, f⟩
