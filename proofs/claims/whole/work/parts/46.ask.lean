def cnd (st : XS) (k : Nat) : Nat := (fA st 10 k).toNatClampNeg
def InC (st : XS) (i t : Nat) : Prop := ∃ k : Nat, k < i ∧ cnd st k = t
def Fre (st : XS) (i t : Nat) : Prop := InC st i t ∧ fA st 8 t = 0
theorem InC_0 {st : XS} {t : Nat} : ¬ InC st 0 t := fun ⟨_, h, _⟩ => absurd h (Nat.not_lt_zero _)
theorem InC_s {st : XS} {i t : Nat} : InC st (i + 1) t ↔ InC st i t ∨ cnd st i = t := by
  constructor
  · rintro ⟨k, h1, h2⟩
    by_cases e : k = i
    · exact Or.inr (by rw [← e]; exact h2)
    · exact Or.inl ⟨k, by omega, h2⟩
  · rintro (⟨k, h1, h2⟩ | h)
    · exact ⟨k, by omega, h2⟩
    · exact ⟨i, by omega, h⟩
theorem nnL {st : XS} : ∀ (n i : Nat) (S1 : XS), i ≤ 64 → 64 - i < n → (∀ t : Nat, t < i → fA S1 7 t = 0) → ∀ t : Nat, t < 64 → fA (fx_Eval_needNothing_L2 st n i S1) 7 t = 0 := by
  intro n
  induction n with
  | zero => intro i S1 _ h; exact absurd h (Nat.not_lt_zero _)
  | succ n ih =>
    intro i S1 hi hm h0
    rw [fx_Eval_needNothing_L2]
    by_cases c : (64 : Int32) ≤ nI i
    · rw [if_pos c]
      have : 64 ≤ i := wl_ge (N := 64) c (by decide)
      intro t ht; exact h0 t (by omega)
    · rw [if_neg c]
      have hlt : i < 64 := wl_lt (N := 64) c (by omega)
      refine ih _ _ (by omega) (by omega) (fun t ht => ?_)
      rw [nI_clamp (by omega), nar0]
      show upd (fA S1 7) i 0 t = 0
      by_cases e : t = i
      · rw [e, pk_us]
      · rw [pk_un e]; exact h0 t (by omega)
theorem nnN (st : XS) : ∀ t : Nat, t < 64 → fA (fx_Eval_needNothing st) 7 t = 0 := by
  rw [fx_Eval_needNothing]
  exact nnL 65 0 st (Nat.zero_le _) (by omega) (fun t h => absurd h (Nat.not_lt_zero _))
def AskI (st : XS) (i : Nat) (S1 : XS) : Prop :=
  (∀ t : Nat, ¬ fA S1 8 t = 0 ↔ ¬ fA st 8 t = 0 ∨ InC st i t) ∧
  (∃ Q : Nat, gI S1 8 = nI Q ∧ Q ≤ i ∧ (∀ k : Nat, k < Q → vp_in (fA S1 9 k) 64) ∧ ∀ t : Nat, (∃ k : Nat, k < Q ∧ (fA S1 9 k).toNatClampNeg = t) ↔ Fre st i t) ∧
  (∀ t m : Nat, t < 64 → m < 1024 → (rbit S1 t m = true ↔ rbit st t m = true ∧ ¬ Fre st i t)) ∧
  (∀ t : Nat, t < 64 → (¬ fA S1 7 t = 0 ↔ Fre st i t))
theorem askL {st : XS} {E : Nat} (hE16 : E ≤ 16) (hcd : ∀ j : Nat, j < E → vp_in (fA st 10 j) 64) : ∀ (n i : Nat) (S1 : XS), i ≤ E → E - i < n → fA S1 10 = fA st 10 → AskI st i S1 → AskI st E (fx_Rows_ask_L14 st (nI E) n i S1) := by
  intro n
  induction n with
  | zero => intro i S1 _ h; exact absurd h (Nat.not_lt_zero _)
  | succ n ih =>
    intro i S1 hi hm h10 hI
    rw [fx_Rows_ask_L14]
    by_cases c16 : nI E ≤ nI i
    · rw [if_pos c16]
      have e : i = E := by have := wl_ge c16 (by omega); omega
      rw [← e]; exact hI
    · rw [if_neg c16]
      have hlt : i < E := wl_lt c16 (by omega)
      obtain ⟨T, hT, eT⟩ := vp_in_of (hcd i hlt) (by decide)
      have cT : cnd st i = T := by show (fA st 10 i).toNatClampNeg = T; rw [eT, nI_clamp (by omega)]
      obtain ⟨k1, ⟨Q, q1, q2, q3, q4⟩, k3, k4⟩ := hI
      rw [nI_clamp (by omega), h10, eT, nI_clamp (by omega)]
      by_cases c31 : fA S1 8 T = (0 : Int32)
      · rw [if_pos c31]
        have un : fA st 8 T = 0 ∧ ¬ InC st i T := by
          have q : ¬ (¬ fA st 8 T = 0 ∨ InC st i T) := fun h => (k1 T).mpr h c31
          exact ⟨Decidable.byContradiction (fun h => q (Or.inl h)), fun h => q (Or.inr h)⟩
        have fs : ∀ t : Nat, Fre st (i + 1) t ↔ Fre st i t ∨ t = T := by
          intro t
          unfold Fre
          rw [InC_s, cT]
          constructor
          · rintro ⟨h1 | h1, h2⟩
            · exact Or.inl ⟨h1, h2⟩
            · exact Or.inr h1.symm
          · rintro (⟨h1, h2⟩ | h)
            · exact ⟨Or.inl h1, h2⟩
            · rw [h]; exact ⟨Or.inr rfl, un.1⟩
        obtain ⟨S2, e2⟩ : ∃ z, wA S1 8 T (vp_nar .boolean (1 : Int32)) = z := ⟨_, rfl⟩
        have a8 : ∀ t : Nat, fA S2 8 t = upd (fA S1 8) T 1 t := fun t => by rw [← e2, nar1]; rfl
        have o2 : XF [] [8] [] S1 S2 := by rw [← e2]; exact XF.wA (by decide) XF.rf
        rw [e2]
        obtain ⟨S3, e3⟩ : ∃ z, fx_Rows_clearRow S2 (nI T) = z := ⟨_, rfl⟩
        have f3 := ff_Rows_clearRow S2 (nI T)
        obtain ⟨r1, r2⟩ := clN (st := S2) hT
        rw [e3] at f3 r1 r2 ⊢
        obtain ⟨B, eB⟩ : ∃ z, fx_Eval_need S3 (nI T) = z := ⟨_, rfl⟩
        have fB := ff_Eval_need S3 (nI T)
        have b7 : ∀ t : Nat, fA B 7 t = upd (fA S3 7) T 1 t := by
          intro t
          rw [← eB, fx_Eval_need, nI_clamp (by omega), nar1]; rfl
        rw [eB] at fB ⊢
        have b8 : gI B 8 = nI Q := (fB.I 8 (by decide)).trans ((f3.I 8 (by decide)).trans ((o2.I 8 (by decide)).trans q1))
        have b9 : fA B 9 = fA S1 9 := (fB.A 9 (by decide)).trans ((f3.A 9 (by decide)).trans (o2.A 9 (by decide)))
        have b10 : fA B 10 = fA st 10 := (fB.A 10 (by decide)).trans ((f3.A 10 (by decide)).trans ((o2.A 10 (by decide)).trans h10))
        have bk : fA B 8 = fA S2 8 := (fB.A 8 (by decide)).trans (f3.A 8 (by decide))
        have s7 : fA S3 7 = fA S1 7 := (f3.A 7 (by decide)).trans (o2.A 7 (by decide))
        have bl : fL B 3 = fL S3 3 := fB.L 3 (by decide)
        have s2l : fL S2 3 = fL S1 3 := o2.L 3 (by decide)
        rw [b8, nI_clamp (by omega)]
        refine ih _ _ (by omega) (by omega) b10 ⟨fun t => ?_, ⟨Q + 1, nI_1 Q, by omega, fun k hk => ?_, fun t => ?_⟩, fun t m ht hm2 => ?_, fun t ht => ?_⟩
        · show ¬ fA B 8 t = 0 ↔ _
          rw [bk, a8, InC_s, cT]
          by_cases e : t = T
          · rw [e, pk_us]; exact ⟨fun _ => Or.inr (Or.inr rfl), fun _ => by decide⟩
          · rw [pk_un e, k1 t]
            constructor
            · rintro (h | h)
              · exact Or.inl h
              · exact Or.inr (Or.inl h)
            · rintro (h | h | h)
              · exact Or.inl h
              · exact Or.inr h
              · exact absurd h.symm e
        · show vp_in (upd (fA B 9) Q (nI T) k) 64
          by_cases e : k = Q
          · rw [e, pk_us]; exact wl_in hT (by decide)
          · rw [pk_un e, b9]; exact q3 k (by omega)
        · rw [fs t, ← q4 t]
          constructor
          · rintro ⟨k, h1, h2⟩
            have h2 : (upd (fA B 9) Q (nI T) k).toNatClampNeg = t := h2
            by_cases e : k = Q
            · rw [e, pk_us, nI_clamp (by omega)] at h2; exact Or.inr h2.symm
            · rw [pk_un e, b9] at h2; exact Or.inl ⟨k, by omega, h2⟩
          · rintro (⟨k, h1, h2⟩ | h)
            · refine ⟨k, by omega, ?_⟩
              show (upd (fA B 9) Q (nI T) k).toNatClampNeg = t
              rw [pk_un (by omega), b9]; exact h2
            · refine ⟨Q, by omega, ?_⟩
              show (upd (fA B 9) Q (nI T) Q).toNatClampNeg = t
              rw [pk_us, nI_clamp (by omega)]; exact h.symm
        · have er : ∀ t m : Nat, rbit (wI (wA B 9 Q (nI T)) 8 (nI Q + (1 : Int32))) t m = rbit S3 t m := by
            intro t m
            show lb (fL B 3 (16 * t + m / 64)) (m % 64) = _
            rw [bl]; rfl
          have e1 : ∀ t m : Nat, rbit S2 t m = rbit S1 t m := by
            intro t m; unfold rbit; rw [s2l]
          rw [er, fs t]
          by_cases e : t = T
          · rw [e, r1 m hm2]
            exact ⟨fun h => absurd h (by decide), fun h => absurd (Or.inr rfl) h.2⟩
          · rw [r2 t m e hm2, e1, k3 t m ht hm2]
            constructor
            · rintro ⟨h1, h2⟩
              exact ⟨h1, fun h => h.elim h2 e⟩
            · rintro ⟨h1, h2⟩
              exact ⟨h1, fun h => h2 (Or.inl h)⟩
        · show ¬ fA B 7 t = 0 ↔ _
          rw [b7, s7, fs t]
          by_cases e : t = T
          · rw [e, pk_us]; exact ⟨fun _ => Or.inr rfl, fun _ => by decide⟩
          · rw [pk_un e, k4 t ht]
            exact ⟨Or.inl, fun h => h.elim id (fun q => absurd q e)⟩
      · rw [if_neg c31]
        have kn : ¬ fA st 8 T = 0 ∨ InC st i T := (k1 T).mp c31
        have is : ∀ t : Nat, (¬ fA st 8 t = 0 ∨ InC st (i + 1) t) ↔ (¬ fA st 8 t = 0 ∨ InC st i t) := by
          intro t
          rw [InC_s, cT]
          constructor
          · rintro (h | h | h)
            · exact Or.inl h
            · exact Or.inr h
            · rw [← h]; exact kn
          · rintro (h | h)
            · exact Or.inl h
            · exact Or.inr (Or.inl h)
        have fs : ∀ t : Nat, Fre st (i + 1) t ↔ Fre st i t := by
          intro t
          unfold Fre
          rw [InC_s, cT]
          constructor
          · rintro ⟨h1 | h1, h2⟩
            · exact ⟨h1, h2⟩
            · subst h1
              rcases kn with h | h
              · exact absurd h2 h
              · exact ⟨h, h2⟩
          · rintro ⟨h1, h2⟩
            exact ⟨Or.inl h1, h2⟩
        refine ih _ _ (by omega) (by omega) h10 ⟨fun t => by rw [is]; exact k1 t, ⟨Q, q1, by omega, q3, fun t => by rw [fs]; exact q4 t⟩, fun t m ht hm2 => by rw [fs]; exact k3 t m ht hm2, fun t ht => by rw [fs]; exact k4 t ht⟩
theorem askN {st : XS} {E : Nat} (hE16 : E ≤ 16) (hcd : ∀ j : Nat, j < E → vp_in (fA st 10 j) 64) : AskI st E (fx_Rows_ask st (nI E)) := by
  rw [fx_Rows_ask]
  have f := ff_Eval_needNothing (wI st 8 (0 : Int32))
  have no : ∀ t : Nat, ¬ Fre st 0 t := fun t h => InC_0 h.1
  refine askL hE16 hcd 17 0 _ (Nat.zero_le _) (by omega) (f.A 10 (by decide)) ⟨fun t => ?_, ⟨0, f.I 8 (by decide), Nat.le_refl _, fun k h => absurd h (Nat.not_lt_zero _), fun t => ?_⟩, fun t m _ _ => ?_, fun t ht => ?_⟩
  · rw [f.A 8 (by decide)]
    exact ⟨Or.inl, fun h => h.elim id (fun q => absurd q InC_0)⟩
  · exact ⟨fun ⟨_, h, _⟩ => absurd h (Nat.not_lt_zero _), fun h => absurd h (no t)⟩
  · unfold rbit
    rw [f.L 3 (by decide)]
    exact ⟨fun h => ⟨h, no t⟩, fun h => h.1⟩
  · rw [nnN _ t ht]
    exact ⟨fun h => absurd rfl h, fun h => absurd h (no t)⟩
