theorem wl_sm10 : ∀ B, B < 11 → ((nI B &&& 31).toBitVec.smod 32).toNat = B := by decide +kernel
theorem shr_lo {m lo : Nat} (hm : m < 1024) (hlo : lo ≤ 10) : nI m >>> (nI lo &&& 31) = nI (m / 2 ^ lo) := pk_shrN (by omega) _ lo (wl_sm10 lo (by omega))
theorem div_lo {m m2 f lo : Nat} (hf : f ≤ lo) (h : m / 2 ^ f = m2 / 2 ^ f) : m / 2 ^ lo = m2 / 2 ^ lo := by
  have e : 2 ^ lo = 2 ^ f * 2 ^ (lo - f) := by rw [← Nat.pow_add, show f + (lo - f) = lo by omega]
  rw [e, ← Nat.div_div_eq_div_mul, ← Nat.div_div_eq_div_mul, h]
theorem bitsAt_lo {st : XS} {v lo f m m2 : Nat} (hv : v < 4) (e : fA st 1 v = nI lo) (hf : f ≤ lo) (hlo : lo ≤ 10) (hm : m < 1024) (hm2 : m2 < 1024) (h : m / 2 ^ f = m2 / 2 ^ f) : fx_Vars_bitsAt st (nI v) (nI m) = fx_Vars_bitsAt st (nI v) (nI m2) := by
  rw [fx_Vars_bitsAt, fx_Vars_bitsAt, nI_clamp (by omega), e, shr_lo hm hlo, shr_lo hm2 hlo, div_lo hf h]
theorem xvs_low {st : XS} {V N f m m2 : Nat} (hV4 : V ≤ 4) (hX : XT st V N) (hlow : ∀ v : Nat, v < V → ∃ lo : Nat, fA st 1 v = nI lo ∧ f ≤ lo ∧ lo ≤ 10) (hm : m < 1024) (hm2 : m2 < 1024) (h : m / 2 ^ f = m2 / 2 ^ f) : ∀ t : Nat, t ≤ N → xvs st (nI m) t = xvs st (nI m2) t := by
  intro t
  induction t with
  | zero => intro _; rfl
  | succ t ih =>
    intro ht
    have hs : ∀ K : Nat → Int64, xstep st (nI m) K t = xstep st (nI m2) K t := by
      intro K
      unfold xstep
      by_cases h21 : fA st 3 t = 21
      · rw [if_pos h21, if_pos h21]
      · rw [if_neg h21, if_neg h21]
        by_cases h22 : fA st 3 t = 22
        · rw [if_pos h22, if_pos h22]
          obtain ⟨v, hv, e⟩ := vp_in_of ((hX.1 t (by omega)).o22 h22).2 (by omega)
          obtain ⟨lo, e1, e2, e3⟩ := hlow v hv
          rw [e, fx_Vars_readAt, fx_Vars_readAt, bitsAt_lo (by omega) e1 e2 e3 hm hm2 h]
        · rw [if_neg h22, if_neg h22]
    funext j
    show (if j = t then xstep st (nI m) (xvs st (nI m) t) t else xvs st (nI m) t j) = (if j = t then xstep st (nI m2) (xvs st (nI m2) t) t else xvs st (nI m2) t j)
    rw [ih (by omega), hs]
theorem xval_low {st : XS} {V N f m m2 : Nat} (hV4 : V ≤ 4) (hX : XT st V N) (hlow : ∀ v : Nat, v < V → ∃ lo : Nat, fA st 1 v = nI lo ∧ f ≤ lo ∧ lo ≤ 10) (hm : m < 1024) (hm2 : m2 < 1024) (h : m / 2 ^ f = m2 / 2 ^ f) {t : Nat} (ht : t < N) : xval st (nI m) t = xval st (nI m2) t := by
  have q := congrFun (xvs_low hV4 hX hlow hm hm2 h (t + 1) ht) t
  rw [xvs_lt (t + 1) t (by omega), xvs_lt (t + 1) t (by omega)] at q
  exact q
