theorem m64d {i b : Nat} (hb : b < 64) : (64 * i + b) / 64 = i := by omega
theorem m64m {i b : Nat} (hb : b < 64) : (64 * i + b) % 64 = b := by omega
theorem hbL {st : XS} {K wd : Nat} (hK : K ≤ 16) (hw : wd < 16) (hcd : ∀ j : Nat, j < K → vp_in (fA st 10 j) 64) : ∀ (n i : Nat) (acc : Int64), i ≤ K → K - i < n → ∀ b : Nat, b < 64 → (lb (fx_Path_holdingBefore_L7 st (nI K) (nI wd) n acc i) b = true ↔ lb acc b = true ∧ ∀ j : Nat, i ≤ j → j < K → rbit st (cnd st j) (64 * wd + b) = true) := by
  intro n
  induction n with
  | zero => intro i acc _ h; exact absurd h (Nat.not_lt_zero _)
  | succ n ih =>
    intro i acc hi hm b hb
    rw [fx_Path_holdingBefore_L7]
    by_cases c : nI K ≤ nI i
    · rw [if_pos c]
      have hge : K ≤ i := wl_ge c (by omega)
      exact ⟨fun h => ⟨h, fun j h1 h2 => absurd h2 (by omega)⟩, fun h => h.1⟩
    · rw [if_neg c]
      have hlt : i < K := wl_lt c (by omega)
      obtain ⟨T, hT, eT⟩ := vp_in_of (hcd i hlt) (by decide)
      have cT : cnd st i = T := by unfold cnd; rw [eT, nI_clamp (by omega)]
      rw [ih _ _ (by omega) (by omega) b hb, lb_and, nI_clamp (by omega), fx_Rows_wordOf, eT, wl_c16 hT hw, Bool.and_eq_true]
      have e : lb (fL st 3 (16 * T + wd)) b = rbit st (cnd st i) (64 * wd + b) := by
        unfold rbit
        rw [cT, m64d hb, m64m hb]
      rw [e]
      constructor
      · rintro ⟨⟨h1, h2⟩, h3⟩
        refine ⟨h1, fun j h4 h5 => ?_⟩
        by_cases q : j = i
        · rw [q]; exact h2
        · exact h3 j (by omega) h5
      · rintro ⟨h1, h2⟩
        exact ⟨⟨h1, h2 i (Nat.le_refl _) hlt⟩, fun j h4 h5 => h2 j (by omega) h5⟩
theorem hbN {st : XS} {K wd : Nat} (hK : K ≤ 16) (hw : wd < 16) (hcd : ∀ j : Nat, j < K → vp_in (fA st 10 j) 64) {b : Nat} (hb : b < 64) : lb (fx_Path_holdingBefore st (nI K) (nI wd)) b = true ↔ ∀ j : Nat, j < K → rbit st (cnd st j) (64 * wd + b) = true := by
  rw [fx_Path_holdingBefore, hbL hK hw hcd 17 0 (-1) (Nat.zero_le _) (by omega) b hb]
  exact ⟨fun h j hj => h.2 j (Nat.zero_le _) hj, fun h => ⟨lb_m1 b hb, fun j _ hj => h j hj⟩⟩
theorem lo_bit {x : Int64} {i : Nat} (hi : i < 64) : lg_cmp ((x >>> ((nI i).toInt64 &&& 63)) &&& (1 : Int64)) (0 : Int64) = (0 : Int32) ↔ lb x i = false := by
  rw [lg_cmp_eq, wb_c i hi, lb_eq0]
  constructor
  · intro h
    have q := h 0 (by decide)
    rw [lb_and, lb_sshr hi x (by decide), lb_one 0 (by decide), if_pos (by omega)] at q
    simpa using q
  · intro h j hj
    rw [lb_and, lb_one j hj]
    by_cases e : j = 0
    · rw [e, lb_sshr hi x (by decide), if_pos (by omega), Nat.add_zero, h]; rfl
    · rw [decide_eq_false e, Bool.and_false]
theorem lbtL {x : Int64} (h : ¬ x = 0) : ∀ n i : Nat, i < 64 → 63 - i < n → (∀ j : Nat, j < i → lb x j = false) → ∃ b : Nat, b < 64 ∧ fx_Path_lowestBit_L2 x n i = nI b ∧ lb x b = true ∧ ∀ j : Nat, j < b → lb x j = false := by
  intro n
  induction n with
  | zero => intro i _ h; exact absurd h (Nat.not_lt_zero _)
  | succ n ih =>
    intro i hi hm h0
    rw [fx_Path_lowestBit_L2]
    by_cases c : (63 : Int32) ≤ nI i
    · rw [if_pos c]
      have hge : 63 ≤ i := wl_ge (N := 63) c (by decide)
      refine ⟨i, hi, rfl, ?_, h0⟩
      rcases Bool.eq_false_or_eq_true (lb x i) with q | q
      · exact q
      · refine absurd ?_ h
        rw [lb_eq0]
        intro j hj
        by_cases e : j = i
        · rw [e]; exact q
        · exact h0 j (by omega)
    · rw [if_neg c]
      have hlt : i < 63 := wl_lt (N := 63) c (by omega)
      by_cases c2 : lg_cmp ((x >>> ((nI i).toInt64 &&& 63)) &&& (1 : Int64)) (0 : Int64) = (0 : Int32)
      · rw [if_pos c2]
        have z := (lo_bit hi).mp c2
        refine ih (i + 1) (by omega) (by omega) (fun j hj => ?_)
        by_cases e : j = i
        · rw [e]; exact z
        · exact h0 j (by omega)
      · rw [if_neg c2]
        refine ⟨i, hi, rfl, ?_, h0⟩
        rcases Bool.eq_false_or_eq_true (lb x i) with q | q
        · exact q
        · exact absurd ((lo_bit hi).mpr q) c2
theorem lbtN {x : Int64} (h : ¬ x = 0) : ∃ b : Nat, b < 64 ∧ fx_Path_lowestBit x = nI b ∧ lb x b = true ∧ ∀ j : Nat, j < b → lb x j = false := by
  rw [fx_Path_lowestBit]
  exact lbtL h 64 0 (by decide) (by decide) (fun j hj => absurd hj (Nat.not_lt_zero _))
def FirstOf (P : Nat → Prop) (r : Int32) : Prop := (r = -1 ∧ ∀ m : Nat, m < 1024 → ¬ P m) ∨ ∃ m : Nat, m < 1024 ∧ r = nI m ∧ P m ∧ ∀ j : Nat, j < m → ¬ P j
theorem FirstOf.congr {P Q : Nat → Prop} {r : Int32} (h : FirstOf P r) (e : ∀ m : Nat, m < 1024 → (P m ↔ Q m)) : FirstOf Q r := by
  rcases h with ⟨h1, h2⟩ | ⟨m, hm, h1, h2, h3⟩
  · exact Or.inl ⟨h1, fun m hm q => h2 m hm ((e m hm).mpr q)⟩
  · exact Or.inr ⟨m, hm, h1, (e m hm).mp h2, fun j hj q => h3 j hj ((e j (by omega)).mpr q)⟩
theorem first_step {P : Nat → Prop} {live : Int64} {i : Nat} (hi : i < 16) (hP : ∀ b : Nat, b < 64 → (P (64 * i + b) ↔ lb live b = true)) (h0 : ∀ m : Nat, m < 64 * i → ¬ P m) (hn : ¬ live = 0) : FirstOf P (nI i * (64 : Int32) + fx_Path_lowestBit live) := by
  obtain ⟨b, hb, e, h1, h2⟩ := lbtN hn
  refine Or.inr ⟨64 * i + b, by omega, ?_, (hP b hb).mpr h1, fun j hj => ?_⟩
  · rw [e, show (64 : Int32) = nI 64 from rfl, pk_mul, nI_add, Nat.mul_comm]
  · rcases Nat.lt_or_ge j (64 * i) with q | q
    · exact h0 j q
    · have e2 : j = 64 * i + (j - 64 * i) := by omega
      rw [e2, hP (j - 64 * i) (by omega), h2 _ (by omega)]
      decide
theorem first_next {P : Nat → Prop} {live : Int64} {i : Nat} (hP : ∀ b : Nat, b < 64 → (P (64 * i + b) ↔ lb live b = true)) (h0 : ∀ m : Nat, m < 64 * i → ¬ P m) (hz : live = 0) : ∀ m : Nat, m < 64 * (i + 1) → ¬ P m := by
  intro m hm
  rcases Nat.lt_or_ge m (64 * i) with q | q
  · exact h0 m q
  · have e2 : m = 64 * i + (m - 64 * i) := by omega
    rw [e2, hP (m - 64 * i) (by omega), hz, lb_0]
    decide
theorem ftL {st : XS} {P : Nat → Prop} {live : Nat → Int64} (hP : ∀ i : Nat, i < 16 → ∀ b : Nat, b < 64 → (P (64 * i + b) ↔ lb (live i) b = true)) {F : Nat → Nat → Int32 × XS} {S : XS} (hF : ∀ n i : Nat, F (n + 1) i = if (16 : Int32) ≤ nI i then ((-1 : Int32), S) else if lg_cmp (live i) (0 : Int64) = (0 : Int32) then F n (i + 1) else (nI i * (64 : Int32) + fx_Path_lowestBit (live i), S)) : ∀ n i : Nat, i ≤ 16 → 16 - i < n → (∀ m : Nat, m < 64 * i → ¬ P m) → FirstOf P (F n i).1 ∧ (F n i).2 = S := by
  intro n
  induction n with
  | zero => intro i _ h; exact absurd h (Nat.not_lt_zero _)
  | succ n ih =>
    intro i hi hm h0
    rw [hF]
    by_cases c : (16 : Int32) ≤ nI i
    · rw [if_pos c]
      have hge : 16 ≤ i := wl_ge (N := 16) c (by decide)
      exact ⟨Or.inl ⟨rfl, fun m hm => h0 m (by omega)⟩, rfl⟩
    · rw [if_neg c]
      have hlt : i < 16 := wl_lt (N := 16) c (by omega)
      by_cases c2 : lg_cmp (live i) (0 : Int64) = (0 : Int32)
      · rw [if_pos c2]
        exact ih (i + 1) (by omega) (by omega) (first_next (hP i hlt) h0 ((lg_cmp_eq _ _).mp c2))
      · rw [if_neg c2]
        exact ⟨first_step hlt (hP i hlt) h0 (fun q => c2 ((lg_cmp_eq _ _).mpr q)), rfl⟩
def Holds (st : XS) (K m : Nat) : Prop := ∀ j : Nat, j < K → ¬ xval st (nI m) (cnd st j) = 0
theorem cndN {st : XS} {N j : Nat} (h64 : N ≤ 64) (h : vp_in (fA st 10 j) N) : cnd st j < N := by
  obtain ⟨a, ha, e⟩ := vp_in_of h (by omega)
  unfold cnd
  rw [e, nI_clamp (by omega)]; exact ha
theorem ftN {st : XS} {V N E Bt : Nat} (hN : gI st 6 = nI N) (h64 : N ≤ 64) (hV4 : V ≤ 4) (hX : XT st V N) (hBt : gI st 5 = nI Bt) (hBt10 : Bt ≤ 10) (hlow : ∀ v : Nat, v < V → ∃ lo : Nat, fA st 1 v = nI lo ∧ 10 - Bt ≤ lo ∧ lo ≤ 10) (hEl : gI st 9 = nI E) (hE16 : E ≤ 16) (hcd : ∀ j : Nat, j < E → vp_in (fA st 10 j) N) (hR : RowOK st N) :
    FirstOf (Holds st E) (fx_Path_firstTaking st).1 ∧ (fx_Path_firstTaking st).2 = fx_Rows_learn st (nI E) := by
  obtain ⟨r1, r2⟩ := lnN hN h64 hV4 hX hBt hBt10 hlow hE16 hcd hR
  have fl := ff_Rows_learn st (nI E)
  have hF : ∀ n i : Nat, fx_Path_firstTaking_L17 st (n + 1) i = if (16 : Int32) ≤ nI i then ((-1 : Int32), fx_Rows_learn st (nI E)) else if lg_cmp (fx_Path_holdingBefore (fx_Rows_learn st (nI E)) (nI E) (nI i)) (0 : Int64) = (0 : Int32) then fx_Path_firstTaking_L17 st n (i + 1) else (nI i * (64 : Int32) + fx_Path_lowestBit (fx_Path_holdingBefore (fx_Rows_learn st (nI E)) (nI E) (nI i)), fx_Rows_learn st (nI E)) := by
    intro n i
    rw [fx_Path_firstTaking_L17, hEl, fl.I 9 (by decide), hEl]
  rw [fx_Path_firstTaking]
  obtain ⟨S, eS⟩ : ∃ z, fx_Rows_learn st (nI E) = z := ⟨_, rfl⟩
  rw [eS] at r1 r2 fl hF ⊢
  refine ftL (st := st) (P := Holds st E) (live := fun i => fx_Path_holdingBefore S (nI E) (nI i)) (fun i hi b hb => ?_) hF 17 0 (by decide) (by decide) (fun m hm => absurd hm (by omega))
  show _ ↔ lb (fx_Path_holdingBefore S (nI E) (nI i)) b = true
  rw [hbN hE16 hi (fun j hj => by rw [fl.A 10 (by decide)]; exact vp_up (hcd j hj) h64) hb]
  unfold Holds
  have ec : ∀ j : Nat, cnd S j = cnd st j := fun j => by unfold cnd; rw [fl.A 10 (by decide)]
  constructor
  · intro h j hj
    rw [ec, r1 (cnd st j) (64 * i + b) (cndN h64 (hcd j hj)) (by omega) ((r2 _).mpr (Or.inr ⟨j, hj, rfl⟩)), xval_fr fl (by decide) (by decide)]
    exact h j hj
  · intro h j hj
    have q := h j hj
    rw [ec, r1 (cnd st j) (64 * i + b) (cndN h64 (hcd j hj)) (by omega) ((r2 _).mpr (Or.inr ⟨j, hj, rfl⟩)), xval_fr fl (by decide) (by decide)] at q
    exact q
theorem lb_not (x : Int64) {b : Nat} (hb : b < 64) : lb (x ^^^ (-1 : Int64)) b = ! lb x b := by
  rw [lb_xor, lb_m1 b hb, Bool.xor_true]
theorem flN {st : XS} {V N E Bt K : Nat} (hN : gI st 6 = nI N) (h64 : N ≤ 64) (hV4 : V ≤ 4) (hX : XT st V N) (hBt : gI st 5 = nI Bt) (hBt10 : Bt ≤ 10) (hlow : ∀ v : Nat, v < V → ∃ lo : Nat, fA st 1 v = nI lo ∧ 10 - Bt ≤ lo ∧ lo ≤ 10) (hE16 : E ≤ 16) (hK : K < E) (hcd : ∀ j : Nat, j < E → vp_in (fA st 10 j) N) (hR : RowOK st N) :
    FirstOf (fun m => Holds st K m ∧ xval st (nI m) (cnd st K) = 0) (fx_Path_firstLeavingAt st (nI K)).1 ∧ (fx_Path_firstLeavingAt st (nI K)).2 = fx_Rows_learn st (nI (K + 1)) := by
  obtain ⟨r1, r2⟩ := lnN (E := K + 1) hN h64 hV4 hX hBt hBt10 hlow (by omega) (fun j hj => hcd j (by omega)) hR
  have fl := ff_Rows_learn st (nI (K + 1))
  have hF : ∀ n i : Nat, fx_Path_firstLeavingAt_L16 st (nI K) (n + 1) i = if (16 : Int32) ≤ nI i then ((-1 : Int32), fx_Rows_learn st (nI (K + 1))) else if lg_cmp (fx_Path_holdingBefore (fx_Rows_learn st (nI (K + 1))) (nI K) (nI i) &&& (fx_Rows_wordOf (fx_Rows_learn st (nI (K + 1))) (fA (fx_Rows_learn st (nI (K + 1))) 10 K) (nI i) ^^^ (-1 : Int64))) (0 : Int64) = (0 : Int32) then fx_Path_firstLeavingAt_L16 st (nI K) n (i + 1) else (nI i * (64 : Int32) + fx_Path_lowestBit (fx_Path_holdingBefore (fx_Rows_learn st (nI (K + 1))) (nI K) (nI i) &&& (fx_Rows_wordOf (fx_Rows_learn st (nI (K + 1))) (fA (fx_Rows_learn st (nI (K + 1))) 10 K) (nI i) ^^^ (-1 : Int64))), fx_Rows_learn st (nI (K + 1))) := by
    intro n i
    rw [fx_Path_firstLeavingAt_L16, nI_1, nI_clamp (by omega)]
  rw [fx_Path_firstLeavingAt]
  obtain ⟨S, eS⟩ : ∃ z, fx_Rows_learn st (nI (K + 1)) = z := ⟨_, rfl⟩
  rw [eS] at r1 r2 fl hF ⊢
  refine ftL (st := st) (P := fun m => Holds st K m ∧ xval st (nI m) (cnd st K) = 0) (live := fun i => fx_Path_holdingBefore S (nI K) (nI i) &&& (fx_Rows_wordOf S (fA S 10 K) (nI i) ^^^ (-1 : Int64))) (fun i hi b hb => ?_) hF 17 0 (by decide) (by decide) (fun m hm => absurd hm (by omega))
  show _ ↔ lb (fx_Path_holdingBefore S (nI K) (nI i) &&& (fx_Rows_wordOf S (fA S 10 K) (nI i) ^^^ (-1 : Int64))) b = true
  have ec : ∀ j : Nat, cnd S j = cnd st j := fun j => by unfold cnd; rw [fl.A 10 (by decide)]
  have rk : ∀ j : Nat, j ≤ K → (rbit S (cnd st j) (64 * i + b) = true ↔ ¬ xval st (nI (64 * i + b)) (cnd st j) = 0) := by
    intro j hj
    rw [r1 (cnd st j) (64 * i + b) (cndN h64 (hcd j (by omega))) (by omega) ((r2 _).mpr (Or.inr ⟨j, by omega, rfl⟩)), xval_fr fl (by decide) (by decide)]
  obtain ⟨T, hT, eT⟩ := vp_in_of (hcd K hK) (by omega)
  have cT : cnd st K = T := by unfold cnd; rw [eT, nI_clamp (by omega)]
  have ew : lb (fx_Rows_wordOf S (fA S 10 K) (nI i)) b = rbit S (cnd st K) (64 * i + b) := by
    unfold rbit
    rw [cT, m64d hb, m64m hb, fl.A 10 (by decide), eT, fx_Rows_wordOf, wl_c16 (by omega) hi]
  rw [lb_and, lb_not _ hb, ew, Bool.and_eq_true, hbN (by omega) hi (fun j hj => by rw [fl.A 10 (by decide)]; exact vp_up (hcd j (by omega)) h64) hb]
  have h2 : (!rbit S (cnd st K) (64 * i + b)) = true ↔ xval st (nI (64 * i + b)) (cnd st K) = 0 := by
    have q := rk K (Nat.le_refl _)
    by_cases z : xval st (nI (64 * i + b)) (cnd st K) = 0
    · have : rbit S (cnd st K) (64 * i + b) = false := by
        rcases Bool.eq_false_or_eq_true (rbit S (cnd st K) (64 * i + b)) with p | p
        · exact absurd z (q.mp p)
        · exact p
      rw [this]; exact ⟨fun _ => z, fun _ => rfl⟩
    · rw [q.mpr z]; exact ⟨fun h => absurd h (by decide), fun h => absurd h z⟩
  rw [h2]
  unfold Holds
  constructor
  · rintro ⟨h, h3⟩
    exact ⟨fun j hj => by rw [ec, rk j (by omega)]; exact h j hj, h3⟩
  · rintro ⟨h, h3⟩
    exact ⟨fun j hj => by have q := h j hj; rw [ec, rk j (by omega)] at q; exact q, h3⟩
