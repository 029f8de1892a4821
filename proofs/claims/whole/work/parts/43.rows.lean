def rbit (S : XS) (t m : Nat) : Bool := lb (fL S 3 (16 * t + m / 64)) (m % 64)
theorem lb_one : ∀ j, j < 64 → lb 1 j = decide (j = 0) := by decide +kernel
theorem lb_1s {k j : Nat} (hk : k < 64) (hj : j < 64) : lb ((1 : Int64) <<< lN k) j = decide (j = k) := by
  rw [lb_shl hk _ hj]
  by_cases h : k ≤ j
  · rw [decide_eq_true h, Bool.true_and, lb_one _ (by omega)]
    by_cases e : j = k
    · rw [decide_eq_true (by omega), decide_eq_true e]
    · rw [decide_eq_false (by omega), decide_eq_false e]
  · rw [decide_eq_false h, Bool.false_and, decide_eq_false (by omega)]
theorem sb_amt {i : Nat} (hi : i < 1024) : (nI i - nI i / (64 : Int32) * (64 : Int32)).toInt64 &&& 63 = lN (i % 64) := by
  rw [show nI i - nI i / (64 : Int32) * (64 : Int32) = nI (i % 64) from pk_rem (a := i) (d := 64) (by omega) (by decide) (by decide)]
  exact wb_c _ (Nat.mod_lt _ (by decide))
theorem sb_ix {T i : Nat} (hT : T < 64) (hi : i < 1024) : (nI T * (16 : Int32) + nI i / (64 : Int32)).toNatClampNeg = 16 * T + i / 64 := by
  rw [show nI i / (64 : Int32) = nI (i / 64) from pk_div (a := i) (d := 64) (by omega) (by decide) (by decide)]
  exact wl_c16 hT (by omega)
theorem sbL {st : XS} {T F G : Nat} (hT : T < 64) (hFG : F + G ≤ 1024) : ∀ (n i : Nat) (S1 : XS), i ≤ F + G → F + G - i < n → ∀ t m : Nat, t < 64 → m < 1024 → rbit (fx_Rows_setBits_L3 st (nI T) (nI F) (nI G) n i S1) t m = (rbit S1 t m || decide (t = T ∧ i ≤ m ∧ m < F + G)) := by
  intro n
  induction n with
  | zero => intro i S1 _ h; exact absurd h (Nat.not_lt_zero _)
  | succ n ih =>
    intro i S1 hi hm t m ht hm2
    rw [fx_Rows_setBits_L3]
    by_cases c : nI F + nI G ≤ nI i
    · rw [if_pos c]
      rw [nI_add] at c
      have hge : F + G ≤ i := wl_ge c (by omega)
      rw [decide_eq_false (by omega), Bool.or_false]
    · rw [if_neg c]
      rw [nI_add] at c
      have hlt : i < F + G := wl_lt c (by omega)
      rw [ih (i + 1) _ (by omega) (by omega) t m ht hm2, sb_ix hT (by omega), sb_amt (by omega)]
      have key : rbit (wL S1 3 (16 * T + i / 64) (fL S1 3 (16 * T + i / 64) ||| (1 : Int64) <<< lN (i % 64))) t m = (rbit S1 t m || decide (t = T ∧ m = i)) := by
        show lb (vp_updL (fL S1 3) (16 * T + i / 64) _ (16 * t + m / 64)) (m % 64) = _
        by_cases e : 16 * t + m / 64 = 16 * T + i / 64
        · have e1 : t = T := by omega
          have e2 : m / 64 = i / 64 := by omega
          rw [e, pk_uLs, lb_or, lb_1s (Nat.mod_lt _ (by decide)) (Nat.mod_lt _ (by decide))]
          unfold rbit
          rw [e]
          congr 1
          by_cases q : m = i
          · rw [decide_eq_true (by rw [q]), decide_eq_true ⟨e1, q⟩]
          · rw [decide_eq_false (by omega), decide_eq_false (fun h => q h.2)]
        · rw [pk_uLn e]
          have : ¬ (t = T ∧ m = i) := fun h => e (by rw [h.1, h.2])
          rw [decide_eq_false this, Bool.or_false]
          rfl
      rw [key, Bool.or_assoc]
      congr 1
      by_cases q1 : t = T ∧ m = i
      · rw [decide_eq_true q1, Bool.true_or, decide_eq_true ⟨q1.1, by omega, by omega⟩]
      · rw [decide_eq_false q1, Bool.false_or]
        by_cases q2 : t = T ∧ i + 1 ≤ m ∧ m < F + G
        · rw [decide_eq_true q2, decide_eq_true ⟨q2.1, by omega, q2.2.2⟩]
        · rw [decide_eq_false q2, decide_eq_false (fun h => by
            by_cases e : m = i
            · exact q1 ⟨h.1, e⟩
            · exact q2 ⟨h.1, by omega, h.2.2⟩)]
theorem sbN {st : XS} {T F G : Nat} (hT : T < 64) (hFG : F + G ≤ 1024) {t m : Nat} (ht : t < 64) (hm : m < 1024) : rbit (fx_Rows_setBits st (nI T) (nI F) (nI G)) t m = (rbit st t m || decide (t = T ∧ F ≤ m ∧ m < F + G)) := by
  rw [fx_Rows_setBits, nI_clamp (by omega)]
  exact sbL hT hFG 1025 F st (by omega) (by omega) t m ht hm
theorem clL {st : XS} {T : Nat} (hT : T < 64) : ∀ (n i : Nat) (S1 : XS), i ≤ 16 → 16 - i < n → (∀ m : Nat, m < 64 * i → rbit S1 T m = false) → (∀ m : Nat, m < 1024 → rbit (fx_Rows_clearRow_L2 st (nI T) n i S1) T m = false) ∧ (∀ t m : Nat, ¬ t = T → m < 1024 → rbit (fx_Rows_clearRow_L2 st (nI T) n i S1) t m = rbit S1 t m) := by
  intro n
  induction n with
  | zero => intro i S1 _ h; exact absurd h (Nat.not_lt_zero _)
  | succ n ih =>
    intro i S1 hi hm h0
    rw [fx_Rows_clearRow_L2]
    by_cases c : (16 : Int32) ≤ nI i
    · rw [if_pos c]
      have hge : 16 ≤ i := wl_ge (N := 16) c (by decide)
      exact ⟨fun m hm => h0 m (by omega), fun t m _ _ => rfl⟩
    · rw [if_neg c]
      have hlt : i < 16 := wl_lt (N := 16) c (by omega)
      rw [wl_c16 hT hlt]
      have off : ∀ t m : Nat, m < 1024 → ¬ 16 * t + m / 64 = 16 * T + i → rbit (wL S1 3 (16 * T + i) (0 : Int64)) t m = rbit S1 t m := by
        intro t m _ e
        show lb (vp_updL (fL S1 3) (16 * T + i) 0 (16 * t + m / 64)) (m % 64) = _
        rw [pk_uLn e]; rfl
      obtain ⟨q1, q2⟩ := ih (i + 1) (wL S1 3 (16 * T + i) (0 : Int64)) (by omega) (by omega) (fun m hm2 => by
        by_cases e : m / 64 = i
        · show lb (vp_updL (fL S1 3) (16 * T + i) 0 (16 * T + m / 64)) (m % 64) = false
          rw [e, pk_uLs]; exact lb_0 _
        · rw [off T m (by omega) (by omega)]
          exact h0 m (by omega))
      exact ⟨q1, fun t m ht hm2 => by rw [q2 t m ht hm2, off t m hm2 (by omega)]⟩
theorem clN {st : XS} {T : Nat} (hT : T < 64) : (∀ m : Nat, m < 1024 → rbit (fx_Rows_clearRow st (nI T)) T m = false) ∧ (∀ t m : Nat, ¬ t = T → m < 1024 → rbit (fx_Rows_clearRow st (nI T)) t m = rbit st t m) := by
  rw [fx_Rows_clearRow]
  exact clL hT 17 0 st (Nat.zero_le _) (by omega) (fun m h => absurd h (by omega))
