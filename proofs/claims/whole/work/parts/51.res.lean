def OpTy (o wa wb wc b wt : Int32) : Prop := isW wa ∧ isW wt ∧ (
  ((o = 0 ∨ o = 1) ∧ wt = wa) ∨
  ((o = 2 ∨ o = 3 ∨ o = 4 ∨ o = 5 ∨ o = 6 ∨ o = 7 ∨ o = 10 ∨ o = 11 ∨ o = 12) ∧ wb = wa ∧ wt = wa) ∨
  ((o = 8 ∨ o = 9) ∧ wa = 8 ∧ wb = 8 ∧ wt = 8) ∨
  ((o = 13 ∨ o = 14 ∨ o = 15) ∧ wb = wa ∧ wt = 1) ∨
  (o = 16 ∧ wa = 1 ∧ wb = wt ∧ wc = wt) ∨
  ((o = 17 ∨ o = 18) ∧ b = wt ∧ wa < wt) ∨
  (o = 19 ∧ b = wt ∧ wt < wa) ∨
  (o = 20 ∧ vp_in b 2 ∧ wa = 8 ∧ wt = 8))
def TabOK (tab : Nat → Int64) (mtab : Nat → Int32) : Prop := ∀ j : Nat, j < 16 → ∃ b : Nat, b < 256 ∧ mtab j = nI b ∧ tab j = rs 8 (lN b)
theorem TabOK.n {tab : Nat → Int64} {mtab : Nat → Int32} (h : TabOK tab mtab) {j : Nat} (hj : j < 16) : nrm 8 (tab j) := by
  obtain ⟨b, hb, e1, e2⟩ := h j hj
  rw [e2]; exact nrm_rs (Or.inr (Or.inl rfl)) _
theorem TabOK.v {tab : Nat → Int64} {mtab : Nat → Int32} (h : TabOK tab mtab) {j : Nat} (hj : j < 16) : (mtab j).toInt64 = rp 8 (tab j) := by
  obtain ⟨b, hb, e1, e2⟩ := h j hj
  rw [e1, e2, rp8s, rp8n hb, nI_l (by omega)]
theorem and7_alk {x y : Int64} (h : alk 8 x y) : x &&& (7 : Int64) = y &&& (7 : Int64) := by
  apply lb_ext; intro i hi
  rw [lb_and, lb_and]
  by_cases q : i < 8
  · rw [h i q]
  · have key : ∀ i, i < 64 → ¬ i < 8 → lb (7 : Int64) i = false := by decide +kernel
    rw [key i hi q, Bool.and_false, Bool.and_false]
theorem rp1_1 {x : Int64} (hx : nrm 1 x) : rp 1 x = 1 ↔ ¬ x = 0 := by
  have key : ∀ n, n < 2 → (lN n = 1 ↔ ¬ lN n = 0) := by decide +kernel
  have e : rp 1 x = lN (un x % 2) := rp_lN (k := 1) (by decide) (by decide) x
  have z : rp 1 x = 0 ↔ x = 0 := rp_eq0 (k := 1) (by decide) (by decide) hx
  rw [← z, e]
  exact key _ (Nat.mod_lt _ (by decide))
theorem rm_0 {tab : Nat → Int64} {S : XS} {wa x1 y1 z1 : Int32} {x y z : Int64} (ew : fA S 4 x1.toNatClampNeg = wa) (hX : fL S 1 x1.toNatClampNeg = rp wa x) (hw : isW wa) : fm_Mod_result S 0 x1 y1 z1 = rp wa (opv tab 0 wa y1 x y z) := by
  rw [fm_Mod_result, if_neg (show ¬ (0 : Int32) = 16 by decide), if_neg (show ¬ (0 : Int32) = 17 by decide), if_neg (show ¬ (0 : Int32) = 18 by decide), if_neg (show ¬ (0 : Int32) = 19 by decide), if_neg (show ¬ (0 : Int32) = 20 by decide), if_neg (show ¬ (2 : Int32) ≤ 0 by decide), ew, hX, opv_0]
  obtain ⟨k, h1, h2, rfl⟩ := hw.k
  exact mp_0 h1 h2 hw
theorem rm_1 {tab : Nat → Int64} {S : XS} {wa x1 y1 z1 : Int32} {x y z : Int64} (ew : fA S 4 x1.toNatClampNeg = wa) (hX : fL S 1 x1.toNatClampNeg = rp wa x) (hw : isW wa) : fm_Mod_result S 1 x1 y1 z1 = rp wa (opv tab 1 wa y1 x y z) := by
  rw [fm_Mod_result, if_neg (show ¬ (1 : Int32) = 16 by decide), if_neg (show ¬ (1 : Int32) = 17 by decide), if_neg (show ¬ (1 : Int32) = 18 by decide), if_neg (show ¬ (1 : Int32) = 19 by decide), if_neg (show ¬ (1 : Int32) = 20 by decide), if_neg (show ¬ (2 : Int32) ≤ 1 by decide), ew, hX, opv_1]
  obtain ⟨k, h1, h2, rfl⟩ := hw.k
  exact mp_1 h1 h2 hw
theorem rm_2 {tab : Nat → Int64} {S : XS} {wa x1 y1 z1 : Int32} {x y z : Int64} (ew : fA S 4 x1.toNatClampNeg = wa) (hX : fL S 1 x1.toNatClampNeg = rp wa x) (hY : fL S 1 y1.toNatClampNeg = rp wa y) (hw : isW wa) : fm_Mod_result S 2 x1 y1 z1 = rp wa (opv tab 2 wa y1 x y z) := by
  rw [fm_Mod_result, if_neg (show ¬ (2 : Int32) = 16 by decide), if_neg (show ¬ (2 : Int32) = 17 by decide), if_neg (show ¬ (2 : Int32) = 18 by decide), if_neg (show ¬ (2 : Int32) = 19 by decide), if_neg (show ¬ (2 : Int32) = 20 by decide), if_pos (show (2 : Int32) ≤ 2 by decide), ew, hX, hY, opv_2]
  obtain ⟨k, h1, h2, rfl⟩ := hw.k
  exact mp_2 h1 h2 hw
theorem rm_3 {tab : Nat → Int64} {S : XS} {wa x1 y1 z1 : Int32} {x y z : Int64} (ew : fA S 4 x1.toNatClampNeg = wa) (hX : fL S 1 x1.toNatClampNeg = rp wa x) (hY : fL S 1 y1.toNatClampNeg = rp wa y) (hw : isW wa) : fm_Mod_result S 3 x1 y1 z1 = rp wa (opv tab 3 wa y1 x y z) := by
  rw [fm_Mod_result, if_neg (show ¬ (3 : Int32) = 16 by decide), if_neg (show ¬ (3 : Int32) = 17 by decide), if_neg (show ¬ (3 : Int32) = 18 by decide), if_neg (show ¬ (3 : Int32) = 19 by decide), if_neg (show ¬ (3 : Int32) = 20 by decide), if_pos (show (2 : Int32) ≤ 3 by decide), ew, hX, hY, opv_3]
  obtain ⟨k, h1, h2, rfl⟩ := hw.k
  exact mp_3 h1 h2 hw
theorem rm_4 {tab : Nat → Int64} {S : XS} {wa x1 y1 z1 : Int32} {x y z : Int64} (ew : fA S 4 x1.toNatClampNeg = wa) (hX : fL S 1 x1.toNatClampNeg = rp wa x) (hY : fL S 1 y1.toNatClampNeg = rp wa y) (hw : isW wa) : fm_Mod_result S 4 x1 y1 z1 = rp wa (opv tab 4 wa y1 x y z) := by
  rw [fm_Mod_result, if_neg (show ¬ (4 : Int32) = 16 by decide), if_neg (show ¬ (4 : Int32) = 17 by decide), if_neg (show ¬ (4 : Int32) = 18 by decide), if_neg (show ¬ (4 : Int32) = 19 by decide), if_neg (show ¬ (4 : Int32) = 20 by decide), if_pos (show (2 : Int32) ≤ 4 by decide), ew, hX, hY, opv_4]
  obtain ⟨k, h1, h2, rfl⟩ := hw.k
  exact mp_4 h1 h2 hw
theorem rm_5 {tab : Nat → Int64} {S : XS} {wa x1 y1 z1 : Int32} {x y z : Int64} (ew : fA S 4 x1.toNatClampNeg = wa) (hX : fL S 1 x1.toNatClampNeg = rp wa x) (hY : fL S 1 y1.toNatClampNeg = rp wa y) (hw : isW wa) : fm_Mod_result S 5 x1 y1 z1 = rp wa (opv tab 5 wa y1 x y z) := by
  rw [fm_Mod_result, if_neg (show ¬ (5 : Int32) = 16 by decide), if_neg (show ¬ (5 : Int32) = 17 by decide), if_neg (show ¬ (5 : Int32) = 18 by decide), if_neg (show ¬ (5 : Int32) = 19 by decide), if_neg (show ¬ (5 : Int32) = 20 by decide), if_pos (show (2 : Int32) ≤ 5 by decide), ew, hX, hY, opv_5]
  obtain ⟨k, h1, h2, rfl⟩ := hw.k
  exact mp_5 h1 h2 hw
theorem rm_6 {tab : Nat → Int64} {S : XS} {wa x1 y1 z1 : Int32} {x y z : Int64} (ew : fA S 4 x1.toNatClampNeg = wa) (hX : fL S 1 x1.toNatClampNeg = rp wa x) (hY : fL S 1 y1.toNatClampNeg = rp wa y) (hw : isW wa) : fm_Mod_result S 6 x1 y1 z1 = rp wa (opv tab 6 wa y1 x y z) := by
  rw [fm_Mod_result, if_neg (show ¬ (6 : Int32) = 16 by decide), if_neg (show ¬ (6 : Int32) = 17 by decide), if_neg (show ¬ (6 : Int32) = 18 by decide), if_neg (show ¬ (6 : Int32) = 19 by decide), if_neg (show ¬ (6 : Int32) = 20 by decide), if_pos (show (2 : Int32) ≤ 6 by decide), ew, hX, hY, opv_6]
  obtain ⟨k, h1, h2, rfl⟩ := hw.k
  exact mp_6 h1 h2 hw
theorem rm_7 {tab : Nat → Int64} {S : XS} {wa x1 y1 z1 : Int32} {x y z : Int64} (ew : fA S 4 x1.toNatClampNeg = wa) (hX : fL S 1 x1.toNatClampNeg = rp wa x) (hY : fL S 1 y1.toNatClampNeg = rp wa y) (hw : isW wa) : fm_Mod_result S 7 x1 y1 z1 = rp wa (opv tab 7 wa y1 x y z) := by
  rw [fm_Mod_result, if_neg (show ¬ (7 : Int32) = 16 by decide), if_neg (show ¬ (7 : Int32) = 17 by decide), if_neg (show ¬ (7 : Int32) = 18 by decide), if_neg (show ¬ (7 : Int32) = 19 by decide), if_neg (show ¬ (7 : Int32) = 20 by decide), if_pos (show (2 : Int32) ≤ 7 by decide), ew, hX, hY, opv_7]
  obtain ⟨k, h1, h2, rfl⟩ := hw.k
  exact mp_7 h1 h2 hw
theorem rm_8 {tab : Nat → Int64} {S : XS} {x1 y1 z1 : Int32} {x y z : Int64} (ew : fA S 4 x1.toNatClampNeg = 8) (hX : fL S 1 x1.toNatClampNeg = rp 8 x) (hY : fL S 1 y1.toNatClampNeg = rp 8 y) (hy : nrm 8 y) : fm_Mod_result S 8 x1 y1 z1 = rp 8 (opv tab 8 8 y1 x y z) := by
  rw [fm_Mod_result, if_neg (show ¬ (8 : Int32) = 16 by decide), if_neg (show ¬ (8 : Int32) = 17 by decide), if_neg (show ¬ (8 : Int32) = 18 by decide), if_neg (show ¬ (8 : Int32) = 19 by decide), if_neg (show ¬ (8 : Int32) = 20 by decide), if_pos (show (2 : Int32) ≤ 8 by decide), ew, hX, hY, opv_8]
  exact mp_8 hy
theorem rm_9 {tab : Nat → Int64} {S : XS} {x1 y1 z1 : Int32} {x y z : Int64} (ew : fA S 4 x1.toNatClampNeg = 8) (hX : fL S 1 x1.toNatClampNeg = rp 8 x) (hY : fL S 1 y1.toNatClampNeg = rp 8 y) (hy : nrm 8 y) : fm_Mod_result S 9 x1 y1 z1 = rp 8 (opv tab 9 8 y1 x y z) := by
  rw [fm_Mod_result, if_neg (show ¬ (9 : Int32) = 16 by decide), if_neg (show ¬ (9 : Int32) = 17 by decide), if_neg (show ¬ (9 : Int32) = 18 by decide), if_neg (show ¬ (9 : Int32) = 19 by decide), if_neg (show ¬ (9 : Int32) = 20 by decide), if_pos (show (2 : Int32) ≤ 9 by decide), ew, hX, hY, opv_9]
  exact mp_9 hy
theorem rm_10 {tab : Nat → Int64} {S : XS} {wa x1 y1 z1 : Int32} {x y z : Int64} (ew : fA S 4 x1.toNatClampNeg = wa) (hX : fL S 1 x1.toNatClampNeg = rp wa x) (hY : fL S 1 y1.toNatClampNeg = rp wa y) (hw : isW wa) (hx : nrm wa x) (hy : nrm wa y) : fm_Mod_result S 10 x1 y1 z1 = rp wa (opv tab 10 wa y1 x y z) := by
  rw [fm_Mod_result, if_neg (show ¬ (10 : Int32) = 16 by decide), if_neg (show ¬ (10 : Int32) = 17 by decide), if_neg (show ¬ (10 : Int32) = 18 by decide), if_neg (show ¬ (10 : Int32) = 19 by decide), if_neg (show ¬ (10 : Int32) = 20 by decide), if_pos (show (2 : Int32) ≤ 10 by decide), ew, hX, hY, opv_10]
  obtain ⟨k, h1, h2, rfl⟩ := hw.k
  exact mp_10 h1 h2 hw hx hy
theorem rm_11 {tab : Nat → Int64} {S : XS} {wa x1 y1 z1 : Int32} {x y z : Int64} (ew : fA S 4 x1.toNatClampNeg = wa) (hX : fL S 1 x1.toNatClampNeg = rp wa x) (hY : fL S 1 y1.toNatClampNeg = rp wa y) (hw : isW wa) (hx : nrm wa x) (hy : nrm wa y) : fm_Mod_result S 11 x1 y1 z1 = rp wa (opv tab 11 wa y1 x y z) := by
  rw [fm_Mod_result, if_neg (show ¬ (11 : Int32) = 16 by decide), if_neg (show ¬ (11 : Int32) = 17 by decide), if_neg (show ¬ (11 : Int32) = 18 by decide), if_neg (show ¬ (11 : Int32) = 19 by decide), if_neg (show ¬ (11 : Int32) = 20 by decide), if_pos (show (2 : Int32) ≤ 11 by decide), ew, hX, hY, opv_11]
  obtain ⟨k, h1, h2, rfl⟩ := hw.k
  exact mp_11 h1 h2 hw hx hy
theorem rm_12 {tab : Nat → Int64} {S : XS} {wa x1 y1 z1 : Int32} {x y z : Int64} (ew : fA S 4 x1.toNatClampNeg = wa) (hX : fL S 1 x1.toNatClampNeg = rp wa x) (hY : fL S 1 y1.toNatClampNeg = rp wa y) (hw : isW wa) (hx : nrm wa x) (hy : nrm wa y) : fm_Mod_result S 12 x1 y1 z1 = rp wa (opv tab 12 wa y1 x y z) := by
  rw [fm_Mod_result, if_neg (show ¬ (12 : Int32) = 16 by decide), if_neg (show ¬ (12 : Int32) = 17 by decide), if_neg (show ¬ (12 : Int32) = 18 by decide), if_neg (show ¬ (12 : Int32) = 19 by decide), if_neg (show ¬ (12 : Int32) = 20 by decide), if_pos (show (2 : Int32) ≤ 12 by decide), ew, hX, hY, opv_12]
  obtain ⟨k, h1, h2, rfl⟩ := hw.k
  exact mp_12 h1 h2 hw hx hy
theorem rm_13 {tab : Nat → Int64} {S : XS} {wa x1 y1 z1 : Int32} {x y z : Int64} (ew : fA S 4 x1.toNatClampNeg = wa) (hX : fL S 1 x1.toNatClampNeg = rp wa x) (hY : fL S 1 y1.toNatClampNeg = rp wa y) (hw : isW wa) (hx : nrm wa x) (hy : nrm wa y) : fm_Mod_result S 13 x1 y1 z1 = rp 1 (opv tab 13 wa y1 x y z) := by
  rw [fm_Mod_result, if_neg (show ¬ (13 : Int32) = 16 by decide), if_neg (show ¬ (13 : Int32) = 17 by decide), if_neg (show ¬ (13 : Int32) = 18 by decide), if_neg (show ¬ (13 : Int32) = 19 by decide), if_neg (show ¬ (13 : Int32) = 20 by decide), if_pos (show (2 : Int32) ≤ 13 by decide), ew, hX, hY, opv_13]
  obtain ⟨k, h1, h2, rfl⟩ := hw.k
  exact mp_13 h1 h2 hw hx hy
theorem rm_14 {tab : Nat → Int64} {S : XS} {wa x1 y1 z1 : Int32} {x y z : Int64} (ew : fA S 4 x1.toNatClampNeg = wa) (hX : fL S 1 x1.toNatClampNeg = rp wa x) (hY : fL S 1 y1.toNatClampNeg = rp wa y) (hw : isW wa) (hx : nrm wa x) (hy : nrm wa y) : fm_Mod_result S 14 x1 y1 z1 = rp 1 (opv tab 14 wa y1 x y z) := by
  rw [fm_Mod_result, if_neg (show ¬ (14 : Int32) = 16 by decide), if_neg (show ¬ (14 : Int32) = 17 by decide), if_neg (show ¬ (14 : Int32) = 18 by decide), if_neg (show ¬ (14 : Int32) = 19 by decide), if_neg (show ¬ (14 : Int32) = 20 by decide), if_pos (show (2 : Int32) ≤ 14 by decide), ew, hX, hY, opv_14]
  obtain ⟨k, h1, h2, rfl⟩ := hw.k
  exact mp_14 h1 h2 hw hx hy
theorem rm_15 {tab : Nat → Int64} {S : XS} {wa x1 y1 z1 : Int32} {x y z : Int64} (ew : fA S 4 x1.toNatClampNeg = wa) (hX : fL S 1 x1.toNatClampNeg = rp wa x) (hY : fL S 1 y1.toNatClampNeg = rp wa y) (hw : isW wa) (hx : nrm wa x) (hy : nrm wa y) : fm_Mod_result S 15 x1 y1 z1 = rp 1 (opv tab 15 wa y1 x y z) := by
  rw [fm_Mod_result, if_neg (show ¬ (15 : Int32) = 16 by decide), if_neg (show ¬ (15 : Int32) = 17 by decide), if_neg (show ¬ (15 : Int32) = 18 by decide), if_neg (show ¬ (15 : Int32) = 19 by decide), if_neg (show ¬ (15 : Int32) = 20 by decide), if_pos (show (2 : Int32) ≤ 15 by decide), ew, hX, hY, opv_15]
  obtain ⟨k, h1, h2, rfl⟩ := hw.k
  exact mp_15 h1 h2 hw hx hy
theorem rm_16 {tab : Nat → Int64} {S : XS} {wt x1 y1 z1 : Int32} {x y z : Int64} (ew : fA S 4 x1.toNatClampNeg = 1) (hX : fL S 1 x1.toNatClampNeg = rp 1 x) (hY : fL S 1 y1.toNatClampNeg = rp wt y) (hZ : fL S 1 z1.toNatClampNeg = rp wt z) (hx : nrm 1 x) : fm_Mod_result S 16 x1 y1 z1 = rp wt (opv tab 16 1 y1 x y z) := by
  rw [fm_Mod_result, if_pos rfl, opv_16, hX, hY, hZ]
  by_cases c : x = 0
  · rw [if_neg (fun q => (rp1_1 hx).mp ((lg_cmp_eq _ _).mp q) c), if_pos ((lg_cmp_eq _ _).mpr c)]
  · rw [if_pos ((lg_cmp_eq _ _).mpr ((rp1_1 hx).mpr c)), if_neg (fun q => c ((lg_cmp_eq _ _).mp q))]
theorem rm_17 {tab : Nat → Int64} {S : XS} {wa wt x1 z1 : Int32} {x y z : Int64} (ew : fA S 4 x1.toNatClampNeg = wa) (hX : fL S 1 x1.toNatClampNeg = rp wa x) (hw : isW wa) (hv : isW wt) (hl : wa < wt) : fm_Mod_result S 17 x1 wt z1 = rp wt (opv tab 17 wa wt x y z) := by
  rw [fm_Mod_result, if_neg (show ¬ (17 : Int32) = 16 by decide), if_pos rfl, opv_17, hX, fx_Op_resized, if_pos rfl]
  obtain ⟨k, h1, h2, rfl⟩ := hw.k
  obtain ⟨k2, h3, h4, rfl⟩ := hv.k
  have hk : k < k2 := (nI_ltI (by omega) (by omega)).mp hl
  exact (rp_hi h1 (by omega) h4 x).symm
theorem rm_18 {tab : Nat → Int64} {S : XS} {wa wt x1 z1 : Int32} {x y z : Int64} (ew : fA S 4 x1.toNatClampNeg = wa) (hX : fL S 1 x1.toNatClampNeg = rp wa x) (hw : isW wa) (hx : nrm wa x) (hv : isW wt) (hl : wa < wt) : fm_Mod_result S 18 x1 wt z1 = rp wt (opv tab 18 wa wt x y z) := by
  rw [fm_Mod_result, if_neg (show ¬ (18 : Int32) = 16 by decide), if_neg (show ¬ (18 : Int32) = 17 by decide), if_pos rfl, opv_18, hX, ew, fx_Op_resized, if_neg (show ¬ (18 : Int32) = 17 by decide), if_neg (show ¬ (18 : Int32) = 19 by decide), cut_rp hv, sign_rs]
  obtain ⟨k, h1, h2, rfl⟩ := hw.k
  rw [rs_rp h1 h2 hx]
theorem rm_19 {tab : Nat → Int64} {S : XS} {wa wt x1 z1 : Int32} {x y z : Int64} (ew : fA S 4 x1.toNatClampNeg = wa) (hX : fL S 1 x1.toNatClampNeg = rp wa x) (hw : isW wa) (hv : isW wt) (hl : wt < wa) : fm_Mod_result S 19 x1 wt z1 = rp wt (opv tab 19 wa wt x y z) := by
  rw [fm_Mod_result, if_neg (show ¬ (19 : Int32) = 16 by decide), if_neg (show ¬ (19 : Int32) = 17 by decide), if_neg (show ¬ (19 : Int32) = 18 by decide), if_pos rfl, opv_19, hX, fx_Op_resized, if_neg (show ¬ (19 : Int32) = 17 by decide), if_pos rfl, cut_rp hv]
  obtain ⟨k, h1, h2, rfl⟩ := hw.k
  obtain ⟨k2, h3, h4, rfl⟩ := hv.k
  have hk : k2 < k := (nI_ltI (by omega) (by omega)).mp hl
  rw [rp_lo h3 (by omega) h2]
  exact (rp_rs h3 h4 x).symm
theorem rm_20 {tab : Nat → Int64} {S : XS} {x1 y1 z1 : Int32} {x y z : Int64} (ew : fA S 4 x1.toNatClampNeg = 8) (hX : fL S 1 x1.toNatClampNeg = rp 8 x) (htab : TabOK tab (fA S 10)) (hb : vp_in y1 2) : fm_Mod_result S 20 x1 y1 z1 = rp 8 (opv tab 20 8 y1 x y z) := by
  rw [fm_Mod_result, if_neg (show ¬ (20 : Int32) = 16 by decide), if_neg (show ¬ (20 : Int32) = 17 by decide), if_neg (show ¬ (20 : Int32) = 18 by decide), if_neg (show ¬ (20 : Int32) = 19 by decide), if_pos rfl, opv_20, hX]
  have e : rp 8 x &&& (7 : Int64) = x &&& (7 : Int64) := and7_alk (rp_alk (k := 8) (by decide) (by decide) x)
  rw [e]
  obtain ⟨j, hj, e2⟩ := vp_in_of (wl_lk hb x) (by decide)
  rw [e2, nI_clamp (by omega)]
  exact htab.v hj
theorem resM {tab : Nat → Int64} {S : XS} {o wa wb wc wt x1 y1 z1 : Int32} {x y z : Int64} (hO : OpTy o wa wb wc y1 wt) (ew : fA S 4 x1.toNatClampNeg = wa) (htab : TabOK tab (fA S 10)) (hx : nrm wa x) (hX : fL S 1 x1.toNatClampNeg = rp wa x) (hy : nI 1 < fx_Op_namedTerms o → nrm wb y ∧ fL S 1 y1.toNatClampNeg = rp wb y) (hz : nI 2 < fx_Op_namedTerms o → nrm wc z ∧ fL S 1 z1.toNatClampNeg = rp wc z) : fm_Mod_result S o x1 y1 z1 = rp wt (opv tab o wa y1 x y z) := by
  obtain ⟨hw, hv, h⟩ := hO
  rcases h with ⟨ho, rfl⟩ | ⟨ho, rfl, rfl⟩ | ⟨ho, rfl, rfl, rfl⟩ | ⟨ho, rfl, rfl⟩ | ⟨rfl, rfl, rfl, rfl⟩ | ⟨ho, rfl, hl⟩ | ⟨rfl, rfl, hl⟩ | ⟨rfl, hb, rfl, rfl⟩
  · rcases ho with rfl | rfl
    · exact rm_0 ew hX hw
    · exact rm_1 ew hX hw
  · rcases ho with rfl | rfl | rfl | rfl | rfl | rfl | rfl | rfl | rfl
    · exact rm_2 ew hX (hy ont_2).2 hw
    · exact rm_3 ew hX (hy ont_3).2 hw
    · exact rm_4 ew hX (hy ont_4).2 hw
    · exact rm_5 ew hX (hy ont_5).2 hw
    · exact rm_6 ew hX (hy ont_6).2 hw
    · exact rm_7 ew hX (hy ont_7).2 hw
    · exact rm_10 ew hX (hy ont_10).2 hw hx (hy ont_10).1
    · exact rm_11 ew hX (hy ont_11).2 hw hx (hy ont_11).1
    · exact rm_12 ew hX (hy ont_12).2 hw hx (hy ont_12).1
  · rcases ho with rfl | rfl
    · exact rm_8 ew hX (hy ont_8).2 (hy ont_8).1
    · exact rm_9 ew hX (hy ont_9).2 (hy ont_9).1
  · rcases ho with rfl | rfl | rfl
    · exact rm_13 ew hX (hy ont_13).2 hw hx (hy ont_13).1
    · exact rm_14 ew hX (hy ont_14).2 hw hx (hy ont_14).1
    · exact rm_15 ew hX (hy ont_15).2 hw hx (hy ont_15).1
  · exact rm_16 ew hX (hy ont_16).2 (hz ont3_16).2 hx
  · rcases ho with rfl | rfl
    · exact rm_17 ew hX hw hv hl
    · exact rm_18 ew hX hw hx hv hl
  · exact rm_19 ew hX hw hv hl
  · exact rm_20 ew hX htab hb
theorem opvN {tab : Nat → Int64} {o wa wb wc b wt : Int32} {x y z : Int64} (hO : OpTy o wa wb wc b wt) (htab : ∀ j : Nat, j < 16 → nrm 8 (tab j)) (hx : nrm wa x) (hy : nI 1 < fx_Op_namedTerms o → nrm wb y) (hz : nI 2 < fx_Op_namedTerms o → nrm wc z) : nrm wt (opv tab o wa b x y z) := by
  obtain ⟨hw, hv, h⟩ := hO
  rcases h with ⟨ho, rfl⟩ | ⟨ho, rfl, rfl⟩ | ⟨ho, rfl, rfl, rfl⟩ | ⟨ho, rfl, rfl⟩ | ⟨rfl, rfl, rfl, rfl⟩ | ⟨ho, rfl, hl⟩ | ⟨rfl, rfl, hl⟩ | ⟨rfl, hb, rfl, rfl⟩
  · rcases ho with rfl | rfl
    · rw [opv_0]; exact nrm_one hw hx
    · rw [opv_1]; exact nrm_one hw hx
  · rcases ho with rfl | rfl | rfl | rfl | rfl | rfl | rfl | rfl | rfl
    · rw [opv_2]; exact nrm_two hw (by decide) hx (hy ont_2)
    · rw [opv_3]; exact nrm_two hw (by decide) hx (hy ont_3)
    · rw [opv_4]; exact nrm_two hw (by decide) hx (hy ont_4)
    · rw [opv_5]; exact nrm_two hw (by decide) hx (hy ont_5)
    · rw [opv_6]; exact nrm_two hw (by decide) hx (hy ont_6)
    · rw [opv_7]; exact nrm_two hw (by decide) hx (hy ont_7)
    · rw [opv_10]; exact nrm_mov hw hx
    · rw [opv_11]; exact nrm_mov hw hx
    · rw [opv_12]; exact nrm_mov hw hx
  · rcases ho with rfl | rfl
    · rw [opv_8]; exact nrm_div hw hx
    · rw [opv_9]; exact nrm_div hw hx
  · rcases ho with rfl | rfl | rfl
    · rw [opv_13]; exact nrm_cmp hv (by decide)
    · rw [opv_14]; exact nrm_cmp hv (by decide)
    · rw [opv_15]; exact nrm_cmp hv (by decide)
  · rw [opv_16]; exact wl_ite (P := nrm _) (hz ont3_16) (hy ont_16)
  · rcases ho with rfl | rfl
    · rw [opv_17]; exact nrm_wide hw hv hl (by decide) hx
    · rw [opv_18]; exact nrm_wide hw hv hl (by decide) hx
  · rw [opv_19, fx_Op_resized, if_neg (show ¬ (19 : Int32) = 17 by decide), if_pos rfl]; exact nrm_rs hv _
  · rw [opv_20]
    obtain ⟨j, hj, e2⟩ := vp_in_of (wl_lk hb x) (by decide)
    rw [e2, nI_clamp (by omega)]; exact htab j hj
theorem XTt.ty {st : XS} {V t : Nat} (h : XTt st V t) (ht : t < 2147483648) (hW : ∀ j : Nat, j < t → isW (fA st 4 j)) (h21 : ¬ fA st 3 t = 21) (h22 : ¬ fA st 3 t = 22) : OpTy (fA st 3 t) (fA st 4 (oA st t)) (fA st 4 (oB st t)) (fA st 4 (oC st t)) (fA st 5 (3 * t + 1)) (fA st 4 t) := by
  obtain ⟨hw, h⟩ := h
  rcases h with ⟨h, _⟩ | ⟨h, _⟩ | ⟨ho, ha, wa⟩ | ⟨ho, ha, hb, wa, wb⟩ | ⟨ho, ha, hb, wa, wb, wt⟩ | ⟨ho, ha, hb, wab, wt⟩ | ⟨ho, ha, hb, hc, wa, wb, wc⟩ | ⟨ho, ha, eb, wl⟩ | ⟨ho, ha, eb, wl⟩ | ⟨ho, ha, hb, wa, wt⟩
  · exact absurd h h21
  · exact absurd h h22
  · exact ⟨hW _ (oA_lt ha ht), hw, Or.inl ⟨ho, wa.symm⟩⟩
  · exact ⟨hW _ (oA_lt ha ht), hw, Or.inr (Or.inl ⟨ho, wb.trans wa.symm, wa.symm⟩)⟩
  · exact ⟨hW _ (oA_lt ha ht), hw, Or.inr (Or.inr (Or.inl ⟨ho, wa, wb, wt⟩))⟩
  · exact ⟨hW _ (oA_lt ha ht), hw, Or.inr (Or.inr (Or.inr (Or.inl ⟨ho, wab.symm, wt⟩)))⟩
  · exact ⟨hW _ (oA_lt ha ht), hw, Or.inr (Or.inr (Or.inr (Or.inr (Or.inl ⟨ho, wa, wb, wc⟩))))⟩
  · exact ⟨hW _ (oA_lt ha ht), hw, Or.inr (Or.inr (Or.inr (Or.inr (Or.inr (Or.inl ⟨ho, eb, wl⟩)))))⟩
  · exact ⟨hW _ (oA_lt ha ht), hw, Or.inr (Or.inr (Or.inr (Or.inr (Or.inr (Or.inr (Or.inl ⟨ho, eb, wl⟩))))))⟩
  · exact ⟨hW _ (oA_lt ha ht), hw, Or.inr (Or.inr (Or.inr (Or.inr (Or.inr (Or.inr (Or.inr ⟨ho, hb, wa, wt⟩))))))⟩
theorem nt_0 {st : XS} {V t : Nat} (h : XTt st V t) (h21 : ¬ fA st 3 t = 21) (h22 : ¬ fA st 3 t = 22) : nI 0 < fx_Op_namedTerms (fA st 3 t) := nt_pos (h.op h21 h22).1 (h.op h21 h22).2
theorem xvalN {st : XS} {V N : Nat} {n : Int32} (hX : XT st V N) (h64 : N ≤ 64) (hV4 : V ≤ 4) : ∀ t : Nat, t < N → nrm (fA st 4 t) (xval st n t) := by
  intro t
  induction t using Nat.strongRecOn with
  | ind t ih =>
    intro ht
    have hT := hX.1 t ht
    rw [xval_eq hX h64 ht]
    unfold xstep
    by_cases h21 : fA st 3 t = 21
    · rw [if_pos h21]; exact hT.o21 h21
    · rw [if_neg h21]
      by_cases h22 : fA st 3 t = 22
      · rw [if_pos h22, (hT.o22 h22).1]
        obtain ⟨v, hv, e⟩ := vp_in_of (hT.o22 h22).2 (by omega)
        rw [e]; exact nrm_readAt (by omega) (hX.2.2 v hv)
      · rw [if_neg h22]
        have lt := hT.lt (by omega)
        have nm : ∀ j : Nat, j < 3 → nI j < fx_Op_namedTerms (fA st 3 t) → nrm (fA st 4 (fA st 5 (3 * t + j)).toNatClampNeg) (xval st n (fA st 5 (3 * t + j)).toNatClampNeg) := fun j hj q => ih _ (lt j hj q) (by have := lt j hj q; omega)
        exact opvN (hT.ty (by omega) (fun j hj => (hX.1 j (by omega)).1) h21 h22) hX.2.1 (nm 0 (by decide) (nt_0 hT h21 h22)) (nm 1 (by decide)) (nm 2 (by decide))
