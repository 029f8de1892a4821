def lb (x : Int64) (i : Nat) : Bool := x.toBitVec.getLsbD i
theorem lb_ext {x y : Int64} (h : ∀ i, i < 64 → lb x i = lb y i) : x = y := Int64.toBitVec_inj.mp (BitVec.eq_of_getLsbD_eq (fun i hi => h i hi))
theorem lb_or (x y : Int64) (i : Nat) : lb (x ||| y) i = (lb x i || lb y i) := by unfold lb; rw [Int64.toBitVec_or, BitVec.getLsbD_or]
theorem lb_and (x y : Int64) (i : Nat) : lb (x &&& y) i = (lb x i && lb y i) := by unfold lb; rw [Int64.toBitVec_and, BitVec.getLsbD_and]
theorem lb_xor (x y : Int64) (i : Nat) : lb (x ^^^ y) i = (lb x i ^^ lb y i) := by unfold lb; rw [Int64.toBitVec_xor, BitVec.getLsbD_xor]
theorem lb_big {x : Int64} {i : Nat} (h : 64 ≤ i) : lb x i = false := BitVec.getLsbD_of_ge _ _ h
theorem lb_0 (i : Nat) : lb 0 i = false := BitVec.getLsbD_zero
theorem lb_m1 : ∀ i, i < 64 → lb (-1) i = true := by decide +kernel
theorem ls_l : ∀ n, n < 64 → ((lN n).toBitVec.smod 64).toNat = n := by decide +kernel
theorem ls_u : ∀ n, n < 64 → ((UInt64.ofNat n).toBitVec % 64).toNat = n := by decide +kernel
theorem lb_shl {n : Nat} (hn : n < 64) (x : Int64) {i : Nat} (hi : i < 64) : lb (x <<< lN n) i = (decide (n ≤ i) && lb x (i - n)) := by
  unfold lb
  rw [Int64.toBitVec_shiftLeft]
  show (x.toBitVec <<< ((lN n).toBitVec.smod 64).toNat).getLsbD i = _
  rw [ls_l n hn, BitVec.getLsbD_shiftLeft]
  rcases Nat.lt_or_ge i n with h | h
  · simp [h, Nat.not_le.mpr h]
  · simp [hi, h, Nat.not_lt.mpr h]
theorem lb_sshr {n : Nat} (hn : n < 64) (x : Int64) {i : Nat} (hi : i < 64) : lb (x >>> lN n) i = if n + i < 64 then lb x (n + i) else lb x 63 := by
  unfold lb
  rw [Int64.toBitVec_shiftRight]
  show (x.toBitVec.sshiftRight ((lN n).toBitVec.smod 64).toNat).getLsbD i = _
  rw [ls_l n hn, BitVec.getLsbD_sshiftRight, BitVec.msb_eq_getLsbD_last]
  simp [hi]
theorem lb_ushr {n : Nat} (hn : n < 64) (x : Int64) (i : Nat) : lb ((x.toUInt64 >>> UInt64.ofNat n).toInt64) i = lb x (n + i) := by
  show (x.toUInt64 >>> UInt64.ofNat n).toBitVec.getLsbD i = x.toUInt64.toBitVec.getLsbD (n + i)
  rw [UInt64.toBitVec_shiftRight]
  show (x.toUInt64.toBitVec >>> ((UInt64.ofNat n).toBitVec % 64).toNat).getLsbD i = _
  rw [ls_u n hn, BitVec.getLsbD_ushiftRight]
theorem lb_eq0 {x : Int64} : x = 0 ↔ ∀ i, i < 64 → lb x i = false := ⟨fun h i _ => by rw [h]; exact lb_0 i, fun h => lb_ext (fun i hi => by rw [h i hi, lb_0])⟩
theorem rs_amt : ∀ w, w < 65 → 1 ≤ w → ((64 : Int32) - nI w).toInt64 &&& 63 = lN (64 - w) := by decide +kernel
theorem rs_amu : ∀ w, w < 65 → 1 ≤ w → ((64 : Int32) - nI w).toInt64.toUInt64 &&& Int64.toUInt64 63 = UInt64.ofNat (64 - w) := by decide +kernel

theorem wb_tb (n : Nat) : (lN n).toBitVec = BitVec.ofNat 64 n := rfl
theorem wb_inj {a b : Int64} (h : a.toBitVec = b.toBitVec) : a = b := Int64.toBitVec_inj.mp h
theorem wb_tn {n : Nat} (h : n < 2 ^ 64) : (lN n).toBitVec.toNat = n := by rw [wb_tb, BitVec.toNat_ofNat, Nat.mod_eq_of_lt h]
theorem wb_of (x : Int64) : ∃ n, n < 2 ^ 64 ∧ x = lN n := ⟨x.toBitVec.toNat, x.toBitVec.isLt, wb_inj (by rw [wb_tb]; simp)⟩
theorem wb_of32 (x : Int32) : ∃ n, n < 2 ^ 32 ∧ x = nI n := ⟨x.toBitVec.toNat, x.toBitVec.isLt, Int32.toBitVec_inj.mp (by show _ = BitVec.ofNat 32 _; simp)⟩
theorem wb_c : ∀ k, k < 64 → ((nI k).toInt64 &&& 63) = lN k := by decide +kernel
theorem wb_cu : ∀ k, k < 64 → ((nI k).toInt64.toUInt64 &&& Int64.toUInt64 63) = UInt64.ofNat k := by decide +kernel
theorem wb_sm : ∀ k, k < 64 → (BitVec.ofNat 64 k).smod 64 = BitVec.ofNat 64 k := by decide +kernel
theorem wb_pw {a b : Nat} (h : a ≤ b) : 2 ^ b = 2 ^ a * 2 ^ (b - a) := by rw [← Nat.pow_add]; congr 1; omega
theorem wb_lt2 {a b : Nat} (h : a < b) : 2 ^ a < 2 ^ b := Nat.pow_lt_pow_right (by decide) h
theorem wb_mod (n : Nat) : lN n = lN (n % 2 ^ 64) := wb_inj (by rw [wb_tb, wb_tb]; apply BitVec.eq_of_toNat_eq; rw [BitVec.toNat_ofNat, BitVec.toNat_ofNat, Nat.mod_mod])
theorem wb_shr {n k : Nat} (hn : n < 2 ^ 64) (hk : k < 64) : ((lN n).toUInt64 >>> ((nI k).toInt64.toUInt64 &&& Int64.toUInt64 63)).toInt64 = lN (n / 2 ^ k) := by
  rw [wb_cu k hk]
  apply wb_inj
  apply BitVec.eq_of_toNat_eq
  show ((lN n).toUInt64 >>> UInt64.ofNat k).toNat = (BitVec.ofNat 64 _).toNat
  have h1 : (UInt64.ofNat k).toNat = k := by
    show (BitVec.ofNat 64 k).toNat = k
    rw [BitVec.toNat_ofNat, Nat.mod_eq_of_lt (by omega)]
  have h2 : (lN n).toUInt64.toNat = n := wb_tn hn
  rw [UInt64.toNat_shiftRight, h1, h2, Nat.mod_eq_of_lt hk, Nat.shiftRight_eq_div_pow, BitVec.toNat_ofNat, Nat.mod_eq_of_lt (Nat.lt_of_le_of_lt (Nat.div_le_self _ _) hn)]
theorem wb_shl (n : Nat) {k : Nat} (hk : k < 64) : lN n <<< ((nI k).toInt64 &&& 63) = lN (n * 2 ^ k) := by
  rw [wb_c k hk]
  apply wb_inj
  rw [Int64.toBitVec_shiftLeft, wb_tb, wb_tb, wb_tb, wb_sm k hk]
  apply BitVec.eq_of_toNat_eq
  rw [BitVec.shiftLeft_eq', BitVec.toNat_shiftLeft, BitVec.toNat_ofNat, BitVec.toNat_ofNat, BitVec.toNat_ofNat, Nat.mod_eq_of_lt (show k < 2 ^ 64 by omega), Nat.shiftLeft_eq, Nat.mul_mod, Nat.mod_mod, ← Nat.mul_mod]
theorem wb_and {a b : Nat} (ha : a < 2 ^ 64) (hb : b < 2 ^ 64) : lN a &&& lN b = lN (a &&& b) := by
  apply wb_inj
  rw [Int64.toBitVec_and, wb_tb, wb_tb, wb_tb]
  apply BitVec.eq_of_toNat_eq
  rw [BitVec.toNat_and, BitVec.toNat_ofNat, BitVec.toNat_ofNat, BitVec.toNat_ofNat, Nat.mod_eq_of_lt ha, Nat.mod_eq_of_lt hb, Nat.mod_eq_of_lt (Nat.and_lt_two_pow _ hb)]
theorem wb_or {a b : Nat} (ha : a < 2 ^ 64) (hb : b < 2 ^ 64) : lN a ||| lN b = lN (a ||| b) := by
  apply wb_inj
  rw [Int64.toBitVec_or, wb_tb, wb_tb, wb_tb]
  apply BitVec.eq_of_toNat_eq
  rw [BitVec.toNat_or, BitVec.toNat_ofNat, BitVec.toNat_ofNat, BitVec.toNat_ofNat, Nat.mod_eq_of_lt ha, Nat.mod_eq_of_lt hb, Nat.mod_eq_of_lt (Nat.or_lt_two_pow ha hb)]
theorem wb_mask {n k : Nat} (hn : n < 2 ^ 64) (hk : k < 64) : lN n &&& lN (2 ^ k - 1) = lN (n % 2 ^ k) := by
  rw [wb_and hn (by have := wb_lt2 hk; omega), Nat.and_two_pow_sub_one_eq_mod]
theorem wb_a1 {n : Nat} (hn : n < 2 ^ 64) : lN n &&& 1 = lN (n % 2) := wb_mask (k := 1) hn (by decide)
theorem wb_bit {n k : Nat} (hn : n < 2 ^ 64) (hk : k < 64) : ((lN n).toUInt64 >>> ((nI k).toInt64.toUInt64 &&& Int64.toUInt64 63)).toInt64 &&& 1 = lN (n / 2 ^ k % 2) := by
  rw [wb_shr hn hk, wb_a1 (Nat.lt_of_le_of_lt (Nat.div_le_self _ _) hn)]
theorem wl_and7 (x : Int64) : ∃ j : Nat, j < 8 ∧ (x &&& (7 : Int64)).toInt32 = nI j := by
  obtain ⟨n, hn, e⟩ := wb_of x
  refine ⟨n % 8, Nat.mod_lt _ (by decide), ?_⟩
  rw [e, show lN n &&& (7 : Int64) = lN (n % 8) from wb_mask (k := 3) hn (by decide), lN_i]
theorem wl_lk {t : Int32} (h : vp_in t 2) (x : Int64) : vp_in (t * (8 : Int32) + (x &&& (7 : Int64)).toInt32) 16 := by
  obtain ⟨T, hT, rfl⟩ := vp_in_of h (by decide)
  obtain ⟨j, hj, e⟩ := wl_and7 x
  rw [e, show (8 : Int32) = nI 8 from rfl, pk_mul, nI_add]
  exact vp_in_nI (by omega) (by decide)

def isW (w : Int32) : Prop := w = 1 ∨ w = 8 ∨ w = 16 ∨ w = 32 ∨ w = 64
def nrm (w : Int32) (x : Int64) : Prop := fx_Width_readSigned w x = x
def oA (st : XS) (t : Nat) : Nat := (fA st 5 (3 * t)).toNatClampNeg
def oB (st : XS) (t : Nat) : Nat := (fA st 5 (3 * t + 1)).toNatClampNeg
def oC (st : XS) (t : Nat) : Nat := (fA st 5 (3 * t + 2)).toNatClampNeg
def XTt (st : XS) (V t : Nat) : Prop := isW (fA st 4 t) ∧
  ((fA st 3 t = 21 ∧ nrm (fA st 4 t) (fL st 1 t)) ∨
   (fA st 3 t = 22 ∧ fA st 4 t = 8 ∧ vp_in (fA st 5 (3 * t)) V) ∨
   ((fA st 3 t = 0 ∨ fA st 3 t = 1) ∧ vp_in (fA st 5 (3 * t)) t ∧ fA st 4 (oA st t) = fA st 4 t) ∨
   ((fA st 3 t = 2 ∨ fA st 3 t = 3 ∨ fA st 3 t = 4 ∨ fA st 3 t = 5 ∨ fA st 3 t = 6 ∨ fA st 3 t = 7 ∨ fA st 3 t = 10 ∨ fA st 3 t = 11 ∨ fA st 3 t = 12) ∧ vp_in (fA st 5 (3 * t)) t ∧ vp_in (fA st 5 (3 * t + 1)) t ∧ fA st 4 (oA st t) = fA st 4 t ∧ fA st 4 (oB st t) = fA st 4 t) ∨
   ((fA st 3 t = 8 ∨ fA st 3 t = 9) ∧ vp_in (fA st 5 (3 * t)) t ∧ vp_in (fA st 5 (3 * t + 1)) t ∧ fA st 4 (oA st t) = 8 ∧ fA st 4 (oB st t) = 8 ∧ fA st 4 t = 8) ∨
   ((fA st 3 t = 13 ∨ fA st 3 t = 14 ∨ fA st 3 t = 15) ∧ vp_in (fA st 5 (3 * t)) t ∧ vp_in (fA st 5 (3 * t + 1)) t ∧ fA st 4 (oA st t) = fA st 4 (oB st t) ∧ fA st 4 t = 1) ∨
   (fA st 3 t = 16 ∧ vp_in (fA st 5 (3 * t)) t ∧ vp_in (fA st 5 (3 * t + 1)) t ∧ vp_in (fA st 5 (3 * t + 2)) t ∧ fA st 4 (oA st t) = 1 ∧ fA st 4 (oB st t) = fA st 4 t ∧ fA st 4 (oC st t) = fA st 4 t) ∨
   ((fA st 3 t = 17 ∨ fA st 3 t = 18) ∧ vp_in (fA st 5 (3 * t)) t ∧ fA st 5 (3 * t + 1) = fA st 4 t ∧ fA st 4 (oA st t) < fA st 4 t) ∨
   (fA st 3 t = 19 ∧ vp_in (fA st 5 (3 * t)) t ∧ fA st 5 (3 * t + 1) = fA st 4 t ∧ fA st 4 t < fA st 4 (oA st t)) ∨
   (fA st 3 t = 20 ∧ vp_in (fA st 5 (3 * t)) t ∧ vp_in (fA st 5 (3 * t + 1)) 2 ∧ fA st 4 (oA st t) = 8 ∧ fA st 4 t = 8))
def XVv (st : XS) (v : Nat) : Prop := ∃ b lo : Nat, 1 ≤ b ∧ b ≤ 8 ∧ b + lo ≤ 10 ∧ fA st 0 v = nI b ∧ fA st 1 v = nI lo
def XT (st : XS) (V N : Nat) : Prop := (∀ t : Nat, t < N → XTt st V t) ∧ (∀ j : Nat, j < 16 → nrm 8 (fL st 0 j)) ∧ ∀ v : Nat, v < V → XVv st v
def XM (st : XS) (N : Nat) : Prop := ∀ t : Nat, t < N → nrm (fA st 4 t) (fL st 2 t)
theorem XT.fr {Is As Ls : List Nat} {st S : XS} {V N : Nat} (h : XT st V N) (hF : XF Is As Ls st S) (hA : ∀ k ∈ [0, 1, 2, 3, 4, 5], k ∉ As) (hL : ∀ k ∈ [0, 1], k ∉ Ls) : XT S V N := by
  have h0 := hF.A 0 (hA 0 (by decide))
  have h1 := hF.A 1 (hA 1 (by decide))
  have h3 := hF.A 3 (hA 3 (by decide))
  have h4 := hF.A 4 (hA 4 (by decide))
  have h5 := hF.A 5 (hA 5 (by decide))
  have l0 := hF.L 0 (hL 0 (by decide))
  have l1 := hF.L 1 (hL 1 (by decide))
  refine ⟨fun t ht => ?_, fun j hj => ?_, fun v hv => ?_⟩
  · have q := h.1 t ht
    unfold XTt oA oB oC at *
    rw [h3, h4, h5, l1]
    exact q
  · rw [l0]; exact h.2.1 j hj
  · have q := h.2.2 v hv
    unfold XVv at *
    rw [h0, h1]
    exact q
theorem XM.fr {Is As Ls : List Nat} {st S : XS} {N : Nat} (h : XM st N) (hF : XF Is As Ls st S) (hA : 4 ∉ As) (hL : 2 ∉ Ls) : XM S N := by
  intro t ht
  rw [hF.A 4 hA, hF.L 2 hL]
  exact h t ht

theorem rs_bit {k : Nat} (h1 : 1 ≤ k) (h2 : k < 65) (x : Int64) {i : Nat} (hi : i < 64) : lb (fx_Width_readSigned (nI k) x) i = if i < k then lb x i else lb x (k - 1) := by
  rw [fx_Width_readSigned, rs_amt k h2 h1, lb_sshr (by omega) _ hi]
  by_cases h : i < k
  · rw [if_pos (by omega), if_pos h, lb_shl (by omega) _ (by omega)]
    rw [show 64 - k + i - (64 - k) = i by omega, decide_eq_true (by omega), Bool.true_and]
  · rw [if_neg (by omega), if_neg h, lb_shl (by omega) _ (by omega)]
    rw [show 63 - (64 - k) = k - 1 by omega, decide_eq_true (by omega), Bool.true_and]
theorem rp_bit {k : Nat} (h1 : 1 ≤ k) (h2 : k < 65) (x : Int64) {i : Nat} (hi : i < 64) : lb (fx_Width_readPlain (nI k) x) i = (decide (i < k) && lb x i) := by
  rw [fx_Width_readPlain, rs_amt k h2 h1, rs_amu k h2 h1, lb_ushr (by omega)]
  by_cases h : i < k
  · rw [lb_shl (by omega) _ (by omega), show 64 - k + i - (64 - k) = i by omega, decide_eq_true (show 64 - k ≤ 64 - k + i by omega), decide_eq_true h]
  · rw [lb_big (by omega), decide_eq_false h, Bool.false_and]
theorem nrm_iff {k : Nat} (h1 : 1 ≤ k) (h2 : k < 65) {x : Int64} : nrm (nI k) x ↔ ∀ i, k ≤ i → i < 64 → lb x i = lb x (k - 1) := by
  constructor
  · intro h i hi hi2
    unfold nrm at h
    have q := rs_bit h1 h2 x hi2
    rw [h, if_neg (by omega)] at q
    exact q
  · intro h
    unfold nrm
    apply lb_ext
    intro i hi
    rw [rs_bit h1 h2 x hi]
    split
    · rfl
    · exact (h i (by omega) hi).symm
theorem isW.k {w : Int32} (h : isW w) : ∃ k : Nat, 1 ≤ k ∧ k < 65 ∧ w = nI k := by
  rcases h with rfl | rfl | rfl | rfl | rfl
  · exact ⟨1, by decide, by decide, rfl⟩
  · exact ⟨8, by decide, by decide, rfl⟩
  · exact ⟨16, by decide, by decide, rfl⟩
  · exact ⟨32, by decide, by decide, rfl⟩
  · exact ⟨64, by decide, by decide, rfl⟩
theorem nrm_rsk {k : Nat} (h1 : 1 ≤ k) (h2 : k < 65) (x : Int64) : nrm (nI k) (fx_Width_readSigned (nI k) x) := by
  rw [nrm_iff h1 h2]
  intro i hi hi2
  rw [rs_bit h1 h2 x hi2, rs_bit h1 h2 x (by omega), if_neg (by omega), if_pos (by omega)]
theorem nrm_rs {w : Int32} (h : isW w) (x : Int64) : nrm w (fx_Width_readSigned w x) := by
  obtain ⟨k, h1, h2, rfl⟩ := h.k
  exact nrm_rsk h1 h2 x
theorem nrm_and {w : Int32} (h : isW w) {x y : Int64} (hx : nrm w x) (hy : nrm w y) : nrm w (x &&& y) := by
  obtain ⟨k, h1, h2, rfl⟩ := h.k
  rw [nrm_iff h1 h2] at *
  intro i hi hi2
  rw [lb_and, lb_and, hx i hi hi2, hy i hi hi2]
theorem nrm_or {w : Int32} (h : isW w) {x y : Int64} (hx : nrm w x) (hy : nrm w y) : nrm w (x ||| y) := by
  obtain ⟨k, h1, h2, rfl⟩ := h.k
  rw [nrm_iff h1 h2] at *
  intro i hi hi2
  rw [lb_or, lb_or, hx i hi hi2, hy i hi hi2]
theorem nrm_xor {w : Int32} (h : isW w) {x y : Int64} (hx : nrm w x) (hy : nrm w y) : nrm w (x ^^^ y) := by
  obtain ⟨k, h1, h2, rfl⟩ := h.k
  rw [nrm_iff h1 h2] at *
  intro i hi hi2
  rw [lb_xor, lb_xor, hx i hi hi2, hy i hi hi2]
theorem nrm_0 {w : Int32} (h : isW w) : nrm w 0 := by
  obtain ⟨k, h1, h2, rfl⟩ := h.k
  rw [nrm_iff h1 h2]
  intro i hi hi2
  rw [lb_0, lb_0]
theorem nrm_m1 {w : Int32} (h : isW w) : nrm w (-1) := by
  obtain ⟨k, h1, h2, rfl⟩ := h.k
  rw [nrm_iff h1 h2]
  intro i hi hi2
  rw [lb_m1 i hi2, lb_m1 (k - 1) (by omega)]
theorem nrm_mono {k k2 : Nat} (h1 : 1 ≤ k) (h2 : k ≤ k2) (h3 : k2 < 65) {x : Int64} (h : nrm (nI k) x) : nrm (nI k2) x := by
  rw [nrm_iff (by omega) h3]
  rw [nrm_iff h1 (by omega)] at h
  intro i hi hi2
  rw [h i (by omega) hi2]
  rcases Nat.lt_or_ge (k2 - 1) k with q | q
  · rw [show k2 - 1 = k - 1 by omega]
  · exact (h (k2 - 1) q (by omega)).symm
theorem nrm_rp {k k2 : Nat} (h1 : 1 ≤ k) (h2 : k < k2) (h3 : k2 < 65) (x : Int64) : nrm (nI k2) (fx_Width_readPlain (nI k) x) := by
  rw [nrm_iff (by omega) h3]
  intro i hi hi2
  rw [rp_bit h1 (by omega) x hi2, rp_bit h1 (by omega) x (by omega), decide_eq_false (by omega), decide_eq_false (by omega), Bool.false_and, Bool.false_and]
theorem nrm_shr {w : Int32} (h : isW w) {x : Int64} (hx : nrm w x) {n : Nat} (hn : n < 64) : nrm w (x >>> lN n) := by
  obtain ⟨k, h1, h2, rfl⟩ := h.k
  rw [nrm_iff h1 h2] at *
  have key : ∀ i, k - 1 ≤ i → i < 64 → lb x i = lb x (k - 1) := by
    intro i hi hi2
    rcases Nat.lt_or_ge i k with q | q
    · rw [show i = k - 1 by omega]
    · exact hx i q hi2
  intro i hi hi2
  rw [lb_sshr hn x hi2, lb_sshr hn x (by omega)]
  split <;> split
  · rw [key _ (by omega) (by omega), key (n + (k - 1)) (by omega) (by omega)]
  · omega
  · rw [key 63 (by omega) (by omega), key (n + (k - 1)) (by omega) (by omega)]
  · rfl
theorem rp_ne0 {k : Nat} (h1 : 1 ≤ k) (h2 : k < 65) {x : Int64} (hn : nrm (nI k) x) (h0 : ¬ x = 0) : ¬ fx_Width_readPlain (nI k) x = 0 := by
  intro h
  apply h0
  rw [lb_eq0]
  rw [lb_eq0] at h
  rw [nrm_iff h1 h2] at hn
  have low : ∀ i, i < k → lb x i = false := by
    intro i hi
    have q := h i (by omega)
    rw [rp_bit h1 h2 x (by omega), decide_eq_true hi, Bool.true_and] at q
    exact q
  intro i hi
  rcases Nat.lt_or_ge i k with q | q
  · exact low i q
  · rw [hn i q hi]; exact low _ (by omega)

theorem wl_dv {w : Int32} {x : Int64} (hw : w = 8) (hn : nrm 8 x) (h0 : ¬ x = 0) : ¬ fx_Width_readPlain w x = 0 := by
  rw [hw]; exact rp_ne0 (k := 8) (by decide) (by decide) hn h0
theorem vp_up {x : Int32} {a b : Nat} (h : vp_in x a) (hab : a ≤ b) : vp_in x b := by
  rw [vp_in_iff] at *; omega
theorem wl_evop0 {S : XS} {V N i : Nat} (hT : XTt S V i) (hM : XM S N) (hlt : i < N) (h64 : N ≤ 64) (h21 : ¬ fA S 3 i = 21) (h22 : ¬ fA S 3 i = 22) : vp_in (fA S 5 (3 * i)) 64 ∧ (¬ (fA S 3 i = 0 ∨ fA S 3 i = 1 ∨ fA S 3 i = 17 ∨ fA S 3 i = 18 ∨ fA S 3 i = 19 ∨ fA S 3 i = 20) → vp_in (fA S 5 (3 * i + 1)) 64) ∧ (fA S 3 i = 16 → vp_in (fA S 5 (3 * i + 2)) 64) ∧ (fA S 3 i = 20 → vp_in (fA S 5 (3 * i + 1)) 2) ∧ (fA S 3 i = 8 ∨ fA S 3 i = 9 → ¬ fL S 2 (fA S 5 (3 * i + 1)).toNatClampNeg = 0 → ¬ fx_Width_readPlain (fA S 4 (fA S 5 (3 * i)).toNatClampNeg) (fL S 2 (fA S 5 (3 * i + 1)).toNatClampNeg) = 0) := by
  have up : ∀ {x : Int32}, vp_in x i → vp_in x 64 := fun h => vp_up h (by omega)
  have no : ∀ {p q : Int32} {P : Prop}, fA S 3 i = p → fA S 3 i = q → ¬ p = q → P := fun a b c => absurd (a.symm.trans b) c
  have n5 : ∀ {p : Int32} {P : Prop}, fA S 3 i = p → ¬ p = 8 → ¬ p = 9 → (fA S 3 i = 8 ∨ fA S 3 i = 9) → P := fun a b c q => q.elim (fun q => no a q b) (fun q => no a q c)
  obtain ⟨hw, h⟩ := hT
  rcases h with ⟨h, _⟩ | ⟨h, _⟩ | ⟨ho, ha, _⟩ | ⟨ho, ha, hb, _⟩ | ⟨ho, ha, hb, wa, wb, _⟩ | ⟨ho, ha, hb, _⟩ | ⟨ho, ha, hb, hc, _⟩ | ⟨ho, ha, _⟩ | ⟨ho, ha, _⟩ | ⟨ho, ha, hb, _⟩
  · exact absurd h h21
  · exact absurd h h22
  · rcases ho with ho | ho
    · exact ⟨up ha, fun q => absurd (Or.inl ho) q, fun q => no ho q (by decide), fun q => no ho q (by decide), n5 ho (by decide) (by decide)⟩
    · exact ⟨up ha, fun q => absurd (Or.inr (Or.inl ho)) q, fun q => no ho q (by decide), fun q => no ho q (by decide), n5 ho (by decide) (by decide)⟩
  · rcases ho with ho | ho | ho | ho | ho | ho | ho | ho | ho
    · exact ⟨up ha, fun _ => up hb, fun q => no ho q (by decide), fun q => no ho q (by decide), n5 ho (by decide) (by decide)⟩
    · exact ⟨up ha, fun _ => up hb, fun q => no ho q (by decide), fun q => no ho q (by decide), n5 ho (by decide) (by decide)⟩
    · exact ⟨up ha, fun _ => up hb, fun q => no ho q (by decide), fun q => no ho q (by decide), n5 ho (by decide) (by decide)⟩
    · exact ⟨up ha, fun _ => up hb, fun q => no ho q (by decide), fun q => no ho q (by decide), n5 ho (by decide) (by decide)⟩
    · exact ⟨up ha, fun _ => up hb, fun q => no ho q (by decide), fun q => no ho q (by decide), n5 ho (by decide) (by decide)⟩
    · exact ⟨up ha, fun _ => up hb, fun q => no ho q (by decide), fun q => no ho q (by decide), n5 ho (by decide) (by decide)⟩
    · exact ⟨up ha, fun _ => up hb, fun q => no ho q (by decide), fun q => no ho q (by decide), n5 ho (by decide) (by decide)⟩
    · exact ⟨up ha, fun _ => up hb, fun q => no ho q (by decide), fun q => no ho q (by decide), n5 ho (by decide) (by decide)⟩
    · exact ⟨up ha, fun _ => up hb, fun q => no ho q (by decide), fun q => no ho q (by decide), n5 ho (by decide) (by decide)⟩
  · rcases ho with ho | ho
    · exact ⟨up ha, fun _ => up hb, fun q => no ho q (by decide), fun q => no ho q (by decide), fun _ h0 => wl_dv wa (by rw [← wb]; exact hM _ (by obtain ⟨j, hj, e⟩ := vp_in_of hb (by omega); show (fA S 5 (3 * i + 1)).toNatClampNeg < N; rw [e, nI_clamp (by omega)]; omega)) h0⟩
    · exact ⟨up ha, fun _ => up hb, fun q => no ho q (by decide), fun q => no ho q (by decide), fun _ h0 => wl_dv wa (by rw [← wb]; exact hM _ (by obtain ⟨j, hj, e⟩ := vp_in_of hb (by omega); show (fA S 5 (3 * i + 1)).toNatClampNeg < N; rw [e, nI_clamp (by omega)]; omega)) h0⟩
  · rcases ho with ho | ho | ho
    · exact ⟨up ha, fun _ => up hb, fun q => no ho q (by decide), fun q => no ho q (by decide), n5 ho (by decide) (by decide)⟩
    · exact ⟨up ha, fun _ => up hb, fun q => no ho q (by decide), fun q => no ho q (by decide), n5 ho (by decide) (by decide)⟩
    · exact ⟨up ha, fun _ => up hb, fun q => no ho q (by decide), fun q => no ho q (by decide), n5 ho (by decide) (by decide)⟩
  · skip
    exact ⟨up ha, fun _ => up hb, fun _ => up hc, fun q => no ho q (by decide), n5 ho (by decide) (by decide)⟩
  · rcases ho with ho | ho
    · exact ⟨up ha, fun q => absurd (Or.inr (Or.inr (Or.inl ho))) q, fun q => no ho q (by decide), fun q => no ho q (by decide), n5 ho (by decide) (by decide)⟩
    · exact ⟨up ha, fun q => absurd (Or.inr (Or.inr (Or.inr (Or.inl ho)))) q, fun q => no ho q (by decide), fun q => no ho q (by decide), n5 ho (by decide) (by decide)⟩
  · skip
    exact ⟨up ha, fun q => absurd (Or.inr (Or.inr (Or.inr (Or.inr (Or.inl ho))))) q, fun q => no ho q (by decide), fun q => no ho q (by decide), n5 ho (by decide) (by decide)⟩
  · skip
    exact ⟨up ha, fun q => absurd (Or.inr (Or.inr (Or.inr (Or.inr (Or.inr ho))))) q, fun q => no ho q (by decide), fun _ => hb, n5 ho (by decide) (by decide)⟩
