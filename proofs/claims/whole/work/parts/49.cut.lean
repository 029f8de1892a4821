abbrev rp (w : Int32) (x : Int64) : Int64 := fx_Width_readPlain w x
abbrev rs (w : Int32) (x : Int64) : Int64 := fx_Width_readSigned w x
theorem cut_m1 : ∀ i, i < 64 → lb (((1 : Int64) <<< ((1 : Int32).toInt64 &&& 63)) - (1 : Int64)) i = decide (i < 1) := by decide +kernel
theorem cut_m8 : ∀ i, i < 64 → lb (((1 : Int64) <<< ((8 : Int32).toInt64 &&& 63)) - (1 : Int64)) i = decide (i < 8) := by decide +kernel
theorem cut_m16 : ∀ i, i < 64 → lb (((1 : Int64) <<< ((16 : Int32).toInt64 &&& 63)) - (1 : Int64)) i = decide (i < 16) := by decide +kernel
theorem cut_m32 : ∀ i, i < 64 → lb (((1 : Int64) <<< ((32 : Int32).toInt64 &&& 63)) - (1 : Int64)) i = decide (i < 32) := by decide +kernel
theorem rp64 (x : Int64) : rp (64 : Int32) x = x := by
  apply lb_ext
  intro i hi
  show lb (fx_Width_readPlain (nI 64) x) i = _
  rw [rp_bit (k := 64) (by decide) (by decide) x hi, decide_eq_true hi, Bool.true_and]
theorem cut_rp {S : XS} {w : Int32} (h : isW w) (x : Int64) : fm_Mod_cut S x w = rp w x := by
  rw [fm_Mod_cut]
  rcases h with rfl | rfl | rfl | rfl | rfl
  · rw [if_neg (show ¬ (1 : Int32) = 64 by decide)]
    apply lb_ext; intro i hi
    show _ = lb (fx_Width_readPlain (nI 1) x) i
    rw [lb_and, cut_m1 i hi, rp_bit (k := 1) (by decide) (by decide) x hi, Bool.and_comm]
  · rw [if_neg (show ¬ (8 : Int32) = 64 by decide)]
    apply lb_ext; intro i hi
    show _ = lb (fx_Width_readPlain (nI 8) x) i
    rw [lb_and, cut_m8 i hi, rp_bit (k := 8) (by decide) (by decide) x hi, Bool.and_comm]
  · rw [if_neg (show ¬ (16 : Int32) = 64 by decide)]
    apply lb_ext; intro i hi
    show _ = lb (fx_Width_readPlain (nI 16) x) i
    rw [lb_and, cut_m16 i hi, rp_bit (k := 16) (by decide) (by decide) x hi, Bool.and_comm]
  · rw [if_neg (show ¬ (32 : Int32) = 64 by decide)]
    apply lb_ext; intro i hi
    show _ = lb (fx_Width_readPlain (nI 32) x) i
    rw [lb_and, cut_m32 i hi, rp_bit (k := 32) (by decide) (by decide) x hi, Bool.and_comm]
  · rw [if_pos rfl]; exact (rp64 x).symm
theorem sign_rs {S : XS} {w : Int32} (x : Int64) : fm_Mod_sign S x w = rs w x := rfl
def un (x : Int64) : Nat := x.toBitVec.toNat
theorem un_lt (x : Int64) : un x < 2 ^ 64 := x.toBitVec.isLt
theorem un_inj {x y : Int64} (h : un x = un y) : x = y := wb_inj (BitVec.eq_of_toNat_eq h)
theorem un_lN {n : Nat} (h : n < 2 ^ 64) : un (lN n) = n := wb_tn h
theorem un_bit (x : Int64) (i : Nat) : (un x).testBit i = lb x i := BitVec.testBit_toNat _
theorem rp_un {k : Nat} (h1 : 1 ≤ k) (h2 : k < 65) (x : Int64) : un (rp (nI k) x) = un x % 2 ^ k := by
  apply Nat.eq_of_testBit_eq
  intro i
  rw [un_bit, Nat.testBit_mod_two_pow, un_bit]
  rcases Nat.lt_or_ge i 64 with hi | hi
  · exact rp_bit h1 h2 x hi
  · rw [lb_big hi, lb_big hi, Bool.and_false]
theorem rp_lN {k : Nat} (h1 : 1 ≤ k) (h2 : k < 65) (x : Int64) : rp (nI k) x = lN (un x % 2 ^ k) := by
  apply un_inj
  rw [rp_un h1 h2, un_lN]
  exact Nat.lt_of_le_of_lt (Nat.mod_le _ _) (un_lt x)
def alk (k : Nat) (x y : Int64) : Prop := ∀ i : Nat, i < k → lb x i = lb y i
theorem alk_rp {k : Nat} (h1 : 1 ≤ k) (h2 : k < 65) {x y : Int64} (h : alk k x y) : rp (nI k) x = rp (nI k) y := by
  apply lb_ext; intro i hi
  rw [rp_bit h1 h2 x hi, rp_bit h1 h2 y hi]
  by_cases q : i < k
  · rw [h i q]
  · rw [decide_eq_false q, Bool.false_and, Bool.false_and]
theorem alk_rs {k : Nat} (h1 : 1 ≤ k) (h2 : k < 65) {x y : Int64} (h : alk k x y) : rs (nI k) x = rs (nI k) y := by
  apply lb_ext; intro i hi
  rw [rs_bit h1 h2 x hi, rs_bit h1 h2 y hi]
  by_cases q : i < k
  · rw [if_pos q, if_pos q, h i q]
  · rw [if_neg q, if_neg q, h (k - 1) (by omega)]
theorem rp_alk {k : Nat} (h1 : 1 ≤ k) (h2 : k < 65) (x : Int64) : alk k (rp (nI k) x) x := by
  intro i hi
  rw [rp_bit h1 h2 x (by omega), decide_eq_true hi, Bool.true_and]
theorem rs_alk {k : Nat} (h1 : 1 ≤ k) (h2 : k < 65) (x : Int64) : alk k (rs (nI k) x) x := by
  intro i hi
  rw [rs_bit h1 h2 x (by omega), if_pos hi]
theorem alk.tr {k : Nat} {x y z : Int64} (h : alk k x y) (g : alk k y z) : alk k x z := fun i hi => (h i hi).trans (g i hi)
theorem alk.sy {k : Nat} {x y : Int64} (h : alk k x y) : alk k y x := fun i hi => (h i hi).symm
theorem alk.lo {k j : Nat} {x y : Int64} (h : alk k x y) (hj : j ≤ k) : alk j x y := fun i hi => h i (by omega)
theorem alk_sw {k : Nat} {x y : Int64} : alk k x y ↔ x.toBitVec.setWidth k = y.toBitVec.setWidth k := by
  constructor
  · intro h
    apply BitVec.eq_of_getLsbD_eq
    intro i hi
    rw [BitVec.getLsbD_setWidth, BitVec.getLsbD_setWidth]
    show (decide (i < k) && lb x i) = (decide (i < k) && lb y i)
    rw [h i hi]
  · intro h i hi
    have q := congrArg (fun z => BitVec.getLsbD z i) h
    simp only [BitVec.getLsbD_setWidth, decide_eq_true hi, Bool.true_and] at q
    exact q
theorem alk_add {k : Nat} (h2 : k < 65) {x y a b : Int64} (h : alk k x a) (g : alk k y b) : alk k (x + y) (a + b) := by
  rw [alk_sw] at *
  rw [Int64.toBitVec_add, Int64.toBitVec_add, BitVec.setWidth_add _ _ (by omega), BitVec.setWidth_add _ _ (by omega), h, g]
theorem alk_mul {k : Nat} (h2 : k < 65) {x y a b : Int64} (h : alk k x a) (g : alk k y b) : alk k (x * y) (a * b) := by
  rw [alk_sw] at *
  rw [Int64.toBitVec_mul, Int64.toBitVec_mul, BitVec.setWidth_mul _ _ (by omega), BitVec.setWidth_mul _ _ (by omega), h, g]
theorem alk_neg {k : Nat} (h2 : k < 65) {x a : Int64} (h : alk k x a) : alk k (-x) (-a) := by
  rw [alk_sw] at *
  rw [Int64.toBitVec_neg, Int64.toBitVec_neg, BitVec.setWidth_neg_of_le (by omega), BitVec.setWidth_neg_of_le (by omega), h]
theorem alk_sub {k : Nat} (h2 : k < 65) {x y a b : Int64} (h : alk k x a) (g : alk k y b) : alk k (x - y) (a - b) := by
  rw [Int64.sub_eq_add_neg, Int64.sub_eq_add_neg]
  exact alk_add h2 h (alk_neg h2 g)
theorem alk_not {k : Nat} {x a : Int64} (h : alk k x a) : alk k (x ^^^ (-1)) (a ^^^ (-1)) := by
  intro i hi
  rw [lb_xor, lb_xor, h i hi]
theorem rs_rp {k : Nat} (h1 : 1 ≤ k) (h2 : k < 65) {x : Int64} (hx : nrm (nI k) x) : rs (nI k) (rp (nI k) x) = x := by
  rw [alk_rs h1 h2 (rp_alk h1 h2 x)]; exact hx
theorem rp_rs {k : Nat} (h1 : 1 ≤ k) (h2 : k < 65) (x : Int64) : rp (nI k) (rs (nI k) x) = rp (nI k) x := alk_rp h1 h2 (rs_alk h1 h2 x)
theorem rp_rp {k : Nat} (h1 : 1 ≤ k) (h2 : k < 65) (x : Int64) : rp (nI k) (rp (nI k) x) = rp (nI k) x := alk_rp h1 h2 (rp_alk h1 h2 x)
theorem rp_inj {k : Nat} (h1 : 1 ≤ k) (h2 : k < 65) {x y : Int64} (hx : nrm (nI k) x) (hy : nrm (nI k) y) : rp (nI k) x = rp (nI k) y ↔ x = y := by
  constructor
  · intro h
    rw [← rs_rp h1 h2 hx, ← rs_rp h1 h2 hy, h]
  · intro h; rw [h]
theorem rp_lo {k j : Nat} (h1 : 1 ≤ j) (h2 : j ≤ k) (h3 : k < 65) (x : Int64) : rp (nI j) (rp (nI k) x) = rp (nI j) x := alk_rp h1 (by omega) ((rp_alk (by omega) h3 x).lo h2)
theorem rp_hi {k j : Nat} (h1 : 1 ≤ k) (h2 : k ≤ j) (h3 : j < 65) (x : Int64) : rp (nI j) (rp (nI k) x) = rp (nI k) x := by
  apply lb_ext; intro i hi
  rw [rp_bit (by omega) h3 _ hi, rp_bit h1 (by omega) _ hi]
  by_cases q : i < k
  · rw [decide_eq_true (show i < j by omega), Bool.true_and]
  · rw [decide_eq_false q, Bool.false_and, Bool.and_false]
theorem rp_small {k n : Nat} (h1 : 1 ≤ k) (h2 : k < 65) (hn : n < 2 ^ k) : rp (nI k) (lN n) = lN n := by
  have : n < 2 ^ 64 := Nat.lt_of_lt_of_le hn (Nat.pow_le_pow_right (by decide) (by omega))
  rw [rp_lN h1 h2, un_lN this, Nat.mod_eq_of_lt hn]
theorem rp0 {k : Nat} (h1 : 1 ≤ k) (h2 : k < 65) : rp (nI k) 0 = 0 := by
  apply lb_ext; intro i hi
  rw [rp_bit h1 h2 _ hi, lb_0, Bool.and_false]
theorem rp_eq0 {k : Nat} (h1 : 1 ≤ k) (h2 : k < 65) {x : Int64} (hx : nrm (nI k) x) : rp (nI k) x = 0 ↔ x = 0 := by
  have q := rp_inj h1 h2 hx (show nrm (nI k) 0 from by rw [nrm_iff h1 h2]; intro i _ _; rw [lb_0, lb_0])
  rw [rp0 h1 h2] at q
  exact q
theorem un_ti (x : Int64) : x.toInt = if un x < 2 ^ 63 then (un x : Int) else (un x : Int) - 2 ^ 64 := by
  show x.toBitVec.toInt = _
  rw [BitVec.toInt_eq_toNat_cond]
  unfold un
  by_cases h : x.toBitVec.toNat < 2 ^ 63
  · rw [if_pos h, if_pos (by omega)]
  · rw [if_neg h, if_neg (by omega)]; rfl
theorem lb63 (x : Int64) : lb x 63 = decide (2 ^ 63 ≤ un x) := by
  have q := BitVec.msb_eq_decide x.toBitVec
  rw [BitVec.msb_eq_getLsbD_last] at q
  exact q
theorem neg_bit (x : Int64) : x < 0 ↔ lb x 63 = true := by
  have hu := un_lt x
  rw [lb63, Int64.lt_iff_toInt_lt, un_ti, Int64.toInt_zero, decide_eq_true_iff]
  split <;> omega
theorem nrm_un {k : Nat} (h1 : 1 ≤ k) (h2 : k < 65) {x : Int64} (hx : nrm (nI k) x) : un x = un x % 2 ^ k + (if 2 ^ (k - 1) ≤ un x % 2 ^ k then 2 ^ 64 - 2 ^ k else 0) := by
  have e : x.toBitVec = (x.toBitVec.setWidth k).signExtend 64 := by
    apply BitVec.eq_of_getLsbD_eq
    intro i hi
    rw [BitVec.getLsbD_signExtend, BitVec.msb_eq_getLsbD_last, BitVec.getLsbD_setWidth, BitVec.getLsbD_setWidth]
    show lb x i = _
    rw [nrm_iff h1 h2] at hx
    by_cases q : i < k
    · simp only [if_pos q, decide_eq_true hi, decide_eq_true q, Bool.true_and]
      rfl
    · simp only [if_neg q, decide_eq_true hi, Bool.true_and, decide_eq_true (show k - 1 < k by omega)]
      exact hx i (by omega) hi
  have q := congrArg BitVec.toNat e
  rw [BitVec.toNat_signExtend, BitVec.msb_eq_decide, BitVec.toNat_setWidth, BitVec.toNat_setWidth] at q
  show x.toBitVec.toNat = _
  unfold un
  have hm : x.toBitVec.toNat % 2 ^ k % 2 ^ 64 = x.toBitVec.toNat % 2 ^ k := Nat.mod_eq_of_lt (Nat.lt_of_le_of_lt (Nat.mod_le _ _) x.toBitVec.isLt)
  rw [hm] at q
  simp only [decide_eq_true_eq] at q
  exact q
theorem p2h {k : Nat} (h1 : 1 ≤ k) : 2 ^ k = 2 * 2 ^ (k - 1) := by
  rw [show k = (k - 1) + 1 by omega, Nat.pow_succ, Nat.add_sub_cancel, Nat.mul_comm]
theorem p2le64 {k : Nat} (h2 : k < 65) : 2 ^ k ≤ 2 ^ 64 := Nat.pow_le_pow_right (by decide) (by omega)
theorem ult_nrm {k : Nat} (h1 : 1 ≤ k) (h2 : k < 65) {x y : Int64} (hx : nrm (nI k) x) (hy : nrm (nI k) y) : un x < un y ↔ un (rp (nI k) x) < un (rp (nI k) y) := by
  have a := nrm_un h1 h2 hx
  have b := nrm_un h1 h2 hy
  have lx : un x % 2 ^ k < 2 ^ k := Nat.mod_lt _ (wl_p2pos k)
  have ly : un y % 2 ^ k < 2 ^ k := Nat.mod_lt _ (wl_p2pos k)
  have p := p2h h1
  have p64 := p2le64 h2
  rw [rp_un h1 h2, rp_un h1 h2]
  generalize un x % 2 ^ k = X at *
  generalize un y % 2 ^ k = Y at *
  generalize 2 ^ k = P at *
  generalize 2 ^ (k - 1) = Q at *
  split at a <;> split at b <;> omega
theorem add_min (x : Int64) : (x + (-9223372036854775808 : Int64)).toInt = (un x : Int) - 2 ^ 63 := by
  have hu := un_lt x
  rw [un_ti]
  have e : un (x + (-9223372036854775808 : Int64)) = (un x + 2 ^ 63) % 2 ^ 64 := by
    show (x + (-9223372036854775808 : Int64)).toBitVec.toNat = _
    rw [Int64.toBitVec_add, BitVec.toNat_add]
    rfl
  rw [e]
  split <;> omega
theorem add_minlt (x y : Int64) : x + (-9223372036854775808 : Int64) < y + (-9223372036854775808 : Int64) ↔ un x < un y := by
  rw [Int64.lt_iff_toInt_lt, add_min, add_min]; omega
theorem lb_min : ∀ i, i < 64 → lb (-9223372036854775808 : Int64) i = decide (i = 63) := by decide +kernel
theorem xor_min (x : Int64) : x ^^^ (-9223372036854775808 : Int64) = x + (-9223372036854775808 : Int64) := by
  apply lb_ext; intro i hi
  rw [lb_xor, lb_min i hi]
  by_cases q : i = 63
  · subst q
    rw [lb63, lb63]
    have hu := un_lt x
    have e : un (x + (-9223372036854775808 : Int64)) = (un x + 2 ^ 63) % 2 ^ 64 := by
      show (x + (-9223372036854775808 : Int64)).toBitVec.toNat = _
      rw [Int64.toBitVec_add, BitVec.toNat_add]
      rfl
    rw [e]
    by_cases z : 2 ^ 63 ≤ un x
    · rw [decide_eq_true z, decide_eq_false (show ¬ 2 ^ 63 ≤ (un x + 2 ^ 63) % 2 ^ 64 by omega)]; rfl
    · rw [decide_eq_false z, decide_eq_true (show 2 ^ 63 ≤ (un x + 2 ^ 63) % 2 ^ 64 by omega)]; rfl
  · rw [decide_eq_false q, Bool.xor_false]
    have a : alk 63 (x + (-9223372036854775808 : Int64)) (x + 0) := alk_add (by decide) (fun i _ => rfl) (fun i h => by rw [lb_min i (by omega), lb_0, decide_eq_false (by omega)])
    rw [Int64.add_zero] at a
    exact (a i (by omega)).symm
