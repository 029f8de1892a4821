theorem mp_0 {S : XS} {k : Nat} (h1 : 1 ≤ k) (h2 : k < 65) (hw : isW (nI k)) {x y : Int64} : fm_Mod_plain S 0 (rp (nI k) x) y (nI k) = rp (nI k) (fx_Op_ofOne 0 (nI k) x) := by
  rw [fm_Mod_plain, if_pos rfl, cut_rp hw, fx_Op_ofOne, if_pos rfl]
  exact alk_rp h1 h2 (alk_not (rp_alk h1 h2 x))
theorem mp_1 {S : XS} {k : Nat} (h1 : 1 ≤ k) (h2 : k < 65) (hw : isW (nI k)) {x y : Int64} : fm_Mod_plain S 1 (rp (nI k) x) y (nI k) = rp (nI k) (fx_Op_ofOne 1 (nI k) x) := by
  rw [fm_Mod_plain, if_neg (show ¬ (1 : Int32) = 0 by decide), if_pos rfl, cut_rp hw, fx_Op_ofOne, if_neg (show ¬ (1 : Int32) = 0 by decide)]
  exact alk_rp h1 h2 ((alk_neg h2 (rp_alk h1 h2 x)).tr (rs_alk h1 h2 (-x)).sy)
theorem mp_2 {S : XS} {k : Nat} (h1 : 1 ≤ k) (h2 : k < 65) (hw : isW (nI k)) {x y : Int64} : fm_Mod_plain S 2 (rp (nI k) x) (rp (nI k) y) (nI k) = rp (nI k) (fx_Op_ofTwo 2 (nI k) x y) := by
  rw [fm_Mod_plain, if_neg (show ¬ (2 : Int32) = 0 by decide), if_neg (show ¬ (2 : Int32) = 1 by decide), if_pos rfl, fx_Op_ofTwo, if_pos rfl]
  apply lb_ext; intro i hi
  rw [lb_and, rp_bit h1 h2 x hi, rp_bit h1 h2 y hi, rp_bit h1 h2 _ hi, lb_and]
  cases decide (i < k) <;> simp
theorem mp_3 {S : XS} {k : Nat} (h1 : 1 ≤ k) (h2 : k < 65) (hw : isW (nI k)) {x y : Int64} : fm_Mod_plain S 3 (rp (nI k) x) (rp (nI k) y) (nI k) = rp (nI k) (fx_Op_ofTwo 3 (nI k) x y) := by
  rw [fm_Mod_plain, if_neg (show ¬ (3 : Int32) = 0 by decide), if_neg (show ¬ (3 : Int32) = 1 by decide), if_neg (show ¬ (3 : Int32) = 2 by decide), if_pos rfl, fx_Op_ofTwo, if_neg (show ¬ (3 : Int32) = 2 by decide), if_pos rfl]
  apply lb_ext; intro i hi
  rw [lb_or, rp_bit h1 h2 x hi, rp_bit h1 h2 y hi, rp_bit h1 h2 _ hi, lb_or]
  cases decide (i < k) <;> simp
theorem mp_4 {S : XS} {k : Nat} (h1 : 1 ≤ k) (h2 : k < 65) (hw : isW (nI k)) {x y : Int64} : fm_Mod_plain S 4 (rp (nI k) x) (rp (nI k) y) (nI k) = rp (nI k) (fx_Op_ofTwo 4 (nI k) x y) := by
  rw [fm_Mod_plain, if_neg (show ¬ (4 : Int32) = 0 by decide), if_neg (show ¬ (4 : Int32) = 1 by decide), if_neg (show ¬ (4 : Int32) = 2 by decide), if_neg (show ¬ (4 : Int32) = 3 by decide), if_pos rfl, fx_Op_ofTwo, if_neg (show ¬ (4 : Int32) = 2 by decide), if_neg (show ¬ (4 : Int32) = 3 by decide), if_pos rfl]
  apply lb_ext; intro i hi
  rw [lb_xor, rp_bit h1 h2 x hi, rp_bit h1 h2 y hi, rp_bit h1 h2 _ hi, lb_xor]
  cases decide (i < k) <;> simp
theorem mp_5 {S : XS} {k : Nat} (h1 : 1 ≤ k) (h2 : k < 65) (hw : isW (nI k)) {x y : Int64} : fm_Mod_plain S 5 (rp (nI k) x) (rp (nI k) y) (nI k) = rp (nI k) (fx_Op_ofTwo 5 (nI k) x y) := by
  rw [fm_Mod_plain, if_neg (show ¬ (5 : Int32) = 0 by decide), if_neg (show ¬ (5 : Int32) = 1 by decide), if_neg (show ¬ (5 : Int32) = 2 by decide), if_neg (show ¬ (5 : Int32) = 3 by decide), if_neg (show ¬ (5 : Int32) = 4 by decide), if_pos rfl, cut_rp hw, fx_Op_ofTwo, if_neg (show ¬ (5 : Int32) = 2 by decide), if_neg (show ¬ (5 : Int32) = 3 by decide), if_neg (show ¬ (5 : Int32) = 4 by decide), if_pos rfl]
  exact alk_rp h1 h2 ((alk_add h2 (rp_alk h1 h2 x) (rp_alk h1 h2 y)).tr (rs_alk h1 h2 _).sy)
theorem mp_6 {S : XS} {k : Nat} (h1 : 1 ≤ k) (h2 : k < 65) (hw : isW (nI k)) {x y : Int64} : fm_Mod_plain S 6 (rp (nI k) x) (rp (nI k) y) (nI k) = rp (nI k) (fx_Op_ofTwo 6 (nI k) x y) := by
  rw [fm_Mod_plain, if_neg (show ¬ (6 : Int32) = 0 by decide), if_neg (show ¬ (6 : Int32) = 1 by decide), if_neg (show ¬ (6 : Int32) = 2 by decide), if_neg (show ¬ (6 : Int32) = 3 by decide), if_neg (show ¬ (6 : Int32) = 4 by decide), if_neg (show ¬ (6 : Int32) = 5 by decide), if_pos rfl, cut_rp hw, fx_Op_ofTwo, if_neg (show ¬ (6 : Int32) = 2 by decide), if_neg (show ¬ (6 : Int32) = 3 by decide), if_neg (show ¬ (6 : Int32) = 4 by decide), if_neg (show ¬ (6 : Int32) = 5 by decide), if_pos rfl]
  exact alk_rp h1 h2 ((alk_sub h2 (rp_alk h1 h2 x) (rp_alk h1 h2 y)).tr (rs_alk h1 h2 _).sy)
theorem mp_7 {S : XS} {k : Nat} (h1 : 1 ≤ k) (h2 : k < 65) (hw : isW (nI k)) {x y : Int64} : fm_Mod_plain S 7 (rp (nI k) x) (rp (nI k) y) (nI k) = rp (nI k) (fx_Op_ofTwo 7 (nI k) x y) := by
  rw [fm_Mod_plain, if_neg (show ¬ (7 : Int32) = 0 by decide), if_neg (show ¬ (7 : Int32) = 1 by decide), if_neg (show ¬ (7 : Int32) = 2 by decide), if_neg (show ¬ (7 : Int32) = 3 by decide), if_neg (show ¬ (7 : Int32) = 4 by decide), if_neg (show ¬ (7 : Int32) = 5 by decide), if_neg (show ¬ (7 : Int32) = 6 by decide), if_pos rfl, cut_rp hw, fx_Op_ofTwo, if_neg (show ¬ (7 : Int32) = 2 by decide), if_neg (show ¬ (7 : Int32) = 3 by decide), if_neg (show ¬ (7 : Int32) = 4 by decide), if_neg (show ¬ (7 : Int32) = 5 by decide), if_neg (show ¬ (7 : Int32) = 6 by decide), if_pos rfl]
  exact alk_rp h1 h2 ((alk_mul h2 (rp_alk h1 h2 x) (rp_alk h1 h2 y)).tr (rs_alk h1 h2 _).sy)
theorem rp8 (x : Int64) : rp (8 : Int32) x = lN (un x % 256) := rp_lN (k := 8) (by decide) (by decide) x
theorem rp8s (x : Int64) : rp (8 : Int32) (rs (8 : Int32) x) = rp (8 : Int32) x := rp_rs (k := 8) (by decide) (by decide) x
theorem rp8n {n : Nat} (h : n < 256) : rp (8 : Int32) (lN n) = lN n := rp_small (k := 8) (by decide) (by decide) h
theorem rp8m : rp (8 : Int32) (-1) = 255 := by decide +kernel
theorem rp8z {y : Int64} (hy : nrm 8 y) : rp (8 : Int32) y = 0 ↔ y = 0 := rp_eq0 (k := 8) (by decide) (by decide) hy
theorem mp_8 {S : XS} {x y : Int64} (hy : nrm 8 y) : fm_Mod_plain S 8 (rp 8 x) (rp 8 y) 8 = rp 8 (fx_Op_divided 8 8 x y) := by
  rw [fm_Mod_plain, if_neg (show ¬ (8 : Int32) = 0 by decide), if_neg (show ¬ (8 : Int32) = 1 by decide), if_neg (show ¬ (8 : Int32) = 2 by decide), if_neg (show ¬ (8 : Int32) = 3 by decide), if_neg (show ¬ (8 : Int32) = 4 by decide), if_neg (show ¬ (8 : Int32) = 5 by decide), if_neg (show ¬ (8 : Int32) = 6 by decide), if_neg (show ¬ (8 : Int32) = 7 by decide), if_pos rfl, fx_Op_divided]
  by_cases z : y = 0
  · rw [if_pos ((lg_cmp_eq _ _).mpr ((rp8z hy).mpr z)), if_pos ((lg_cmp_eq _ _).mpr ((rp8z hy).mpr z)), if_pos rfl]
    exact rp8m.symm
  · rw [if_neg (fun q => z ((rp8z hy).mp ((lg_cmp_eq _ _).mp q))), if_neg (fun q => z ((rp8z hy).mp ((lg_cmp_eq _ _).mp q))), if_pos rfl]
    show _ = rp 8 (rs 8 _)
    rw [rp8s]
    have hz : ¬ rp 8 y = 0 := fun q => z ((rp8z hy).mp q)
    show rp 8 x / rp 8 y = rp 8 (rp 8 x / rp 8 y)
    rw [rp8 x, rp8 y]
    rw [rp8 y] at hz
    have hx : un x % 256 < 256 := Nat.mod_lt _ (by decide)
    have hb : un y % 256 < 256 := Nat.mod_lt _ (by decide)
    have h0 : 0 < un y % 256 := by
      rcases Nat.eq_zero_or_pos (un y % 256) with q | q
      · rw [q] at hz; exact absurd rfl hz
      · exact q
    rw [pk_lDiv (by omega) h0 (by omega)]
    exact (rp8n (Nat.lt_of_le_of_lt (Nat.div_le_self _ _) hx)).symm
theorem mp_9 {S : XS} {x y : Int64} (hy : nrm 8 y) : fm_Mod_plain S 9 (rp 8 x) (rp 8 y) 8 = rp 8 (fx_Op_divided 9 8 x y) := by
  rw [fm_Mod_plain, if_neg (show ¬ (9 : Int32) = 0 by decide), if_neg (show ¬ (9 : Int32) = 1 by decide), if_neg (show ¬ (9 : Int32) = 2 by decide), if_neg (show ¬ (9 : Int32) = 3 by decide), if_neg (show ¬ (9 : Int32) = 4 by decide), if_neg (show ¬ (9 : Int32) = 5 by decide), if_neg (show ¬ (9 : Int32) = 6 by decide), if_neg (show ¬ (9 : Int32) = 7 by decide), if_neg (show ¬ (9 : Int32) = 8 by decide), if_pos rfl, fx_Op_divided]
  by_cases z : y = 0
  · rw [if_pos ((lg_cmp_eq _ _).mpr ((rp8z hy).mpr z)), if_pos ((lg_cmp_eq _ _).mpr ((rp8z hy).mpr z)), if_neg (show ¬ (9 : Int32) = 8 by decide)]
  · rw [if_neg (fun q => z ((rp8z hy).mp ((lg_cmp_eq _ _).mp q))), if_neg (fun q => z ((rp8z hy).mp ((lg_cmp_eq _ _).mp q))), if_neg (show ¬ (9 : Int32) = 8 by decide)]
    show _ = rp 8 (rs 8 _)
    rw [rp8s]
    have hz : ¬ rp 8 y = 0 := fun q => z ((rp8z hy).mp q)
    show rp 8 x - rp 8 x / rp 8 y * rp 8 y = rp 8 (rp 8 x - rp 8 x / rp 8 y * rp 8 y)
    rw [rp8 x, rp8 y]
    rw [rp8 y] at hz
    have hx : un x % 256 < 256 := Nat.mod_lt _ (by decide)
    have hb : un y % 256 < 256 := Nat.mod_lt _ (by decide)
    have h0 : 0 < un y % 256 := by
      rcases Nat.eq_zero_or_pos (un y % 256) with q | q
      · rw [q] at hz; exact absurd rfl hz
      · exact q
    rw [pk_lRem (by omega) h0 (by omega)]
    exact (rp8n (Nat.lt_of_le_of_lt (Nat.mod_le _ _) hx)).symm
theorem bit1 : rp (1 : Int32) (fx_Op_bit 1) = 1 := by decide +kernel
theorem bit0 : rp (1 : Int32) (fx_Op_bit 0) = 0 := by decide +kernel

theorem mp_13 {S : XS} {k : Nat} (h1 : 1 ≤ k) (h2 : k < 65) (hw : isW (nI k)) {x y : Int64} (hx : nrm (nI k) x) (hy : nrm (nI k) y) : fm_Mod_plain S 13 (rp (nI k) x) (rp (nI k) y) (nI k) = rp 1 (fx_Op_ofTwo 13 (nI k) x y) := by
  rw [fm_Mod_plain, if_neg (show ¬ (13 : Int32) = 0 by decide), if_neg (show ¬ (13 : Int32) = 1 by decide), if_neg (show ¬ (13 : Int32) = 2 by decide), if_neg (show ¬ (13 : Int32) = 3 by decide), if_neg (show ¬ (13 : Int32) = 4 by decide), if_neg (show ¬ (13 : Int32) = 5 by decide), if_neg (show ¬ (13 : Int32) = 6 by decide), if_neg (show ¬ (13 : Int32) = 7 by decide), if_neg (show ¬ (13 : Int32) = 8 by decide), if_neg (show ¬ (13 : Int32) = 9 by decide), if_pos rfl, fx_Op_ofTwo, if_neg (show ¬ (13 : Int32) = 2 by decide), if_neg (show ¬ (13 : Int32) = 3 by decide), if_neg (show ¬ (13 : Int32) = 4 by decide), if_neg (show ¬ (13 : Int32) = 5 by decide), if_neg (show ¬ (13 : Int32) = 6 by decide), if_neg (show ¬ (13 : Int32) = 7 by decide), if_pos rfl]
  by_cases e : x = y
  · rw [if_pos ((lg_cmp_eq _ _).mpr ((rp_inj h1 h2 hx hy).mpr e)), if_pos ((lg_cmp_eq _ _).mpr e)]; exact bit1.symm
  · rw [if_neg (fun q => e ((rp_inj h1 h2 hx hy).mp ((lg_cmp_eq _ _).mp q))), if_neg (fun q => e ((lg_cmp_eq _ _).mp q))]; exact bit0.symm
theorem mp_14 {S : XS} {k : Nat} (h1 : 1 ≤ k) (h2 : k < 65) (hw : isW (nI k)) {x y : Int64} (hx : nrm (nI k) x) (hy : nrm (nI k) y) : fm_Mod_plain S 14 (rp (nI k) x) (rp (nI k) y) (nI k) = rp 1 (fx_Op_ofTwo 14 (nI k) x y) := by
  rw [fm_Mod_plain, if_neg (show ¬ (14 : Int32) = 0 by decide), if_neg (show ¬ (14 : Int32) = 1 by decide), if_neg (show ¬ (14 : Int32) = 2 by decide), if_neg (show ¬ (14 : Int32) = 3 by decide), if_neg (show ¬ (14 : Int32) = 4 by decide), if_neg (show ¬ (14 : Int32) = 5 by decide), if_neg (show ¬ (14 : Int32) = 6 by decide), if_neg (show ¬ (14 : Int32) = 7 by decide), if_neg (show ¬ (14 : Int32) = 8 by decide), if_neg (show ¬ (14 : Int32) = 9 by decide), if_neg (show ¬ (14 : Int32) = 13 by decide), if_pos rfl, fx_Op_ofTwo, if_neg (show ¬ (14 : Int32) = 2 by decide), if_neg (show ¬ (14 : Int32) = 3 by decide), if_neg (show ¬ (14 : Int32) = 4 by decide), if_neg (show ¬ (14 : Int32) = 5 by decide), if_neg (show ¬ (14 : Int32) = 6 by decide), if_neg (show ¬ (14 : Int32) = 7 by decide), if_neg (show ¬ (14 : Int32) = 13 by decide), if_pos rfl, fm_Mod_less, xor_min, xor_min]
  by_cases e : un x < un y
  · rw [if_neg (fun q => lg_lt_not_le ((add_minlt _ _).mpr ((ult_nrm h1 h2 hx hy).mp e)) ((lg_cmp_ge _ _).mp q)), if_neg (fun q => lg_lt_not_le ((add_minlt _ _).mpr e) ((lg_cmp_ge _ _).mp q))]; exact bit1.symm
  · rw [if_pos ((lg_cmp_ge _ _).mpr (Int64.not_lt.mp (fun q => e ((ult_nrm h1 h2 hx hy).mpr ((add_minlt _ _).mp q))))), if_pos ((lg_cmp_ge _ _).mpr (Int64.not_lt.mp (fun q => e ((add_minlt _ _).mp q))))]; exact bit0.symm
theorem mp_15 {S : XS} {k : Nat} (h1 : 1 ≤ k) (h2 : k < 65) (hw : isW (nI k)) {x y : Int64} (hx : nrm (nI k) x) (hy : nrm (nI k) y) : fm_Mod_plain S 15 (rp (nI k) x) (rp (nI k) y) (nI k) = rp 1 (fx_Op_ofTwo 15 (nI k) x y) := by
  rw [fm_Mod_plain, if_neg (show ¬ (15 : Int32) = 0 by decide), if_neg (show ¬ (15 : Int32) = 1 by decide), if_neg (show ¬ (15 : Int32) = 2 by decide), if_neg (show ¬ (15 : Int32) = 3 by decide), if_neg (show ¬ (15 : Int32) = 4 by decide), if_neg (show ¬ (15 : Int32) = 5 by decide), if_neg (show ¬ (15 : Int32) = 6 by decide), if_neg (show ¬ (15 : Int32) = 7 by decide), if_neg (show ¬ (15 : Int32) = 8 by decide), if_neg (show ¬ (15 : Int32) = 9 by decide), if_neg (show ¬ (15 : Int32) = 13 by decide), if_neg (show ¬ (15 : Int32) = 14 by decide), if_pos rfl, fx_Op_ofTwo, if_neg (show ¬ (15 : Int32) = 2 by decide), if_neg (show ¬ (15 : Int32) = 3 by decide), if_neg (show ¬ (15 : Int32) = 4 by decide), if_neg (show ¬ (15 : Int32) = 5 by decide), if_neg (show ¬ (15 : Int32) = 6 by decide), if_neg (show ¬ (15 : Int32) = 7 by decide), if_neg (show ¬ (15 : Int32) = 13 by decide), if_neg (show ¬ (15 : Int32) = 14 by decide), sign_rs, sign_rs, rs_rp h1 h2 hx, rs_rp h1 h2 hy]
  by_cases e : (0 : Int32) ≤ lg_cmp x y
  · rw [if_pos e, if_pos e]; exact bit0.symm
  · rw [if_neg e, if_neg e]; exact bit1.symm
theorem far_lem {w : Int32} (hw : isW w) {y : Int64} (hy : nrm w y) : ((y < 0 ∨ ¬ y < w.toInt64) ∧ (rp w y < 0 ∨ ¬ rp w y < w.toInt64)) ∨ (¬ y < 0 ∧ y < w.toInt64 ∧ rp w y = y ∧ ∃ n : Nat, n < 64 ∧ w = nI w.toNatClampNeg ∧ n < w.toNatClampNeg ∧ y = lN n) := by
  by_cases h64 : w = 64
  · rw [h64, rp64]
    by_cases c1 : y < 0
    · exact Or.inl ⟨Or.inl c1, Or.inl c1⟩
    · by_cases c2 : y < (64 : Int32).toInt64
      · obtain ⟨n, hn, e⟩ := pk_lOf c1
        have c3 : n < 64 := by
          rw [e, show (64 : Int32).toInt64 = lN 64 from rfl, pk_lLT hn (by decide)] at c2; exact c2
        exact Or.inr ⟨c1, c2, rfl, n, c3, rfl, c3, e⟩
      · exact Or.inl ⟨Or.inr c2, Or.inr c2⟩
  · obtain ⟨k, h1, h2, e, hk⟩ : ∃ k : Nat, 1 ≤ k ∧ k < 64 ∧ w = nI k ∧ k ≤ 2 ^ (k - 1) := by
      rcases hw with rfl | rfl | rfl | rfl | rfl
      · exact ⟨1, by decide, by decide, rfl, by decide⟩
      · exact ⟨8, by decide, by decide, rfl, by decide⟩
      · exact ⟨16, by decide, by decide, rfl, by decide⟩
      · exact ⟨32, by decide, by decide, rfl, by decide⟩
      · exact absurd rfl h64
    rw [e] at hy ⊢
    have a := nrm_un h1 (by omega) hy
    have lx : un y % 2 ^ k < 2 ^ k := Nat.mod_lt _ (wl_p2pos k)
    have p := p2h h1
    have p63 : 2 ^ k ≤ 2 ^ 63 := Nat.pow_le_pow_right (by decide) (by omega)
    have r := rp_lN h1 (by omega) y
    have ti := un_ti y
    rw [nI_l (by omega), nI_clamp (by omega), r]
    generalize un y % 2 ^ k = X at *
    generalize 2 ^ k = P at *
    generalize 2 ^ (k - 1) = Q at *
    have XT : (lN X).toInt = X := pk_lT (by omega)
    have kT : (lN k).toInt = k := pk_lT (by omega)
    rw [Int64.lt_iff_toInt_lt, Int64.lt_iff_toInt_lt, Int64.lt_iff_toInt_lt, Int64.lt_iff_toInt_lt, XT, kT, Int64.toInt_zero]
    by_cases c : X < k
    · refine Or.inr ⟨?_, ?_, ?_, X, by omega, rfl, c, ?_⟩
      · rw [ti]; split at a <;> split <;> omega
      · rw [ti]; split at a <;> split <;> omega
      · apply un_inj; rw [un_lN (by omega)]; split at a <;> omega
      · apply un_inj; rw [un_lN (by omega)]; split at a <;> omega
    · refine Or.inl ⟨?_, Or.inr (by omega)⟩
      rw [ti]; split at a <;> split <;> omega
theorem sh63 (x : Int64) : x >>> ((63 : Int32).toInt64 &&& 63) = if (0 : Int32) ≤ lg_cmp x (0 : Int64) then (0 : Int64) else (-1 : Int64) := by
  rw [show (63 : Int32).toInt64 &&& 63 = lN 63 from by decide +kernel]
  have key : ∀ i, i < 64 → lb (x >>> lN 63) i = lb x 63 := by
    intro i hi
    rw [lb_sshr (by decide) x hi]
    by_cases q : i = 0
    · rw [q, if_pos (by decide)]
    · rw [if_neg (by omega)]
  by_cases c : x < 0
  · rw [if_neg (fun q => lg_lt_not_le c ((lg_cmp_ge _ _).mp q))]
    apply lb_ext; intro i hi
    rw [key i hi, (neg_bit x).mp c, lb_m1 i hi]
  · rw [if_pos ((lg_cmp_ge _ _).mpr (Int64.not_lt.mp c))]
    apply lb_ext; intro i hi
    rw [key i hi, lb_0]
    rcases Bool.eq_false_or_eq_true (lb x 63) with q | q
    · exact absurd ((neg_bit x).mpr q) c
    · exact q
theorem d_amt {n : Nat} (hn : n < 64) : (lN n).toInt32.toInt64 &&& 63 = lN n := by rw [lN_i]; exact wb_c n hn
theorem d_amu {n : Nat} (hn : n < 64) : (lN n).toInt32.toInt64.toUInt64 &&& Int64.toUInt64 63 = UInt64.ofNat n := by rw [lN_i]; exact wb_cu n hn
theorem mp_10 {S : XS} {k : Nat} (h1 : 1 ≤ k) (h2 : k < 65) (hw : isW (nI k)) {x y : Int64} (hx : nrm (nI k) x) (hy : nrm (nI k) y) : fm_Mod_plain S 10 (rp (nI k) x) (rp (nI k) y) (nI k) = rp (nI k) (fx_Op_moved 10 (nI k) x y) := by
  rw [fm_Mod_plain, if_neg (show ¬ (10 : Int32) = 0 by decide), if_neg (show ¬ (10 : Int32) = 1 by decide), if_neg (show ¬ (10 : Int32) = 2 by decide), if_neg (show ¬ (10 : Int32) = 3 by decide), if_neg (show ¬ (10 : Int32) = 4 by decide), if_neg (show ¬ (10 : Int32) = 5 by decide), if_neg (show ¬ (10 : Int32) = 6 by decide), if_neg (show ¬ (10 : Int32) = 7 by decide), if_neg (show ¬ (10 : Int32) = 8 by decide), if_neg (show ¬ (10 : Int32) = 9 by decide), if_neg (show ¬ (10 : Int32) = 13 by decide), if_neg (show ¬ (10 : Int32) = 14 by decide), if_neg (show ¬ (10 : Int32) = 15 by decide), fm_Mod_shifted, fx_Op_moved]
  rw [if_neg (show ¬ (10 : Int32) = 12 by decide), if_neg (show ¬ (10 : Int32) = 12 by decide), if_neg (show ¬ (10 : Int32) = 12 by decide), if_pos rfl, if_pos rfl, cut_rp hw]
  rcases far_lem hw hy with ⟨f1, f2⟩ | ⟨g1, g2, g3, n, hn, e1, e2, e3⟩
  · have fx : ∀ z : Int64, (if lg_cmp y (0 : Int64) < (0 : Int32) then (0 : Int64) else if lg_cmp y (nI k).toInt64 < (0 : Int32) then z else (0 : Int64)) = 0 := by
      intro z
      rcases f1 with f | f
      · rw [if_pos ((lg_cmp_lt _ _).mpr f)]
      · rw [if_neg (c := lg_cmp y (nI k).toInt64 < (0 : Int32)) (fun q => f ((lg_cmp_lt _ _).mp q)), ite_self]
    rw [fx, rp0 h1 h2]
    rcases f2 with f | f
    · rw [if_pos ((lg_cmp_lt _ _).mpr f)]
    · rw [if_neg (c := lg_cmp (rp (nI k) y) (nI k).toInt64 < (0 : Int32)) (fun q => f ((lg_cmp_lt _ _).mp q)), ite_self]
  · rw [g3, if_neg (fun q => g1 ((lg_cmp_lt _ _).mp q)), if_neg (fun q => g1 ((lg_cmp_lt _ _).mp q)), if_pos ((lg_cmp_lt _ _).mpr g2), if_pos ((lg_cmp_lt _ _).mpr g2)]
    show _ = rp (nI k) (rs (nI k) _)
    rw [rp_rs h1 h2, e3]
    rw [d_amt hn]
    refine alk_rp h1 h2 (fun i hi => ?_)
    rw [lb_shl hn _ (by omega), lb_shl hn _ (by omega)]
    by_cases q : n ≤ i
    · rw [rp_alk h1 h2 x (i - n) (by omega)]
    · rw [decide_eq_false q, Bool.false_and, Bool.false_and]
theorem mp_11 {S : XS} {k : Nat} (h1 : 1 ≤ k) (h2 : k < 65) (hw : isW (nI k)) {x y : Int64} (hx : nrm (nI k) x) (hy : nrm (nI k) y) : fm_Mod_plain S 11 (rp (nI k) x) (rp (nI k) y) (nI k) = rp (nI k) (fx_Op_moved 11 (nI k) x y) := by
  rw [fm_Mod_plain, if_neg (show ¬ (11 : Int32) = 0 by decide), if_neg (show ¬ (11 : Int32) = 1 by decide), if_neg (show ¬ (11 : Int32) = 2 by decide), if_neg (show ¬ (11 : Int32) = 3 by decide), if_neg (show ¬ (11 : Int32) = 4 by decide), if_neg (show ¬ (11 : Int32) = 5 by decide), if_neg (show ¬ (11 : Int32) = 6 by decide), if_neg (show ¬ (11 : Int32) = 7 by decide), if_neg (show ¬ (11 : Int32) = 8 by decide), if_neg (show ¬ (11 : Int32) = 9 by decide), if_neg (show ¬ (11 : Int32) = 13 by decide), if_neg (show ¬ (11 : Int32) = 14 by decide), if_neg (show ¬ (11 : Int32) = 15 by decide), fm_Mod_shifted, fx_Op_moved]
  rw [if_neg (show ¬ (11 : Int32) = 12 by decide), if_neg (show ¬ (11 : Int32) = 12 by decide), if_neg (show ¬ (11 : Int32) = 12 by decide), if_neg (show ¬ (11 : Int32) = 10 by decide), if_neg (show ¬ (11 : Int32) = 10 by decide), if_pos rfl]
  rcases far_lem hw hy with ⟨f1, f2⟩ | ⟨g1, g2, g3, n, hn, e1, e2, e3⟩
  · have fx : ∀ z : Int64, (if lg_cmp y (0 : Int64) < (0 : Int32) then (0 : Int64) else if lg_cmp y (nI k).toInt64 < (0 : Int32) then z else (0 : Int64)) = 0 := by
      intro z
      rcases f1 with f | f
      · rw [if_pos ((lg_cmp_lt _ _).mpr f)]
      · rw [if_neg (c := lg_cmp y (nI k).toInt64 < (0 : Int32)) (fun q => f ((lg_cmp_lt _ _).mp q)), ite_self]
    rw [fx, rp0 h1 h2]
    rcases f2 with f | f
    · rw [if_pos ((lg_cmp_lt _ _).mpr f)]
    · rw [if_neg (c := lg_cmp (rp (nI k) y) (nI k).toInt64 < (0 : Int32)) (fun q => f ((lg_cmp_lt _ _).mp q)), ite_self]
  · rw [g3, if_neg (fun q => g1 ((lg_cmp_lt _ _).mp q)), if_neg (fun q => g1 ((lg_cmp_lt _ _).mp q)), if_pos ((lg_cmp_lt _ _).mpr g2), if_pos ((lg_cmp_lt _ _).mpr g2)]
    show _ = rp (nI k) (rs (nI k) _)
    rw [rp_rs h1 h2, e3]
    rw [d_amu hn]
    apply lb_ext; intro i hi
    show lb (((rp (nI k) x).toUInt64 >>> UInt64.ofNat n).toInt64) i = lb (rp (nI k) (((rp (nI k) x).toUInt64 >>> UInt64.ofNat n).toInt64)) i
    rw [rp_bit h1 h2 _ hi, lb_ushr hn]
    by_cases q : i < k
    · rw [decide_eq_true q, Bool.true_and]
    · rw [decide_eq_false q, Bool.false_and]
      rcases Nat.lt_or_ge (n + i) 64 with z | z
      · rw [rp_bit h1 h2 _ z, decide_eq_false (by omega), Bool.false_and]
      · exact lb_big z
theorem mp_12 {S : XS} {k : Nat} (h1 : 1 ≤ k) (h2 : k < 65) (hw : isW (nI k)) {x y : Int64} (hx : nrm (nI k) x) (hy : nrm (nI k) y) : fm_Mod_plain S 12 (rp (nI k) x) (rp (nI k) y) (nI k) = rp (nI k) (fx_Op_moved 12 (nI k) x y) := by
  rw [fm_Mod_plain, if_neg (show ¬ (12 : Int32) = 0 by decide), if_neg (show ¬ (12 : Int32) = 1 by decide), if_neg (show ¬ (12 : Int32) = 2 by decide), if_neg (show ¬ (12 : Int32) = 3 by decide), if_neg (show ¬ (12 : Int32) = 4 by decide), if_neg (show ¬ (12 : Int32) = 5 by decide), if_neg (show ¬ (12 : Int32) = 6 by decide), if_neg (show ¬ (12 : Int32) = 7 by decide), if_neg (show ¬ (12 : Int32) = 8 by decide), if_neg (show ¬ (12 : Int32) = 9 by decide), if_neg (show ¬ (12 : Int32) = 13 by decide), if_neg (show ¬ (12 : Int32) = 14 by decide), if_neg (show ¬ (12 : Int32) = 15 by decide), fm_Mod_shifted, fx_Op_moved]
  rw [if_pos rfl, if_pos rfl, if_pos rfl, cut_rp hw, cut_rp hw, sign_rs, rs_rp h1 h2 hx, sh63, if_neg (show ¬ (12 : Int32) = 10 by decide), if_neg (show ¬ (12 : Int32) = 11 by decide)]
  rcases far_lem hw hy with ⟨f1, f2⟩ | ⟨g1, g2, g3, n, hn, e1, e2, e3⟩
  · have fx : (if lg_cmp y (0 : Int64) < (0 : Int32) then (if (0 : Int32) ≤ lg_cmp x (0 : Int64) then (0 : Int64) else (-1 : Int64)) else if lg_cmp y (nI k).toInt64 < (0 : Int32) then x >>> (y.toInt32.toInt64 &&& 63) else if (0 : Int32) ≤ lg_cmp x (0 : Int64) then (0 : Int64) else (-1 : Int64)) = if (0 : Int32) ≤ lg_cmp x (0 : Int64) then (0 : Int64) else (-1 : Int64) := by
      rcases f1 with f | f
      · rw [if_pos ((lg_cmp_lt _ _).mpr f)]
      · rw [if_neg (c := lg_cmp y (nI k).toInt64 < (0 : Int32)) (fun q => f ((lg_cmp_lt _ _).mp q)), ite_self]
    rw [fx]
    rcases f2 with f | f
    · rw [if_pos ((lg_cmp_lt _ _).mpr f)]
    · rw [if_neg (c := lg_cmp (rp (nI k) y) (nI k).toInt64 < (0 : Int32)) (fun q => f ((lg_cmp_lt _ _).mp q)), ite_self]
  · rw [g3, if_neg (fun q => g1 ((lg_cmp_lt _ _).mp q)), if_neg (fun q => g1 ((lg_cmp_lt _ _).mp q)), if_pos ((lg_cmp_lt _ _).mpr g2), if_pos ((lg_cmp_lt _ _).mpr g2)]
