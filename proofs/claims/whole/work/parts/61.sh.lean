theorem ite2 {c : Prop} [Decidable c] {α : Type} (x : α) : (if c then x else x) = x := by
  by_cases h : c
  · rw [if_pos h]
  · rw [if_neg h]
theorem focR {st ms : XS} {V N E Bt : Nat} {w : Int32} {x : Int64} (h : Rel st ms V N E Bt) (hw : isW w) : ¬ (fx_Terms_findOrAddConstant st w x).1 = -3 ∧ ¬ (fx_Terms_findOrAddConstant st w x).1 = -9 := by
  obtain ⟨_, _, q⟩ := focN (x := x) (x2 := x) h hw rfl
  rcases q with q | ⟨j, _, hj, q, _⟩
  · rw [q]; decide
  · rw [q]; exact ⟨nI_m3 (by omega), nI_m9 (by omega)⟩
theorem sh_2 {st ms : XS} {V N E Bt i j : Nat} (h : Rel st ms V N E Bt) (hi : i < N) (hj : j < N) (hw : fA st 4 i = fA st 4 j) (z : Int32) : Sh st ms V E Bt 2 (nI i) (nI j) 0 (nI j) z := by
  have h64 := h.n64
  have ou : fx_Maker_ofUndoing st 2 (nI i) = -3 := by rw [ou_2]
  unfold Sh
  rw [sm_2, zeroN h hi, zeroN h hj, nI_clamp (by omega), (h.sr i hi).2.1]
  by_cases q : nI i = nI j
  · rw [if_pos q]
    have of : fx_Maker_ofSameOperands st 2 (nI i) (nI j) 0 = (nI i, st) := by rw [of_2, if_pos q]
    have m := mip1 (st := st) (o := 2) (a := nI i) (b := nI j) (c := 0) (by rw [of]; exact nI_m3 (by omega))
    rw [of] at m
    rw [m]
    exact Or.inr ⟨nI_m9 (by omega), rfl, N, h⟩
  · rw [if_neg q]
    have of : fx_Maker_ofSameOperands st 2 (nI i) (nI j) 0 = (-3, st) := by rw [of_2, if_neg q]
    have of1 := congrArg Prod.fst of
    have of2 := congrArg Prod.snd of
    by_cases ka : fx_Terms_isZero st (nI i) = 0
    · rw [if_pos ka]
      by_cases kb : fx_Terms_isZero st (nI j) = 0
      · rw [if_pos kb]
        have oz : fx_Maker_ofZero st 2 (nI i) (nI j) = -3 := by rw [oz_2, if_pos ka, if_pos kb]
        exact Or.inl ⟨rfl, rfl, of1, of2, oz, ou⟩
      · rw [if_neg kb]
        have oz : fx_Maker_ofZero st 2 (nI i) (nI j) = nI j := by rw [oz_2, if_pos ka, if_neg kb]
        have m := mip2 of1 of2 (by rw [oz]; exact nI_m3 (by omega))
        rw [oz] at m
        rw [m, cofZ h hj kb hw.symm]
        exact Or.inr ⟨nI_m9 (by omega), rfl, N, h⟩
    · rw [if_neg ka]
      have oz : fx_Maker_ofZero st 2 (nI i) (nI j) = nI i := by rw [oz_2, if_neg ka]
      have m := mip2 of1 of2 (by rw [oz]; exact nI_m3 (by omega))
      rw [oz] at m
      rw [m, cofZ h hi ka rfl]
      exact Or.inr ⟨nI_m9 (by omega), rfl, N, h⟩
theorem sh_3 {st ms : XS} {V N E Bt i j : Nat} (h : Rel st ms V N E Bt) (hi : i < N) (hj : j < N) (hw : fA st 4 i = fA st 4 j) (z : Int32) : Sh st ms V E Bt 3 (nI i) (nI j) 0 (nI j) z := by
  have h64 := h.n64
  have ou : fx_Maker_ofUndoing st 3 (nI i) = -3 := by rw [ou_3]
  unfold Sh
  rw [sm_3, zeroN h hi, zeroN h hj]
  by_cases q : nI i = nI j
  · rw [if_pos q]
    have of : fx_Maker_ofSameOperands st 3 (nI i) (nI j) 0 = (nI i, st) := by rw [of_3, if_pos q]
    have m := mip1 (st := st) (o := 3) (a := nI i) (b := nI j) (c := 0) (by rw [of]; exact nI_m3 (by omega))
    rw [of] at m
    rw [m]
    exact Or.inr ⟨nI_m9 (by omega), rfl, N, h⟩
  · rw [if_neg q]
    have of : fx_Maker_ofSameOperands st 3 (nI i) (nI j) 0 = (-3, st) := by rw [of_3, if_neg q]
    have of1 := congrArg Prod.fst of
    have of2 := congrArg Prod.snd of
    by_cases ka : fx_Terms_isZero st (nI i) = 0
    · rw [if_pos ka]
      by_cases kb : fx_Terms_isZero st (nI j) = 0
      · rw [if_pos kb]
        have oz : fx_Maker_ofZero st 3 (nI i) (nI j) = -3 := by rw [oz_3, if_pos ka, if_pos kb]
        exact Or.inl ⟨rfl, rfl, of1, of2, oz, ou⟩
      · rw [if_neg kb]
        have oz : fx_Maker_ofZero st 3 (nI i) (nI j) = nI i := by rw [oz_3, if_pos ka, if_neg kb]
        have m := mip2 of1 of2 (by rw [oz]; exact nI_m3 (by omega))
        rw [oz] at m
        rw [m]
        exact Or.inr ⟨nI_m9 (by omega), rfl, N, h⟩
    · rw [if_neg ka]
      have oz : fx_Maker_ofZero st 3 (nI i) (nI j) = nI j := by rw [oz_3, if_neg ka]
      have m := mip2 of1 of2 (by rw [oz]; exact nI_m3 (by omega))
      rw [oz] at m
      rw [m]
      exact Or.inr ⟨nI_m9 (by omega), rfl, N, h⟩
theorem sh_4 {st ms : XS} {V N E Bt i j : Nat} (h : Rel st ms V N E Bt) (hi : i < N) (hj : j < N) (hw : fA st 4 i = fA st 4 j) (z : Int32) : Sh st ms V E Bt 4 (nI i) (nI j) 0 (nI j) z := by
  have h64 := h.n64
  have ou : fx_Maker_ofUndoing st 4 (nI i) = -3 := by rw [ou_4]
  unfold Sh
  rw [sm_4, zeroN h hi, zeroN h hj, nI_clamp (by omega), (h.sr i hi).2.1]
  by_cases q : nI i = nI j
  · rw [if_pos q]
    have of : fx_Maker_ofSameOperands st 4 (nI i) (nI j) 0 = ((fx_Terms_findOrAddConstant st (fA st 4 i) 0).1, (fx_Terms_findOrAddConstant st (fA st 4 i) 0).2) := by rw [of_4, if_pos q, fx_Terms_widthOf, nI_clamp (by omega)]
    obtain ⟨q1, q2, _⟩ := focN (w := fA st 4 i) (x := 0) (x2 := 0) h (h.xt.1 i hi).1 rfl
    obtain ⟨n3, n9⟩ := focR (w := fA st 4 i) (x := 0) h (h.xt.1 i hi).1
    have m := mip1 (st := st) (o := 4) (a := nI i) (b := nI j) (c := 0) (by rw [of]; exact n3)
    rw [of] at m
    rw [m]
    exact Or.inr ⟨fun e => n9 (q1.trans e), q1, q2⟩
  · rw [if_neg q]
    have of : fx_Maker_ofSameOperands st 4 (nI i) (nI j) 0 = (-3, st) := by rw [of_4, if_neg q]
    have of1 := congrArg Prod.fst of
    have of2 := congrArg Prod.snd of
    by_cases ka : fx_Terms_isZero st (nI i) = 0
    · rw [if_pos ka]
      by_cases kb : fx_Terms_isZero st (nI j) = 0
      · rw [if_pos kb]
        have oz : fx_Maker_ofZero st 4 (nI i) (nI j) = -3 := by rw [oz_4, if_pos ka, if_pos kb]
        exact Or.inl ⟨rfl, rfl, of1, of2, oz, ou⟩
      · rw [if_neg kb]
        have oz : fx_Maker_ofZero st 4 (nI i) (nI j) = nI i := by rw [oz_4, if_pos ka, if_neg kb]
        have m := mip2 of1 of2 (by rw [oz]; exact nI_m3 (by omega))
        rw [oz] at m
        rw [m]
        exact Or.inr ⟨nI_m9 (by omega), rfl, N, h⟩
    · rw [if_neg ka]
      have oz : fx_Maker_ofZero st 4 (nI i) (nI j) = nI j := by rw [oz_4, if_neg ka]
      have m := mip2 of1 of2 (by rw [oz]; exact nI_m3 (by omega))
      rw [oz] at m
      rw [m]
      exact Or.inr ⟨nI_m9 (by omega), rfl, N, h⟩
theorem sh_5 {st ms : XS} {V N E Bt i j : Nat} (h : Rel st ms V N E Bt) (hi : i < N) (hj : j < N) (hw : fA st 4 i = fA st 4 j) (z : Int32) : Sh st ms V E Bt 5 (nI i) (nI j) 0 (nI j) z := by
  have h64 := h.n64
  have ou : fx_Maker_ofUndoing st 5 (nI i) = -3 := by rw [ou_5]
  unfold Sh
  rw [sm_5, zeroN h hi, zeroN h hj]
  have of : fx_Maker_ofSameOperands st 5 (nI i) (nI j) 0 = (-3, st) := by rw [of_5]; exact ite2 _
  have of1 := congrArg Prod.fst of
  have of2 := congrArg Prod.snd of
  rw [ite2]
  by_cases ka : fx_Terms_isZero st (nI i) = 0
  · rw [if_pos ka]
    by_cases kb : fx_Terms_isZero st (nI j) = 0
    · rw [if_pos kb]
      have oz : fx_Maker_ofZero st 5 (nI i) (nI j) = -3 := by rw [oz_5, if_pos ka, if_pos kb]
      exact Or.inl ⟨rfl, rfl, of1, of2, oz, ou⟩
    · rw [if_neg kb]
      have oz : fx_Maker_ofZero st 5 (nI i) (nI j) = nI i := by rw [oz_5, if_pos ka, if_neg kb]
      have m := mip2 of1 of2 (by rw [oz]; exact nI_m3 (by omega))
      rw [oz] at m
      rw [m]
      exact Or.inr ⟨nI_m9 (by omega), rfl, N, h⟩
  · rw [if_neg ka]
    have oz : fx_Maker_ofZero st 5 (nI i) (nI j) = nI j := by rw [oz_5, if_neg ka]
    have m := mip2 of1 of2 (by rw [oz]; exact nI_m3 (by omega))
    rw [oz] at m
    rw [m]
    exact Or.inr ⟨nI_m9 (by omega), rfl, N, h⟩
theorem sh_6 {st ms : XS} {V N E Bt i j : Nat} (h : Rel st ms V N E Bt) (hi : i < N) (hj : j < N) (hw : fA st 4 i = fA st 4 j) (z : Int32) : Sh st ms V E Bt 6 (nI i) (nI j) 0 (nI j) z := by
  have h64 := h.n64
  have ou : fx_Maker_ofUndoing st 6 (nI i) = -3 := by rw [ou_6]
  unfold Sh
  rw [sm_6, zeroN h hj, nI_clamp (by omega), (h.sr i hi).2.1]
  by_cases q : nI i = nI j
  · rw [if_pos q]
    have of : fx_Maker_ofSameOperands st 6 (nI i) (nI j) 0 = ((fx_Terms_findOrAddConstant st (fA st 4 i) 0).1, (fx_Terms_findOrAddConstant st (fA st 4 i) 0).2) := by rw [of_6, if_pos q, fx_Terms_widthOf, nI_clamp (by omega)]
    obtain ⟨q1, q2, _⟩ := focN (w := fA st 4 i) (x := 0) (x2 := 0) h (h.xt.1 i hi).1 rfl
    obtain ⟨n3, n9⟩ := focR (w := fA st 4 i) (x := 0) h (h.xt.1 i hi).1
    have m := mip1 (st := st) (o := 6) (a := nI i) (b := nI j) (c := 0) (by rw [of]; exact n3)
    rw [of] at m
    rw [m]
    exact Or.inr ⟨fun e => n9 (q1.trans e), q1, q2⟩
  · rw [if_neg q]
    have of : fx_Maker_ofSameOperands st 6 (nI i) (nI j) 0 = (-3, st) := by rw [of_6, if_neg q]
    have of1 := congrArg Prod.fst of
    have of2 := congrArg Prod.snd of
    by_cases kb : fx_Terms_isZero st (nI j) = 0
    · rw [if_pos kb]
      have oz : fx_Maker_ofZero st 6 (nI i) (nI j) = -3 := by rw [oz_6, if_pos kb]
      exact Or.inl ⟨rfl, rfl, of1, of2, oz, ou⟩
    · rw [if_neg kb]
      have oz : fx_Maker_ofZero st 6 (nI i) (nI j) = nI i := by rw [oz_6, if_neg kb]
      have m := mip2 of1 of2 (by rw [oz]; exact nI_m3 (by omega))
      rw [oz] at m
      rw [m]
      exact Or.inr ⟨nI_m9 (by omega), rfl, N, h⟩
theorem sh_7 {st ms : XS} {V N E Bt i j : Nat} (h : Rel st ms V N E Bt) (hi : i < N) (hj : j < N) (hw : fA st 4 i = fA st 4 j) (z : Int32) : Sh st ms V E Bt 7 (nI i) (nI j) 0 (nI j) z := by
  have h64 := h.n64
  have ou : fx_Maker_ofUndoing st 7 (nI i) = -3 := by rw [ou_7]
  unfold Sh
  rw [sm_7, zeroN h hi, zeroN h hj, nI_clamp (by omega), (h.sr i hi).2.1]
  have of : fx_Maker_ofSameOperands st 7 (nI i) (nI j) 0 = (-3, st) := by rw [of_7]; exact ite2 _
  have of1 := congrArg Prod.fst of
  have of2 := congrArg Prod.snd of
  rw [ite2]
  by_cases ka : fx_Terms_isZero st (nI i) = 0
  · rw [if_pos ka]
    by_cases kb : fx_Terms_isZero st (nI j) = 0
    · rw [if_pos kb]
      have oz : fx_Maker_ofZero st 7 (nI i) (nI j) = -3 := by rw [oz_7, if_pos ka, if_pos kb]
      exact Or.inl ⟨rfl, rfl, of1, of2, oz, ou⟩
    · rw [if_neg kb]
      have oz : fx_Maker_ofZero st 7 (nI i) (nI j) = nI j := by rw [oz_7, if_pos ka, if_neg kb]
      have m := mip2 of1 of2 (by rw [oz]; exact nI_m3 (by omega))
      rw [oz] at m
      rw [m, cofZ h hj kb hw.symm]
      exact Or.inr ⟨nI_m9 (by omega), rfl, N, h⟩
  · rw [if_neg ka]
    have oz : fx_Maker_ofZero st 7 (nI i) (nI j) = nI i := by rw [oz_7, if_neg ka]
    have m := mip2 of1 of2 (by rw [oz]; exact nI_m3 (by omega))
    rw [oz] at m
    rw [m, cofZ h hi ka rfl]
    exact Or.inr ⟨nI_m9 (by omega), rfl, N, h⟩
theorem sh_8 {st ms : XS} {V N E Bt i j : Nat} (h : Rel st ms V N E Bt) (hi : i < N) (hj : j < N) (hw : fA st 4 i = fA st 4 j) (z : Int32) : Sh st ms V E Bt 8 (nI i) (nI j) 0 (nI j) z := by
  have h64 := h.n64
  have ou : fx_Maker_ofUndoing st 8 (nI i) = -3 := by rw [ou_8]
  unfold Sh
  rw [sm_8, zeroN h hj]
  have of : fx_Maker_ofSameOperands st 8 (nI i) (nI j) 0 = (-3, st) := by rw [of_8]; exact ite2 _
  have of1 := congrArg Prod.fst of
  have of2 := congrArg Prod.snd of
  rw [ite2]
  rw [ite2]
  have oz : fx_Maker_ofZero st 8 (nI i) (nI j) = -3 := by rw [oz_8]
  exact Or.inl ⟨rfl, rfl, of1, of2, oz, ou⟩
theorem sh_9 {st ms : XS} {V N E Bt i j : Nat} (h : Rel st ms V N E Bt) (hi : i < N) (hj : j < N) (hw : fA st 4 i = fA st 4 j) (z : Int32) : Sh st ms V E Bt 9 (nI i) (nI j) 0 (nI j) z := by
  have h64 := h.n64
  have ou : fx_Maker_ofUndoing st 9 (nI i) = -3 := by rw [ou_9]
  unfold Sh
  rw [sm_9, zeroN h hj]
  have of : fx_Maker_ofSameOperands st 9 (nI i) (nI j) 0 = (-3, st) := by rw [of_9]; exact ite2 _
  have of1 := congrArg Prod.fst of
  have of2 := congrArg Prod.snd of
  rw [ite2]
  rw [ite2]
  have oz : fx_Maker_ofZero st 9 (nI i) (nI j) = -3 := by rw [oz_9]
  exact Or.inl ⟨rfl, rfl, of1, of2, oz, ou⟩
theorem sh_10 {st ms : XS} {V N E Bt i j : Nat} (h : Rel st ms V N E Bt) (hi : i < N) (hj : j < N) (hw : fA st 4 i = fA st 4 j) (z : Int32) : Sh st ms V E Bt 10 (nI i) (nI j) 0 (nI j) z := by
  have h64 := h.n64
  have ou : fx_Maker_ofUndoing st 10 (nI i) = -3 := by rw [ou_10]
  unfold Sh
  rw [sm_10, zeroN h hj]
  have of : fx_Maker_ofSameOperands st 10 (nI i) (nI j) 0 = (-3, st) := by rw [of_10]; exact ite2 _
  have of1 := congrArg Prod.fst of
  have of2 := congrArg Prod.snd of
  rw [ite2]
  by_cases kb : fx_Terms_isZero st (nI j) = 0
  · rw [if_pos kb]
    have oz : fx_Maker_ofZero st 10 (nI i) (nI j) = -3 := by rw [oz_10, if_pos kb]
    exact Or.inl ⟨rfl, rfl, of1, of2, oz, ou⟩
  · rw [if_neg kb]
    have oz : fx_Maker_ofZero st 10 (nI i) (nI j) = nI i := by rw [oz_10, if_neg kb]
    have m := mip2 of1 of2 (by rw [oz]; exact nI_m3 (by omega))
    rw [oz] at m
    rw [m]
    exact Or.inr ⟨nI_m9 (by omega), rfl, N, h⟩
theorem sh_11 {st ms : XS} {V N E Bt i j : Nat} (h : Rel st ms V N E Bt) (hi : i < N) (hj : j < N) (hw : fA st 4 i = fA st 4 j) (z : Int32) : Sh st ms V E Bt 11 (nI i) (nI j) 0 (nI j) z := by
  have h64 := h.n64
  have ou : fx_Maker_ofUndoing st 11 (nI i) = -3 := by rw [ou_11]
  unfold Sh
  rw [sm_11, zeroN h hj]
  have of : fx_Maker_ofSameOperands st 11 (nI i) (nI j) 0 = (-3, st) := by rw [of_11]; exact ite2 _
  have of1 := congrArg Prod.fst of
  have of2 := congrArg Prod.snd of
  rw [ite2]
  by_cases kb : fx_Terms_isZero st (nI j) = 0
  · rw [if_pos kb]
    have oz : fx_Maker_ofZero st 11 (nI i) (nI j) = -3 := by rw [oz_11, if_pos kb]
    exact Or.inl ⟨rfl, rfl, of1, of2, oz, ou⟩
  · rw [if_neg kb]
    have oz : fx_Maker_ofZero st 11 (nI i) (nI j) = nI i := by rw [oz_11, if_neg kb]
    have m := mip2 of1 of2 (by rw [oz]; exact nI_m3 (by omega))
    rw [oz] at m
    rw [m]
    exact Or.inr ⟨nI_m9 (by omega), rfl, N, h⟩
theorem sh_12 {st ms : XS} {V N E Bt i j : Nat} (h : Rel st ms V N E Bt) (hi : i < N) (hj : j < N) (hw : fA st 4 i = fA st 4 j) (z : Int32) : Sh st ms V E Bt 12 (nI i) (nI j) 0 (nI j) z := by
  have h64 := h.n64
  have ou : fx_Maker_ofUndoing st 12 (nI i) = -3 := by rw [ou_12]
  unfold Sh
  rw [sm_12, zeroN h hj]
  have of : fx_Maker_ofSameOperands st 12 (nI i) (nI j) 0 = (-3, st) := by rw [of_12]; exact ite2 _
  have of1 := congrArg Prod.fst of
  have of2 := congrArg Prod.snd of
  rw [ite2]
  by_cases kb : fx_Terms_isZero st (nI j) = 0
  · rw [if_pos kb]
    have oz : fx_Maker_ofZero st 12 (nI i) (nI j) = -3 := by rw [oz_12, if_pos kb]
    exact Or.inl ⟨rfl, rfl, of1, of2, oz, ou⟩
  · rw [if_neg kb]
    have oz : fx_Maker_ofZero st 12 (nI i) (nI j) = nI i := by rw [oz_12, if_neg kb]
    have m := mip2 of1 of2 (by rw [oz]; exact nI_m3 (by omega))
    rw [oz] at m
    rw [m]
    exact Or.inr ⟨nI_m9 (by omega), rfl, N, h⟩
theorem sh_13 {st ms : XS} {V N E Bt i j : Nat} (h : Rel st ms V N E Bt) (hi : i < N) (hj : j < N) (hw : fA st 4 i = fA st 4 j) (z : Int32) : Sh st ms V E Bt 13 (nI i) (nI j) 0 (nI j) z := by
  have h64 := h.n64
  have ou : fx_Maker_ofUndoing st 13 (nI i) = -3 := by rw [ou_13]
  unfold Sh
  rw [sm_13, zeroN h hj]
  by_cases q : nI i = nI j
  · rw [if_pos q]
    have of : fx_Maker_ofSameOperands st 13 (nI i) (nI j) 0 = ((fx_Terms_findOrAddConstant st ((1 : Int32)) 1).1, (fx_Terms_findOrAddConstant st ((1 : Int32)) 1).2) := by rw [of_13, if_pos q]
    obtain ⟨q1, q2, _⟩ := focN (w := (1 : Int32)) (x := 1) (x2 := 1) h (Or.inl rfl) rfl
    obtain ⟨n3, n9⟩ := focR (w := (1 : Int32)) (x := 1) h (Or.inl rfl)
    have m := mip1 (st := st) (o := 13) (a := nI i) (b := nI j) (c := 0) (by rw [of]; exact n3)
    rw [of] at m
    rw [m]
    exact Or.inr ⟨fun e => n9 (q1.trans e), q1, q2⟩
  · rw [if_neg q]
    have of : fx_Maker_ofSameOperands st 13 (nI i) (nI j) 0 = (-3, st) := by rw [of_13, if_neg q]
    have of1 := congrArg Prod.fst of
    have of2 := congrArg Prod.snd of
    rw [ite2]
    have oz : fx_Maker_ofZero st 13 (nI i) (nI j) = -3 := by rw [oz_13]
    exact Or.inl ⟨rfl, rfl, of1, of2, oz, ou⟩
theorem sh_14 {st ms : XS} {V N E Bt i j : Nat} (h : Rel st ms V N E Bt) (hi : i < N) (hj : j < N) (hw : fA st 4 i = fA st 4 j) (z : Int32) : Sh st ms V E Bt 14 (nI i) (nI j) 0 (nI j) z := by
  have h64 := h.n64
  have ou : fx_Maker_ofUndoing st 14 (nI i) = -3 := by rw [ou_14]
  unfold Sh
  rw [sm_14, zeroN h hj]
  by_cases q : nI i = nI j
  · rw [if_pos q]
    have of : fx_Maker_ofSameOperands st 14 (nI i) (nI j) 0 = ((fx_Terms_findOrAddConstant st ((1 : Int32)) 0).1, (fx_Terms_findOrAddConstant st ((1 : Int32)) 0).2) := by rw [of_14, if_pos q]
    obtain ⟨q1, q2, _⟩ := focN (w := (1 : Int32)) (x := 0) (x2 := 0) h (Or.inl rfl) rfl
    obtain ⟨n3, n9⟩ := focR (w := (1 : Int32)) (x := 0) h (Or.inl rfl)
    have m := mip1 (st := st) (o := 14) (a := nI i) (b := nI j) (c := 0) (by rw [of]; exact n3)
    rw [of] at m
    rw [m]
    exact Or.inr ⟨fun e => n9 (q1.trans e), q1, q2⟩
  · rw [if_neg q]
    have of : fx_Maker_ofSameOperands st 14 (nI i) (nI j) 0 = (-3, st) := by rw [of_14, if_neg q]
    have of1 := congrArg Prod.fst of
    have of2 := congrArg Prod.snd of
    rw [ite2]
    have oz : fx_Maker_ofZero st 14 (nI i) (nI j) = -3 := by rw [oz_14]
    exact Or.inl ⟨rfl, rfl, of1, of2, oz, ou⟩
theorem sh_15 {st ms : XS} {V N E Bt i j : Nat} (h : Rel st ms V N E Bt) (hi : i < N) (hj : j < N) (hw : fA st 4 i = fA st 4 j) (z : Int32) : Sh st ms V E Bt 15 (nI i) (nI j) 0 (nI j) z := by
  have h64 := h.n64
  have ou : fx_Maker_ofUndoing st 15 (nI i) = -3 := by rw [ou_15]
  unfold Sh
  rw [sm_15, zeroN h hj]
  by_cases q : nI i = nI j
  · rw [if_pos q]
    have of : fx_Maker_ofSameOperands st 15 (nI i) (nI j) 0 = ((fx_Terms_findOrAddConstant st ((1 : Int32)) 0).1, (fx_Terms_findOrAddConstant st ((1 : Int32)) 0).2) := by rw [of_15, if_pos q]
    obtain ⟨q1, q2, _⟩ := focN (w := (1 : Int32)) (x := 0) (x2 := 0) h (Or.inl rfl) rfl
    obtain ⟨n3, n9⟩ := focR (w := (1 : Int32)) (x := 0) h (Or.inl rfl)
    have m := mip1 (st := st) (o := 15) (a := nI i) (b := nI j) (c := 0) (by rw [of]; exact n3)
    rw [of] at m
    rw [m]
    exact Or.inr ⟨fun e => n9 (q1.trans e), q1, q2⟩
  · rw [if_neg q]
    have of : fx_Maker_ofSameOperands st 15 (nI i) (nI j) 0 = (-3, st) := by rw [of_15, if_neg q]
    have of1 := congrArg Prod.fst of
    have of2 := congrArg Prod.snd of
    rw [ite2]
    have oz : fx_Maker_ofZero st 15 (nI i) (nI j) = -3 := by rw [oz_15]
    exact Or.inl ⟨rfl, rfl, of1, of2, oz, ou⟩
theorem sh_0 {st ms : XS} {V N E Bt i : Nat} (h : Rel st ms V N E Bt) (hi : i < N) (y z : Int32) : Sh st ms V E Bt 0 (nI i) 0 0 y z := by
  have h64 := h.n64
  obtain ⟨s0, s4, s21, s1, s23⟩ := h.sr i hi
  have of : fx_Maker_ofSameOperands st 0 (nI i) 0 0 = (-3, st) := by rw [of_0]; exact ite2 _
  have of1 := congrArg Prod.fst of
  have of2 := congrArg Prod.snd of
  have oz : fx_Maker_ofZero st 0 (nI i) 0 = -3 := by rw [oz_0]
  unfold Sh
  rw [sm_0, nI_clamp (by omega), s0]
  by_cases k : fA st 3 i = 0
  · rw [if_pos k, s1 (by rw [k]; decide)]
    have ou : fx_Maker_ofUndoing st 0 (nI i) = fA st 5 (3 * i) := by rw [ou_0, wl_opo (by omega), if_pos k, wl_op0 (by omega)]
    obtain ⟨m0, hm0, em⟩ := vp_in_of (show vp_in (fA st 5 (3 * i)) 64 from wl_opsX h.xt h64 i 0 hi (by decide) (by rw [k]; decide)) (by decide)
    have m := mip3 of1 of2 oz (by rw [ou, em]; exact nI_m3 (by omega))
    rw [ou] at m
    rw [m]
    exact Or.inr ⟨by rw [em]; exact nI_m9 (by omega), rfl, N, h⟩
  · rw [if_neg k]
    exact Or.inl ⟨rfl, rfl, of1, of2, oz, by rw [ou_0, wl_opo (by omega), if_neg k]⟩
theorem sh_1 {st ms : XS} {V N E Bt i : Nat} (h : Rel st ms V N E Bt) (hi : i < N) (y z : Int32) : Sh st ms V E Bt 1 (nI i) 0 0 y z := by
  have h64 := h.n64
  obtain ⟨s0, s4, s21, s1, s23⟩ := h.sr i hi
  have of : fx_Maker_ofSameOperands st 1 (nI i) 0 0 = (-3, st) := by rw [of_1]; exact ite2 _
  have of1 := congrArg Prod.fst of
  have of2 := congrArg Prod.snd of
  have oz : fx_Maker_ofZero st 1 (nI i) 0 = -3 := by rw [oz_1]
  unfold Sh
  rw [sm_1, nI_clamp (by omega), s0]
  by_cases k : fA st 3 i = 1
  · rw [if_pos k, s1 (by rw [k]; decide)]
    have ou : fx_Maker_ofUndoing st 1 (nI i) = fA st 5 (3 * i) := by rw [ou_1, wl_opo (by omega), if_pos k, wl_op0 (by omega)]
    obtain ⟨m0, hm0, em⟩ := vp_in_of (show vp_in (fA st 5 (3 * i)) 64 from wl_opsX h.xt h64 i 0 hi (by decide) (by rw [k]; decide)) (by decide)
    have m := mip3 of1 of2 oz (by rw [ou, em]; exact nI_m3 (by omega))
    rw [ou] at m
    rw [m]
    exact Or.inr ⟨by rw [em]; exact nI_m9 (by omega), rfl, N, h⟩
  · rw [if_neg k]
    exact Or.inl ⟨rfl, rfl, of1, of2, oz, by rw [ou_1, wl_opo (by omega), if_neg k]⟩
theorem sh_16 {st ms : XS} {V N E Bt i j k : Nat} (h : Rel st ms V N E Bt) (hi : i < N) (hj : j < N) (hk : k < N) (h1 : fA st 4 i = 1) : Sh st ms V E Bt 16 (nI i) (nI j) (nI k) (nI j) (nI k) := by
  have h64 := h.n64
  obtain ⟨s0, s4, s21, s1, s23⟩ := h.sr i hi
  have of : ∀ r : Int32, fx_Maker_ofSettledChoice st (nI i) (nI j) (nI k) = r → fx_Maker_ofSameOperands st 16 (nI i) (nI j) (nI k) = (r, st) := fun r e => by rw [of_16, e]
  have mm : ∀ n : Nat, n < 64 → fx_Maker_ofSettledChoice st (nI i) (nI j) (nI k) = nI n → fx_Maker_makeInPlace st 16 (nI i) (nI j) (nI k) = (nI n, st) := by
    intro n hn e
    have o1 := of _ e
    have m := mip1 (st := st) (o := 16) (a := nI i) (b := nI j) (c := nI k) (by rw [o1]; exact nI_m3 (by omega))
    rw [o1] at m
    exact m
  unfold Sh
  rw [sm_16, constN h hi, nI_clamp (by omega)]
  by_cases q : nI j = nI k
  · rw [if_pos q, mm j (by omega) (by rw [fx_Maker_ofSettledChoice, if_pos q])]
    exact Or.inr ⟨nI_m9 (by omega), rfl, N, h⟩
  · rw [if_neg q]
    by_cases c : fx_Terms_isConstant st (nI i) = 0
    · have o1 := of (-3) (by rw [fx_Maker_ofSettledChoice, if_neg q, if_pos c])
      rw [if_pos c]
      exact Or.inl ⟨rfl, rfl, congrArg Prod.fst o1, congrArg Prod.snd o1, by rw [oz_16], by rw [ou_16]⟩
    · have k21 := wl_const c
      rw [nI_clamp (by omega)] at k21
      have hn := (h.xt.1 i hi).o21 k21
      rw [h1] at hn
      have es := s21 k21
      rw [h1] at es
      rw [if_neg c, es]
      by_cases v : fL st 1 i = 0
      · rw [if_neg (fun e => (rp1_1 hn).mp ((lg_cmp_eq _ _).mp e) v), mm k (by omega) (by rw [fx_Maker_ofSettledChoice, if_neg q, if_neg c, fx_Terms_isZero, if_neg c, nI_clamp (by omega), if_pos ((lg_cmp_eq _ _).mpr v), if_neg i10])]
        exact Or.inr ⟨nI_m9 (by omega), rfl, N, h⟩
      · rw [if_pos ((lg_cmp_eq _ _).mpr ((rp1_1 hn).mpr v)), mm j (by omega) (by rw [fx_Maker_ofSettledChoice, if_neg q, if_neg c, fx_Terms_isZero, if_neg c, nI_clamp (by omega), if_neg (fun e => v ((lg_cmp_eq _ _).mp e)), if_pos rfl])]
        exact Or.inr ⟨nI_m9 (by omega), rfl, N, h⟩
theorem sh_17 {st ms : XS} {V E Bt i : Nat} (b z : Int32) : Sh st ms V E Bt 17 (nI i) b 0 b z := by
  have of : fx_Maker_ofSameOperands st 17 (nI i) b 0 = (-3, st) := by rw [of_17]; exact ite2 _
  unfold Sh
  rw [sm_17]
  exact Or.inl ⟨rfl, rfl, congrArg Prod.fst of, congrArg Prod.snd of, by rw [oz_17], by rw [ou_17]⟩
theorem sh_18 {st ms : XS} {V E Bt i : Nat} (b z : Int32) : Sh st ms V E Bt 18 (nI i) b 0 b z := by
  have of : fx_Maker_ofSameOperands st 18 (nI i) b 0 = (-3, st) := by rw [of_18]; exact ite2 _
  unfold Sh
  rw [sm_18]
  exact Or.inl ⟨rfl, rfl, congrArg Prod.fst of, congrArg Prod.snd of, by rw [oz_18], by rw [ou_18]⟩
theorem sh_19 {st ms : XS} {V E Bt i : Nat} (b z : Int32) : Sh st ms V E Bt 19 (nI i) b 0 b z := by
  have of : fx_Maker_ofSameOperands st 19 (nI i) b 0 = (-3, st) := by rw [of_19]; exact ite2 _
  unfold Sh
  rw [sm_19]
  exact Or.inl ⟨rfl, rfl, congrArg Prod.fst of, congrArg Prod.snd of, by rw [oz_19], by rw [ou_19]⟩
theorem sh_20 {st ms : XS} {V E Bt i : Nat} (b z : Int32) : Sh st ms V E Bt 20 (nI i) b 0 b z := by
  have of : fx_Maker_ofSameOperands st 20 (nI i) b 0 = (-3, st) := by rw [of_20]; exact ite2 _
  unfold Sh
  rw [sm_20]
  exact Or.inl ⟨rfl, rfl, congrArg Prod.fst of, congrArg Prod.snd of, by rw [oz_20], by rw [ou_20]⟩
