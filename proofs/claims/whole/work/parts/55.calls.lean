theorem hasN {st ms : XS} {N : Nat} (hN : gI st 6 = nI N) (n0 : gI ms 0 = nI N) (h64 : N ≤ 64) (t : Int32) : (fx_Terms_has st t = 0 ∧ fm_Mod_none ms t = 1) ∨ ∃ j : Nat, j < N ∧ t = nI j ∧ fx_Terms_has st t = 1 ∧ fm_Mod_none ms t = 0 := by
  by_cases c0 : t < (0 : Int32)
  · exact Or.inl ⟨by rw [fx_Terms_has, if_pos c0], by rw [fm_Mod_none, if_pos c0]⟩
  · by_cases c1 : t < nI N
    · obtain ⟨j, hj, e⟩ := wl_ixn (by omega) rfl c0 c1
      refine Or.inr ⟨j, hj, e, ?_, ?_⟩
      · rw [fx_Terms_has, if_neg c0, hN, if_neg (Int32.not_le.mpr c1)]
      · rw [fm_Mod_none, if_neg c0, n0, if_pos c1]
    · refine Or.inl ⟨?_, ?_⟩
      · rw [fx_Terms_has, if_neg c0, hN, if_pos (Int32.not_lt.mp c1)]
      · rw [fm_Mod_none, if_neg c0, n0, if_neg c1]
theorem i10 : ¬ (1 : Int32) = 0 := by decide
theorem Rel.has {st ms : XS} {V N E Bt : Nat} (h : Rel st ms V N E Bt) (t : Int32) : (fx_Terms_has st t = 0 ∧ ¬ fm_Mod_none ms t = 0) ∨ ∃ j : Nat, j < N ∧ t = nI j ∧ ¬ fx_Terms_has st t = 0 ∧ fm_Mod_none ms t = 0 := by
  have hN : gI st 6 = nI N := h.1.2.2.2.2.1
  have h64 : N ≤ 64 := h.1.2.2.2.2.2.1
  rcases hasN hN h.2.1.1 h64 t with ⟨a, b⟩ | ⟨j, hj, e, a, b⟩
  · exact Or.inl ⟨a, by rw [b]; exact i10⟩
  · exact Or.inr ⟨j, hj, e, by rw [a]; exact i10, b⟩
theorem Rel.n64 {st ms : XS} {V N E Bt : Nat} (h : Rel st ms V N E Bt) : N ≤ 64 := h.1.2.2.2.2.2.1
theorem Rel.sr {st ms : XS} {V N E Bt : Nat} (h : Rel st ms V N E Bt) : SR st ms N := h.2.2.1
theorem Rel.xt {st ms : XS} {V N E Bt : Nat} (h : Rel st ms V N E Bt) : XT st V N := h.1.2.2.2.2.2.2.2.2.1
theorem Rel.v4 {st ms : XS} {V N E Bt : Nat} (h : Rel st ms V N E Bt) : V ≤ 4 := h.1.2.1
theorem widthN {st ms : XS} {V N E Bt : Nat} (h : Rel st ms V N E Bt) (t : Int32) : fx_PS_width st t = fm_Mod_width ms t := by
  have h64 := h.n64
  rcases h.has t with ⟨a, b⟩ | ⟨j, hj, e, a, b⟩
  · rw [fx_PS_width, fm_Mod_width, if_pos a, if_neg b]
  · rw [fx_PS_width, fm_Mod_width, if_neg a, if_pos b, fx_Terms_widthOf, e, nI_clamp (by omega)]
    exact (h.sr j hj).2.1.symm
theorem operationN {st ms : XS} {V N E Bt : Nat} (h : Rel st ms V N E Bt) (t : Int32) : fx_PS_operation st t = fm_Mod_operation ms t := by
  have h64 := h.n64
  rcases h.has t with ⟨a, b⟩ | ⟨j, hj, e, a, b⟩
  · rw [fx_PS_operation, fm_Mod_operation, if_pos a, if_neg b]
  · rw [fx_PS_operation, fm_Mod_operation, if_neg a, if_pos b, fx_Terms_operationOf, e, nI_clamp (by omega)]
    exact (h.sr j hj).1.symm
theorem nm21 : fx_Op_named 21 = 0 := by decide
theorem nm22 : fx_Op_named 22 = 0 := by decide
theorem k3 {i : Int32} (h0 : ¬ i < (0 : Int32)) {n : Nat} (hn : n ≤ 3) (h : i < nI n) : (0 < n ∧ i = 0) ∨ (1 < n ∧ i = 1) ∨ (2 < n ∧ i = 2) := by
  obtain ⟨k, hk, e⟩ := wl_ixn (by omega) rfl h0 h
  have q : k = 0 ∨ k = 1 ∨ k = 2 := by omega
  rcases q with q | q | q
  · exact Or.inl ⟨by omega, by rw [e, q]; rfl⟩
  · exact Or.inr (Or.inl ⟨by omega, by rw [e, q]; rfl⟩)
  · exact Or.inr (Or.inr ⟨by omega, by rw [e, q]; rfl⟩)
theorem operandN {st ms : XS} {V N E Bt : Nat} (h : Rel st ms V N E Bt) (t i : Int32) : fx_PS_operand st t i = fm_Mod_operand ms t i := by
  have h64 := h.n64
  rcases h.has t with ⟨a, b⟩ | ⟨j, hj, e, a, b⟩
  · rw [fx_PS_operand, fm_Mod_operand, if_pos a, if_neg b]
  · obtain ⟨s0, s4, s21, s1, s23⟩ := h.sr j hj
    have hT := h.xt.1 j hj
    rw [fx_PS_operand, fm_Mod_operand, if_neg a, if_pos b, e, wl_opo (by omega), nI_clamp (by omega), s0]
    by_cases h21 : fA st 3 j = 21
    · rw [h21, nm21, if_pos (show (20 : Int32) < 21 by decide)]
      by_cases c : i < (0 : Int32)
      · rw [if_pos c]
      · rw [if_neg c, if_neg c]
    · by_cases h22 : fA st 3 j = 22
      · rw [h22, nm22, if_pos (show (20 : Int32) < 22 by decide)]
        by_cases c : i < (0 : Int32)
        · rw [if_pos c]
        · rw [if_neg c, if_neg c]
      · obtain ⟨l0, l20⟩ := hT.op h21 h22
        rw [if_neg l20, s1 h21, (s23 h21 h22).1, (s23 h21 h22).2]
        by_cases c : i < (0 : Int32)
        · rw [if_pos c, if_neg (Int32.not_le.mpr c)]
        · rw [if_neg c, if_pos (Int32.not_lt.mp c)]
          have n1 : ¬ (1 : Int32) = 0 := i10
          have n2 : ¬ (2 : Int32) = 0 := by decide
          have n21 : ¬ (2 : Int32) = 1 := by decide
          rcases op_cases l0 l20 with o | o | o | o | o | o | o | o | o | o | o | o | o | o | o | o | o | o | o | o | o
          all_goals rw [o]
          · rw [show fx_Op_named 0 = nI 1 by decide, if_neg (show ¬ (2 : Int32) ≤ 0 by decide)]
            show (if i < nI 1 then _ else _) = if i < nI 1 then _ else _
            by_cases q : i < nI 1
            · rw [if_pos q, if_pos q]
              rcases k3 c (by decide) q with ⟨_, z⟩ | ⟨z, _⟩ | ⟨z, _⟩
              · rw [z, if_pos rfl, wl_op0 (by omega)]
              · omega
              · omega
            · rw [if_neg q, if_neg q]
          · rw [show fx_Op_named 1 = nI 1 by decide, if_neg (show ¬ (2 : Int32) ≤ 1 by decide)]
            show (if i < nI 1 then _ else _) = if i < nI 1 then _ else _
            by_cases q : i < nI 1
            · rw [if_pos q, if_pos q]
              rcases k3 c (by decide) q with ⟨_, z⟩ | ⟨z, _⟩ | ⟨z, _⟩
              · rw [z, if_pos rfl, wl_op0 (by omega)]
              · omega
              · omega
            · rw [if_neg q, if_neg q]
          · rw [show fx_Op_named 2 = nI 2 by decide, if_pos (show (2 : Int32) ≤ 2 by decide), if_neg (show ¬ (2 : Int32) = 16 by decide)]
            show (if i < nI 2 then _ else _) = if i < nI 2 then _ else _
            by_cases q : i < nI 2
            · rw [if_pos q, if_pos q]
              rcases k3 c (by decide) q with ⟨_, z⟩ | ⟨_, z⟩ | ⟨z, _⟩
              · rw [z, if_pos rfl, wl_op0 (by omega)]
              · rw [z, if_neg n1, if_pos rfl, wl_op1 (by omega)]
              · omega
            · rw [if_neg q, if_neg q]
          · rw [show fx_Op_named 3 = nI 2 by decide, if_pos (show (2 : Int32) ≤ 3 by decide), if_neg (show ¬ (3 : Int32) = 16 by decide)]
            show (if i < nI 2 then _ else _) = if i < nI 2 then _ else _
            by_cases q : i < nI 2
            · rw [if_pos q, if_pos q]
              rcases k3 c (by decide) q with ⟨_, z⟩ | ⟨_, z⟩ | ⟨z, _⟩
              · rw [z, if_pos rfl, wl_op0 (by omega)]
              · rw [z, if_neg n1, if_pos rfl, wl_op1 (by omega)]
              · omega
            · rw [if_neg q, if_neg q]
          · rw [show fx_Op_named 4 = nI 2 by decide, if_pos (show (2 : Int32) ≤ 4 by decide), if_neg (show ¬ (4 : Int32) = 16 by decide)]
            show (if i < nI 2 then _ else _) = if i < nI 2 then _ else _
            by_cases q : i < nI 2
            · rw [if_pos q, if_pos q]
              rcases k3 c (by decide) q with ⟨_, z⟩ | ⟨_, z⟩ | ⟨z, _⟩
              · rw [z, if_pos rfl, wl_op0 (by omega)]
              · rw [z, if_neg n1, if_pos rfl, wl_op1 (by omega)]
              · omega
            · rw [if_neg q, if_neg q]
          · rw [show fx_Op_named 5 = nI 2 by decide, if_pos (show (2 : Int32) ≤ 5 by decide), if_neg (show ¬ (5 : Int32) = 16 by decide)]
            show (if i < nI 2 then _ else _) = if i < nI 2 then _ else _
            by_cases q : i < nI 2
            · rw [if_pos q, if_pos q]
              rcases k3 c (by decide) q with ⟨_, z⟩ | ⟨_, z⟩ | ⟨z, _⟩
              · rw [z, if_pos rfl, wl_op0 (by omega)]
              · rw [z, if_neg n1, if_pos rfl, wl_op1 (by omega)]
              · omega
            · rw [if_neg q, if_neg q]
          · rw [show fx_Op_named 6 = nI 2 by decide, if_pos (show (2 : Int32) ≤ 6 by decide), if_neg (show ¬ (6 : Int32) = 16 by decide)]
            show (if i < nI 2 then _ else _) = if i < nI 2 then _ else _
            by_cases q : i < nI 2
            · rw [if_pos q, if_pos q]
              rcases k3 c (by decide) q with ⟨_, z⟩ | ⟨_, z⟩ | ⟨z, _⟩
              · rw [z, if_pos rfl, wl_op0 (by omega)]
              · rw [z, if_neg n1, if_pos rfl, wl_op1 (by omega)]
              · omega
            · rw [if_neg q, if_neg q]
          · rw [show fx_Op_named 7 = nI 2 by decide, if_pos (show (2 : Int32) ≤ 7 by decide), if_neg (show ¬ (7 : Int32) = 16 by decide)]
            show (if i < nI 2 then _ else _) = if i < nI 2 then _ else _
            by_cases q : i < nI 2
            · rw [if_pos q, if_pos q]
              rcases k3 c (by decide) q with ⟨_, z⟩ | ⟨_, z⟩ | ⟨z, _⟩
              · rw [z, if_pos rfl, wl_op0 (by omega)]
              · rw [z, if_neg n1, if_pos rfl, wl_op1 (by omega)]
              · omega
            · rw [if_neg q, if_neg q]
          · rw [show fx_Op_named 8 = nI 2 by decide, if_pos (show (2 : Int32) ≤ 8 by decide), if_neg (show ¬ (8 : Int32) = 16 by decide)]
            show (if i < nI 2 then _ else _) = if i < nI 2 then _ else _
            by_cases q : i < nI 2
            · rw [if_pos q, if_pos q]
              rcases k3 c (by decide) q with ⟨_, z⟩ | ⟨_, z⟩ | ⟨z, _⟩
              · rw [z, if_pos rfl, wl_op0 (by omega)]
              · rw [z, if_neg n1, if_pos rfl, wl_op1 (by omega)]
              · omega
            · rw [if_neg q, if_neg q]
          · rw [show fx_Op_named 9 = nI 2 by decide, if_pos (show (2 : Int32) ≤ 9 by decide), if_neg (show ¬ (9 : Int32) = 16 by decide)]
            show (if i < nI 2 then _ else _) = if i < nI 2 then _ else _
            by_cases q : i < nI 2
            · rw [if_pos q, if_pos q]
              rcases k3 c (by decide) q with ⟨_, z⟩ | ⟨_, z⟩ | ⟨z, _⟩
              · rw [z, if_pos rfl, wl_op0 (by omega)]
              · rw [z, if_neg n1, if_pos rfl, wl_op1 (by omega)]
              · omega
            · rw [if_neg q, if_neg q]
          · rw [show fx_Op_named 10 = nI 2 by decide, if_pos (show (2 : Int32) ≤ 10 by decide), if_neg (show ¬ (10 : Int32) = 16 by decide)]
            show (if i < nI 2 then _ else _) = if i < nI 2 then _ else _
            by_cases q : i < nI 2
            · rw [if_pos q, if_pos q]
              rcases k3 c (by decide) q with ⟨_, z⟩ | ⟨_, z⟩ | ⟨z, _⟩
              · rw [z, if_pos rfl, wl_op0 (by omega)]
              · rw [z, if_neg n1, if_pos rfl, wl_op1 (by omega)]
              · omega
            · rw [if_neg q, if_neg q]
          · rw [show fx_Op_named 11 = nI 2 by decide, if_pos (show (2 : Int32) ≤ 11 by decide), if_neg (show ¬ (11 : Int32) = 16 by decide)]
            show (if i < nI 2 then _ else _) = if i < nI 2 then _ else _
            by_cases q : i < nI 2
            · rw [if_pos q, if_pos q]
              rcases k3 c (by decide) q with ⟨_, z⟩ | ⟨_, z⟩ | ⟨z, _⟩
              · rw [z, if_pos rfl, wl_op0 (by omega)]
              · rw [z, if_neg n1, if_pos rfl, wl_op1 (by omega)]
              · omega
            · rw [if_neg q, if_neg q]
          · rw [show fx_Op_named 12 = nI 2 by decide, if_pos (show (2 : Int32) ≤ 12 by decide), if_neg (show ¬ (12 : Int32) = 16 by decide)]
            show (if i < nI 2 then _ else _) = if i < nI 2 then _ else _
            by_cases q : i < nI 2
            · rw [if_pos q, if_pos q]
              rcases k3 c (by decide) q with ⟨_, z⟩ | ⟨_, z⟩ | ⟨z, _⟩
              · rw [z, if_pos rfl, wl_op0 (by omega)]
              · rw [z, if_neg n1, if_pos rfl, wl_op1 (by omega)]
              · omega
            · rw [if_neg q, if_neg q]
          · rw [show fx_Op_named 13 = nI 2 by decide, if_pos (show (2 : Int32) ≤ 13 by decide), if_neg (show ¬ (13 : Int32) = 16 by decide)]
            show (if i < nI 2 then _ else _) = if i < nI 2 then _ else _
            by_cases q : i < nI 2
            · rw [if_pos q, if_pos q]
              rcases k3 c (by decide) q with ⟨_, z⟩ | ⟨_, z⟩ | ⟨z, _⟩
              · rw [z, if_pos rfl, wl_op0 (by omega)]
              · rw [z, if_neg n1, if_pos rfl, wl_op1 (by omega)]
              · omega
            · rw [if_neg q, if_neg q]
          · rw [show fx_Op_named 14 = nI 2 by decide, if_pos (show (2 : Int32) ≤ 14 by decide), if_neg (show ¬ (14 : Int32) = 16 by decide)]
            show (if i < nI 2 then _ else _) = if i < nI 2 then _ else _
            by_cases q : i < nI 2
            · rw [if_pos q, if_pos q]
              rcases k3 c (by decide) q with ⟨_, z⟩ | ⟨_, z⟩ | ⟨z, _⟩
              · rw [z, if_pos rfl, wl_op0 (by omega)]
              · rw [z, if_neg n1, if_pos rfl, wl_op1 (by omega)]
              · omega
            · rw [if_neg q, if_neg q]
          · rw [show fx_Op_named 15 = nI 2 by decide, if_pos (show (2 : Int32) ≤ 15 by decide), if_neg (show ¬ (15 : Int32) = 16 by decide)]
            show (if i < nI 2 then _ else _) = if i < nI 2 then _ else _
            by_cases q : i < nI 2
            · rw [if_pos q, if_pos q]
              rcases k3 c (by decide) q with ⟨_, z⟩ | ⟨_, z⟩ | ⟨z, _⟩
              · rw [z, if_pos rfl, wl_op0 (by omega)]
              · rw [z, if_neg n1, if_pos rfl, wl_op1 (by omega)]
              · omega
            · rw [if_neg q, if_neg q]
          · rw [show fx_Op_named 16 = nI 3 by decide, if_pos (show (2 : Int32) ≤ 16 by decide), if_pos rfl]
            show (if i < nI 3 then _ else _) = if i < nI 3 then _ else _
            by_cases q : i < nI 3
            · rw [if_pos q, if_pos q]
              rcases k3 c (by decide) q with ⟨_, z⟩ | ⟨_, z⟩ | ⟨_, z⟩
              · rw [z, if_pos rfl, wl_op0 (by omega)]
              · rw [z, if_neg n1, if_pos rfl, wl_op1 (by omega)]
              · rw [z, if_neg n2, if_neg n21, wl_op2 (by omega)]
            · rw [if_neg q, if_neg q]
          · rw [show fx_Op_named 17 = nI 2 by decide, if_pos (show (2 : Int32) ≤ 17 by decide), if_neg (show ¬ (17 : Int32) = 16 by decide)]
            show (if i < nI 2 then _ else _) = if i < nI 2 then _ else _
            by_cases q : i < nI 2
            · rw [if_pos q, if_pos q]
              rcases k3 c (by decide) q with ⟨_, z⟩ | ⟨_, z⟩ | ⟨z, _⟩
              · rw [z, if_pos rfl, wl_op0 (by omega)]
              · rw [z, if_neg n1, if_pos rfl, wl_op1 (by omega)]
              · omega
            · rw [if_neg q, if_neg q]
          · rw [show fx_Op_named 18 = nI 2 by decide, if_pos (show (2 : Int32) ≤ 18 by decide), if_neg (show ¬ (18 : Int32) = 16 by decide)]
            show (if i < nI 2 then _ else _) = if i < nI 2 then _ else _
            by_cases q : i < nI 2
            · rw [if_pos q, if_pos q]
              rcases k3 c (by decide) q with ⟨_, z⟩ | ⟨_, z⟩ | ⟨z, _⟩
              · rw [z, if_pos rfl, wl_op0 (by omega)]
              · rw [z, if_neg n1, if_pos rfl, wl_op1 (by omega)]
              · omega
            · rw [if_neg q, if_neg q]
          · rw [show fx_Op_named 19 = nI 2 by decide, if_pos (show (2 : Int32) ≤ 19 by decide), if_neg (show ¬ (19 : Int32) = 16 by decide)]
            show (if i < nI 2 then _ else _) = if i < nI 2 then _ else _
            by_cases q : i < nI 2
            · rw [if_pos q, if_pos q]
              rcases k3 c (by decide) q with ⟨_, z⟩ | ⟨_, z⟩ | ⟨z, _⟩
              · rw [z, if_pos rfl, wl_op0 (by omega)]
              · rw [z, if_neg n1, if_pos rfl, wl_op1 (by omega)]
              · omega
            · rw [if_neg q, if_neg q]
          · rw [show fx_Op_named 20 = nI 2 by decide, if_pos (show (2 : Int32) ≤ 20 by decide), if_neg (show ¬ (20 : Int32) = 16 by decide)]
            show (if i < nI 2 then _ else _) = if i < nI 2 then _ else _
            by_cases q : i < nI 2
            · rw [if_pos q, if_pos q]
              rcases k3 c (by decide) q with ⟨_, z⟩ | ⟨_, z⟩ | ⟨z, _⟩
              · rw [z, if_pos rfl, wl_op0 (by omega)]
              · rw [z, if_neg n1, if_pos rfl, wl_op1 (by omega)]
              · omega
            · rw [if_neg q, if_neg q]
theorem countN {st ms : XS} {V N E Bt : Nat} (h : Rel st ms V N E Bt) (wh : Int32) : fx_PS_count st wh = fm_Mod_count ms wh := by
  obtain ⟨⟨hV, hV4, hBt, hBt10, hN, h64, hEl, hE16, hX, hM0, hcN, mv⟩, ⟨n0, c0, v0, e0, y0, o0⟩, _⟩ := h
  rw [fx_PS_count, fm_Mod_count, fx_Terms_size, fx_Terms_totalCost, fx_Path_length, fx_Vars_size, hN, hEl, hV, n0, c0, v0, e0, y0, o0]
theorem MO.lt {x : Int32} (h : ¬ x < (0 : Int32)) : ¬ x < (-1 : Int32) := fun q => h (Int32.lt_trans q (by decide))
theorem modelN {st ms : XS} {V N E Bt : Nat} (h : Rel st ms V N E Bt) (vx : Int32) : fx_PS_model st vx = fm_Mod_model ms vx := by
  have hV4 := h.v4
  obtain ⟨_, _, _, _, _, _, _, _, mo, _⟩ := h
  rw [fx_PS_model, fm_Mod_model]
  rcases mo with ⟨m1, m2⟩ | ⟨n, MV, hn, hd, m0, m1, m6, mV, mv, _⟩
  · rw [if_pos m1, m2]
    by_cases c : vx < (0 : Int32)
    · rw [if_pos c]
    · rw [if_neg c, if_neg (MO.lt c)]
  · rw [m0, if_neg (nI_m1 hn), m1, m6]
    by_cases c : vx < (0 : Int32)
    · rw [if_pos c, if_pos c]
    · rw [if_neg c, if_neg c]
      by_cases q : vx < nI MV
      · rw [if_pos q, if_pos q]
        obtain ⟨v, hv, e⟩ := wl_ixn (by omega) rfl c q
        rw [e, nI_clamp (by omega), mv v (by omega)]
      · rw [if_neg q, if_neg q]
theorem Rel.path {st ms S T : XS} {V N E E2 Bt : Nat} (h : Rel st ms V N E Bt) (f : XF [9] [10] [] st S) (g : XF [3] [11] [] ms T) (s9 : gI S 9 = nI E2) (h16 : E2 ≤ 16) (t3 : gI T 3 = nI E2) (hc : ∀ i : Nat, i < E2 → vp_in (fA S 10 i) N) (pa : PA S T E2) : Rel S T V N E2 Bt := by
  obtain ⟨⟨hV, hV4, hBt, hBt10, hN, h64, hEl, hE16, hX, hM0, hcN, mv⟩, ⟨n0, c0, v0, e0, y0, o0⟩, sr, tb, vb, kz, rz, _, mo, ro, tr, cu⟩ := h
  refine ⟨⟨(f.I 4 (by decide)).trans hV, hV4, (f.I 5 (by decide)).trans hBt, hBt10, (f.I 6 (by decide)).trans hN, h64, s9, h16, hX.fr f (by decide) (by decide), hM0.fr f (by decide) (by decide), hc, ?_⟩, ⟨(g.I 0 (by decide)).trans n0, ?_, (g.I 2 (by decide)).trans v0, t3, ?_, ?_⟩, sr.fr f (by decide) (by decide) g (by decide) (by decide), ?_, vb.fr f (by decide) g (by decide), ?_, rz.fr f (by decide), pa, mo.fr f (by decide) (by decide) g (by decide) (by decide), ?_, tr.fr f (by decide), cu.fr f (by decide) (by decide)⟩
  · rw [f.I 1 (by decide)]; exact mv
  · rw [g.I 1 (by decide), f.I 7 (by decide)]; exact c0
  · rw [g.I 4 (by decide), f.I 2 (by decide)]; exact y0
  · rw [g.I 5 (by decide), f.I 3 (by decide)]; exact o0
  · rw [f.L 0 (by decide), g.A 10 (by decide)]; exact tb
  · unfold KZ; rw [f.A 8 (by decide)]; exact kz
  · intro t m ht hm hk
    rw [f.A 8 (by decide)] at hk
    rw [xval_fr f (by decide) (by decide), ← ro t m ht hm hk]
    unfold rbit
    rw [f.L 3 (by decide)]
theorem takeN {st ms : XS} {V N E Bt : Nat} (h : Rel st ms V N E Bt) (c : Int32) : (fx_PS_take st c).1 = (fm_Mod_take ms c).1 ∧ ∃ E2 : Nat, Rel (fx_PS_take st c).2 (fm_Mod_take ms c).2 V N E2 Bt := by
  have h64 := h.n64
  have hEl : gI st 9 = nI E := h.1.2.2.2.2.2.2.1
  have hE16 : E ≤ 16 := h.1.2.2.2.2.2.2.2.1
  have e0 : gI ms 3 = nI E := h.2.1.2.2.2.1
  have hcN := h.1.2.2.2.2.2.2.2.2.2.2.1
  have pa : PA st ms E := h.2.2.2.2.2.2.2.1
  rcases h.has c with ⟨a, b⟩ | ⟨j, hj, e, a, b⟩
  · rw [fx_PS_take, fm_Mod_take, if_pos a, if_neg b]; exact ⟨rfl, E, h⟩
  · rw [fx_PS_take, fm_Mod_take, if_neg a, if_pos b]
    have ew : fA ms 4 c.toNatClampNeg = fx_Terms_widthOf st c := by
      rw [fx_Terms_widthOf, e, nI_clamp (by omega)]; exact (h.sr j hj).2.1
    rw [ew]
    by_cases w : fx_Terms_widthOf st c = (1 : Int32)
    · rw [if_pos w, if_pos w]
      rcases Nat.lt_or_ge E 16 with q | q
      · rw [if_pos (show fx_Path_isFull st = 0 by rw [fx_Path_isFull, hEl, if_pos (show nI E < (16 : Int32) from nI_lt (b := 16) q (by decide))]), e0, if_neg (fun z => by have := (nI_eq (a := E) (b := 16) (by omega) (by decide)).mp z; omega)]
        rw [fx_Path_push, hEl, nI_clamp (by omega), nI_1]
        obtain ⟨S, eS⟩ : ∃ z, wI (wA st 10 E c) 9 (nI (E + 1)) = z := ⟨_, rfl⟩
        obtain ⟨T, eT⟩ : ∃ z, wI (wA ms 11 E c) 3 (nI (E + 1)) = z := ⟨_, rfl⟩
        have f : XF [9] [10] [] st S := by rw [← eS]; exact XF.wI (by decide) (XF.wA (by decide) XF.rf)
        have g : XF [3] [11] [] ms T := by rw [← eT]; exact XF.wI (by decide) (XF.wA (by decide) XF.rf)
        have s9 : gI S 9 = nI (E + 1) := by rw [← eS]; rfl
        have t3 : gI T 3 = nI (E + 1) := by rw [← eT]; rfl
        have sa : ∀ i : Nat, fA S 10 i = upd (fA st 10) E c i := by intro i; rw [← eS]; rfl
        have ta : ∀ i : Nat, fA T 11 i = upd (fA ms 11) E c i := by intro i; rw [← eT]; rfl
        rw [eS, eT]
        refine ⟨s9.trans t3.symm, E + 1, h.path f g s9 (by omega) t3 (fun i hi => ?_) (fun i hi => ?_)⟩
        · rw [sa i]
          by_cases z : i = E
          · rw [z, pk_us, e]; exact wl_in hj (by omega)
          · rw [pk_un z]; exact hcN i (by omega)
        · unfold cnd
          rw [sa i, ta i, f.A 4 (by decide)]
          by_cases z : i = E
          · rw [z, pk_us, pk_us]; exact ⟨rfl, w⟩
          · rw [pk_un z, pk_un z]; exact pa i (by omega)
      · have e16 : E = 16 := by omega
        rw [if_neg (show ¬ fx_Path_isFull st = 0 by rw [fx_Path_isFull, hEl, e16]; decide), e0, e16, if_pos (show nI 16 = (16 : Int32) by decide)]
        exact ⟨rfl, E, h⟩
    · rw [if_neg w, if_neg w]; exact ⟨rfl, E, h⟩
theorem backN {st ms : XS} {V N E Bt : Nat} (h : Rel st ms V N E Bt) : (fx_PS_back st).1 = (fm_Mod_back ms).1 ∧ ∃ E2 : Nat, Rel (fx_PS_back st).2 (fm_Mod_back ms).2 V N E2 Bt := by
  have hEl : gI st 9 = nI E := h.1.2.2.2.2.2.2.1
  have hE16 : E ≤ 16 := h.1.2.2.2.2.2.2.2.1
  have e0 : gI ms 3 = nI E := h.2.1.2.2.2.1
  have hcN := h.1.2.2.2.2.2.2.2.2.2.2.1
  have pa : PA st ms E := h.2.2.2.2.2.2.2.1
  rw [fx_PS_back, fm_Mod_back, fx_Path_length, fx_Path_pop, hEl, e0]
  rcases Nat.eq_zero_or_pos E with z | q
  · rw [z, if_pos (show nI 0 = (0 : Int32) by decide), if_pos (show nI 0 = (0 : Int32) by decide)]
    exact ⟨rfl, E, h⟩
  · obtain ⟨K, eK⟩ : ∃ K : Nat, E = K + 1 := ⟨E - 1, by omega⟩
    rw [if_neg (nI_ne0 q (by omega)), if_neg (nI_ne0 q (by omega)), eK, nI_pred]
    have f : XF [9] [10] [] st (wI st 9 (nI K)) := XF.wI (by decide) XF.rf
    have g : XF [3] [11] [] ms (wI ms 3 (nI K)) := XF.wI (by decide) XF.rf
    exact ⟨rfl, K, h.path f g rfl (by omega) rfl (fun i hi => hcN i (by omega)) (fun i hi => pa i (by omega))⟩
theorem noN {st : XS} {V N j : Nat} (hN : gI st 6 = nI N) (h64 : N ≤ 64) (hX : XT st V N) (hj : j < N) : NC (fx_Eval_needOnly st (nI j)) N ∧ ¬ fA (fx_Eval_needOnly st (nI j)) 7 j = 0 := by
  rw [fx_Eval_needOnly]
  obtain ⟨S1, e1⟩ : ∃ z, fx_Eval_need (fx_Eval_needNothing st) (nI j) = z := ⟨_, rfl⟩
  have f1 : XF [] [7] [] st S1 := by rw [← e1]; exact XF.tr (ff_Eval_needNothing st) (ff_Eval_need _ _)
  have k : ¬ fA S1 7 j = 0 := by
    rw [← e1, fx_Eval_need, nI_clamp (by omega)]
    show ¬ upd (fA (fx_Eval_needNothing st) 7) j _ j = 0
    rw [pk_us, nar1]; decide
  rw [e1]
  obtain ⟨n1, n2⟩ := ndN ((f1.I 6 (by decide)).trans hN) h64 (hX.fr f1 (by decide) (by decide))
  exact ⟨n1, n2 j k⟩
theorem valC {st ms : XS} {V N E Bt n j : Nat} (h : Rel st ms V N E Bt) (h0 : gI st 0 = nI n) (hn : n < 1024) (hj : j < N) : (fx_PS_value st (nI j)).1 = xval st (nI n) j ∧ Rel (fx_PS_value st (nI j)).2 ms V N E Bt := by
  have hr := h
  obtain ⟨⟨hV, hV4, hBt, hBt10, hN, h64, hEl, hE16, hX, hM0, hcN, mv⟩, ⟨n0, c0, v0, e0, y0, o0⟩, sr, tb, vb, kz, rz, pa, mo, ro, tr, cu⟩ := h
  have hh : ¬ fx_Terms_has st (nI j) = 0 := by
    rw [fx_Terms_has, if_neg (nI_pos (by omega)), hN, if_neg (nI_ge hj (by omega))]; exact i10
  rw [fx_PS_value, if_neg (by rw [h0]; exact nI_m1 hn), if_neg hh]
  obtain ⟨n1, n2⟩ := noN hN h64 hX hj
  have f1 := ff_Eval_needOnly st (nI j)
  obtain ⟨S1, e1⟩ : ∃ z, fx_Eval_needOnly st (nI j) = z := ⟨_, rfl⟩
  rw [e1] at n1 n2 f1 ⊢
  rw [f1.I 0 (by decide), h0]
  have hN1 := (f1.I 6 (by decide)).trans hN
  have hX1 := hX.fr f1 (by decide) (by decide)
  have f2 := ff_Eval_evaluateNeeded S1 (nI n)
  have v := evN (asg := nI n) hN1 h64 hX1 n1 j hj n2
  have xm := wl_evM (asg := nI n) hN1 h64 hV4 hX1 (hM0.fr f1 (by decide) (by decide))
  have z := evZ (nI n) hN1 h64 (rz.fr f1 (by decide))
  obtain ⟨S2, e2⟩ : ∃ z, fx_Eval_evaluateNeeded S1 (nI n) = z := ⟨_, rfl⟩
  rw [e2] at f2 v xm z ⊢
  have F : XF [] [7] [2] st S2 := XF.tr (f1.mono (by decide) (by decide) (by decide)) (f2.mono (by decide) (by decide) (by decide))
  have g : XF [] [] [] ms ms := XF.rf
  refine ⟨?_, hr.fr F (by decide) (by decide) (by decide) g (by decide) (by decide) (by decide) xm ?_ ?_ ?_ ?_ z (mo.fr F (by decide) (by decide) g (by decide) (by decide)) ?_⟩
  · show fL S2 2 (nI j).toNatClampNeg = _
    rw [nI_clamp (by omega), v, xval_fr f1 (by decide) (by decide)]
  · rw [F.I 1 (by decide)]; exact mv
  · rw [F.I 2 (by decide)]; exact y0
  · rw [F.I 3 (by decide)]; exact o0
  · unfold KZ; rw [F.A 8 (by decide)]; exact kz
  · intro t m ht hm hk
    rw [F.A 8 (by decide)] at hk
    rw [xval_fr F (by decide) (by decide), ← ro t m ht hm hk]
    unfold rbit
    rw [F.L 3 (by decide)]
theorem tmL {st0 ms : XS} : ∀ (n i : Nat) (S1 : XS), i ≤ 4 → 4 - i < n → XF [] [7] [] ms S1 → (∀ v : Nat, v < i → fA S1 7 v = fA ms 8 v) → ∃ S2 : XS, XF [] [7] [] ms S2 ∧ (∀ v : Nat, v < 4 → fA S2 7 v = fA ms 8 v) ∧ fm_Mod_takeModel_L2 st0 n i S1 = fm_Mod_work S2 := by
  intro n
  induction n with
  | zero => intro i S1 _ h; exact absurd h (Nat.not_lt_zero _)
  | succ n ih =>
    intro i S1 hi hm hF hK
    rw [fm_Mod_takeModel_L2]
    by_cases q : (4 : Int32) ≤ nI i
    · rw [if_pos q]
      have hge : 4 ≤ i := wl_ge (N := 4) q (by omega)
      exact ⟨S1, hF, fun v hv => hK v (by omega), rfl⟩
    · rw [if_neg q]
      have hlt : i < 4 := wl_lt (N := 4) q (by omega)
      rw [nI_clamp (by omega)]
      refine ih (i + 1) _ (by omega) (by omega) (XF.wA (by decide) hF) (fun v hv => ?_)
      show upd (fA S1 7) i _ v = _
      by_cases e : v = i
      · rw [e, pk_us, hF.A 8 (by decide)]
      · rw [pk_un e]; exact hK v (by omega)
theorem tmN {st ms : XS} {V N E Bt n MV : Nat} (h : Rel st ms V N E Bt) (mv : ∀ v : Nat, v < V → fA ms 8 v = fx_Vars_bitsAt st (nI v) (nI n)) : Rel st (fm_Mod_takeModel ms) V N E Bt ∧ ∀ j : Nat, j < N → fL (fm_Mod_takeModel ms) 1 j = rp (fA st 4 j) (xval st (nI n) j) := by
  have hr := h
  have g := ff_Mod_takeModel ms
  obtain ⟨⟨hV, hV4, hBt, hBt10, hN, h64, hEl, hE16, hX, hM0, hcN, mvx⟩, ⟨n0, c0, v0, e0, y0, o0⟩, sr, tb, vb, kz, rz, pa, mo, ro, tr, cu⟩ := h
  refine ⟨hr.fr (XF.rf (Is := []) (As := []) (Ls := [])) (by decide) (by decide) (by decide) g (by decide) (by decide) (by decide) hM0 mvx ((g.I 4 (by decide)).trans y0) ((g.I 5 (by decide)).trans o0) kz rz (mo.fr (XF.rf (Is := []) (As := []) (Ls := [])) (by decide) (by decide) g (by decide) (by decide)) ro, ?_⟩
  rw [fm_Mod_takeModel]
  obtain ⟨S2, f2, k2, e2⟩ := tmL (st0 := ms) 5 0 ms (Nat.zero_le _) (by omega) XF.rf (fun v hv => absurd hv (Nat.not_lt_zero _))
  rw [e2]
  exact workN h64 hV4 hX ((f2.I 0 (by decide)).trans n0) (sr.fr (XF.rf (Is := []) (As := []) (Ls := [])) (by decide) (by decide) f2 (by decide) (by decide)) (by rw [f2.A 10 (by decide)]; exact tb) (by rw [f2.A 5 (by decide), f2.A 9 (by decide)]; exact vb.B) (fun v hv => by rw [k2 v (by omega)]; exact mv v hv)
theorem valueN {st ms : XS} {V N E Bt : Nat} (h : Rel st ms V N E Bt) (t : Int32) : (fx_PS_value st t).1 = (fm_Mod_value ms t).1 ∧ Rel (fx_PS_value st t).2 (fm_Mod_value ms t).2 V N E Bt := by
  have h64 := h.n64
  have mo : MO st ms V Bt := h.2.2.2.2.2.2.2.2.1
  rcases mo with ⟨m1, m2⟩ | ⟨n, MV, hn, hd, m0, m1, m6, mV, mv, _⟩
  · rw [fx_PS_value, fm_Mod_value, if_pos m1, m2, if_pos (show (-1 : Int32) < 0 by decide)]
    exact ⟨rfl, h⟩
  · have hV4 := h.v4
    rcases h.has t with ⟨a, b⟩ | ⟨j, hj, e, a, b⟩
    · rw [fx_PS_value, fm_Mod_value, m0, if_neg (nI_m1 hn), if_pos a, m6, if_neg (nI_pos (by omega)), if_neg b]
      exact ⟨rfl, h⟩
    · obtain ⟨v1, v2⟩ := valC h m0 hn hj
      rw [fm_Mod_value, m6, if_neg (nI_pos (by omega)), if_pos b, e]
      obtain ⟨r1, r2⟩ := tmN (MV := MV) v2 (n := n) (fun v hv => by
        rw [mv v hv]
        have F := ff_PS_value st (nI j)
        unfold fx_Vars_bitsAt
        rw [F.A 0 (by decide), F.A 1 (by decide)])
      refine ⟨?_, r1⟩
      show (fx_PS_value st (nI j)).1 = fm_Mod_sign (fm_Mod_takeModel ms) (fL (fm_Mod_takeModel ms) 1 (nI j).toNatClampNeg) (fA (fm_Mod_takeModel ms) 4 (nI j).toNatClampNeg)
      have F := ff_PS_value st (nI j)
      rw [v1, nI_clamp (by omega), r2 j hj, (ff_Mod_takeModel ms).A 4 (by decide), (h.sr j hj).2.1, sign_rs, F.A 4 (by decide), xval_fr F (by decide) (by decide)]
      have hw := (h.xt.1 j hj).1
      have hx := xvalN (n := nI n) h.xt h64 hV4 j hj
      obtain ⟨k, h1, h2, ek⟩ := hw.k
      rw [ek] at hx ⊢
      exact (rs_rp h1 h2 hx).symm
theorem folL {V N E Bt m : Nat} {st0 ms0 T : XS} (hT : fm_Mod_takeModel ms0 = T) (hlen : gI st0 9 = nI E) (hE16 : E ≤ 16) (hm : m < 1024) (hv : ∀ j : Nat, j < N → fL T 1 j = rp (fA st0 4 j) (xval st0 (nI m) j)) (t3 : gI T 3 = nI E) : ∀ (n i : Nat) (S1 : XS), i ≤ E → E - i < n → XF [] [7] [2] st0 S1 → gI S1 0 = nI m → Rel S1 T V N E Bt → (fx_PS_follows_L20 st0 n i S1).1 = (fm_Mod_follows_L15 ms0 n i).1 ∧ Rel (fx_PS_follows_L20 st0 n i S1).2 (fm_Mod_follows_L15 ms0 n i).2 V N E Bt := by
  intro n
  induction n with
  | zero => intro i S1 _ h; exact absurd h (Nat.not_lt_zero _)
  | succ n ih =>
    intro i S1 hi hn hF h0 h
    have h64 := h.n64
    rw [fx_PS_follows_L20, fm_Mod_follows_L15, hT, fx_Path_length, hlen, t3]
    by_cases c : nI E ≤ nI i
    · rw [if_pos c, if_pos c]
      have hge : E ≤ i := wl_ge c (by omega)
      have e : i = E := by omega
      rw [e]; exact ⟨rfl, h⟩
    · rw [if_neg c, if_neg c]
      have hlt : i < E := wl_lt c (by omega)
      obtain ⟨r1, r2, r3⟩ := h.row hlt
      have hcN := h.1.2.2.2.2.2.2.2.2.2.2.1
      obtain ⟨j, hj, ej⟩ := vp_in_of (hcN i hlt) (by omega)
      have ec : cnd S1 i = j := by unfold cnd; rw [ej, nI_clamp (by omega)]
      obtain ⟨v1, v2⟩ := valC h h0 hm hj
      have F := ff_PS_value S1 (nI j)
      have x0 : xval S1 (nI m) j = xval st0 (nI m) j := xval_fr hF (by decide) (by decide) j
      have w1 : fA st0 4 j = 1 := by rw [← hF.A 4 (by decide), ← ec]; exact r3
      have xn := xvalN (n := nI m) h.xt h64 h.v4 j hj
      rw [hF.A 4 (by decide), w1, x0] at xn
      have tv := hv j hj
      rw [w1] at tv
      rw [fx_Path_conditionAt, nI_clamp (by omega), ej, r1, ej, nI_clamp (by omega), v1, tv, x0]
      by_cases z : xval st0 (nI m) j = 0
      · rw [if_pos ((lg_cmp_eq _ _).mpr z), if_neg (fun q => (rp1_1 xn).mp ((lg_cmp_eq _ _).mp q) z)]
        exact ⟨rfl, v2⟩
      · rw [if_neg (fun q => z ((lg_cmp_eq _ _).mp q)), if_pos ((lg_cmp_eq _ _).mpr ((rp1_1 xn).mpr z))]
        exact ih (i + 1) _ (by omega) (by omega) (XF.tr hF F) ((F.I 0 (by decide)).trans h0) v2
theorem followsN {st ms : XS} {V N E Bt : Nat} (h : Rel st ms V N E Bt) : (fx_PS_follows st).1 = (fm_Mod_follows ms).1 ∧ Rel (fx_PS_follows st).2 (fm_Mod_follows ms).2 V N E Bt := by
  have hEl : gI st 9 = nI E := h.1.2.2.2.2.2.2.1
  have hE16 : E ≤ 16 := h.1.2.2.2.2.2.2.2.1
  have mo : MO st ms V Bt := h.2.2.2.2.2.2.2.2.1
  have hV4 := h.v4
  rcases mo with ⟨m1, m2⟩ | ⟨n, MV, hn, hd, m0, m1, m6, mV, mv, _⟩
  · rw [fx_PS_follows, fm_Mod_follows, if_pos m1, m2, if_neg (show ¬ (0 : Int32) ≤ -1 by decide)]
    exact ⟨rfl, h⟩
  · rw [fx_PS_follows, fm_Mod_follows, m0, if_neg (nI_m1 hn), m6, if_pos (nI_pos' (by omega))]
    obtain ⟨r1, r2⟩ := tmN (MV := MV) h (n := n) mv
    exact folL rfl hEl hE16 hn r2 r1.2.1.2.2.2.1 17 0 st (Nat.zero_le _) (by omega) XF.rf m0 r1
