def opv (tab : Nat → Int64) (o w b : Int32) (x y z : Int64) : Int64 :=
  if o = (0 : Int32) then fx_Op_ofOne o w x else if o = (1 : Int32) then fx_Op_ofOne o w x else
  if o = (8 : Int32) then fx_Op_divided o w x y else if o = (9 : Int32) then fx_Op_divided o w x y else
  if o = (10 : Int32) then fx_Op_moved o w x y else if o = (11 : Int32) then fx_Op_moved o w x y else if o = (12 : Int32) then fx_Op_moved o w x y else
  if o = (16 : Int32) then (if lg_cmp x (0 : Int64) = (0 : Int32) then z else y) else
  if o = (17 : Int32) then fx_Op_resized o w b x else if o = (18 : Int32) then fx_Op_resized o w b x else if o = (19 : Int32) then fx_Op_resized o w b x else
  if o = (20 : Int32) then tab (b * (8 : Int32) + (x &&& (7 : Int64)).toInt32).toNatClampNeg else fx_Op_ofTwo o w x y
theorem apr_opv {S : XS} {o a b c : Int32} : fx_Eval_apply_r S o a b c = opv (fL S 0) o (fx_Terms_widthOf S a) b (fL S 2 a.toNatClampNeg) (fL S 2 b.toNatClampNeg) (fL S 2 c.toNatClampNeg) := by
  rw [fx_Eval_apply_r, opv, fx_Tabs_lookUp]
theorem apc_opv {S : XS} {o a b c : Int32} : fx_Eval_apply_c S o a b c = opv (fL S 0) o (fx_Terms_widthOf S a) b (fL S 1 a.toNatClampNeg) (fL S 1 b.toNatClampNeg) (fL S 1 c.toNatClampNeg) := by
  rw [fx_Eval_apply_c, opv, fx_Tabs_lookUp]
theorem opv_0 {tab : Nat → Int64} {w b : Int32} {x y z : Int64} : opv tab 0 w b x y z = fx_Op_ofOne 0 w x := by
  rw [opv, if_pos rfl]
theorem opv_1 {tab : Nat → Int64} {w b : Int32} {x y z : Int64} : opv tab 1 w b x y z = fx_Op_ofOne 1 w x := by
  rw [opv, if_neg (show ¬ (1 : Int32) = (0 : Int32) by decide), if_pos rfl]
theorem opv_2 {tab : Nat → Int64} {w b : Int32} {x y z : Int64} : opv tab 2 w b x y z = fx_Op_ofTwo 2 w x y := by
  rw [opv, if_neg (show ¬ (2 : Int32) = (0 : Int32) by decide), if_neg (show ¬ (2 : Int32) = (1 : Int32) by decide), if_neg (show ¬ (2 : Int32) = (8 : Int32) by decide), if_neg (show ¬ (2 : Int32) = (9 : Int32) by decide), if_neg (show ¬ (2 : Int32) = (10 : Int32) by decide), if_neg (show ¬ (2 : Int32) = (11 : Int32) by decide), if_neg (show ¬ (2 : Int32) = (12 : Int32) by decide), if_neg (show ¬ (2 : Int32) = (16 : Int32) by decide), if_neg (show ¬ (2 : Int32) = (17 : Int32) by decide), if_neg (show ¬ (2 : Int32) = (18 : Int32) by decide), if_neg (show ¬ (2 : Int32) = (19 : Int32) by decide), if_neg (show ¬ (2 : Int32) = (20 : Int32) by decide)]
theorem opv_3 {tab : Nat → Int64} {w b : Int32} {x y z : Int64} : opv tab 3 w b x y z = fx_Op_ofTwo 3 w x y := by
  rw [opv, if_neg (show ¬ (3 : Int32) = (0 : Int32) by decide), if_neg (show ¬ (3 : Int32) = (1 : Int32) by decide), if_neg (show ¬ (3 : Int32) = (8 : Int32) by decide), if_neg (show ¬ (3 : Int32) = (9 : Int32) by decide), if_neg (show ¬ (3 : Int32) = (10 : Int32) by decide), if_neg (show ¬ (3 : Int32) = (11 : Int32) by decide), if_neg (show ¬ (3 : Int32) = (12 : Int32) by decide), if_neg (show ¬ (3 : Int32) = (16 : Int32) by decide), if_neg (show ¬ (3 : Int32) = (17 : Int32) by decide), if_neg (show ¬ (3 : Int32) = (18 : Int32) by decide), if_neg (show ¬ (3 : Int32) = (19 : Int32) by decide), if_neg (show ¬ (3 : Int32) = (20 : Int32) by decide)]
theorem opv_4 {tab : Nat → Int64} {w b : Int32} {x y z : Int64} : opv tab 4 w b x y z = fx_Op_ofTwo 4 w x y := by
  rw [opv, if_neg (show ¬ (4 : Int32) = (0 : Int32) by decide), if_neg (show ¬ (4 : Int32) = (1 : Int32) by decide), if_neg (show ¬ (4 : Int32) = (8 : Int32) by decide), if_neg (show ¬ (4 : Int32) = (9 : Int32) by decide), if_neg (show ¬ (4 : Int32) = (10 : Int32) by decide), if_neg (show ¬ (4 : Int32) = (11 : Int32) by decide), if_neg (show ¬ (4 : Int32) = (12 : Int32) by decide), if_neg (show ¬ (4 : Int32) = (16 : Int32) by decide), if_neg (show ¬ (4 : Int32) = (17 : Int32) by decide), if_neg (show ¬ (4 : Int32) = (18 : Int32) by decide), if_neg (show ¬ (4 : Int32) = (19 : Int32) by decide), if_neg (show ¬ (4 : Int32) = (20 : Int32) by decide)]
theorem opv_5 {tab : Nat → Int64} {w b : Int32} {x y z : Int64} : opv tab 5 w b x y z = fx_Op_ofTwo 5 w x y := by
  rw [opv, if_neg (show ¬ (5 : Int32) = (0 : Int32) by decide), if_neg (show ¬ (5 : Int32) = (1 : Int32) by decide), if_neg (show ¬ (5 : Int32) = (8 : Int32) by decide), if_neg (show ¬ (5 : Int32) = (9 : Int32) by decide), if_neg (show ¬ (5 : Int32) = (10 : Int32) by decide), if_neg (show ¬ (5 : Int32) = (11 : Int32) by decide), if_neg (show ¬ (5 : Int32) = (12 : Int32) by decide), if_neg (show ¬ (5 : Int32) = (16 : Int32) by decide), if_neg (show ¬ (5 : Int32) = (17 : Int32) by decide), if_neg (show ¬ (5 : Int32) = (18 : Int32) by decide), if_neg (show ¬ (5 : Int32) = (19 : Int32) by decide), if_neg (show ¬ (5 : Int32) = (20 : Int32) by decide)]
theorem opv_6 {tab : Nat → Int64} {w b : Int32} {x y z : Int64} : opv tab 6 w b x y z = fx_Op_ofTwo 6 w x y := by
  rw [opv, if_neg (show ¬ (6 : Int32) = (0 : Int32) by decide), if_neg (show ¬ (6 : Int32) = (1 : Int32) by decide), if_neg (show ¬ (6 : Int32) = (8 : Int32) by decide), if_neg (show ¬ (6 : Int32) = (9 : Int32) by decide), if_neg (show ¬ (6 : Int32) = (10 : Int32) by decide), if_neg (show ¬ (6 : Int32) = (11 : Int32) by decide), if_neg (show ¬ (6 : Int32) = (12 : Int32) by decide), if_neg (show ¬ (6 : Int32) = (16 : Int32) by decide), if_neg (show ¬ (6 : Int32) = (17 : Int32) by decide), if_neg (show ¬ (6 : Int32) = (18 : Int32) by decide), if_neg (show ¬ (6 : Int32) = (19 : Int32) by decide), if_neg (show ¬ (6 : Int32) = (20 : Int32) by decide)]
theorem opv_7 {tab : Nat → Int64} {w b : Int32} {x y z : Int64} : opv tab 7 w b x y z = fx_Op_ofTwo 7 w x y := by
  rw [opv, if_neg (show ¬ (7 : Int32) = (0 : Int32) by decide), if_neg (show ¬ (7 : Int32) = (1 : Int32) by decide), if_neg (show ¬ (7 : Int32) = (8 : Int32) by decide), if_neg (show ¬ (7 : Int32) = (9 : Int32) by decide), if_neg (show ¬ (7 : Int32) = (10 : Int32) by decide), if_neg (show ¬ (7 : Int32) = (11 : Int32) by decide), if_neg (show ¬ (7 : Int32) = (12 : Int32) by decide), if_neg (show ¬ (7 : Int32) = (16 : Int32) by decide), if_neg (show ¬ (7 : Int32) = (17 : Int32) by decide), if_neg (show ¬ (7 : Int32) = (18 : Int32) by decide), if_neg (show ¬ (7 : Int32) = (19 : Int32) by decide), if_neg (show ¬ (7 : Int32) = (20 : Int32) by decide)]
theorem opv_8 {tab : Nat → Int64} {w b : Int32} {x y z : Int64} : opv tab 8 w b x y z = fx_Op_divided 8 w x y := by
  rw [opv, if_neg (show ¬ (8 : Int32) = (0 : Int32) by decide), if_neg (show ¬ (8 : Int32) = (1 : Int32) by decide), if_pos rfl]
theorem opv_9 {tab : Nat → Int64} {w b : Int32} {x y z : Int64} : opv tab 9 w b x y z = fx_Op_divided 9 w x y := by
  rw [opv, if_neg (show ¬ (9 : Int32) = (0 : Int32) by decide), if_neg (show ¬ (9 : Int32) = (1 : Int32) by decide), if_neg (show ¬ (9 : Int32) = (8 : Int32) by decide), if_pos rfl]
theorem opv_10 {tab : Nat → Int64} {w b : Int32} {x y z : Int64} : opv tab 10 w b x y z = fx_Op_moved 10 w x y := by
  rw [opv, if_neg (show ¬ (10 : Int32) = (0 : Int32) by decide), if_neg (show ¬ (10 : Int32) = (1 : Int32) by decide), if_neg (show ¬ (10 : Int32) = (8 : Int32) by decide), if_neg (show ¬ (10 : Int32) = (9 : Int32) by decide), if_pos rfl]
theorem opv_11 {tab : Nat → Int64} {w b : Int32} {x y z : Int64} : opv tab 11 w b x y z = fx_Op_moved 11 w x y := by
  rw [opv, if_neg (show ¬ (11 : Int32) = (0 : Int32) by decide), if_neg (show ¬ (11 : Int32) = (1 : Int32) by decide), if_neg (show ¬ (11 : Int32) = (8 : Int32) by decide), if_neg (show ¬ (11 : Int32) = (9 : Int32) by decide), if_neg (show ¬ (11 : Int32) = (10 : Int32) by decide), if_pos rfl]
theorem opv_12 {tab : Nat → Int64} {w b : Int32} {x y z : Int64} : opv tab 12 w b x y z = fx_Op_moved 12 w x y := by
  rw [opv, if_neg (show ¬ (12 : Int32) = (0 : Int32) by decide), if_neg (show ¬ (12 : Int32) = (1 : Int32) by decide), if_neg (show ¬ (12 : Int32) = (8 : Int32) by decide), if_neg (show ¬ (12 : Int32) = (9 : Int32) by decide), if_neg (show ¬ (12 : Int32) = (10 : Int32) by decide), if_neg (show ¬ (12 : Int32) = (11 : Int32) by decide), if_pos rfl]
theorem opv_13 {tab : Nat → Int64} {w b : Int32} {x y z : Int64} : opv tab 13 w b x y z = fx_Op_ofTwo 13 w x y := by
  rw [opv, if_neg (show ¬ (13 : Int32) = (0 : Int32) by decide), if_neg (show ¬ (13 : Int32) = (1 : Int32) by decide), if_neg (show ¬ (13 : Int32) = (8 : Int32) by decide), if_neg (show ¬ (13 : Int32) = (9 : Int32) by decide), if_neg (show ¬ (13 : Int32) = (10 : Int32) by decide), if_neg (show ¬ (13 : Int32) = (11 : Int32) by decide), if_neg (show ¬ (13 : Int32) = (12 : Int32) by decide), if_neg (show ¬ (13 : Int32) = (16 : Int32) by decide), if_neg (show ¬ (13 : Int32) = (17 : Int32) by decide), if_neg (show ¬ (13 : Int32) = (18 : Int32) by decide), if_neg (show ¬ (13 : Int32) = (19 : Int32) by decide), if_neg (show ¬ (13 : Int32) = (20 : Int32) by decide)]
theorem opv_14 {tab : Nat → Int64} {w b : Int32} {x y z : Int64} : opv tab 14 w b x y z = fx_Op_ofTwo 14 w x y := by
  rw [opv, if_neg (show ¬ (14 : Int32) = (0 : Int32) by decide), if_neg (show ¬ (14 : Int32) = (1 : Int32) by decide), if_neg (show ¬ (14 : Int32) = (8 : Int32) by decide), if_neg (show ¬ (14 : Int32) = (9 : Int32) by decide), if_neg (show ¬ (14 : Int32) = (10 : Int32) by decide), if_neg (show ¬ (14 : Int32) = (11 : Int32) by decide), if_neg (show ¬ (14 : Int32) = (12 : Int32) by decide), if_neg (show ¬ (14 : Int32) = (16 : Int32) by decide), if_neg (show ¬ (14 : Int32) = (17 : Int32) by decide), if_neg (show ¬ (14 : Int32) = (18 : Int32) by decide), if_neg (show ¬ (14 : Int32) = (19 : Int32) by decide), if_neg (show ¬ (14 : Int32) = (20 : Int32) by decide)]
theorem opv_15 {tab : Nat → Int64} {w b : Int32} {x y z : Int64} : opv tab 15 w b x y z = fx_Op_ofTwo 15 w x y := by
  rw [opv, if_neg (show ¬ (15 : Int32) = (0 : Int32) by decide), if_neg (show ¬ (15 : Int32) = (1 : Int32) by decide), if_neg (show ¬ (15 : Int32) = (8 : Int32) by decide), if_neg (show ¬ (15 : Int32) = (9 : Int32) by decide), if_neg (show ¬ (15 : Int32) = (10 : Int32) by decide), if_neg (show ¬ (15 : Int32) = (11 : Int32) by decide), if_neg (show ¬ (15 : Int32) = (12 : Int32) by decide), if_neg (show ¬ (15 : Int32) = (16 : Int32) by decide), if_neg (show ¬ (15 : Int32) = (17 : Int32) by decide), if_neg (show ¬ (15 : Int32) = (18 : Int32) by decide), if_neg (show ¬ (15 : Int32) = (19 : Int32) by decide), if_neg (show ¬ (15 : Int32) = (20 : Int32) by decide)]
theorem opv_16 {tab : Nat → Int64} {w b : Int32} {x y z : Int64} : opv tab 16 w b x y z = if lg_cmp x (0 : Int64) = (0 : Int32) then z else y := by
  rw [opv, if_neg (show ¬ (16 : Int32) = (0 : Int32) by decide), if_neg (show ¬ (16 : Int32) = (1 : Int32) by decide), if_neg (show ¬ (16 : Int32) = (8 : Int32) by decide), if_neg (show ¬ (16 : Int32) = (9 : Int32) by decide), if_neg (show ¬ (16 : Int32) = (10 : Int32) by decide), if_neg (show ¬ (16 : Int32) = (11 : Int32) by decide), if_neg (show ¬ (16 : Int32) = (12 : Int32) by decide), if_pos rfl]
theorem opv_17 {tab : Nat → Int64} {w b : Int32} {x y z : Int64} : opv tab 17 w b x y z = fx_Op_resized 17 w b x := by
  rw [opv, if_neg (show ¬ (17 : Int32) = (0 : Int32) by decide), if_neg (show ¬ (17 : Int32) = (1 : Int32) by decide), if_neg (show ¬ (17 : Int32) = (8 : Int32) by decide), if_neg (show ¬ (17 : Int32) = (9 : Int32) by decide), if_neg (show ¬ (17 : Int32) = (10 : Int32) by decide), if_neg (show ¬ (17 : Int32) = (11 : Int32) by decide), if_neg (show ¬ (17 : Int32) = (12 : Int32) by decide), if_neg (show ¬ (17 : Int32) = (16 : Int32) by decide), if_pos rfl]
theorem opv_18 {tab : Nat → Int64} {w b : Int32} {x y z : Int64} : opv tab 18 w b x y z = fx_Op_resized 18 w b x := by
  rw [opv, if_neg (show ¬ (18 : Int32) = (0 : Int32) by decide), if_neg (show ¬ (18 : Int32) = (1 : Int32) by decide), if_neg (show ¬ (18 : Int32) = (8 : Int32) by decide), if_neg (show ¬ (18 : Int32) = (9 : Int32) by decide), if_neg (show ¬ (18 : Int32) = (10 : Int32) by decide), if_neg (show ¬ (18 : Int32) = (11 : Int32) by decide), if_neg (show ¬ (18 : Int32) = (12 : Int32) by decide), if_neg (show ¬ (18 : Int32) = (16 : Int32) by decide), if_neg (show ¬ (18 : Int32) = (17 : Int32) by decide), if_pos rfl]
theorem opv_19 {tab : Nat → Int64} {w b : Int32} {x y z : Int64} : opv tab 19 w b x y z = fx_Op_resized 19 w b x := by
  rw [opv, if_neg (show ¬ (19 : Int32) = (0 : Int32) by decide), if_neg (show ¬ (19 : Int32) = (1 : Int32) by decide), if_neg (show ¬ (19 : Int32) = (8 : Int32) by decide), if_neg (show ¬ (19 : Int32) = (9 : Int32) by decide), if_neg (show ¬ (19 : Int32) = (10 : Int32) by decide), if_neg (show ¬ (19 : Int32) = (11 : Int32) by decide), if_neg (show ¬ (19 : Int32) = (12 : Int32) by decide), if_neg (show ¬ (19 : Int32) = (16 : Int32) by decide), if_neg (show ¬ (19 : Int32) = (17 : Int32) by decide), if_neg (show ¬ (19 : Int32) = (18 : Int32) by decide), if_pos rfl]
theorem opv_20 {tab : Nat → Int64} {w b : Int32} {x y z : Int64} : opv tab 20 w b x y z = tab (b * (8 : Int32) + (x &&& (7 : Int64)).toInt32).toNatClampNeg := by
  rw [opv, if_neg (show ¬ (20 : Int32) = (0 : Int32) by decide), if_neg (show ¬ (20 : Int32) = (1 : Int32) by decide), if_neg (show ¬ (20 : Int32) = (8 : Int32) by decide), if_neg (show ¬ (20 : Int32) = (9 : Int32) by decide), if_neg (show ¬ (20 : Int32) = (10 : Int32) by decide), if_neg (show ¬ (20 : Int32) = (11 : Int32) by decide), if_neg (show ¬ (20 : Int32) = (12 : Int32) by decide), if_neg (show ¬ (20 : Int32) = (16 : Int32) by decide), if_neg (show ¬ (20 : Int32) = (17 : Int32) by decide), if_neg (show ¬ (20 : Int32) = (18 : Int32) by decide), if_neg (show ¬ (20 : Int32) = (19 : Int32) by decide), if_pos rfl]
theorem op_cases {o : Int32} (h0 : ¬ o < 0) (h20 : ¬ (20 : Int32) < o) : o = 0 ∨ o = 1 ∨ o = 2 ∨ o = 3 ∨ o = 4 ∨ o = 5 ∨ o = 6 ∨ o = 7 ∨ o = 8 ∨ o = 9 ∨ o = 10 ∨ o = 11 ∨ o = 12 ∨ o = 13 ∨ o = 14 ∨ o = 15 ∨ o = 16 ∨ o = 17 ∨ o = 18 ∨ o = 19 ∨ o = 20 := by
  have key : ∀ k, k < 21 → (nI k = 0 ∨ nI k = 1 ∨ nI k = 2 ∨ nI k = 3 ∨ nI k = 4 ∨ nI k = 5 ∨ nI k = 6 ∨ nI k = 7 ∨ nI k = 8 ∨ nI k = 9 ∨ nI k = 10 ∨ nI k = 11 ∨ nI k = 12 ∨ nI k = 13 ∨ nI k = 14 ∨ nI k = 15 ∨ nI k = 16 ∨ nI k = 17 ∨ nI k = 18 ∨ nI k = 19 ∨ nI k = 20) := by decide +kernel
  obtain ⟨k, hk, e⟩ := nI_of2 (x := o) (M := 20) (n := 20) (by decide) h0 (Int32.not_lt.mp h20)
  rw [e]; exact key k (by omega)
theorem opq_0 {tab : Nat → Int64} {w b : Int32} {x y z y2 z2 : Int64} : opv tab 0 w b x y z = opv tab 0 w b x y2 z2 := by
  rw [opv_0, opv_0]
theorem opq_1 {tab : Nat → Int64} {w b : Int32} {x y z y2 z2 : Int64} : opv tab 1 w b x y z = opv tab 1 w b x y2 z2 := by
  rw [opv_1, opv_1]
theorem opq_2 {tab : Nat → Int64} {w b : Int32} {x y z y2 z2 : Int64} (hy : y = y2) : opv tab 2 w b x y z = opv tab 2 w b x y2 z2 := by
  rw [opv_2, opv_2, hy]
theorem ont_2 : nI 1 < fx_Op_namedTerms 2 := by decide
theorem opq_3 {tab : Nat → Int64} {w b : Int32} {x y z y2 z2 : Int64} (hy : y = y2) : opv tab 3 w b x y z = opv tab 3 w b x y2 z2 := by
  rw [opv_3, opv_3, hy]
theorem ont_3 : nI 1 < fx_Op_namedTerms 3 := by decide
theorem opq_4 {tab : Nat → Int64} {w b : Int32} {x y z y2 z2 : Int64} (hy : y = y2) : opv tab 4 w b x y z = opv tab 4 w b x y2 z2 := by
  rw [opv_4, opv_4, hy]
theorem ont_4 : nI 1 < fx_Op_namedTerms 4 := by decide
theorem opq_5 {tab : Nat → Int64} {w b : Int32} {x y z y2 z2 : Int64} (hy : y = y2) : opv tab 5 w b x y z = opv tab 5 w b x y2 z2 := by
  rw [opv_5, opv_5, hy]
theorem ont_5 : nI 1 < fx_Op_namedTerms 5 := by decide
theorem opq_6 {tab : Nat → Int64} {w b : Int32} {x y z y2 z2 : Int64} (hy : y = y2) : opv tab 6 w b x y z = opv tab 6 w b x y2 z2 := by
  rw [opv_6, opv_6, hy]
theorem ont_6 : nI 1 < fx_Op_namedTerms 6 := by decide
theorem opq_7 {tab : Nat → Int64} {w b : Int32} {x y z y2 z2 : Int64} (hy : y = y2) : opv tab 7 w b x y z = opv tab 7 w b x y2 z2 := by
  rw [opv_7, opv_7, hy]
theorem ont_7 : nI 1 < fx_Op_namedTerms 7 := by decide
theorem opq_8 {tab : Nat → Int64} {w b : Int32} {x y z y2 z2 : Int64} (hy : y = y2) : opv tab 8 w b x y z = opv tab 8 w b x y2 z2 := by
  rw [opv_8, opv_8, hy]
theorem ont_8 : nI 1 < fx_Op_namedTerms 8 := by decide
theorem opq_9 {tab : Nat → Int64} {w b : Int32} {x y z y2 z2 : Int64} (hy : y = y2) : opv tab 9 w b x y z = opv tab 9 w b x y2 z2 := by
  rw [opv_9, opv_9, hy]
theorem ont_9 : nI 1 < fx_Op_namedTerms 9 := by decide
theorem opq_10 {tab : Nat → Int64} {w b : Int32} {x y z y2 z2 : Int64} (hy : y = y2) : opv tab 10 w b x y z = opv tab 10 w b x y2 z2 := by
  rw [opv_10, opv_10, hy]
theorem ont_10 : nI 1 < fx_Op_namedTerms 10 := by decide
theorem opq_11 {tab : Nat → Int64} {w b : Int32} {x y z y2 z2 : Int64} (hy : y = y2) : opv tab 11 w b x y z = opv tab 11 w b x y2 z2 := by
  rw [opv_11, opv_11, hy]
theorem ont_11 : nI 1 < fx_Op_namedTerms 11 := by decide
theorem opq_12 {tab : Nat → Int64} {w b : Int32} {x y z y2 z2 : Int64} (hy : y = y2) : opv tab 12 w b x y z = opv tab 12 w b x y2 z2 := by
  rw [opv_12, opv_12, hy]
theorem ont_12 : nI 1 < fx_Op_namedTerms 12 := by decide
theorem opq_13 {tab : Nat → Int64} {w b : Int32} {x y z y2 z2 : Int64} (hy : y = y2) : opv tab 13 w b x y z = opv tab 13 w b x y2 z2 := by
  rw [opv_13, opv_13, hy]
theorem ont_13 : nI 1 < fx_Op_namedTerms 13 := by decide
theorem opq_14 {tab : Nat → Int64} {w b : Int32} {x y z y2 z2 : Int64} (hy : y = y2) : opv tab 14 w b x y z = opv tab 14 w b x y2 z2 := by
  rw [opv_14, opv_14, hy]
theorem ont_14 : nI 1 < fx_Op_namedTerms 14 := by decide
theorem opq_15 {tab : Nat → Int64} {w b : Int32} {x y z y2 z2 : Int64} (hy : y = y2) : opv tab 15 w b x y z = opv tab 15 w b x y2 z2 := by
  rw [opv_15, opv_15, hy]
theorem ont_15 : nI 1 < fx_Op_namedTerms 15 := by decide
theorem opq_16 {tab : Nat → Int64} {w b : Int32} {x y z y2 z2 : Int64} (hy : y = y2) (hz : z = z2) : opv tab 16 w b x y z = opv tab 16 w b x y2 z2 := by
  rw [opv_16, opv_16, hy, hz]
theorem ont_16 : nI 1 < fx_Op_namedTerms 16 := by decide
theorem ont3_16 : nI 2 < fx_Op_namedTerms 16 := by decide
theorem opq_17 {tab : Nat → Int64} {w b : Int32} {x y z y2 z2 : Int64} : opv tab 17 w b x y z = opv tab 17 w b x y2 z2 := by
  rw [opv_17, opv_17]
theorem opq_18 {tab : Nat → Int64} {w b : Int32} {x y z y2 z2 : Int64} : opv tab 18 w b x y z = opv tab 18 w b x y2 z2 := by
  rw [opv_18, opv_18]
theorem opq_19 {tab : Nat → Int64} {w b : Int32} {x y z y2 z2 : Int64} : opv tab 19 w b x y z = opv tab 19 w b x y2 z2 := by
  rw [opv_19, opv_19]
theorem opq_20 {tab : Nat → Int64} {w b : Int32} {x y z y2 z2 : Int64} : opv tab 20 w b x y z = opv tab 20 w b x y2 z2 := by
  rw [opv_20, opv_20]
set_option maxHeartbeats 4000000 in
theorem opv_nm {tab : Nat → Int64} {o w b : Int32} {x y z y2 z2 : Int64} (h0 : ¬ o < 0) (h20 : ¬ (20 : Int32) < o) (hy : nI 1 < fx_Op_namedTerms o → y = y2) (hz : nI 2 < fx_Op_namedTerms o → z = z2) : opv tab o w b x y z = opv tab o w b x y2 z2 := by
  rcases op_cases h0 h20 with rfl | rfl | rfl | rfl | rfl | rfl | rfl | rfl | rfl | rfl | rfl | rfl | rfl | rfl | rfl | rfl | rfl | rfl | rfl | rfl | rfl
  · exact opq_0
  · exact opq_1
  · exact opq_2 (hy ont_2)
  · exact opq_3 (hy ont_3)
  · exact opq_4 (hy ont_4)
  · exact opq_5 (hy ont_5)
  · exact opq_6 (hy ont_6)
  · exact opq_7 (hy ont_7)
  · exact opq_8 (hy ont_8)
  · exact opq_9 (hy ont_9)
  · exact opq_10 (hy ont_10)
  · exact opq_11 (hy ont_11)
  · exact opq_12 (hy ont_12)
  · exact opq_13 (hy ont_13)
  · exact opq_14 (hy ont_14)
  · exact opq_15 (hy ont_15)
  · exact opq_16 (hy ont_16) (hz ont3_16)
  · exact opq_17
  · exact opq_18
  · exact opq_19
  · exact opq_20
def xstep (st : XS) (n : Int32) (K : Nat → Int64) (t : Nat) : Int64 := if fA st 3 t = 21 then fL st 1 t else if fA st 3 t = 22 then fx_Vars_readAt st (fA st 5 (3 * t)) n else opv (fL st 0) (fA st 3 t) (fA st 4 (oA st t)) (fA st 5 (3 * t + 1)) (K (oA st t)) (K (oB st t)) (K (oC st t))
def xvs (st : XS) (n : Int32) : Nat → Nat → Int64
  | 0 => fun _ => 0
  | t + 1 => fun j => if j = t then xstep st n (xvs st n t) t else xvs st n t j
def xval (st : XS) (n : Int32) (t : Nat) : Int64 := xstep st n (xvs st n t) t
theorem xvs_lt {st : XS} {n : Int32} : ∀ t j : Nat, j < t → xvs st n t j = xval st n j := by
  intro t
  induction t with
  | zero => intro j h; exact absurd h (Nat.not_lt_zero _)
  | succ t ih =>
    intro j h
    show (if j = t then xstep st n (xvs st n t) t else xvs st n t j) = _
    by_cases e : j = t
    · rw [if_pos e, e]; rfl
    · rw [if_neg e]; exact ih j (by omega)
theorem XTt.op {S : XS} {V t : Nat} (h : XTt S V t) (h21 : ¬ fA S 3 t = 21) (h22 : ¬ fA S 3 t = 22) : ¬ fA S 3 t < 0 ∧ ¬ (20 : Int32) < fA S 3 t := by
  obtain ⟨hw, h⟩ := h
  rcases h with ⟨h, _⟩ | ⟨h, _⟩ | ⟨h | h, _⟩ | ⟨h | h | h | h | h | h | h | h | h, _⟩ | ⟨h | h, _⟩ | ⟨h | h | h, _⟩ | ⟨h, _⟩ | ⟨h | h, _⟩ | ⟨h, _⟩ | ⟨h, _⟩
  · exact absurd h h21
  · exact absurd h h22
  all_goals (rw [h]; decide)
theorem XTt.lt {S : XS} {V t : Nat} (h : XTt S V t) (ht : t < 64) : ∀ j : Nat, j < 3 → nI j < fx_Op_namedTerms (fA S 3 t) → (fA S 5 (3 * t + j)).toNatClampNeg < t := by
  intro j hj hn
  have cl : ∀ {x : Int32}, vp_in x t → x.toNatClampNeg < t := by
    intro x hx
    obtain ⟨a, ha, e⟩ := vp_in_of hx (by omega)
    rw [e, nI_clamp (by omega)]; exact ha
  obtain ⟨hw, q⟩ := h
  rcases q with ⟨ho, _⟩ | ⟨ho, _⟩ | ⟨ho, ha, _⟩ | ⟨ho, ha, hb, _⟩ | ⟨ho, ha, hb, _⟩ | ⟨ho, ha, hb, _⟩ | ⟨ho, ha, hb, hc, _⟩ | ⟨ho, ha, _⟩ | ⟨ho, ha, _⟩ | ⟨ho, ha, hb, _⟩
  · skip
    rw [ho] at hn
    have hj2 : j < 0 := wl_jlt hj (by decide) (show nI j < nI 0 from hn)
    omega
  · skip
    rw [ho] at hn
    have hj2 : j < 0 := wl_jlt hj (by decide) (show nI j < nI 0 from hn)
    omega
  · rcases ho with ho | ho
    · rw [ho] at hn
      have hj2 : j < 1 := wl_jlt hj (by decide) (show nI j < nI 1 from hn)
      obtain rfl : j = 0 := by omega
      exact cl ha
    · rw [ho] at hn
      have hj2 : j < 1 := wl_jlt hj (by decide) (show nI j < nI 1 from hn)
      obtain rfl : j = 0 := by omega
      exact cl ha
  · rcases ho with ho | ho | ho | ho | ho | ho | ho | ho | ho
    · rw [ho] at hn
      have hj2 : j < 2 := wl_jlt hj (by decide) (show nI j < nI 2 from hn)
      rcases (show j = 0 ∨ j = 1 by omega) with rfl | rfl
      · exact cl ha
      · exact cl hb
    · rw [ho] at hn
      have hj2 : j < 2 := wl_jlt hj (by decide) (show nI j < nI 2 from hn)
      rcases (show j = 0 ∨ j = 1 by omega) with rfl | rfl
      · exact cl ha
      · exact cl hb
    · rw [ho] at hn
      have hj2 : j < 2 := wl_jlt hj (by decide) (show nI j < nI 2 from hn)
      rcases (show j = 0 ∨ j = 1 by omega) with rfl | rfl
      · exact cl ha
      · exact cl hb
    · rw [ho] at hn
      have hj2 : j < 2 := wl_jlt hj (by decide) (show nI j < nI 2 from hn)
      rcases (show j = 0 ∨ j = 1 by omega) with rfl | rfl
      · exact cl ha
      · exact cl hb
    · rw [ho] at hn
      have hj2 : j < 2 := wl_jlt hj (by decide) (show nI j < nI 2 from hn)
      rcases (show j = 0 ∨ j = 1 by omega) with rfl | rfl
      · exact cl ha
      · exact cl hb
    · rw [ho] at hn
      have hj2 : j < 2 := wl_jlt hj (by decide) (show nI j < nI 2 from hn)
      rcases (show j = 0 ∨ j = 1 by omega) with rfl | rfl
      · exact cl ha
      · exact cl hb
    · rw [ho] at hn
      have hj2 : j < 2 := wl_jlt hj (by decide) (show nI j < nI 2 from hn)
      rcases (show j = 0 ∨ j = 1 by omega) with rfl | rfl
      · exact cl ha
      · exact cl hb
    · rw [ho] at hn
      have hj2 : j < 2 := wl_jlt hj (by decide) (show nI j < nI 2 from hn)
      rcases (show j = 0 ∨ j = 1 by omega) with rfl | rfl
      · exact cl ha
      · exact cl hb
    · rw [ho] at hn
      have hj2 : j < 2 := wl_jlt hj (by decide) (show nI j < nI 2 from hn)
      rcases (show j = 0 ∨ j = 1 by omega) with rfl | rfl
      · exact cl ha
      · exact cl hb
  · rcases ho with ho | ho
    · rw [ho] at hn
      have hj2 : j < 2 := wl_jlt hj (by decide) (show nI j < nI 2 from hn)
      rcases (show j = 0 ∨ j = 1 by omega) with rfl | rfl
      · exact cl ha
      · exact cl hb
    · rw [ho] at hn
      have hj2 : j < 2 := wl_jlt hj (by decide) (show nI j < nI 2 from hn)
      rcases (show j = 0 ∨ j = 1 by omega) with rfl | rfl
      · exact cl ha
      · exact cl hb
  · rcases ho with ho | ho | ho
    · rw [ho] at hn
      have hj2 : j < 2 := wl_jlt hj (by decide) (show nI j < nI 2 from hn)
      rcases (show j = 0 ∨ j = 1 by omega) with rfl | rfl
      · exact cl ha
      · exact cl hb
    · rw [ho] at hn
      have hj2 : j < 2 := wl_jlt hj (by decide) (show nI j < nI 2 from hn)
      rcases (show j = 0 ∨ j = 1 by omega) with rfl | rfl
      · exact cl ha
      · exact cl hb
    · rw [ho] at hn
      have hj2 : j < 2 := wl_jlt hj (by decide) (show nI j < nI 2 from hn)
      rcases (show j = 0 ∨ j = 1 by omega) with rfl | rfl
      · exact cl ha
      · exact cl hb
  · skip
    rw [ho] at hn
    have hj2 : j < 3 := wl_jlt hj (by decide) (show nI j < nI 3 from hn)
    rcases (show j = 0 ∨ j = 1 ∨ j = 2 by omega) with rfl | rfl | rfl
    · exact cl ha
    · exact cl hb
    · exact cl hc
  · rcases ho with ho | ho
    · rw [ho] at hn
      have hj2 : j < 1 := wl_jlt hj (by decide) (show nI j < nI 1 from hn)
      obtain rfl : j = 0 := by omega
      exact cl ha
    · rw [ho] at hn
      have hj2 : j < 1 := wl_jlt hj (by decide) (show nI j < nI 1 from hn)
      obtain rfl : j = 0 := by omega
      exact cl ha
  · skip
    rw [ho] at hn
    have hj2 : j < 1 := wl_jlt hj (by decide) (show nI j < nI 1 from hn)
    obtain rfl : j = 0 := by omega
    exact cl ha
  · skip
    rw [ho] at hn
    have hj2 : j < 1 := wl_jlt hj (by decide) (show nI j < nI 1 from hn)
    obtain rfl : j = 0 := by omega
    exact cl ha
theorem nt_pos {o : Int32} (h0 : ¬ o < 0) (h20 : ¬ (20 : Int32) < o) : nI 0 < fx_Op_namedTerms o := by
  have key : ∀ k, k < 21 → nI 0 < fx_Op_namedTerms (nI k) := by decide +kernel
  obtain ⟨k, hk, rfl⟩ := nI_of2 (x := o) (M := 20) (n := 20) (by decide) h0 (Int32.not_lt.mp h20)
  exact key k (by omega)
theorem xstep_congr {st : XS} {V t : Nat} {n : Int32} {K K2 : Nat → Int64} (h : XTt st V t) (hK : ∀ j : Nat, j < 3 → nI j < fx_Op_namedTerms (fA st 3 t) → K (fA st 5 (3 * t + j)).toNatClampNeg = K2 (fA st 5 (3 * t + j)).toNatClampNeg) : xstep st n K t = xstep st n K2 t := by
  unfold xstep
  by_cases h21 : fA st 3 t = 21
  · rw [if_pos h21, if_pos h21]
  · rw [if_neg h21, if_neg h21]
    by_cases h22 : fA st 3 t = 22
    · rw [if_pos h22, if_pos h22]
    · rw [if_neg h22, if_neg h22]
      obtain ⟨h0, h20⟩ := h.op h21 h22
      rw [show K (oA st t) = K2 (oA st t) from hK 0 (by decide) (nt_pos h0 h20)]
      exact opv_nm h0 h20 (fun q => hK 1 (by decide) q) (fun q => hK 2 (by decide) q)
theorem xval_eq {st : XS} {V N t : Nat} {n : Int32} (hX : XT st V N) (h64 : N ≤ 64) (ht : t < N) : xval st n t = xstep st n (xval st n) t :=
  xstep_congr (hX.1 t ht) (fun j hj q => xvs_lt t _ ((hX.1 t ht).lt (by omega) j hj q))
