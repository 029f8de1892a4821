theorem apr_0 {S : XS} {a b c : Int32} : fx_Eval_apply_r S 0 a b c = fx_Op_ofOne 0 (fx_Terms_widthOf S a) (fL S 2 a.toNatClampNeg) := by
  rw [fx_Eval_apply_r, if_pos rfl]
theorem apr_1 {S : XS} {a b c : Int32} : fx_Eval_apply_r S 1 a b c = fx_Op_ofOne 1 (fx_Terms_widthOf S a) (fL S 2 a.toNatClampNeg) := by
  rw [fx_Eval_apply_r, if_neg (show ¬ (1 : Int32) = (0 : Int32) by decide), if_pos rfl]
theorem apr_2 {S : XS} {a b c : Int32} : fx_Eval_apply_r S 2 a b c = fx_Op_ofTwo 2 (fx_Terms_widthOf S a) (fL S 2 a.toNatClampNeg) (fL S 2 b.toNatClampNeg) := by
  rw [fx_Eval_apply_r, if_neg (show ¬ (2 : Int32) = (0 : Int32) by decide), if_neg (show ¬ (2 : Int32) = (1 : Int32) by decide), if_neg (show ¬ (2 : Int32) = (8 : Int32) by decide), if_neg (show ¬ (2 : Int32) = (9 : Int32) by decide), if_neg (show ¬ (2 : Int32) = (10 : Int32) by decide), if_neg (show ¬ (2 : Int32) = (11 : Int32) by decide), if_neg (show ¬ (2 : Int32) = (12 : Int32) by decide), if_neg (show ¬ (2 : Int32) = (16 : Int32) by decide), if_neg (show ¬ (2 : Int32) = (17 : Int32) by decide), if_neg (show ¬ (2 : Int32) = (18 : Int32) by decide), if_neg (show ¬ (2 : Int32) = (19 : Int32) by decide), if_neg (show ¬ (2 : Int32) = (20 : Int32) by decide)]
theorem apr_3 {S : XS} {a b c : Int32} : fx_Eval_apply_r S 3 a b c = fx_Op_ofTwo 3 (fx_Terms_widthOf S a) (fL S 2 a.toNatClampNeg) (fL S 2 b.toNatClampNeg) := by
  rw [fx_Eval_apply_r, if_neg (show ¬ (3 : Int32) = (0 : Int32) by decide), if_neg (show ¬ (3 : Int32) = (1 : Int32) by decide), if_neg (show ¬ (3 : Int32) = (8 : Int32) by decide), if_neg (show ¬ (3 : Int32) = (9 : Int32) by decide), if_neg (show ¬ (3 : Int32) = (10 : Int32) by decide), if_neg (show ¬ (3 : Int32) = (11 : Int32) by decide), if_neg (show ¬ (3 : Int32) = (12 : Int32) by decide), if_neg (show ¬ (3 : Int32) = (16 : Int32) by decide), if_neg (show ¬ (3 : Int32) = (17 : Int32) by decide), if_neg (show ¬ (3 : Int32) = (18 : Int32) by decide), if_neg (show ¬ (3 : Int32) = (19 : Int32) by decide), if_neg (show ¬ (3 : Int32) = (20 : Int32) by decide)]
theorem apr_4 {S : XS} {a b c : Int32} : fx_Eval_apply_r S 4 a b c = fx_Op_ofTwo 4 (fx_Terms_widthOf S a) (fL S 2 a.toNatClampNeg) (fL S 2 b.toNatClampNeg) := by
  rw [fx_Eval_apply_r, if_neg (show ¬ (4 : Int32) = (0 : Int32) by decide), if_neg (show ¬ (4 : Int32) = (1 : Int32) by decide), if_neg (show ¬ (4 : Int32) = (8 : Int32) by decide), if_neg (show ¬ (4 : Int32) = (9 : Int32) by decide), if_neg (show ¬ (4 : Int32) = (10 : Int32) by decide), if_neg (show ¬ (4 : Int32) = (11 : Int32) by decide), if_neg (show ¬ (4 : Int32) = (12 : Int32) by decide), if_neg (show ¬ (4 : Int32) = (16 : Int32) by decide), if_neg (show ¬ (4 : Int32) = (17 : Int32) by decide), if_neg (show ¬ (4 : Int32) = (18 : Int32) by decide), if_neg (show ¬ (4 : Int32) = (19 : Int32) by decide), if_neg (show ¬ (4 : Int32) = (20 : Int32) by decide)]
theorem apr_5 {S : XS} {a b c : Int32} : fx_Eval_apply_r S 5 a b c = fx_Op_ofTwo 5 (fx_Terms_widthOf S a) (fL S 2 a.toNatClampNeg) (fL S 2 b.toNatClampNeg) := by
  rw [fx_Eval_apply_r, if_neg (show ¬ (5 : Int32) = (0 : Int32) by decide), if_neg (show ¬ (5 : Int32) = (1 : Int32) by decide), if_neg (show ¬ (5 : Int32) = (8 : Int32) by decide), if_neg (show ¬ (5 : Int32) = (9 : Int32) by decide), if_neg (show ¬ (5 : Int32) = (10 : Int32) by decide), if_neg (show ¬ (5 : Int32) = (11 : Int32) by decide), if_neg (show ¬ (5 : Int32) = (12 : Int32) by decide), if_neg (show ¬ (5 : Int32) = (16 : Int32) by decide), if_neg (show ¬ (5 : Int32) = (17 : Int32) by decide), if_neg (show ¬ (5 : Int32) = (18 : Int32) by decide), if_neg (show ¬ (5 : Int32) = (19 : Int32) by decide), if_neg (show ¬ (5 : Int32) = (20 : Int32) by decide)]
theorem apr_6 {S : XS} {a b c : Int32} : fx_Eval_apply_r S 6 a b c = fx_Op_ofTwo 6 (fx_Terms_widthOf S a) (fL S 2 a.toNatClampNeg) (fL S 2 b.toNatClampNeg) := by
  rw [fx_Eval_apply_r, if_neg (show ¬ (6 : Int32) = (0 : Int32) by decide), if_neg (show ¬ (6 : Int32) = (1 : Int32) by decide), if_neg (show ¬ (6 : Int32) = (8 : Int32) by decide), if_neg (show ¬ (6 : Int32) = (9 : Int32) by decide), if_neg (show ¬ (6 : Int32) = (10 : Int32) by decide), if_neg (show ¬ (6 : Int32) = (11 : Int32) by decide), if_neg (show ¬ (6 : Int32) = (12 : Int32) by decide), if_neg (show ¬ (6 : Int32) = (16 : Int32) by decide), if_neg (show ¬ (6 : Int32) = (17 : Int32) by decide), if_neg (show ¬ (6 : Int32) = (18 : Int32) by decide), if_neg (show ¬ (6 : Int32) = (19 : Int32) by decide), if_neg (show ¬ (6 : Int32) = (20 : Int32) by decide)]
theorem apr_7 {S : XS} {a b c : Int32} : fx_Eval_apply_r S 7 a b c = fx_Op_ofTwo 7 (fx_Terms_widthOf S a) (fL S 2 a.toNatClampNeg) (fL S 2 b.toNatClampNeg) := by
  rw [fx_Eval_apply_r, if_neg (show ¬ (7 : Int32) = (0 : Int32) by decide), if_neg (show ¬ (7 : Int32) = (1 : Int32) by decide), if_neg (show ¬ (7 : Int32) = (8 : Int32) by decide), if_neg (show ¬ (7 : Int32) = (9 : Int32) by decide), if_neg (show ¬ (7 : Int32) = (10 : Int32) by decide), if_neg (show ¬ (7 : Int32) = (11 : Int32) by decide), if_neg (show ¬ (7 : Int32) = (12 : Int32) by decide), if_neg (show ¬ (7 : Int32) = (16 : Int32) by decide), if_neg (show ¬ (7 : Int32) = (17 : Int32) by decide), if_neg (show ¬ (7 : Int32) = (18 : Int32) by decide), if_neg (show ¬ (7 : Int32) = (19 : Int32) by decide), if_neg (show ¬ (7 : Int32) = (20 : Int32) by decide)]
theorem apr_8 {S : XS} {a b c : Int32} : fx_Eval_apply_r S 8 a b c = fx_Op_divided 8 (fx_Terms_widthOf S a) (fL S 2 a.toNatClampNeg) (fL S 2 b.toNatClampNeg) := by
  rw [fx_Eval_apply_r, if_neg (show ¬ (8 : Int32) = (0 : Int32) by decide), if_neg (show ¬ (8 : Int32) = (1 : Int32) by decide), if_pos rfl]
theorem apr_9 {S : XS} {a b c : Int32} : fx_Eval_apply_r S 9 a b c = fx_Op_divided 9 (fx_Terms_widthOf S a) (fL S 2 a.toNatClampNeg) (fL S 2 b.toNatClampNeg) := by
  rw [fx_Eval_apply_r, if_neg (show ¬ (9 : Int32) = (0 : Int32) by decide), if_neg (show ¬ (9 : Int32) = (1 : Int32) by decide), if_neg (show ¬ (9 : Int32) = (8 : Int32) by decide), if_pos rfl]
theorem apr_10 {S : XS} {a b c : Int32} : fx_Eval_apply_r S 10 a b c = fx_Op_moved 10 (fx_Terms_widthOf S a) (fL S 2 a.toNatClampNeg) (fL S 2 b.toNatClampNeg) := by
  rw [fx_Eval_apply_r, if_neg (show ¬ (10 : Int32) = (0 : Int32) by decide), if_neg (show ¬ (10 : Int32) = (1 : Int32) by decide), if_neg (show ¬ (10 : Int32) = (8 : Int32) by decide), if_neg (show ¬ (10 : Int32) = (9 : Int32) by decide), if_pos rfl]
theorem apr_11 {S : XS} {a b c : Int32} : fx_Eval_apply_r S 11 a b c = fx_Op_moved 11 (fx_Terms_widthOf S a) (fL S 2 a.toNatClampNeg) (fL S 2 b.toNatClampNeg) := by
  rw [fx_Eval_apply_r, if_neg (show ¬ (11 : Int32) = (0 : Int32) by decide), if_neg (show ¬ (11 : Int32) = (1 : Int32) by decide), if_neg (show ¬ (11 : Int32) = (8 : Int32) by decide), if_neg (show ¬ (11 : Int32) = (9 : Int32) by decide), if_neg (show ¬ (11 : Int32) = (10 : Int32) by decide), if_pos rfl]
theorem apr_12 {S : XS} {a b c : Int32} : fx_Eval_apply_r S 12 a b c = fx_Op_moved 12 (fx_Terms_widthOf S a) (fL S 2 a.toNatClampNeg) (fL S 2 b.toNatClampNeg) := by
  rw [fx_Eval_apply_r, if_neg (show ¬ (12 : Int32) = (0 : Int32) by decide), if_neg (show ¬ (12 : Int32) = (1 : Int32) by decide), if_neg (show ¬ (12 : Int32) = (8 : Int32) by decide), if_neg (show ¬ (12 : Int32) = (9 : Int32) by decide), if_neg (show ¬ (12 : Int32) = (10 : Int32) by decide), if_neg (show ¬ (12 : Int32) = (11 : Int32) by decide), if_pos rfl]
theorem apr_13 {S : XS} {a b c : Int32} : fx_Eval_apply_r S 13 a b c = fx_Op_ofTwo 13 (fx_Terms_widthOf S a) (fL S 2 a.toNatClampNeg) (fL S 2 b.toNatClampNeg) := by
  rw [fx_Eval_apply_r, if_neg (show ¬ (13 : Int32) = (0 : Int32) by decide), if_neg (show ¬ (13 : Int32) = (1 : Int32) by decide), if_neg (show ¬ (13 : Int32) = (8 : Int32) by decide), if_neg (show ¬ (13 : Int32) = (9 : Int32) by decide), if_neg (show ¬ (13 : Int32) = (10 : Int32) by decide), if_neg (show ¬ (13 : Int32) = (11 : Int32) by decide), if_neg (show ¬ (13 : Int32) = (12 : Int32) by decide), if_neg (show ¬ (13 : Int32) = (16 : Int32) by decide), if_neg (show ¬ (13 : Int32) = (17 : Int32) by decide), if_neg (show ¬ (13 : Int32) = (18 : Int32) by decide), if_neg (show ¬ (13 : Int32) = (19 : Int32) by decide), if_neg (show ¬ (13 : Int32) = (20 : Int32) by decide)]
theorem apr_14 {S : XS} {a b c : Int32} : fx_Eval_apply_r S 14 a b c = fx_Op_ofTwo 14 (fx_Terms_widthOf S a) (fL S 2 a.toNatClampNeg) (fL S 2 b.toNatClampNeg) := by
  rw [fx_Eval_apply_r, if_neg (show ¬ (14 : Int32) = (0 : Int32) by decide), if_neg (show ¬ (14 : Int32) = (1 : Int32) by decide), if_neg (show ¬ (14 : Int32) = (8 : Int32) by decide), if_neg (show ¬ (14 : Int32) = (9 : Int32) by decide), if_neg (show ¬ (14 : Int32) = (10 : Int32) by decide), if_neg (show ¬ (14 : Int32) = (11 : Int32) by decide), if_neg (show ¬ (14 : Int32) = (12 : Int32) by decide), if_neg (show ¬ (14 : Int32) = (16 : Int32) by decide), if_neg (show ¬ (14 : Int32) = (17 : Int32) by decide), if_neg (show ¬ (14 : Int32) = (18 : Int32) by decide), if_neg (show ¬ (14 : Int32) = (19 : Int32) by decide), if_neg (show ¬ (14 : Int32) = (20 : Int32) by decide)]
theorem apr_15 {S : XS} {a b c : Int32} : fx_Eval_apply_r S 15 a b c = fx_Op_ofTwo 15 (fx_Terms_widthOf S a) (fL S 2 a.toNatClampNeg) (fL S 2 b.toNatClampNeg) := by
  rw [fx_Eval_apply_r, if_neg (show ¬ (15 : Int32) = (0 : Int32) by decide), if_neg (show ¬ (15 : Int32) = (1 : Int32) by decide), if_neg (show ¬ (15 : Int32) = (8 : Int32) by decide), if_neg (show ¬ (15 : Int32) = (9 : Int32) by decide), if_neg (show ¬ (15 : Int32) = (10 : Int32) by decide), if_neg (show ¬ (15 : Int32) = (11 : Int32) by decide), if_neg (show ¬ (15 : Int32) = (12 : Int32) by decide), if_neg (show ¬ (15 : Int32) = (16 : Int32) by decide), if_neg (show ¬ (15 : Int32) = (17 : Int32) by decide), if_neg (show ¬ (15 : Int32) = (18 : Int32) by decide), if_neg (show ¬ (15 : Int32) = (19 : Int32) by decide), if_neg (show ¬ (15 : Int32) = (20 : Int32) by decide)]
theorem apr_16 {S : XS} {a b c : Int32} : fx_Eval_apply_r S 16 a b c = if lg_cmp (fL S 2 a.toNatClampNeg) (0 : Int64) = (0 : Int32) then (fL S 2 c.toNatClampNeg) else (fL S 2 b.toNatClampNeg) := by
  rw [fx_Eval_apply_r, if_neg (show ¬ (16 : Int32) = (0 : Int32) by decide), if_neg (show ¬ (16 : Int32) = (1 : Int32) by decide), if_neg (show ¬ (16 : Int32) = (8 : Int32) by decide), if_neg (show ¬ (16 : Int32) = (9 : Int32) by decide), if_neg (show ¬ (16 : Int32) = (10 : Int32) by decide), if_neg (show ¬ (16 : Int32) = (11 : Int32) by decide), if_neg (show ¬ (16 : Int32) = (12 : Int32) by decide), if_pos rfl]
theorem apr_17 {S : XS} {a b c : Int32} : fx_Eval_apply_r S 17 a b c = fx_Op_resized 17 (fx_Terms_widthOf S a) b (fL S 2 a.toNatClampNeg) := by
  rw [fx_Eval_apply_r, if_neg (show ¬ (17 : Int32) = (0 : Int32) by decide), if_neg (show ¬ (17 : Int32) = (1 : Int32) by decide), if_neg (show ¬ (17 : Int32) = (8 : Int32) by decide), if_neg (show ¬ (17 : Int32) = (9 : Int32) by decide), if_neg (show ¬ (17 : Int32) = (10 : Int32) by decide), if_neg (show ¬ (17 : Int32) = (11 : Int32) by decide), if_neg (show ¬ (17 : Int32) = (12 : Int32) by decide), if_neg (show ¬ (17 : Int32) = (16 : Int32) by decide), if_pos rfl]
theorem apr_18 {S : XS} {a b c : Int32} : fx_Eval_apply_r S 18 a b c = fx_Op_resized 18 (fx_Terms_widthOf S a) b (fL S 2 a.toNatClampNeg) := by
  rw [fx_Eval_apply_r, if_neg (show ¬ (18 : Int32) = (0 : Int32) by decide), if_neg (show ¬ (18 : Int32) = (1 : Int32) by decide), if_neg (show ¬ (18 : Int32) = (8 : Int32) by decide), if_neg (show ¬ (18 : Int32) = (9 : Int32) by decide), if_neg (show ¬ (18 : Int32) = (10 : Int32) by decide), if_neg (show ¬ (18 : Int32) = (11 : Int32) by decide), if_neg (show ¬ (18 : Int32) = (12 : Int32) by decide), if_neg (show ¬ (18 : Int32) = (16 : Int32) by decide), if_neg (show ¬ (18 : Int32) = (17 : Int32) by decide), if_pos rfl]
theorem apr_19 {S : XS} {a b c : Int32} : fx_Eval_apply_r S 19 a b c = fx_Op_resized 19 (fx_Terms_widthOf S a) b (fL S 2 a.toNatClampNeg) := by
  rw [fx_Eval_apply_r, if_neg (show ¬ (19 : Int32) = (0 : Int32) by decide), if_neg (show ¬ (19 : Int32) = (1 : Int32) by decide), if_neg (show ¬ (19 : Int32) = (8 : Int32) by decide), if_neg (show ¬ (19 : Int32) = (9 : Int32) by decide), if_neg (show ¬ (19 : Int32) = (10 : Int32) by decide), if_neg (show ¬ (19 : Int32) = (11 : Int32) by decide), if_neg (show ¬ (19 : Int32) = (12 : Int32) by decide), if_neg (show ¬ (19 : Int32) = (16 : Int32) by decide), if_neg (show ¬ (19 : Int32) = (17 : Int32) by decide), if_neg (show ¬ (19 : Int32) = (18 : Int32) by decide), if_pos rfl]
theorem apr_20 {S : XS} {a b c : Int32} : fx_Eval_apply_r S 20 a b c = fx_Tabs_lookUp S b (fL S 2 a.toNatClampNeg) := by
  rw [fx_Eval_apply_r, if_neg (show ¬ (20 : Int32) = (0 : Int32) by decide), if_neg (show ¬ (20 : Int32) = (1 : Int32) by decide), if_neg (show ¬ (20 : Int32) = (8 : Int32) by decide), if_neg (show ¬ (20 : Int32) = (9 : Int32) by decide), if_neg (show ¬ (20 : Int32) = (10 : Int32) by decide), if_neg (show ¬ (20 : Int32) = (11 : Int32) by decide), if_neg (show ¬ (20 : Int32) = (12 : Int32) by decide), if_neg (show ¬ (20 : Int32) = (16 : Int32) by decide), if_neg (show ¬ (20 : Int32) = (17 : Int32) by decide), if_neg (show ¬ (20 : Int32) = (18 : Int32) by decide), if_neg (show ¬ (20 : Int32) = (19 : Int32) by decide), if_pos rfl]
theorem apc_0 {S : XS} {a b c : Int32} : fx_Eval_apply_c S 0 a b c = fx_Op_ofOne 0 (fx_Terms_widthOf S a) (fL S 1 a.toNatClampNeg) := by
  rw [fx_Eval_apply_c, if_pos rfl]
theorem apc_1 {S : XS} {a b c : Int32} : fx_Eval_apply_c S 1 a b c = fx_Op_ofOne 1 (fx_Terms_widthOf S a) (fL S 1 a.toNatClampNeg) := by
  rw [fx_Eval_apply_c, if_neg (show ¬ (1 : Int32) = (0 : Int32) by decide), if_pos rfl]
theorem apc_2 {S : XS} {a b c : Int32} : fx_Eval_apply_c S 2 a b c = fx_Op_ofTwo 2 (fx_Terms_widthOf S a) (fL S 1 a.toNatClampNeg) (fL S 1 b.toNatClampNeg) := by
  rw [fx_Eval_apply_c, if_neg (show ¬ (2 : Int32) = (0 : Int32) by decide), if_neg (show ¬ (2 : Int32) = (1 : Int32) by decide), if_neg (show ¬ (2 : Int32) = (8 : Int32) by decide), if_neg (show ¬ (2 : Int32) = (9 : Int32) by decide), if_neg (show ¬ (2 : Int32) = (10 : Int32) by decide), if_neg (show ¬ (2 : Int32) = (11 : Int32) by decide), if_neg (show ¬ (2 : Int32) = (12 : Int32) by decide), if_neg (show ¬ (2 : Int32) = (16 : Int32) by decide), if_neg (show ¬ (2 : Int32) = (17 : Int32) by decide), if_neg (show ¬ (2 : Int32) = (18 : Int32) by decide), if_neg (show ¬ (2 : Int32) = (19 : Int32) by decide), if_neg (show ¬ (2 : Int32) = (20 : Int32) by decide)]
theorem apc_3 {S : XS} {a b c : Int32} : fx_Eval_apply_c S 3 a b c = fx_Op_ofTwo 3 (fx_Terms_widthOf S a) (fL S 1 a.toNatClampNeg) (fL S 1 b.toNatClampNeg) := by
  rw [fx_Eval_apply_c, if_neg (show ¬ (3 : Int32) = (0 : Int32) by decide), if_neg (show ¬ (3 : Int32) = (1 : Int32) by decide), if_neg (show ¬ (3 : Int32) = (8 : Int32) by decide), if_neg (show ¬ (3 : Int32) = (9 : Int32) by decide), if_neg (show ¬ (3 : Int32) = (10 : Int32) by decide), if_neg (show ¬ (3 : Int32) = (11 : Int32) by decide), if_neg (show ¬ (3 : Int32) = (12 : Int32) by decide), if_neg (show ¬ (3 : Int32) = (16 : Int32) by decide), if_neg (show ¬ (3 : Int32) = (17 : Int32) by decide), if_neg (show ¬ (3 : Int32) = (18 : Int32) by decide), if_neg (show ¬ (3 : Int32) = (19 : Int32) by decide), if_neg (show ¬ (3 : Int32) = (20 : Int32) by decide)]
theorem apc_4 {S : XS} {a b c : Int32} : fx_Eval_apply_c S 4 a b c = fx_Op_ofTwo 4 (fx_Terms_widthOf S a) (fL S 1 a.toNatClampNeg) (fL S 1 b.toNatClampNeg) := by
  rw [fx_Eval_apply_c, if_neg (show ¬ (4 : Int32) = (0 : Int32) by decide), if_neg (show ¬ (4 : Int32) = (1 : Int32) by decide), if_neg (show ¬ (4 : Int32) = (8 : Int32) by decide), if_neg (show ¬ (4 : Int32) = (9 : Int32) by decide), if_neg (show ¬ (4 : Int32) = (10 : Int32) by decide), if_neg (show ¬ (4 : Int32) = (11 : Int32) by decide), if_neg (show ¬ (4 : Int32) = (12 : Int32) by decide), if_neg (show ¬ (4 : Int32) = (16 : Int32) by decide), if_neg (show ¬ (4 : Int32) = (17 : Int32) by decide), if_neg (show ¬ (4 : Int32) = (18 : Int32) by decide), if_neg (show ¬ (4 : Int32) = (19 : Int32) by decide), if_neg (show ¬ (4 : Int32) = (20 : Int32) by decide)]
theorem apc_5 {S : XS} {a b c : Int32} : fx_Eval_apply_c S 5 a b c = fx_Op_ofTwo 5 (fx_Terms_widthOf S a) (fL S 1 a.toNatClampNeg) (fL S 1 b.toNatClampNeg) := by
  rw [fx_Eval_apply_c, if_neg (show ¬ (5 : Int32) = (0 : Int32) by decide), if_neg (show ¬ (5 : Int32) = (1 : Int32) by decide), if_neg (show ¬ (5 : Int32) = (8 : Int32) by decide), if_neg (show ¬ (5 : Int32) = (9 : Int32) by decide), if_neg (show ¬ (5 : Int32) = (10 : Int32) by decide), if_neg (show ¬ (5 : Int32) = (11 : Int32) by decide), if_neg (show ¬ (5 : Int32) = (12 : Int32) by decide), if_neg (show ¬ (5 : Int32) = (16 : Int32) by decide), if_neg (show ¬ (5 : Int32) = (17 : Int32) by decide), if_neg (show ¬ (5 : Int32) = (18 : Int32) by decide), if_neg (show ¬ (5 : Int32) = (19 : Int32) by decide), if_neg (show ¬ (5 : Int32) = (20 : Int32) by decide)]
theorem apc_6 {S : XS} {a b c : Int32} : fx_Eval_apply_c S 6 a b c = fx_Op_ofTwo 6 (fx_Terms_widthOf S a) (fL S 1 a.toNatClampNeg) (fL S 1 b.toNatClampNeg) := by
  rw [fx_Eval_apply_c, if_neg (show ¬ (6 : Int32) = (0 : Int32) by decide), if_neg (show ¬ (6 : Int32) = (1 : Int32) by decide), if_neg (show ¬ (6 : Int32) = (8 : Int32) by decide), if_neg (show ¬ (6 : Int32) = (9 : Int32) by decide), if_neg (show ¬ (6 : Int32) = (10 : Int32) by decide), if_neg (show ¬ (6 : Int32) = (11 : Int32) by decide), if_neg (show ¬ (6 : Int32) = (12 : Int32) by decide), if_neg (show ¬ (6 : Int32) = (16 : Int32) by decide), if_neg (show ¬ (6 : Int32) = (17 : Int32) by decide), if_neg (show ¬ (6 : Int32) = (18 : Int32) by decide), if_neg (show ¬ (6 : Int32) = (19 : Int32) by decide), if_neg (show ¬ (6 : Int32) = (20 : Int32) by decide)]
theorem apc_7 {S : XS} {a b c : Int32} : fx_Eval_apply_c S 7 a b c = fx_Op_ofTwo 7 (fx_Terms_widthOf S a) (fL S 1 a.toNatClampNeg) (fL S 1 b.toNatClampNeg) := by
  rw [fx_Eval_apply_c, if_neg (show ¬ (7 : Int32) = (0 : Int32) by decide), if_neg (show ¬ (7 : Int32) = (1 : Int32) by decide), if_neg (show ¬ (7 : Int32) = (8 : Int32) by decide), if_neg (show ¬ (7 : Int32) = (9 : Int32) by decide), if_neg (show ¬ (7 : Int32) = (10 : Int32) by decide), if_neg (show ¬ (7 : Int32) = (11 : Int32) by decide), if_neg (show ¬ (7 : Int32) = (12 : Int32) by decide), if_neg (show ¬ (7 : Int32) = (16 : Int32) by decide), if_neg (show ¬ (7 : Int32) = (17 : Int32) by decide), if_neg (show ¬ (7 : Int32) = (18 : Int32) by decide), if_neg (show ¬ (7 : Int32) = (19 : Int32) by decide), if_neg (show ¬ (7 : Int32) = (20 : Int32) by decide)]
theorem apc_8 {S : XS} {a b c : Int32} : fx_Eval_apply_c S 8 a b c = fx_Op_divided 8 (fx_Terms_widthOf S a) (fL S 1 a.toNatClampNeg) (fL S 1 b.toNatClampNeg) := by
  rw [fx_Eval_apply_c, if_neg (show ¬ (8 : Int32) = (0 : Int32) by decide), if_neg (show ¬ (8 : Int32) = (1 : Int32) by decide), if_pos rfl]
theorem apc_9 {S : XS} {a b c : Int32} : fx_Eval_apply_c S 9 a b c = fx_Op_divided 9 (fx_Terms_widthOf S a) (fL S 1 a.toNatClampNeg) (fL S 1 b.toNatClampNeg) := by
  rw [fx_Eval_apply_c, if_neg (show ¬ (9 : Int32) = (0 : Int32) by decide), if_neg (show ¬ (9 : Int32) = (1 : Int32) by decide), if_neg (show ¬ (9 : Int32) = (8 : Int32) by decide), if_pos rfl]
theorem apc_10 {S : XS} {a b c : Int32} : fx_Eval_apply_c S 10 a b c = fx_Op_moved 10 (fx_Terms_widthOf S a) (fL S 1 a.toNatClampNeg) (fL S 1 b.toNatClampNeg) := by
  rw [fx_Eval_apply_c, if_neg (show ¬ (10 : Int32) = (0 : Int32) by decide), if_neg (show ¬ (10 : Int32) = (1 : Int32) by decide), if_neg (show ¬ (10 : Int32) = (8 : Int32) by decide), if_neg (show ¬ (10 : Int32) = (9 : Int32) by decide), if_pos rfl]
theorem apc_11 {S : XS} {a b c : Int32} : fx_Eval_apply_c S 11 a b c = fx_Op_moved 11 (fx_Terms_widthOf S a) (fL S 1 a.toNatClampNeg) (fL S 1 b.toNatClampNeg) := by
  rw [fx_Eval_apply_c, if_neg (show ¬ (11 : Int32) = (0 : Int32) by decide), if_neg (show ¬ (11 : Int32) = (1 : Int32) by decide), if_neg (show ¬ (11 : Int32) = (8 : Int32) by decide), if_neg (show ¬ (11 : Int32) = (9 : Int32) by decide), if_neg (show ¬ (11 : Int32) = (10 : Int32) by decide), if_pos rfl]
theorem apc_12 {S : XS} {a b c : Int32} : fx_Eval_apply_c S 12 a b c = fx_Op_moved 12 (fx_Terms_widthOf S a) (fL S 1 a.toNatClampNeg) (fL S 1 b.toNatClampNeg) := by
  rw [fx_Eval_apply_c, if_neg (show ¬ (12 : Int32) = (0 : Int32) by decide), if_neg (show ¬ (12 : Int32) = (1 : Int32) by decide), if_neg (show ¬ (12 : Int32) = (8 : Int32) by decide), if_neg (show ¬ (12 : Int32) = (9 : Int32) by decide), if_neg (show ¬ (12 : Int32) = (10 : Int32) by decide), if_neg (show ¬ (12 : Int32) = (11 : Int32) by decide), if_pos rfl]
theorem apc_13 {S : XS} {a b c : Int32} : fx_Eval_apply_c S 13 a b c = fx_Op_ofTwo 13 (fx_Terms_widthOf S a) (fL S 1 a.toNatClampNeg) (fL S 1 b.toNatClampNeg) := by
  rw [fx_Eval_apply_c, if_neg (show ¬ (13 : Int32) = (0 : Int32) by decide), if_neg (show ¬ (13 : Int32) = (1 : Int32) by decide), if_neg (show ¬ (13 : Int32) = (8 : Int32) by decide), if_neg (show ¬ (13 : Int32) = (9 : Int32) by decide), if_neg (show ¬ (13 : Int32) = (10 : Int32) by decide), if_neg (show ¬ (13 : Int32) = (11 : Int32) by decide), if_neg (show ¬ (13 : Int32) = (12 : Int32) by decide), if_neg (show ¬ (13 : Int32) = (16 : Int32) by decide), if_neg (show ¬ (13 : Int32) = (17 : Int32) by decide), if_neg (show ¬ (13 : Int32) = (18 : Int32) by decide), if_neg (show ¬ (13 : Int32) = (19 : Int32) by decide), if_neg (show ¬ (13 : Int32) = (20 : Int32) by decide)]
theorem apc_14 {S : XS} {a b c : Int32} : fx_Eval_apply_c S 14 a b c = fx_Op_ofTwo 14 (fx_Terms_widthOf S a) (fL S 1 a.toNatClampNeg) (fL S 1 b.toNatClampNeg) := by
  rw [fx_Eval_apply_c, if_neg (show ¬ (14 : Int32) = (0 : Int32) by decide), if_neg (show ¬ (14 : Int32) = (1 : Int32) by decide), if_neg (show ¬ (14 : Int32) = (8 : Int32) by decide), if_neg (show ¬ (14 : Int32) = (9 : Int32) by decide), if_neg (show ¬ (14 : Int32) = (10 : Int32) by decide), if_neg (show ¬ (14 : Int32) = (11 : Int32) by decide), if_neg (show ¬ (14 : Int32) = (12 : Int32) by decide), if_neg (show ¬ (14 : Int32) = (16 : Int32) by decide), if_neg (show ¬ (14 : Int32) = (17 : Int32) by decide), if_neg (show ¬ (14 : Int32) = (18 : Int32) by decide), if_neg (show ¬ (14 : Int32) = (19 : Int32) by decide), if_neg (show ¬ (14 : Int32) = (20 : Int32) by decide)]
theorem apc_15 {S : XS} {a b c : Int32} : fx_Eval_apply_c S 15 a b c = fx_Op_ofTwo 15 (fx_Terms_widthOf S a) (fL S 1 a.toNatClampNeg) (fL S 1 b.toNatClampNeg) := by
  rw [fx_Eval_apply_c, if_neg (show ¬ (15 : Int32) = (0 : Int32) by decide), if_neg (show ¬ (15 : Int32) = (1 : Int32) by decide), if_neg (show ¬ (15 : Int32) = (8 : Int32) by decide), if_neg (show ¬ (15 : Int32) = (9 : Int32) by decide), if_neg (show ¬ (15 : Int32) = (10 : Int32) by decide), if_neg (show ¬ (15 : Int32) = (11 : Int32) by decide), if_neg (show ¬ (15 : Int32) = (12 : Int32) by decide), if_neg (show ¬ (15 : Int32) = (16 : Int32) by decide), if_neg (show ¬ (15 : Int32) = (17 : Int32) by decide), if_neg (show ¬ (15 : Int32) = (18 : Int32) by decide), if_neg (show ¬ (15 : Int32) = (19 : Int32) by decide), if_neg (show ¬ (15 : Int32) = (20 : Int32) by decide)]
theorem apc_16 {S : XS} {a b c : Int32} : fx_Eval_apply_c S 16 a b c = if lg_cmp (fL S 1 a.toNatClampNeg) (0 : Int64) = (0 : Int32) then (fL S 1 c.toNatClampNeg) else (fL S 1 b.toNatClampNeg) := by
  rw [fx_Eval_apply_c, if_neg (show ¬ (16 : Int32) = (0 : Int32) by decide), if_neg (show ¬ (16 : Int32) = (1 : Int32) by decide), if_neg (show ¬ (16 : Int32) = (8 : Int32) by decide), if_neg (show ¬ (16 : Int32) = (9 : Int32) by decide), if_neg (show ¬ (16 : Int32) = (10 : Int32) by decide), if_neg (show ¬ (16 : Int32) = (11 : Int32) by decide), if_neg (show ¬ (16 : Int32) = (12 : Int32) by decide), if_pos rfl]
theorem apc_17 {S : XS} {a b c : Int32} : fx_Eval_apply_c S 17 a b c = fx_Op_resized 17 (fx_Terms_widthOf S a) b (fL S 1 a.toNatClampNeg) := by
  rw [fx_Eval_apply_c, if_neg (show ¬ (17 : Int32) = (0 : Int32) by decide), if_neg (show ¬ (17 : Int32) = (1 : Int32) by decide), if_neg (show ¬ (17 : Int32) = (8 : Int32) by decide), if_neg (show ¬ (17 : Int32) = (9 : Int32) by decide), if_neg (show ¬ (17 : Int32) = (10 : Int32) by decide), if_neg (show ¬ (17 : Int32) = (11 : Int32) by decide), if_neg (show ¬ (17 : Int32) = (12 : Int32) by decide), if_neg (show ¬ (17 : Int32) = (16 : Int32) by decide), if_pos rfl]
theorem apc_18 {S : XS} {a b c : Int32} : fx_Eval_apply_c S 18 a b c = fx_Op_resized 18 (fx_Terms_widthOf S a) b (fL S 1 a.toNatClampNeg) := by
  rw [fx_Eval_apply_c, if_neg (show ¬ (18 : Int32) = (0 : Int32) by decide), if_neg (show ¬ (18 : Int32) = (1 : Int32) by decide), if_neg (show ¬ (18 : Int32) = (8 : Int32) by decide), if_neg (show ¬ (18 : Int32) = (9 : Int32) by decide), if_neg (show ¬ (18 : Int32) = (10 : Int32) by decide), if_neg (show ¬ (18 : Int32) = (11 : Int32) by decide), if_neg (show ¬ (18 : Int32) = (12 : Int32) by decide), if_neg (show ¬ (18 : Int32) = (16 : Int32) by decide), if_neg (show ¬ (18 : Int32) = (17 : Int32) by decide), if_pos rfl]
theorem apc_19 {S : XS} {a b c : Int32} : fx_Eval_apply_c S 19 a b c = fx_Op_resized 19 (fx_Terms_widthOf S a) b (fL S 1 a.toNatClampNeg) := by
  rw [fx_Eval_apply_c, if_neg (show ¬ (19 : Int32) = (0 : Int32) by decide), if_neg (show ¬ (19 : Int32) = (1 : Int32) by decide), if_neg (show ¬ (19 : Int32) = (8 : Int32) by decide), if_neg (show ¬ (19 : Int32) = (9 : Int32) by decide), if_neg (show ¬ (19 : Int32) = (10 : Int32) by decide), if_neg (show ¬ (19 : Int32) = (11 : Int32) by decide), if_neg (show ¬ (19 : Int32) = (12 : Int32) by decide), if_neg (show ¬ (19 : Int32) = (16 : Int32) by decide), if_neg (show ¬ (19 : Int32) = (17 : Int32) by decide), if_neg (show ¬ (19 : Int32) = (18 : Int32) by decide), if_pos rfl]
theorem apc_20 {S : XS} {a b c : Int32} : fx_Eval_apply_c S 20 a b c = fx_Tabs_lookUp S b (fL S 1 a.toNatClampNeg) := by
  rw [fx_Eval_apply_c, if_neg (show ¬ (20 : Int32) = (0 : Int32) by decide), if_neg (show ¬ (20 : Int32) = (1 : Int32) by decide), if_neg (show ¬ (20 : Int32) = (8 : Int32) by decide), if_neg (show ¬ (20 : Int32) = (9 : Int32) by decide), if_neg (show ¬ (20 : Int32) = (10 : Int32) by decide), if_neg (show ¬ (20 : Int32) = (11 : Int32) by decide), if_neg (show ¬ (20 : Int32) = (12 : Int32) by decide), if_neg (show ¬ (20 : Int32) = (16 : Int32) by decide), if_neg (show ¬ (20 : Int32) = (17 : Int32) by decide), if_neg (show ¬ (20 : Int32) = (18 : Int32) by decide), if_neg (show ¬ (20 : Int32) = (19 : Int32) by decide), if_pos rfl]

theorem nrm_bit {w : Int32} (h : isW w) (z : Int32) : nrm w (fx_Op_bit z) := by
  rw [fx_Op_bit]
  split
  · exact nrm_0 h
  · exact nrm_m1 h
theorem nrm_one {o w : Int32} (h : isW w) {x : Int64} (hx : nrm w x) : nrm w (fx_Op_ofOne o w x) := by
  rw [fx_Op_ofOne]
  split
  · exact nrm_xor h hx (nrm_m1 h)
  · exact nrm_rs h _
theorem nrm_two {o w : Int32} (h : isW w) (ho : o = 2 ∨ o = 3 ∨ o = 4 ∨ o = 5 ∨ o = 6 ∨ o = 7) {x y : Int64} (hx : nrm w x) (hy : nrm w y) : nrm w (fx_Op_ofTwo o w x y) := by
  rw [fx_Op_ofTwo]
  rcases ho with rfl | rfl | rfl | rfl | rfl | rfl
  · rw [if_pos rfl]; exact nrm_and h hx hy
  · rw [if_neg (show ¬ (3 : Int32) = 2 by decide), if_pos rfl]; exact nrm_or h hx hy
  · rw [if_neg (show ¬ (4 : Int32) = 2 by decide), if_neg (show ¬ (4 : Int32) = 3 by decide), if_pos rfl]; exact nrm_xor h hx hy
  · rw [if_neg (show ¬ (5 : Int32) = 2 by decide), if_neg (show ¬ (5 : Int32) = 3 by decide), if_neg (show ¬ (5 : Int32) = 4 by decide), if_pos rfl]; exact nrm_rs h _
  · rw [if_neg (show ¬ (6 : Int32) = 2 by decide), if_neg (show ¬ (6 : Int32) = 3 by decide), if_neg (show ¬ (6 : Int32) = 4 by decide), if_neg (show ¬ (6 : Int32) = 5 by decide), if_pos rfl]; exact nrm_rs h _
  · rw [if_neg (show ¬ (7 : Int32) = 2 by decide), if_neg (show ¬ (7 : Int32) = 3 by decide), if_neg (show ¬ (7 : Int32) = 4 by decide), if_neg (show ¬ (7 : Int32) = 5 by decide), if_neg (show ¬ (7 : Int32) = 6 by decide), if_pos rfl]; exact nrm_rs h _
theorem nrm_cmp {o w v : Int32} (h : isW v) (ho : o = 13 ∨ o = 14 ∨ o = 15) {x y : Int64} : nrm v (fx_Op_ofTwo o w x y) := by
  have n2 : ∀ k, k ∈ [(2 : Int32), 3, 4, 5, 6, 7] → ¬ o = k := by
    rcases ho with rfl | rfl | rfl <;> decide
  rw [fx_Op_ofTwo, if_neg (n2 2 (by decide)), if_neg (n2 3 (by decide)), if_neg (n2 4 (by decide)), if_neg (n2 5 (by decide)), if_neg (n2 6 (by decide)), if_neg (n2 7 (by decide))]
  exact wl_ite (P := nrm v) (wl_ite (P := nrm v) (nrm_bit h _) (nrm_bit h _)) (wl_ite (P := nrm v) (wl_ite (P := nrm v) (nrm_bit h _) (nrm_bit h _)) (wl_ite (P := nrm v) (nrm_bit h _) (nrm_bit h _)))
theorem nrm_div {o w : Int32} (h : isW w) {x y : Int64} (hx : nrm w x) : nrm w (fx_Op_divided o w x y) := by
  rw [fx_Op_divided]
  exact wl_ite (P := nrm w) (wl_ite (P := nrm w) (nrm_m1 h) hx) (wl_ite (P := nrm w) (nrm_rs h _) (nrm_rs h _))
theorem amt64 (d : Int32) : ∃ n : Nat, n < 64 ∧ (d.toInt64 &&& 63) = lN n := by
  obtain ⟨n, hn, e⟩ := wb_of d.toInt64
  exact ⟨n % 64, Nat.mod_lt _ (by decide), by rw [e]; exact wb_mask (k := 6) hn (by decide)⟩
theorem nrm_mov {o w : Int32} (h : isW w) {x y : Int64} (hx : nrm w x) : nrm w (fx_Op_moved o w x y) := by
  rw [fx_Op_moved]
  obtain ⟨n, hn, e⟩ := amt64 y.toInt32
  rw [e]
  have far := wl_ite (c := o = (12 : Int32)) (P := nrm w) (wl_ite (c := (0 : Int32) ≤ lg_cmp x (0 : Int64)) (P := nrm w) (nrm_0 h) (nrm_m1 h)) (nrm_0 h)
  exact wl_ite (P := nrm w) far (wl_ite (P := nrm w) (wl_ite (P := nrm w) (nrm_rs h _) (wl_ite (P := nrm w) (nrm_rs h _) (nrm_shr h hx hn))) far)

theorem wl_opo {S : XS} {i : Nat} (hi : i < 64) : fx_Terms_operationOf S (nI i) = fA S 3 i := by
  rw [fx_Terms_operationOf, nI_clamp (by omega)]
theorem wl_op0 {S : XS} {i : Nat} (hi : i < 64) : fx_Terms_operandOf S (nI i) (0 : Int32) = fA S 5 (3 * i) := wl_opn (j := 0) hi (by decide)
theorem wl_op1 {S : XS} {i : Nat} (hi : i < 64) : fx_Terms_operandOf S (nI i) (1 : Int32) = fA S 5 (3 * i + 1) := wl_opn (j := 1) hi (by decide)
theorem wl_op2 {S : XS} {i : Nat} (hi : i < 64) : fx_Terms_operandOf S (nI i) (2 : Int32) = fA S 5 (3 * i + 2) := wl_opn (j := 2) hi (by decide)
theorem XTt.o22 {S : XS} {V t : Nat} (h : XTt S V t) (c : fA S 3 t = 22) : fA S 4 t = 8 ∧ vp_in (fA S 5 (3 * t)) V := by
  obtain ⟨hw, h⟩ := h
  rw [c] at h
  rcases h with ⟨h, _⟩ | ⟨_, h⟩ | ⟨h | h, _⟩ | ⟨h | h | h | h | h | h | h | h | h, _⟩ | ⟨h | h, _⟩ | ⟨h | h | h, _⟩ | ⟨h, _⟩ | ⟨h | h, _⟩ | ⟨h, _⟩ | ⟨h, _⟩ <;> first | exact h | exact absurd h (by decide)
theorem XTt.o21 {S : XS} {V t : Nat} (h : XTt S V t) (c : fA S 3 t = 21) : nrm (fA S 4 t) (fL S 1 t) := by
  obtain ⟨hw, h⟩ := h
  rw [c] at h
  rcases h with ⟨_, h⟩ | ⟨h, _⟩ | ⟨h | h, _⟩ | ⟨h | h | h | h | h | h | h | h | h, _⟩ | ⟨h | h, _⟩ | ⟨h | h | h, _⟩ | ⟨h, _⟩ | ⟨h | h, _⟩ | ⟨h, _⟩ | ⟨h, _⟩ <;> first | exact h | exact absurd h (by decide)
theorem wl_ev22 {st S1 : XS} {V N i : Nat} (hE : XF [] [] [2] st S1) (hX : XT st V N) (hlt : i < N) (h64 : N ≤ 64) (hV4 : V ≤ 4) (c52 : ¬ fx_Terms_operationOf S1 (nI i) = 21) (c77 : fx_Terms_operationOf S1 (nI i) = 22) : vp_in (fx_Terms_operandOf S1 (nI i) (0 : Int32)) 4 := by
  have hX1 := hX.fr hE (by decide) (by decide)
  rw [wl_opo (by omega)] at c77
  rw [wl_op0 (by omega)]
  exact vp_up ((hX1.1 i hlt).o22 c77).2 hV4
theorem wl_evop {st S1 : XS} {V N i : Nat} (hE : XF [] [] [2] st S1) (hM : XM S1 N) (hX : XT st V N) (hlt : i < N) (h64 : N ≤ 64) (c52 : ¬ fx_Terms_operationOf S1 (nI i) = 21) (c77 : ¬ fx_Terms_operationOf S1 (nI i) = 22) :
    vp_in (fx_Terms_operandOf S1 (nI i) (0 : Int32)) 64 ∧ (¬ (fx_Terms_operationOf S1 (nI i) = 0 ∨ fx_Terms_operationOf S1 (nI i) = 1 ∨ fx_Terms_operationOf S1 (nI i) = 17 ∨ fx_Terms_operationOf S1 (nI i) = 18 ∨ fx_Terms_operationOf S1 (nI i) = 19 ∨ fx_Terms_operationOf S1 (nI i) = 20) → vp_in (fx_Terms_operandOf S1 (nI i) (1 : Int32)) 64) ∧ (fx_Terms_operationOf S1 (nI i) = 16 → vp_in (fx_Terms_operandOf S1 (nI i) (2 : Int32)) 64) ∧ (fx_Terms_operationOf S1 (nI i) = 20 → vp_in (fx_Terms_operandOf S1 (nI i) (1 : Int32)) 2) ∧ (fx_Terms_operationOf S1 (nI i) = 8 ∨ fx_Terms_operationOf S1 (nI i) = 9 → ¬ fL S1 2 (fx_Terms_operandOf S1 (nI i) (1 : Int32)).toNatClampNeg = 0 → ¬ fx_Width_readPlain (fx_Terms_widthOf S1 (fx_Terms_operandOf S1 (nI i) (0 : Int32))) (fL S1 2 (fx_Terms_operandOf S1 (nI i) (1 : Int32)).toNatClampNeg) = 0) := by
  have hX1 := hX.fr hE (by decide) (by decide)
  rw [wl_opo (by omega)] at *
  rw [wl_op0 (by omega), wl_op1 (by omega), wl_op2 (by omega), fx_Terms_widthOf]
  exact wl_evop0 (hX1.1 i hlt) hM hlt h64 c52 c77
theorem XM.w {S : XS} {N i : Nat} {v : Int64} (hM : XM S N) (h : nrm (fA S 4 i) v) : XM (wL S 2 i v) N := by
  intro t ht
  show nrm (fA S 4 t) (vp_updL (fL S 2) i v t)
  by_cases e : t = i
  · subst e; rw [pk_uLs]; exact h
  · rw [pk_uLn e]; exact hM t ht

theorem oA_lt {S : XS} {i : Nat} (h : vp_in (fA S 5 (3 * i)) i) (hi : i < 2147483648) : oA S i < i := by
  obtain ⟨j, hj, e⟩ := vp_in_of h hi
  show (fA S 5 (3 * i)).toNatClampNeg < i
  rw [e, nI_clamp (by omega)]; exact hj
theorem oB_lt {S : XS} {i : Nat} (h : vp_in (fA S 5 (3 * i + 1)) i) (hi : i < 2147483648) : oB S i < i := by
  obtain ⟨j, hj, e⟩ := vp_in_of h hi
  show (fA S 5 (3 * i + 1)).toNatClampNeg < i
  rw [e, nI_clamp (by omega)]; exact hj
theorem oC_lt {S : XS} {i : Nat} (h : vp_in (fA S 5 (3 * i + 2)) i) (hi : i < 2147483648) : oC S i < i := by
  obtain ⟨j, hj, e⟩ := vp_in_of h hi
  show (fA S 5 (3 * i + 2)).toNatClampNeg < i
  rw [e, nI_clamp (by omega)]; exact hj
theorem nrm_wide {o w v : Int32} (hw : isW w) (hv : isW v) (h : w < v) (ho : o = 17 ∨ o = 18) {x : Int64} (hx : nrm w x) : nrm v (fx_Op_resized o w v x) := by
  obtain ⟨k, h1, h2, rfl⟩ := hw.k
  obtain ⟨k2, h3, h4, rfl⟩ := hv.k
  have hk : k < k2 := (nI_ltI (by omega) (by omega)).mp h
  rw [fx_Op_resized]
  rcases ho with rfl | rfl
  · rw [if_pos rfl]; exact nrm_rp h1 hk h4 x
  · rw [if_neg (show ¬ (18 : Int32) = 17 by decide), if_neg (show ¬ (18 : Int32) = 19 by decide)]; exact nrm_mono h1 (by omega) h4 hx
theorem nrm_op {S : XS} {V i : Nat} (hi : i < 64) (hT : XTt S V i) (hM : ∀ j : Nat, j < i → nrm (fA S 4 j) (fL S 2 j)) (hW : ∀ j : Nat, j < i → isW (fA S 4 j)) (htab : ∀ j : Nat, j < 16 → nrm 8 (fL S 0 j)) (h21 : ¬ fA S 3 i = 21) (h22 : ¬ fA S 3 i = 22) : nrm (fA S 4 i) (fx_Eval_apply_r S (fA S 3 i) (fA S 5 (3 * i)) (fA S 5 (3 * i + 1)) (fA S 5 (3 * i + 2))) := by
  obtain ⟨hw, h⟩ := hT
  rcases h with ⟨h, _⟩ | ⟨h, _⟩ | ⟨ho, ha, wa⟩ | ⟨ho, ha, hb, wa, wb⟩ | ⟨ho, ha, hb, wa, wb, wt⟩ | ⟨ho, ha, hb, wab, wt⟩ | ⟨ho, ha, hb, hc, wa, wb, wc⟩ | ⟨ho, ha, eb, wl⟩ | ⟨ho, ha, eb, wl⟩ | ⟨ho, ha, hb, wa, wt⟩
  · exact absurd h h21
  · exact absurd h h22
  · have la := oA_lt ha (by omega)
    have na := hM _ la
    rw [wa] at na
    rcases ho with ho | ho
    · rw [ho, apr_0]
      rw [show fx_Terms_widthOf S (fA S 5 (3 * i)) = fA S 4 i from wa]
      exact nrm_one hw na
    · rw [ho, apr_1]
      rw [show fx_Terms_widthOf S (fA S 5 (3 * i)) = fA S 4 i from wa]
      exact nrm_one hw na
  · have la := oA_lt ha (by omega)
    have na := hM _ la
    have lb := oB_lt hb (by omega)
    have nb := hM _ lb
    rw [wa] at na
    rw [wb] at nb
    rcases ho with ho | ho | ho | ho | ho | ho | ho | ho | ho
    · rw [ho, apr_2]
      rw [show fx_Terms_widthOf S (fA S 5 (3 * i)) = fA S 4 i from wa]
      exact nrm_two hw (by decide) na nb
    · rw [ho, apr_3]
      rw [show fx_Terms_widthOf S (fA S 5 (3 * i)) = fA S 4 i from wa]
      exact nrm_two hw (by decide) na nb
    · rw [ho, apr_4]
      rw [show fx_Terms_widthOf S (fA S 5 (3 * i)) = fA S 4 i from wa]
      exact nrm_two hw (by decide) na nb
    · rw [ho, apr_5]
      rw [show fx_Terms_widthOf S (fA S 5 (3 * i)) = fA S 4 i from wa]
      exact nrm_two hw (by decide) na nb
    · rw [ho, apr_6]
      rw [show fx_Terms_widthOf S (fA S 5 (3 * i)) = fA S 4 i from wa]
      exact nrm_two hw (by decide) na nb
    · rw [ho, apr_7]
      rw [show fx_Terms_widthOf S (fA S 5 (3 * i)) = fA S 4 i from wa]
      exact nrm_two hw (by decide) na nb
    · rw [ho, apr_10]
      rw [show fx_Terms_widthOf S (fA S 5 (3 * i)) = fA S 4 i from wa]
      exact nrm_mov hw na
    · rw [ho, apr_11]
      rw [show fx_Terms_widthOf S (fA S 5 (3 * i)) = fA S 4 i from wa]
      exact nrm_mov hw na
    · rw [ho, apr_12]
      rw [show fx_Terms_widthOf S (fA S 5 (3 * i)) = fA S 4 i from wa]
      exact nrm_mov hw na
  · have la := oA_lt ha (by omega)
    have na := hM _ la
    have lb := oB_lt hb (by omega)
    have nb := hM _ lb
    rw [wa] at na
    rw [wb] at nb
    rw [wt]
    rcases ho with ho | ho
    · rw [ho, apr_8]
      rw [show fx_Terms_widthOf S (fA S 5 (3 * i)) = 8 from wa]
      exact nrm_div (Or.inr (Or.inl rfl)) na
    · rw [ho, apr_9]
      rw [show fx_Terms_widthOf S (fA S 5 (3 * i)) = 8 from wa]
      exact nrm_div (Or.inr (Or.inl rfl)) na
  · have la := oA_lt ha (by omega)
    have na := hM _ la
    have lb := oB_lt hb (by omega)
    have nb := hM _ lb
    rcases ho with ho | ho | ho
    · rw [ho, apr_13]
      rw [wt]
      exact nrm_cmp (Or.inl rfl) (by decide)
    · rw [ho, apr_14]
      rw [wt]
      exact nrm_cmp (Or.inl rfl) (by decide)
    · rw [ho, apr_15]
      rw [wt]
      exact nrm_cmp (Or.inl rfl) (by decide)
  · have la := oA_lt ha (by omega)
    have na := hM _ la
    have lb := oB_lt hb (by omega)
    have nb := hM _ lb
    have lc := oC_lt hc (by omega)
    have nc := hM _ lc
    rw [ho, apr_16]
    rw [← wb]
    split
    · rw [wb, ← wc]; exact nc
    · exact nb
  · have la := oA_lt ha (by omega)
    have na := hM _ la
    rcases ho with ho | ho
    · rw [ho, apr_17]
      rw [eb]
      exact nrm_wide (hW _ la) hw wl (by decide) na
    · rw [ho, apr_18]
      rw [eb]
      exact nrm_wide (hW _ la) hw wl (by decide) na
  · have la := oA_lt ha (by omega)
    have na := hM _ la
    rw [ho, apr_19]
    rw [eb, fx_Op_resized, if_neg (show ¬ (19 : Int32) = 17 by decide), if_pos rfl]
    exact nrm_rs hw _
  · have la := oA_lt ha (by omega)
    have na := hM _ la
    rw [ho, apr_20]
    rw [wt, fx_Tabs_lookUp]
    obtain ⟨j, hj, e⟩ := vp_in_of (wl_lk hb (fL S 2 (fA S 5 (3 * i)).toNatClampNeg)) (by decide)
    rw [e, nI_clamp (by omega)]
    exact htab j hj
theorem nrm_readAt {S : XS} {v : Nat} {asg : Int32} (hv : v < 4) (h : XVv S v) : nrm 8 (fx_Vars_readAt S (nI v) asg) := by
  obtain ⟨b, lo, h1, h2, h3, e0, e1⟩ := h
  rw [fx_Vars_readAt]
  split
  · exact nrm_rs (Or.inr (Or.inl rfl)) _
  · rw [nI_clamp (by omega), e0]
    exact nrm_mono (k2 := 8) h1 h2 (by decide) (nrm_rsk h1 (by omega) _)
theorem wl_nmC {st S1 : XS} {V N i : Nat} (hE : XF [] [] [2] st S1) (hM : XM S1 N) (hX : XT st V N) (hlt : i < N) (h64 : N ≤ 64) (c52 : fx_Terms_operationOf S1 (nI i) = 21) : XM (wL S1 2 (nI i).toNatClampNeg (fL S1 1 (nI i).toNatClampNeg)) N := by
  have hX1 := hX.fr hE (by decide) (by decide)
  rw [wl_opo (by omega)] at c52
  rw [nI_clamp (by omega)]
  exact hM.w ((hX1.1 i hlt).o21 c52)
theorem wl_nmV {st S1 : XS} {V N i : Nat} {asg : Int32} (hE : XF [] [] [2] st S1) (hM : XM S1 N) (hX : XT st V N) (hlt : i < N) (h64 : N ≤ 64) (hV4 : V ≤ 4) (c77 : fx_Terms_operationOf S1 (nI i) = 22) : XM (wL S1 2 (nI i).toNatClampNeg (fx_Vars_readAt S1 (fx_Terms_operandOf S1 (nI i) (0 : Int32)) asg)) N := by
  have hX1 := hX.fr hE (by decide) (by decide)
  rw [wl_opo (by omega)] at c77
  obtain ⟨hw8, hv⟩ := (hX1.1 i hlt).o22 c77
  obtain ⟨v, hv, e⟩ := vp_in_of hv (by omega)
  rw [nI_clamp (by omega), wl_op0 (by omega), e]
  refine hM.w ?_
  rw [hw8]
  exact nrm_readAt (by omega) (hX1.2.2 v hv)
theorem wl_nmO {st S1 : XS} {V N i : Nat} (hE : XF [] [] [2] st S1) (hM : XM S1 N) (hX : XT st V N) (hlt : i < N) (h64 : N ≤ 64) (c52 : ¬ fx_Terms_operationOf S1 (nI i) = 21) (c77 : ¬ fx_Terms_operationOf S1 (nI i) = 22) : XM (wL S1 2 (nI i).toNatClampNeg (fx_Eval_apply_r S1 (fx_Terms_operationOf S1 (nI i)) (fx_Terms_operandOf S1 (nI i) (0 : Int32)) (fx_Terms_operandOf S1 (nI i) (1 : Int32)) (fx_Terms_operandOf S1 (nI i) (2 : Int32)))) N := by
  have hX1 := hX.fr hE (by decide) (by decide)
  rw [wl_opo (by omega)] at *
  rw [nI_clamp (by omega), wl_op0 (by omega), wl_op1 (by omega), wl_op2 (by omega)]
  exact hM.w (nrm_op (by omega) (hX1.1 i hlt) (fun j hj => hM j (by omega)) (fun j hj => (hX1.1 j (by omega)).1) hX1.2.1 c52 c77)
theorem wl_jlt {j c : Nat} (hj : j < 3) (hc : c < 4) (h : nI j < nI c) : j < c := (nI_ltI (by omega) (by omega)).mp h
theorem wl_opsX {S : XS} {V N : Nat} (hX : XT S V N) (h64 : N ≤ 64) : ∀ t j : Nat, t < N → j < 3 → nI j < fx_Op_namedTerms (fA S 3 t) → vp_in (fA S 5 (3 * t + j)) 64 := by
  intro t j ht hj h
  have up : ∀ {x : Int32}, vp_in x t → vp_in x 64 := fun h => vp_up h (by omega)
  obtain ⟨hw, q⟩ := hX.1 t ht
  rcases q with ⟨ho, _⟩ | ⟨ho, _⟩ | ⟨ho, ha, _⟩ | ⟨ho, ha, hb, _⟩ | ⟨ho, ha, hb, _⟩ | ⟨ho, ha, hb, _⟩ | ⟨ho, ha, hb, hc, _⟩ | ⟨ho, ha, _⟩ | ⟨ho, ha, _⟩ | ⟨ho, ha, hb, _⟩
  · skip
    rw [ho] at h
    have hj2 : j < 0 := wl_jlt hj (by decide) (show nI j < nI 0 from h)
    omega
  · skip
    rw [ho] at h
    have hj2 : j < 0 := wl_jlt hj (by decide) (show nI j < nI 0 from h)
    omega
  · rcases ho with ho | ho
    · rw [ho] at h
      have hj2 : j < 1 := wl_jlt hj (by decide) (show nI j < nI 1 from h)
      obtain rfl : j = 0 := by omega
      exact up ha
    · rw [ho] at h
      have hj2 : j < 1 := wl_jlt hj (by decide) (show nI j < nI 1 from h)
      obtain rfl : j = 0 := by omega
      exact up ha
  · rcases ho with ho | ho | ho | ho | ho | ho | ho | ho | ho
    · rw [ho] at h
      have hj2 : j < 2 := wl_jlt hj (by decide) (show nI j < nI 2 from h)
      rcases (show j = 0 ∨ j = 1 by omega) with rfl | rfl
      · exact up ha
      · exact up hb
    · rw [ho] at h
      have hj2 : j < 2 := wl_jlt hj (by decide) (show nI j < nI 2 from h)
      rcases (show j = 0 ∨ j = 1 by omega) with rfl | rfl
      · exact up ha
      · exact up hb
    · rw [ho] at h
      have hj2 : j < 2 := wl_jlt hj (by decide) (show nI j < nI 2 from h)
      rcases (show j = 0 ∨ j = 1 by omega) with rfl | rfl
      · exact up ha
      · exact up hb
    · rw [ho] at h
      have hj2 : j < 2 := wl_jlt hj (by decide) (show nI j < nI 2 from h)
      rcases (show j = 0 ∨ j = 1 by omega) with rfl | rfl
      · exact up ha
      · exact up hb
    · rw [ho] at h
      have hj2 : j < 2 := wl_jlt hj (by decide) (show nI j < nI 2 from h)
      rcases (show j = 0 ∨ j = 1 by omega) with rfl | rfl
      · exact up ha
      · exact up hb
    · rw [ho] at h
      have hj2 : j < 2 := wl_jlt hj (by decide) (show nI j < nI 2 from h)
      rcases (show j = 0 ∨ j = 1 by omega) with rfl | rfl
      · exact up ha
      · exact up hb
    · rw [ho] at h
      have hj2 : j < 2 := wl_jlt hj (by decide) (show nI j < nI 2 from h)
      rcases (show j = 0 ∨ j = 1 by omega) with rfl | rfl
      · exact up ha
      · exact up hb
    · rw [ho] at h
      have hj2 : j < 2 := wl_jlt hj (by decide) (show nI j < nI 2 from h)
      rcases (show j = 0 ∨ j = 1 by omega) with rfl | rfl
      · exact up ha
      · exact up hb
    · rw [ho] at h
      have hj2 : j < 2 := wl_jlt hj (by decide) (show nI j < nI 2 from h)
      rcases (show j = 0 ∨ j = 1 by omega) with rfl | rfl
      · exact up ha
      · exact up hb
  · rcases ho with ho | ho
    · rw [ho] at h
      have hj2 : j < 2 := wl_jlt hj (by decide) (show nI j < nI 2 from h)
      rcases (show j = 0 ∨ j = 1 by omega) with rfl | rfl
      · exact up ha
      · exact up hb
    · rw [ho] at h
      have hj2 : j < 2 := wl_jlt hj (by decide) (show nI j < nI 2 from h)
      rcases (show j = 0 ∨ j = 1 by omega) with rfl | rfl
      · exact up ha
      · exact up hb
  · rcases ho with ho | ho | ho
    · rw [ho] at h
      have hj2 : j < 2 := wl_jlt hj (by decide) (show nI j < nI 2 from h)
      rcases (show j = 0 ∨ j = 1 by omega) with rfl | rfl
      · exact up ha
      · exact up hb
    · rw [ho] at h
      have hj2 : j < 2 := wl_jlt hj (by decide) (show nI j < nI 2 from h)
      rcases (show j = 0 ∨ j = 1 by omega) with rfl | rfl
      · exact up ha
      · exact up hb
    · rw [ho] at h
      have hj2 : j < 2 := wl_jlt hj (by decide) (show nI j < nI 2 from h)
      rcases (show j = 0 ∨ j = 1 by omega) with rfl | rfl
      · exact up ha
      · exact up hb
  · skip
    rw [ho] at h
    have hj2 : j < 3 := wl_jlt hj (by decide) (show nI j < nI 3 from h)
    rcases (show j = 0 ∨ j = 1 ∨ j = 2 by omega) with rfl | rfl | rfl
    · exact up ha
    · exact up hb
    · exact up hc
  · rcases ho with ho | ho
    · rw [ho] at h
      have hj2 : j < 1 := wl_jlt hj (by decide) (show nI j < nI 1 from h)
      obtain rfl : j = 0 := by omega
      exact up ha
    · rw [ho] at h
      have hj2 : j < 1 := wl_jlt hj (by decide) (show nI j < nI 1 from h)
      obtain rfl : j = 0 := by omega
      exact up ha
  · skip
    rw [ho] at h
    have hj2 : j < 1 := wl_jlt hj (by decide) (show nI j < nI 1 from h)
    obtain rfl : j = 0 := by omega
    exact up ha
  · skip
    rw [ho] at h
    have hj2 : j < 1 := wl_jlt hj (by decide) (show nI j < nI 1 from h)
    obtain rfl : j = 0 := by omega
    exact up ha
