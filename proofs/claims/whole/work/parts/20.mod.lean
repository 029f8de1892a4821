def MT (st : XS) (N : Nat) : Prop := ∀ t : Nat, t < N → (fA st 0 t = 22 → vp_in (fA st 1 t) 4) ∧ (¬ fA st 0 t = 21 → ¬ fA st 0 t = 22 → vp_in (fA st 1 t) 64 ∧ (¬ fA st 0 t < 2 → ¬ (fA st 0 t = 17 ∨ fA st 0 t = 18 ∨ fA st 0 t = 19 ∨ fA st 0 t = 20) → vp_in (fA st 2 t) 64) ∧ (fA st 0 t = 16 → vp_in (fA st 3 t) 64) ∧ (fA st 0 t = 20 → vp_in (fA st 2 t) 2))
theorem MT.fr {Is As Ls : List Nat} {st S : XS} {N : Nat} (h : MT st N) (hF : XF Is As Ls st S) (hA : ∀ k ∈ [0, 1, 2, 3], k ∉ As) : MT S N := by
  intro t ht
  rw [hF.A 0 (hA 0 (by decide)), hF.A 1 (hA 1 (by decide)), hF.A 2 (hA 2 (by decide)), hF.A 3 (hA 3 (by decide))]
  exact h t ht
def bsum (f : Nat → Int32) : Nat → Int32
  | 0 => 0
  | n + 1 => bsum f n + f n
theorem wm_sh0 : ∀ B, B < 11 → (1 : Int32) <<< (nI B &&& 31) = nI (2 ^ B) := by decide +kernel
theorem wm_sh {B : Nat} (hB : B ≤ 10) : (1 : Int32) <<< (nI B &&& 31) = nI (2 ^ B) := wm_sh0 B (by omega)

def mw (a : Nat → Nat) (k : Nat → ClassId) (st : XS) : va_W := [(a 0, .inr (8, [.int (gI st 0), .int (gI st 1), .int (gI st 2), .int (gI st 3), .int (gI st 4), .int (gI st 5), .int (gI st 6), .ref (a 1), .ref (a 2), .ref (a 3), .ref (a 4), .ref (a 5), .ref (a 6), .ref (a 7), .ref (a 8), .ref (a 9), .ref (a 10), .ref (a 11), .ref (a 12), .ref (a 13), .ref (a 14)])), (a 1, .inl (k 1, 64, .inl (fA st 0))), (a 2, .inl (k 2, 64, .inl (fA st 1))), (a 3, .inl (k 3, 64, .inl (fA st 2))), (a 4, .inl (k 4, 64, .inl (fA st 3))), (a 5, .inl (k 5, 64, .inl (fA st 4))), (a 6, .inl (k 6, 64, .inr (.inl (fL st 0)))), (a 7, .inl (k 7, 64, .inr (.inl (fL st 1)))), (a 8, .inl (k 8, 4, .inl (fA st 5))), (a 9, .inl (k 9, 4, .inl (fA st 6))), (a 10, .inl (k 10, 4, .inl (fA st 7))), (a 11, .inl (k 11, 4, .inl (fA st 8))), (a 12, .inl (k 12, 4, .inl (fA st 9))), (a 13, .inl (k 13, 16, .inl (fA st 10))), (a 14, .inl (k 14, 16, .inl (fA st 11)))]
def mt (k : Nat → ClassId) : List (ClassId × FieldType) := [(k 1, .int), (k 2, .int), (k 3, .int), (k 4, .int), (k 5, .int), (k 6, .long), (k 7, .long), (k 8, .int), (k 9, .int), (k 10, .int), (k 11, .int), (k 12, .boolean), (k 13, .int), (k 14, .int)]
theorem mr_0 (a : Nat → Nat) (k : Nat → ClassId) (S : XS) : (mw a k S)[0]? = some (a 0, .inr (8, [.int (gI S 0), .int (gI S 1), .int (gI S 2), .int (gI S 3), .int (gI S 4), .int (gI S 5), .int (gI S 6), .ref (a 1), .ref (a 2), .ref (a 3), .ref (a 4), .ref (a 5), .ref (a 6), .ref (a 7), .ref (a 8), .ref (a 9), .ref (a 10), .ref (a 11), .ref (a 12), .ref (a 13), .ref (a 14)])) := rfl
theorem mp_I0 {D : va_G} {cl : List vw_C} {H : Heap} {a : Nat → Nat} {k : Nat → ClassId} {S : XS} {v : Int32} (h : va_P D cl ((mw a k S).set 0 (a 0, .inr (8, ([.int (gI S 0), .int (gI S 1), .int (gI S 2), .int (gI S 3), .int (gI S 4), .int (gI S 5), .int (gI S 6), .ref (a 1), .ref (a 2), .ref (a 3), .ref (a 4), .ref (a 5), .ref (a 6), .ref (a 7), .ref (a 8), .ref (a 9), .ref (a 10), .ref (a 11), .ref (a 12), .ref (a 13), .ref (a 14)] : List Value).set 0 (.int v)))) H) : va_P D cl (mw a k (wI S 0 v)) H := h
theorem md_I0 {A : Nat → Prop} {a : Nat → Nat} {k : Nat → ClassId} {S : XS} {v : Int32} (h : va_D A ((mw a k S).set 0 (a 0, .inr (8, ([.int (gI S 0), .int (gI S 1), .int (gI S 2), .int (gI S 3), .int (gI S 4), .int (gI S 5), .int (gI S 6), .ref (a 1), .ref (a 2), .ref (a 3), .ref (a 4), .ref (a 5), .ref (a 6), .ref (a 7), .ref (a 8), .ref (a 9), .ref (a 10), .ref (a 11), .ref (a 12), .ref (a 13), .ref (a 14)] : List Value).set 0 (.int v))))) : va_D A (mw a k (wI S 0 v)) := h
theorem mp_I1 {D : va_G} {cl : List vw_C} {H : Heap} {a : Nat → Nat} {k : Nat → ClassId} {S : XS} {v : Int32} (h : va_P D cl ((mw a k S).set 0 (a 0, .inr (8, ([.int (gI S 0), .int (gI S 1), .int (gI S 2), .int (gI S 3), .int (gI S 4), .int (gI S 5), .int (gI S 6), .ref (a 1), .ref (a 2), .ref (a 3), .ref (a 4), .ref (a 5), .ref (a 6), .ref (a 7), .ref (a 8), .ref (a 9), .ref (a 10), .ref (a 11), .ref (a 12), .ref (a 13), .ref (a 14)] : List Value).set 1 (.int v)))) H) : va_P D cl (mw a k (wI S 1 v)) H := h
theorem md_I1 {A : Nat → Prop} {a : Nat → Nat} {k : Nat → ClassId} {S : XS} {v : Int32} (h : va_D A ((mw a k S).set 0 (a 0, .inr (8, ([.int (gI S 0), .int (gI S 1), .int (gI S 2), .int (gI S 3), .int (gI S 4), .int (gI S 5), .int (gI S 6), .ref (a 1), .ref (a 2), .ref (a 3), .ref (a 4), .ref (a 5), .ref (a 6), .ref (a 7), .ref (a 8), .ref (a 9), .ref (a 10), .ref (a 11), .ref (a 12), .ref (a 13), .ref (a 14)] : List Value).set 1 (.int v))))) : va_D A (mw a k (wI S 1 v)) := h
theorem mp_I2 {D : va_G} {cl : List vw_C} {H : Heap} {a : Nat → Nat} {k : Nat → ClassId} {S : XS} {v : Int32} (h : va_P D cl ((mw a k S).set 0 (a 0, .inr (8, ([.int (gI S 0), .int (gI S 1), .int (gI S 2), .int (gI S 3), .int (gI S 4), .int (gI S 5), .int (gI S 6), .ref (a 1), .ref (a 2), .ref (a 3), .ref (a 4), .ref (a 5), .ref (a 6), .ref (a 7), .ref (a 8), .ref (a 9), .ref (a 10), .ref (a 11), .ref (a 12), .ref (a 13), .ref (a 14)] : List Value).set 2 (.int v)))) H) : va_P D cl (mw a k (wI S 2 v)) H := h
theorem md_I2 {A : Nat → Prop} {a : Nat → Nat} {k : Nat → ClassId} {S : XS} {v : Int32} (h : va_D A ((mw a k S).set 0 (a 0, .inr (8, ([.int (gI S 0), .int (gI S 1), .int (gI S 2), .int (gI S 3), .int (gI S 4), .int (gI S 5), .int (gI S 6), .ref (a 1), .ref (a 2), .ref (a 3), .ref (a 4), .ref (a 5), .ref (a 6), .ref (a 7), .ref (a 8), .ref (a 9), .ref (a 10), .ref (a 11), .ref (a 12), .ref (a 13), .ref (a 14)] : List Value).set 2 (.int v))))) : va_D A (mw a k (wI S 2 v)) := h
theorem mp_I3 {D : va_G} {cl : List vw_C} {H : Heap} {a : Nat → Nat} {k : Nat → ClassId} {S : XS} {v : Int32} (h : va_P D cl ((mw a k S).set 0 (a 0, .inr (8, ([.int (gI S 0), .int (gI S 1), .int (gI S 2), .int (gI S 3), .int (gI S 4), .int (gI S 5), .int (gI S 6), .ref (a 1), .ref (a 2), .ref (a 3), .ref (a 4), .ref (a 5), .ref (a 6), .ref (a 7), .ref (a 8), .ref (a 9), .ref (a 10), .ref (a 11), .ref (a 12), .ref (a 13), .ref (a 14)] : List Value).set 3 (.int v)))) H) : va_P D cl (mw a k (wI S 3 v)) H := h
theorem md_I3 {A : Nat → Prop} {a : Nat → Nat} {k : Nat → ClassId} {S : XS} {v : Int32} (h : va_D A ((mw a k S).set 0 (a 0, .inr (8, ([.int (gI S 0), .int (gI S 1), .int (gI S 2), .int (gI S 3), .int (gI S 4), .int (gI S 5), .int (gI S 6), .ref (a 1), .ref (a 2), .ref (a 3), .ref (a 4), .ref (a 5), .ref (a 6), .ref (a 7), .ref (a 8), .ref (a 9), .ref (a 10), .ref (a 11), .ref (a 12), .ref (a 13), .ref (a 14)] : List Value).set 3 (.int v))))) : va_D A (mw a k (wI S 3 v)) := h
theorem mp_I4 {D : va_G} {cl : List vw_C} {H : Heap} {a : Nat → Nat} {k : Nat → ClassId} {S : XS} {v : Int32} (h : va_P D cl ((mw a k S).set 0 (a 0, .inr (8, ([.int (gI S 0), .int (gI S 1), .int (gI S 2), .int (gI S 3), .int (gI S 4), .int (gI S 5), .int (gI S 6), .ref (a 1), .ref (a 2), .ref (a 3), .ref (a 4), .ref (a 5), .ref (a 6), .ref (a 7), .ref (a 8), .ref (a 9), .ref (a 10), .ref (a 11), .ref (a 12), .ref (a 13), .ref (a 14)] : List Value).set 4 (.int v)))) H) : va_P D cl (mw a k (wI S 4 v)) H := h
theorem md_I4 {A : Nat → Prop} {a : Nat → Nat} {k : Nat → ClassId} {S : XS} {v : Int32} (h : va_D A ((mw a k S).set 0 (a 0, .inr (8, ([.int (gI S 0), .int (gI S 1), .int (gI S 2), .int (gI S 3), .int (gI S 4), .int (gI S 5), .int (gI S 6), .ref (a 1), .ref (a 2), .ref (a 3), .ref (a 4), .ref (a 5), .ref (a 6), .ref (a 7), .ref (a 8), .ref (a 9), .ref (a 10), .ref (a 11), .ref (a 12), .ref (a 13), .ref (a 14)] : List Value).set 4 (.int v))))) : va_D A (mw a k (wI S 4 v)) := h
theorem mp_I5 {D : va_G} {cl : List vw_C} {H : Heap} {a : Nat → Nat} {k : Nat → ClassId} {S : XS} {v : Int32} (h : va_P D cl ((mw a k S).set 0 (a 0, .inr (8, ([.int (gI S 0), .int (gI S 1), .int (gI S 2), .int (gI S 3), .int (gI S 4), .int (gI S 5), .int (gI S 6), .ref (a 1), .ref (a 2), .ref (a 3), .ref (a 4), .ref (a 5), .ref (a 6), .ref (a 7), .ref (a 8), .ref (a 9), .ref (a 10), .ref (a 11), .ref (a 12), .ref (a 13), .ref (a 14)] : List Value).set 5 (.int v)))) H) : va_P D cl (mw a k (wI S 5 v)) H := h
theorem md_I5 {A : Nat → Prop} {a : Nat → Nat} {k : Nat → ClassId} {S : XS} {v : Int32} (h : va_D A ((mw a k S).set 0 (a 0, .inr (8, ([.int (gI S 0), .int (gI S 1), .int (gI S 2), .int (gI S 3), .int (gI S 4), .int (gI S 5), .int (gI S 6), .ref (a 1), .ref (a 2), .ref (a 3), .ref (a 4), .ref (a 5), .ref (a 6), .ref (a 7), .ref (a 8), .ref (a 9), .ref (a 10), .ref (a 11), .ref (a 12), .ref (a 13), .ref (a 14)] : List Value).set 5 (.int v))))) : va_D A (mw a k (wI S 5 v)) := h
theorem mp_I6 {D : va_G} {cl : List vw_C} {H : Heap} {a : Nat → Nat} {k : Nat → ClassId} {S : XS} {v : Int32} (h : va_P D cl ((mw a k S).set 0 (a 0, .inr (8, ([.int (gI S 0), .int (gI S 1), .int (gI S 2), .int (gI S 3), .int (gI S 4), .int (gI S 5), .int (gI S 6), .ref (a 1), .ref (a 2), .ref (a 3), .ref (a 4), .ref (a 5), .ref (a 6), .ref (a 7), .ref (a 8), .ref (a 9), .ref (a 10), .ref (a 11), .ref (a 12), .ref (a 13), .ref (a 14)] : List Value).set 6 (.int v)))) H) : va_P D cl (mw a k (wI S 6 v)) H := h
theorem md_I6 {A : Nat → Prop} {a : Nat → Nat} {k : Nat → ClassId} {S : XS} {v : Int32} (h : va_D A ((mw a k S).set 0 (a 0, .inr (8, ([.int (gI S 0), .int (gI S 1), .int (gI S 2), .int (gI S 3), .int (gI S 4), .int (gI S 5), .int (gI S 6), .ref (a 1), .ref (a 2), .ref (a 3), .ref (a 4), .ref (a 5), .ref (a 6), .ref (a 7), .ref (a 8), .ref (a 9), .ref (a 10), .ref (a 11), .ref (a 12), .ref (a 13), .ref (a 14)] : List Value).set 6 (.int v))))) : va_D A (mw a k (wI S 6 v)) := h
theorem mr_1 (a : Nat → Nat) (k : Nat → ClassId) (S : XS) : (mw a k S)[1]? = some (a 1, .inl (k 1, 64, .inl (fA S 0))) := rfl
theorem mp_A0 {D : va_G} {cl : List vw_C} {H : Heap} {a : Nat → Nat} {k : Nat → ClassId} {S : XS} {n : Nat} {v : Int32} (h : va_P D cl ((mw a k S).set 1 (a 1, .inl (k 1, 64, .inl (upd (fA S 0) n v)))) H) : va_P D cl (mw a k (wA S 0 n v)) H := h
theorem md_A0 {A : Nat → Prop} {a : Nat → Nat} {k : Nat → ClassId} {S : XS} {n : Nat} {v : Int32} (h : va_D A ((mw a k S).set 1 (a 1, .inl (k 1, 64, .inl (upd (fA S 0) n v))))) : va_D A (mw a k (wA S 0 n v)) := h
theorem mr_2 (a : Nat → Nat) (k : Nat → ClassId) (S : XS) : (mw a k S)[2]? = some (a 2, .inl (k 2, 64, .inl (fA S 1))) := rfl
theorem mp_A1 {D : va_G} {cl : List vw_C} {H : Heap} {a : Nat → Nat} {k : Nat → ClassId} {S : XS} {n : Nat} {v : Int32} (h : va_P D cl ((mw a k S).set 2 (a 2, .inl (k 2, 64, .inl (upd (fA S 1) n v)))) H) : va_P D cl (mw a k (wA S 1 n v)) H := h
theorem md_A1 {A : Nat → Prop} {a : Nat → Nat} {k : Nat → ClassId} {S : XS} {n : Nat} {v : Int32} (h : va_D A ((mw a k S).set 2 (a 2, .inl (k 2, 64, .inl (upd (fA S 1) n v))))) : va_D A (mw a k (wA S 1 n v)) := h
theorem mr_3 (a : Nat → Nat) (k : Nat → ClassId) (S : XS) : (mw a k S)[3]? = some (a 3, .inl (k 3, 64, .inl (fA S 2))) := rfl
theorem mp_A2 {D : va_G} {cl : List vw_C} {H : Heap} {a : Nat → Nat} {k : Nat → ClassId} {S : XS} {n : Nat} {v : Int32} (h : va_P D cl ((mw a k S).set 3 (a 3, .inl (k 3, 64, .inl (upd (fA S 2) n v)))) H) : va_P D cl (mw a k (wA S 2 n v)) H := h
theorem md_A2 {A : Nat → Prop} {a : Nat → Nat} {k : Nat → ClassId} {S : XS} {n : Nat} {v : Int32} (h : va_D A ((mw a k S).set 3 (a 3, .inl (k 3, 64, .inl (upd (fA S 2) n v))))) : va_D A (mw a k (wA S 2 n v)) := h
theorem mr_4 (a : Nat → Nat) (k : Nat → ClassId) (S : XS) : (mw a k S)[4]? = some (a 4, .inl (k 4, 64, .inl (fA S 3))) := rfl
theorem mp_A3 {D : va_G} {cl : List vw_C} {H : Heap} {a : Nat → Nat} {k : Nat → ClassId} {S : XS} {n : Nat} {v : Int32} (h : va_P D cl ((mw a k S).set 4 (a 4, .inl (k 4, 64, .inl (upd (fA S 3) n v)))) H) : va_P D cl (mw a k (wA S 3 n v)) H := h
theorem md_A3 {A : Nat → Prop} {a : Nat → Nat} {k : Nat → ClassId} {S : XS} {n : Nat} {v : Int32} (h : va_D A ((mw a k S).set 4 (a 4, .inl (k 4, 64, .inl (upd (fA S 3) n v))))) : va_D A (mw a k (wA S 3 n v)) := h
theorem mr_5 (a : Nat → Nat) (k : Nat → ClassId) (S : XS) : (mw a k S)[5]? = some (a 5, .inl (k 5, 64, .inl (fA S 4))) := rfl
theorem mp_A4 {D : va_G} {cl : List vw_C} {H : Heap} {a : Nat → Nat} {k : Nat → ClassId} {S : XS} {n : Nat} {v : Int32} (h : va_P D cl ((mw a k S).set 5 (a 5, .inl (k 5, 64, .inl (upd (fA S 4) n v)))) H) : va_P D cl (mw a k (wA S 4 n v)) H := h
theorem md_A4 {A : Nat → Prop} {a : Nat → Nat} {k : Nat → ClassId} {S : XS} {n : Nat} {v : Int32} (h : va_D A ((mw a k S).set 5 (a 5, .inl (k 5, 64, .inl (upd (fA S 4) n v))))) : va_D A (mw a k (wA S 4 n v)) := h
theorem mr_6 (a : Nat → Nat) (k : Nat → ClassId) (S : XS) : (mw a k S)[6]? = some (a 6, .inl (k 6, 64, .inr (.inl (fL S 0)))) := rfl
theorem mp_L0 {D : va_G} {cl : List vw_C} {H : Heap} {a : Nat → Nat} {k : Nat → ClassId} {S : XS} {n : Nat} {v : Int64} (h : va_P D cl ((mw a k S).set 6 (a 6, .inl (k 6, 64, .inr (.inl (vp_updL (fL S 0) n v))))) H) : va_P D cl (mw a k (wL S 0 n v)) H := h
theorem md_L0 {A : Nat → Prop} {a : Nat → Nat} {k : Nat → ClassId} {S : XS} {n : Nat} {v : Int64} (h : va_D A ((mw a k S).set 6 (a 6, .inl (k 6, 64, .inr (.inl (vp_updL (fL S 0) n v)))))) : va_D A (mw a k (wL S 0 n v)) := h
theorem mr_7 (a : Nat → Nat) (k : Nat → ClassId) (S : XS) : (mw a k S)[7]? = some (a 7, .inl (k 7, 64, .inr (.inl (fL S 1)))) := rfl
theorem mp_L1 {D : va_G} {cl : List vw_C} {H : Heap} {a : Nat → Nat} {k : Nat → ClassId} {S : XS} {n : Nat} {v : Int64} (h : va_P D cl ((mw a k S).set 7 (a 7, .inl (k 7, 64, .inr (.inl (vp_updL (fL S 1) n v))))) H) : va_P D cl (mw a k (wL S 1 n v)) H := h
theorem md_L1 {A : Nat → Prop} {a : Nat → Nat} {k : Nat → ClassId} {S : XS} {n : Nat} {v : Int64} (h : va_D A ((mw a k S).set 7 (a 7, .inl (k 7, 64, .inr (.inl (vp_updL (fL S 1) n v)))))) : va_D A (mw a k (wL S 1 n v)) := h
theorem mr_8 (a : Nat → Nat) (k : Nat → ClassId) (S : XS) : (mw a k S)[8]? = some (a 8, .inl (k 8, 4, .inl (fA S 5))) := rfl
theorem mp_A5 {D : va_G} {cl : List vw_C} {H : Heap} {a : Nat → Nat} {k : Nat → ClassId} {S : XS} {n : Nat} {v : Int32} (h : va_P D cl ((mw a k S).set 8 (a 8, .inl (k 8, 4, .inl (upd (fA S 5) n v)))) H) : va_P D cl (mw a k (wA S 5 n v)) H := h
theorem md_A5 {A : Nat → Prop} {a : Nat → Nat} {k : Nat → ClassId} {S : XS} {n : Nat} {v : Int32} (h : va_D A ((mw a k S).set 8 (a 8, .inl (k 8, 4, .inl (upd (fA S 5) n v))))) : va_D A (mw a k (wA S 5 n v)) := h
theorem mr_9 (a : Nat → Nat) (k : Nat → ClassId) (S : XS) : (mw a k S)[9]? = some (a 9, .inl (k 9, 4, .inl (fA S 6))) := rfl
theorem mp_A6 {D : va_G} {cl : List vw_C} {H : Heap} {a : Nat → Nat} {k : Nat → ClassId} {S : XS} {n : Nat} {v : Int32} (h : va_P D cl ((mw a k S).set 9 (a 9, .inl (k 9, 4, .inl (upd (fA S 6) n v)))) H) : va_P D cl (mw a k (wA S 6 n v)) H := h
theorem md_A6 {A : Nat → Prop} {a : Nat → Nat} {k : Nat → ClassId} {S : XS} {n : Nat} {v : Int32} (h : va_D A ((mw a k S).set 9 (a 9, .inl (k 9, 4, .inl (upd (fA S 6) n v))))) : va_D A (mw a k (wA S 6 n v)) := h
theorem mr_10 (a : Nat → Nat) (k : Nat → ClassId) (S : XS) : (mw a k S)[10]? = some (a 10, .inl (k 10, 4, .inl (fA S 7))) := rfl
theorem mp_A7 {D : va_G} {cl : List vw_C} {H : Heap} {a : Nat → Nat} {k : Nat → ClassId} {S : XS} {n : Nat} {v : Int32} (h : va_P D cl ((mw a k S).set 10 (a 10, .inl (k 10, 4, .inl (upd (fA S 7) n v)))) H) : va_P D cl (mw a k (wA S 7 n v)) H := h
theorem md_A7 {A : Nat → Prop} {a : Nat → Nat} {k : Nat → ClassId} {S : XS} {n : Nat} {v : Int32} (h : va_D A ((mw a k S).set 10 (a 10, .inl (k 10, 4, .inl (upd (fA S 7) n v))))) : va_D A (mw a k (wA S 7 n v)) := h
theorem mr_11 (a : Nat → Nat) (k : Nat → ClassId) (S : XS) : (mw a k S)[11]? = some (a 11, .inl (k 11, 4, .inl (fA S 8))) := rfl
theorem mp_A8 {D : va_G} {cl : List vw_C} {H : Heap} {a : Nat → Nat} {k : Nat → ClassId} {S : XS} {n : Nat} {v : Int32} (h : va_P D cl ((mw a k S).set 11 (a 11, .inl (k 11, 4, .inl (upd (fA S 8) n v)))) H) : va_P D cl (mw a k (wA S 8 n v)) H := h
theorem md_A8 {A : Nat → Prop} {a : Nat → Nat} {k : Nat → ClassId} {S : XS} {n : Nat} {v : Int32} (h : va_D A ((mw a k S).set 11 (a 11, .inl (k 11, 4, .inl (upd (fA S 8) n v))))) : va_D A (mw a k (wA S 8 n v)) := h
theorem mr_12 (a : Nat → Nat) (k : Nat → ClassId) (S : XS) : (mw a k S)[12]? = some (a 12, .inl (k 12, 4, .inl (fA S 9))) := rfl
theorem mp_A9 {D : va_G} {cl : List vw_C} {H : Heap} {a : Nat → Nat} {k : Nat → ClassId} {S : XS} {n : Nat} {v : Int32} (h : va_P D cl ((mw a k S).set 12 (a 12, .inl (k 12, 4, .inl (upd (fA S 9) n v)))) H) : va_P D cl (mw a k (wA S 9 n v)) H := h
theorem md_A9 {A : Nat → Prop} {a : Nat → Nat} {k : Nat → ClassId} {S : XS} {n : Nat} {v : Int32} (h : va_D A ((mw a k S).set 12 (a 12, .inl (k 12, 4, .inl (upd (fA S 9) n v))))) : va_D A (mw a k (wA S 9 n v)) := h
theorem mr_13 (a : Nat → Nat) (k : Nat → ClassId) (S : XS) : (mw a k S)[13]? = some (a 13, .inl (k 13, 16, .inl (fA S 10))) := rfl
theorem mp_A10 {D : va_G} {cl : List vw_C} {H : Heap} {a : Nat → Nat} {k : Nat → ClassId} {S : XS} {n : Nat} {v : Int32} (h : va_P D cl ((mw a k S).set 13 (a 13, .inl (k 13, 16, .inl (upd (fA S 10) n v)))) H) : va_P D cl (mw a k (wA S 10 n v)) H := h
theorem md_A10 {A : Nat → Prop} {a : Nat → Nat} {k : Nat → ClassId} {S : XS} {n : Nat} {v : Int32} (h : va_D A ((mw a k S).set 13 (a 13, .inl (k 13, 16, .inl (upd (fA S 10) n v))))) : va_D A (mw a k (wA S 10 n v)) := h
theorem mr_14 (a : Nat → Nat) (k : Nat → ClassId) (S : XS) : (mw a k S)[14]? = some (a 14, .inl (k 14, 16, .inl (fA S 11))) := rfl
theorem mp_A11 {D : va_G} {cl : List vw_C} {H : Heap} {a : Nat → Nat} {k : Nat → ClassId} {S : XS} {n : Nat} {v : Int32} (h : va_P D cl ((mw a k S).set 14 (a 14, .inl (k 14, 16, .inl (upd (fA S 11) n v)))) H) : va_P D cl (mw a k (wA S 11 n v)) H := h
theorem md_A11 {A : Nat → Prop} {a : Nat → Nat} {k : Nat → ClassId} {S : XS} {n : Nat} {v : Int32} (h : va_D A ((mw a k S).set 14 (a 14, .inl (k 14, 16, .inl (upd (fA S 11) n v))))) : va_D A (mw a k (wA S 11 n v)) := h

theorem dX10_isWidth_0 : decode cX10_isWidth 0 = .ok (.iload_n 1, 1) := by decide +kernel
theorem dX10_isWidth_1 : decode cX10_isWidth 1 = .ok (.iconst 1, 1) := by decide +kernel
theorem dX10_isWidth_2 : decode cX10_isWidth 2 = .ok (.if_icmp .eq 27, 3) := by decide +kernel
theorem dX10_isWidth_5 : decode cX10_isWidth 5 = .ok (.iload_n 1, 1) := by decide +kernel
theorem dX10_isWidth_6 : decode cX10_isWidth 6 = .ok (.bipush 8, 2) := by decide +kernel
theorem dX10_isWidth_8 : decode cX10_isWidth 8 = .ok (.if_icmp .eq 21, 3) := by decide +kernel
theorem dX10_isWidth_11 : decode cX10_isWidth 11 = .ok (.iload_n 1, 1) := by decide +kernel
theorem dX10_isWidth_12 : decode cX10_isWidth 12 = .ok (.bipush 16, 2) := by decide +kernel
theorem dX10_isWidth_14 : decode cX10_isWidth 14 = .ok (.if_icmp .eq 15, 3) := by decide +kernel
theorem dX10_isWidth_17 : decode cX10_isWidth 17 = .ok (.iload_n 1, 1) := by decide +kernel
theorem dX10_isWidth_18 : decode cX10_isWidth 18 = .ok (.bipush 32, 2) := by decide +kernel
theorem dX10_isWidth_20 : decode cX10_isWidth 20 = .ok (.if_icmp .eq 9, 3) := by decide +kernel
theorem dX10_isWidth_23 : decode cX10_isWidth 23 = .ok (.iload_n 1, 1) := by decide +kernel
theorem dX10_isWidth_24 : decode cX10_isWidth 24 = .ok (.bipush 64, 2) := by decide +kernel
theorem dX10_isWidth_26 : decode cX10_isWidth 26 = .ok (.if_icmp .ne 7, 3) := by decide +kernel
theorem dX10_isWidth_29 : decode cX10_isWidth 29 = .ok (.iconst 1, 1) := by decide +kernel
theorem dX10_isWidth_30 : decode cX10_isWidth 30 = .ok (.goto 4, 3) := by decide +kernel
theorem dX10_isWidth_33 : decode cX10_isWidth 33 = .ok (.iconst 0, 1) := by decide +kernel
theorem dX10_isWidth_34 : decode cX10_isWidth 34 = .ok (.ireturn, 1) := by decide +kernel
def fm_Mod_isWidth (st : XS) (w : Int32) : Int32 := 
  if w = (1 : Int32) then (1 : Int32)
  else 
    if w = (8 : Int32) then (1 : Int32)
    else 
      if w = (16 : Int32) then (1 : Int32)
      else 
        if w = (32 : Int32) then (1 : Int32)
        else 
          if w = (64 : Int32) then (1 : Int32)
          else (0 : Int32)
set_option maxHeartbeats 4000000 in
set_option maxRecDepth 100000 in
theorem km_Mod_isWidth (l : Launch) (dC : Nat → ClassId) (dI : Nat → Nat → Nat) (a : Nat → Nat) (k : Nat → ClassId) (st : XS) (w : Int32) : Met l yX10_isWidth wsX10_isWidth ({ frames := 0, cells := 0, slots := 0, locals := 0 }) (va_Pc [.ref (a 0), .int w] (wl_prR (dC, dI) vwCl (mt k) (mw a k st))) (vp_Si (fun r9 => r9 = fm_Mod_isWidth st w)) 0 0 (fun _ => False) := by
  refine Met.ofW (cc := cX10_isWidth) (maxL := 2) (ret := (some .boolean)) (by decide) rfl ?_
  intro p e s m args below meth c s₁ B hml hv
  obtain ⟨rfl, hP, hK⟩ := hv
  have hx := B.exec
  have hb := B.bytes
  have hr := B.returns
  have hta := aw_hts (atoms_spec (ws := wsX10_isWidth) B.pre)
  have hown : s.vm.findClass RX10 = some m.cls := findClass_of_methodNamed B.named
  have hlocks := B.notSynchronized
  have hl := lv_entry ([.ref (a 0), .int w]) (n := 2) (Nat.le_of_ble_eq_true rfl)
  rw [lg_entry_eq]
  generalize (lg_sl ([.ref (a 0), .int w]) ++ List.replicate (2 - (lg_sl ([.ref (a 0), .int w])).length) Slot.unset).toArray = ls at hl ⊢
  have hl : lv_has ls 2 [(0, .ref (a 0)), (1, .int w)] := hl
  generalize hR : fm_Mod_isWidth st w = R
  rw [fm_Mod_isWidth] at hR
  refine lv_iload_n hx hb dX10_isWidth_0 rfl (lv_at hl 1 rfl) ?_
  refine lv_iconst (v := (1 : Int32)) hx hb dX10_isWidth_1 (by decide) ?_
  refine lv_icmp_eq (tgt := 29) hx hb dX10_isWidth_2 (by decide) (fun c2 => ?_) (fun c2 => ?_)
  · skip
    rw [if_pos c2] at hR
    refine lv_iconst (v := (1 : Int32)) hx hb dX10_isWidth_29 (by decide) ?_
    refine lv_goto (tgt := 34) hx hb dX10_isWidth_30 (by decide) ?_
    exact W.zret (v := (1 : Int32)) (ty := .boolean) hx hb hr rfl (fun t ht hW => ⟨_, rfl, hR, ht⟩) (fun q h => by cases h) dX10_isWidth_34
  · skip
    rw [if_neg c2] at hR
    refine lv_iload_n hx hb dX10_isWidth_5 rfl (lv_at hl 1 rfl) ?_
    refine lv_bipush (v := (8 : Int32)) hx hb dX10_isWidth_6 (by decide) ?_
    refine lv_icmp_eq (tgt := 29) hx hb dX10_isWidth_8 (by decide) (fun c8 => ?_) (fun c8 => ?_)
    · skip
      rw [if_pos c8] at hR
      refine lv_iconst (v := (1 : Int32)) hx hb dX10_isWidth_29 (by decide) ?_
      refine lv_goto (tgt := 34) hx hb dX10_isWidth_30 (by decide) ?_
      exact W.zret (v := (1 : Int32)) (ty := .boolean) hx hb hr rfl (fun t ht hW => ⟨_, rfl, hR, ht⟩) (fun q h => by cases h) dX10_isWidth_34
    · skip
      rw [if_neg c8] at hR
      refine lv_iload_n hx hb dX10_isWidth_11 rfl (lv_at hl 1 rfl) ?_
      refine lv_bipush (v := (16 : Int32)) hx hb dX10_isWidth_12 (by decide) ?_
      refine lv_icmp_eq (tgt := 29) hx hb dX10_isWidth_14 (by decide) (fun c14 => ?_) (fun c14 => ?_)
      · skip
        rw [if_pos c14] at hR
        refine lv_iconst (v := (1 : Int32)) hx hb dX10_isWidth_29 (by decide) ?_
        refine lv_goto (tgt := 34) hx hb dX10_isWidth_30 (by decide) ?_
        exact W.zret (v := (1 : Int32)) (ty := .boolean) hx hb hr rfl (fun t ht hW => ⟨_, rfl, hR, ht⟩) (fun q h => by cases h) dX10_isWidth_34
      · skip
        rw [if_neg c14] at hR
        refine lv_iload_n hx hb dX10_isWidth_17 rfl (lv_at hl 1 rfl) ?_
        refine lv_bipush (v := (32 : Int32)) hx hb dX10_isWidth_18 (by decide) ?_
        refine lv_icmp_eq (tgt := 29) hx hb dX10_isWidth_20 (by decide) (fun c20 => ?_) (fun c20 => ?_)
        · skip
          rw [if_pos c20] at hR
          refine lv_iconst (v := (1 : Int32)) hx hb dX10_isWidth_29 (by decide) ?_
          refine lv_goto (tgt := 34) hx hb dX10_isWidth_30 (by decide) ?_
          exact W.zret (v := (1 : Int32)) (ty := .boolean) hx hb hr rfl (fun t ht hW => ⟨_, rfl, hR, ht⟩) (fun q h => by cases h) dX10_isWidth_34
        · skip
          rw [if_neg c20] at hR
          refine lv_iload_n hx hb dX10_isWidth_23 rfl (lv_at hl 1 rfl) ?_
          refine lv_bipush (v := (64 : Int32)) hx hb dX10_isWidth_24 (by decide) ?_
          refine lv_icmp_ne (tgt := 33) hx hb dX10_isWidth_26 (by decide) (fun c26 => ?_) (fun c26 => ?_)
          · skip
            rw [if_neg c26] at hR
            refine lv_iconst (v := (0 : Int32)) hx hb dX10_isWidth_33 (by decide) ?_
            exact W.zret (v := (0 : Int32)) (ty := .boolean) hx hb hr rfl (fun t ht hW => ⟨_, rfl, hR, ht⟩) (fun q h => by cases h) dX10_isWidth_34
          · skip
            rw [if_pos c26] at hR
            refine lv_iconst (v := (1 : Int32)) hx hb dX10_isWidth_29 (by decide) ?_
            refine lv_goto (tgt := 34) hx hb dX10_isWidth_30 (by decide) ?_
            exact W.zret (v := (1 : Int32)) (ty := .boolean) hx hb hr rfl (fun t ht hW => ⟨_, rfl, hR, ht⟩) (fun q h => by cases h) dX10_isWidth_34

theorem dX10_cut_0 : decode cX10_cut 0 = .ok (.iload_n 3, 1) := by decide +kernel
theorem dX10_cut_1 : decode cX10_cut 1 = .ok (.bipush 64, 2) := by decide +kernel
theorem dX10_cut_3 : decode cX10_cut 3 = .ok (.if_icmp .ne 7, 3) := by decide +kernel
theorem dX10_cut_6 : decode cX10_cut 6 = .ok (.lload_n 1, 1) := by decide +kernel
theorem dX10_cut_7 : decode cX10_cut 7 = .ok (.goto 10, 3) := by decide +kernel
theorem dX10_cut_10 : decode cX10_cut 10 = .ok (.lload_n 1, 1) := by decide +kernel
theorem dX10_cut_11 : decode cX10_cut 11 = .ok (.lconst 1, 1) := by decide +kernel
theorem dX10_cut_12 : decode cX10_cut 12 = .ok (.iload_n 3, 1) := by decide +kernel
theorem dX10_cut_13 : decode cX10_cut 13 = .ok (.lshl, 1) := by decide +kernel
theorem dX10_cut_14 : decode cX10_cut 14 = .ok (.lconst 1, 1) := by decide +kernel
theorem dX10_cut_15 : decode cX10_cut 15 = .ok (.lsub, 1) := by decide +kernel
theorem dX10_cut_16 : decode cX10_cut 16 = .ok (.land, 1) := by decide +kernel
theorem dX10_cut_17 : decode cX10_cut 17 = .ok (.lreturn, 1) := by decide +kernel
def fm_Mod_cut (st : XS) (x : Int64) (w : Int32) : Int64 := 
  if w = (64 : Int32) then x
  else x &&& (((1 : Int64) <<< (w.toInt64 &&& 63)) - (1 : Int64))
set_option maxHeartbeats 4000000 in
set_option maxRecDepth 100000 in
theorem km_Mod_cut (l : Launch) (dC : Nat → ClassId) (dI : Nat → Nat → Nat) (a : Nat → Nat) (k : Nat → ClassId) (st : XS) (x : Int64) (w : Int32) : Met l yX10_cut wsX10_cut ({ frames := 0, cells := 0, slots := 0, locals := 0 }) (va_Pc [.ref (a 0), .long x, .int w] (wl_prR (dC, dI) vwCl (mt k) (mw a k st))) (vp_Sl (fun r9 => r9 = fm_Mod_cut st x w)) 0 0 (fun _ => False) := by
  refine Met.ofW (cc := cX10_cut) (maxL := 4) (ret := (some .long)) (by decide) rfl ?_
  intro p e s m args below meth c s₁ B hml hv
  obtain ⟨rfl, hP, hK⟩ := hv
  have hx := B.exec
  have hb := B.bytes
  have hr := B.returns
  have hta := aw_hts (atoms_spec (ws := wsX10_cut) B.pre)
  have hown : s.vm.findClass RX10 = some m.cls := findClass_of_methodNamed B.named
  have hlocks := B.notSynchronized
  have hl := lv_entry ([.ref (a 0), .long x, .int w]) (n := 4) (Nat.le_of_ble_eq_true rfl)
  rw [lg_entry_eq]
  generalize (lg_sl ([.ref (a 0), .long x, .int w]) ++ List.replicate (4 - (lg_sl ([.ref (a 0), .long x, .int w])).length) Slot.unset).toArray = ls at hl ⊢
  have hl : lv_has ls 4 [(0, .ref (a 0)), (1, .long x), (3, .int w)] := hl
  generalize hR : fm_Mod_cut st x w = R
  rw [fm_Mod_cut] at hR
  refine lv_iload_n hx hb dX10_cut_0 rfl (lv_at hl 2 rfl) ?_
  refine lv_bipush (v := (64 : Int32)) hx hb dX10_cut_1 (by decide) ?_
  refine lv_icmp_ne (tgt := 10) hx hb dX10_cut_3 (by decide) (fun c3 => ?_) (fun c3 => ?_)
  · skip
    rw [if_neg c3] at hR
    refine lv_lload_n hx hb dX10_cut_10 rfl (lv_at hl 1 rfl) ?_
    refine lv_lconst (v := (1 : Int64)) hx hb dX10_cut_11 (by decide) ?_
    refine lv_iload_n hx hb dX10_cut_12 rfl (lv_at hl 2 rfl) ?_
    refine lv_lshl (v := (1 : Int64) <<< (w.toInt64 &&& 63)) hx hb dX10_cut_13 rfl ?_
    refine lv_lconst (v := (1 : Int64)) hx hb dX10_cut_14 (by decide) ?_
    refine lv_lsub hx hb dX10_cut_15 ?_
    refine lv_land hx hb dX10_cut_16 ?_
    exact W.lret (v := x &&& (((1 : Int64) <<< (w.toInt64 &&& 63)) - (1 : Int64))) hx hb hr (fun t ht hW => ⟨_, rfl, hR, ht⟩) (fun q h => by cases h) dX10_cut_17
  · skip
    rw [if_pos c3] at hR
    refine lv_lload_n hx hb dX10_cut_6 rfl (lv_at hl 1 rfl) ?_
    refine lv_goto (tgt := 17) hx hb dX10_cut_7 (by decide) ?_
    exact W.lret (v := x) hx hb hr (fun t ht hW => ⟨_, rfl, hR, ht⟩) (fun q h => by cases h) dX10_cut_17

theorem dX10_sign_0 : decode cX10_sign 0 = .ok (.lload_n 1, 1) := by decide +kernel
theorem dX10_sign_1 : decode cX10_sign 1 = .ok (.bipush 64, 2) := by decide +kernel
theorem dX10_sign_3 : decode cX10_sign 3 = .ok (.iload_n 3, 1) := by decide +kernel
theorem dX10_sign_4 : decode cX10_sign 4 = .ok (.isub, 1) := by decide +kernel
theorem dX10_sign_5 : decode cX10_sign 5 = .ok (.lshl, 1) := by decide +kernel
theorem dX10_sign_6 : decode cX10_sign 6 = .ok (.bipush 64, 2) := by decide +kernel
theorem dX10_sign_8 : decode cX10_sign 8 = .ok (.iload_n 3, 1) := by decide +kernel
theorem dX10_sign_9 : decode cX10_sign 9 = .ok (.isub, 1) := by decide +kernel
theorem dX10_sign_10 : decode cX10_sign 10 = .ok (.lshr, 1) := by decide +kernel
theorem dX10_sign_11 : decode cX10_sign 11 = .ok (.lreturn, 1) := by decide +kernel
def fm_Mod_sign (st : XS) (x : Int64) (w : Int32) : Int64 := (x <<< (((64 : Int32) - w).toInt64 &&& 63)) >>> (((64 : Int32) - w).toInt64 &&& 63)
set_option maxHeartbeats 4000000 in
set_option maxRecDepth 100000 in
theorem km_Mod_sign (l : Launch) (dC : Nat → ClassId) (dI : Nat → Nat → Nat) (a : Nat → Nat) (k : Nat → ClassId) (st : XS) (x : Int64) (w : Int32) : Met l yX10_sign wsX10_sign ({ frames := 0, cells := 0, slots := 0, locals := 0 }) (va_Pc [.ref (a 0), .long x, .int w] (wl_prR (dC, dI) vwCl (mt k) (mw a k st))) (vp_Sl (fun r9 => r9 = fm_Mod_sign st x w)) 0 0 (fun _ => False) := by
  refine Met.ofW (cc := cX10_sign) (maxL := 4) (ret := (some .long)) (by decide) rfl ?_
  intro p e s m args below meth c s₁ B hml hv
  obtain ⟨rfl, hP, hK⟩ := hv
  have hx := B.exec
  have hb := B.bytes
  have hr := B.returns
  have hta := aw_hts (atoms_spec (ws := wsX10_sign) B.pre)
  have hown : s.vm.findClass RX10 = some m.cls := findClass_of_methodNamed B.named
  have hlocks := B.notSynchronized
  have hl := lv_entry ([.ref (a 0), .long x, .int w]) (n := 4) (Nat.le_of_ble_eq_true rfl)
  rw [lg_entry_eq]
  generalize (lg_sl ([.ref (a 0), .long x, .int w]) ++ List.replicate (4 - (lg_sl ([.ref (a 0), .long x, .int w])).length) Slot.unset).toArray = ls at hl ⊢
  have hl : lv_has ls 4 [(0, .ref (a 0)), (1, .long x), (3, .int w)] := hl
  generalize hR : fm_Mod_sign st x w = R
  rw [fm_Mod_sign] at hR
  refine lv_lload_n hx hb dX10_sign_0 rfl (lv_at hl 1 rfl) ?_
  refine lv_bipush (v := (64 : Int32)) hx hb dX10_sign_1 (by decide) ?_
  refine lv_iload_n hx hb dX10_sign_3 rfl (lv_at hl 2 rfl) ?_
  refine lv_isub hx hb dX10_sign_4 ?_
  refine lv_lshl (v := x <<< (((64 : Int32) - w).toInt64 &&& 63)) hx hb dX10_sign_5 rfl ?_
  refine lv_bipush (v := (64 : Int32)) hx hb dX10_sign_6 (by decide) ?_
  refine lv_iload_n hx hb dX10_sign_8 rfl (lv_at hl 2 rfl) ?_
  refine lv_isub hx hb dX10_sign_9 ?_
  refine lv_lshr (v := (x <<< (((64 : Int32) - w).toInt64 &&& 63)) >>> (((64 : Int32) - w).toInt64 &&& 63)) hx hb dX10_sign_10 rfl ?_
  exact W.lret (v := (x <<< (((64 : Int32) - w).toInt64 &&& 63)) >>> (((64 : Int32) - w).toInt64 &&& 63)) hx hb hr (fun t ht hW => ⟨_, rfl, hR, ht⟩) (fun q h => by cases h) dX10_sign_11

theorem mw_633 : (.fieldLink RX10 7 RX10 "terms" "I" : Cond) ∈ AW := List.mem_filter.mpr ⟨List.mem_of_getElem? (i := 633) (by decide +kernel), rfl⟩
theorem dX10_none_0 : decode cX10_none 0 = .ok (.iload_n 1, 1) := by decide +kernel
theorem dX10_none_1 : decode cX10_none 1 = .ok (.ifCond .lt 11, 3) := by decide +kernel
theorem dX10_none_4 : decode cX10_none 4 = .ok (.iload_n 1, 1) := by decide +kernel
theorem dX10_none_5 : decode cX10_none 5 = .ok (.aload_n 0, 1) := by decide +kernel
theorem dX10_none_6 : decode cX10_none 6 = .ok (.getfield 7, 3) := by decide +kernel
theorem dX10_none_9 : decode cX10_none 9 = .ok (.if_icmp .lt 7, 3) := by decide +kernel
theorem dX10_none_12 : decode cX10_none 12 = .ok (.iconst 1, 1) := by decide +kernel
theorem dX10_none_13 : decode cX10_none 13 = .ok (.goto 4, 3) := by decide +kernel
theorem dX10_none_16 : decode cX10_none 16 = .ok (.iconst 0, 1) := by decide +kernel
theorem dX10_none_17 : decode cX10_none 17 = .ok (.ireturn, 1) := by decide +kernel
def fm_Mod_none (st : XS) (t : Int32) : Int32 := 
  if t < (0 : Int32) then (1 : Int32)
  else 
    if t < gI st 0 then (0 : Int32)
    else (1 : Int32)
set_option maxHeartbeats 4000000 in
set_option maxRecDepth 100000 in
theorem km_Mod_none (l : Launch) (dC : Nat → ClassId) (dI : Nat → Nat → Nat) (a : Nat → Nat) (k : Nat → ClassId) (st : XS) (t : Int32) : Met l yX10_none wsX10_none ({ frames := 0, cells := 0, slots := 0, locals := 0 }) (va_Pc [.ref (a 0), .int t] (wl_prR (dC, dI) vwCl (mt k) (mw a k st))) (vp_Si (fun r9 => r9 = fm_Mod_none st t)) 0 0 (fun _ => False) := by
  refine Met.ofW (cc := cX10_none) (maxL := 2) (ret := (some .boolean)) (by decide) rfl ?_
  intro p e s m args below meth c s₁ B hml hv
  obtain ⟨rfl, hP, hK⟩ := hv
  have hx := B.exec
  have hb := B.bytes
  have hr := B.returns
  have hta := aw_hts (atoms_spec (ws := wsX10_none) B.pre)
  have hown : s.vm.findClass RX10 = some m.cls := findClass_of_methodNamed B.named
  have hlocks := B.notSynchronized
  have hf7 := hta _ mw_633
  have hl := lv_entry ([.ref (a 0), .int t]) (n := 2) (Nat.le_of_ble_eq_true rfl)
  rw [lg_entry_eq]
  generalize (lg_sl ([.ref (a 0), .int t]) ++ List.replicate (2 - (lg_sl ([.ref (a 0), .int t])).length) Slot.unset).toArray = ls at hl ⊢
  have hl : lv_has ls 2 [(0, .ref (a 0)), (1, .int t)] := hl
  generalize hR : fm_Mod_none st t = R
  rw [fm_Mod_none] at hR
  refine lv_iload_n hx hb dX10_none_0 rfl (lv_at hl 1 rfl) ?_
  refine lv_if_lt (tgt := 12) hx hb dX10_none_1 (by decide) (fun c1 => ?_) (fun c1 => ?_)
  · skip
    rw [if_pos c1] at hR
    refine lv_iconst (v := (1 : Int32)) hx hb dX10_none_12 (by decide) ?_
    refine lv_goto (tgt := 17) hx hb dX10_none_13 (by decide) ?_
    exact W.zret (v := (1 : Int32)) (ty := .boolean) hx hb hr rfl (fun t ht hW => ⟨_, rfl, hR, ht⟩) (fun q h => by cases h) dX10_none_17
  · skip
    rw [if_neg c1] at hR
    refine lv_iload_n hx hb dX10_none_4 rfl (lv_at hl 1 rfl) ?_
    refine lv_aload_n hx hb dX10_none_5 rfl (lv_at hl 0 rfl) ?_
    refine va_get (D := (dC, dI)) (ci := 8) (v := .int (gI st 0)) (C := RX10) (T := TX10) (N := 21) hx hb hta inX10 hown hK hP 0 (mr_0 a k st) rfl 0 (by decide) hf7 (fun _ h9 => h9) rfl dX10_none_6 ?_
    refine lv_icmp_lt (tgt := 16) hx hb dX10_none_9 (by decide) (fun c9 => ?_) (fun c9 => ?_)
    · skip
      rw [if_pos c9] at hR
      refine lv_iconst (v := (0 : Int32)) hx hb dX10_none_16 (by decide) ?_
      exact W.zret (v := (0 : Int32)) (ty := .boolean) hx hb hr rfl (fun t ht hW => ⟨_, rfl, hR, ht⟩) (fun q h => by cases h) dX10_none_17
    · skip
      rw [if_neg c9] at hR
      refine lv_iconst (v := (1 : Int32)) hx hb dX10_none_12 (by decide) ?_
      refine lv_goto (tgt := 17) hx hb dX10_none_13 (by decide) ?_
      exact W.zret (v := (1 : Int32)) (ty := .boolean) hx hb hr rfl (fun t ht hW => ⟨_, rfl, hR, ht⟩) (fun q h => by cases h) dX10_none_17

theorem mw_764 : (.constantLong RX10 95 (-9223372036854775808) : Cond) ∈ AW := List.mem_filter.mpr ⟨List.mem_of_getElem? (i := 764) (by decide +kernel), rfl⟩
theorem dX10_less_0 : decode cX10_less 0 = .ok (.lload_n 1, 1) := by decide +kernel
theorem dX10_less_1 : decode cX10_less 1 = .ok (.ldc2_w 95, 3) := by decide +kernel
theorem dX10_less_4 : decode cX10_less 4 = .ok (.ladd, 1) := by decide +kernel
theorem dX10_less_5 : decode cX10_less 5 = .ok (.lload_n 3, 1) := by decide +kernel
theorem dX10_less_6 : decode cX10_less 6 = .ok (.ldc2_w 95, 3) := by decide +kernel
theorem dX10_less_9 : decode cX10_less 9 = .ok (.ladd, 1) := by decide +kernel
theorem dX10_less_10 : decode cX10_less 10 = .ok (.lcmp, 1) := by decide +kernel
theorem dX10_less_11 : decode cX10_less 11 = .ok (.ifCond .ge 7, 3) := by decide +kernel
theorem dX10_less_14 : decode cX10_less 14 = .ok (.lconst 1, 1) := by decide +kernel
theorem dX10_less_15 : decode cX10_less 15 = .ok (.goto 4, 3) := by decide +kernel
theorem dX10_less_18 : decode cX10_less 18 = .ok (.lconst 0, 1) := by decide +kernel
theorem dX10_less_19 : decode cX10_less 19 = .ok (.lreturn, 1) := by decide +kernel
def fm_Mod_less (st : XS) (x : Int64) (y : Int64) : Int64 := 
  if (0 : Int32) ≤ lg_cmp (x + (-9223372036854775808 : Int64)) (y + (-9223372036854775808 : Int64)) then (0 : Int64)
  else (1 : Int64)
set_option maxHeartbeats 4000000 in
set_option maxRecDepth 100000 in
theorem km_Mod_less (l : Launch) (dC : Nat → ClassId) (dI : Nat → Nat → Nat) (a : Nat → Nat) (k : Nat → ClassId) (st : XS) (x : Int64) (y : Int64) : Met l yX10_less wsX10_less ({ frames := 0, cells := 0, slots := 0, locals := 0 }) (va_Pc [.ref (a 0), .long x, .long y] (wl_prR (dC, dI) vwCl (mt k) (mw a k st))) (vp_Sl (fun r9 => r9 = fm_Mod_less st x y)) 0 0 (fun _ => False) := by
  refine Met.ofW (cc := cX10_less) (maxL := 5) (ret := (some .long)) (by decide) rfl ?_
  intro p e s m args below meth c s₁ B hml hv
  obtain ⟨rfl, hP, hK⟩ := hv
  have hx := B.exec
  have hb := B.bytes
  have hr := B.returns
  have hta := aw_hts (atoms_spec (ws := wsX10_less) B.pre)
  have hown : s.vm.findClass RX10 = some m.cls := findClass_of_methodNamed B.named
  have hlocks := B.notSynchronized
  have hc95 := hta _ mw_764
  have hl := lv_entry ([.ref (a 0), .long x, .long y]) (n := 5) (Nat.le_of_ble_eq_true rfl)
  rw [lg_entry_eq]
  generalize (lg_sl ([.ref (a 0), .long x, .long y]) ++ List.replicate (5 - (lg_sl ([.ref (a 0), .long x, .long y])).length) Slot.unset).toArray = ls at hl ⊢
  have hl : lv_has ls 5 [(0, .ref (a 0)), (1, .long x), (3, .long y)] := hl
  generalize hR : fm_Mod_less st x y = R
  rw [fm_Mod_less] at hR
  refine lv_lload_n hx hb dX10_less_0 rfl (lv_at hl 1 rfl) ?_
  refine lv_ldc2 (v := (-9223372036854775808 : Int64)) hx hb hown hc95 dX10_less_1 ?_
  refine lv_ladd hx hb dX10_less_4 ?_
  refine lv_lload_n hx hb dX10_less_5 rfl (lv_at hl 2 rfl) ?_
  refine lv_ldc2 (v := (-9223372036854775808 : Int64)) hx hb hown hc95 dX10_less_6 ?_
  refine lv_ladd hx hb dX10_less_9 ?_
  refine W.lcmp hx hb dX10_less_10 ?_
  refine lv_if_ge (tgt := 18) hx hb dX10_less_11 (by decide) (fun c11 => ?_) (fun c11 => ?_)
  · skip
    rw [if_pos c11] at hR
    refine lv_lconst (v := (0 : Int64)) hx hb dX10_less_18 (by decide) ?_
    exact W.lret (v := (0 : Int64)) hx hb hr (fun t ht hW => ⟨_, rfl, hR, ht⟩) (fun q h => by cases h) dX10_less_19
  · skip
    rw [if_neg c11] at hR
    refine lv_lconst (v := (1 : Int64)) hx hb dX10_less_14 (by decide) ?_
    refine lv_goto (tgt := 19) hx hb dX10_less_15 (by decide) ?_
    exact W.lret (v := (1 : Int64)) hx hb hr (fun t ht hW => ⟨_, rfl, hR, ht⟩) (fun q h => by cases h) dX10_less_19

theorem wm_none {st : XS} {N : Nat} {t : Int32} (hN : gI st 0 = nI N) (h64 : N ≤ 64) (c : fm_Mod_none st t = 0) : vp_in t 64 := by
  rw [fm_Mod_none] at c
  by_cases h0 : t < (0 : Int32)
  · rw [if_pos h0] at c; exact absurd c (by decide)
  · rw [if_neg h0] at c
    by_cases h1 : t < gI st 0
    · obtain ⟨j, hj, rfl⟩ := wl_ixn (by omega) hN h0 h1
      exact wl_in (by omega) (by decide)
    · rw [if_neg h1] at c; exact absurd c (by decide)
theorem wm_n64 {st : XS} {N : Nat} (hN : gI st 0 = nI N) (h64 : N ≤ 64) (c : ¬ gI st 0 = (64 : Int32)) : N < 64 := by
  rcases Nat.lt_or_ge N 64 with h | h
  · exact h
  · exact absurd (by rw [hN, show N = 64 by omega]; rfl) c
theorem wm_v4 {st : XS} {V : Nat} (hV : gI st 2 = nI V) (h : V ≤ 4) (c : ¬ gI st 2 = (4 : Int32)) : V < 4 := by
  rcases Nat.lt_or_ge V 4 with q | q
  · exact q
  · exact absurd (by rw [hV, show V = 4 by omega]; rfl) c
theorem wm_p16 {st : XS} {E : Nat} (hE : gI st 3 = nI E) (h : E ≤ 16) (c : ¬ gI st 3 = (16 : Int32)) : E < 16 := by
  rcases Nat.lt_or_ge E 16 with q | q
  · exact q
  · exact absurd (by rw [hE, show E = 16 by omega]; rfl) c
theorem wm_ti {t i : Int32} (h1 : ¬ t < (0 : Int32)) (h2 : ¬ (1 : Int32) < t) (h3 : ¬ i < (0 : Int32)) (h4 : i ≤ (7 : Int32)) : vp_in (t * (8 : Int32) + i) 16 := by
  obtain ⟨a, ha, rfl⟩ := nI_of2 (x := t) (M := 1) (n := 1) (by decide) h1 (Int32.not_lt.mp h2)
  obtain ⟨b, hb, rfl⟩ := nI_of2 (x := i) (M := 7) (n := 7) (by decide) h3 h4
  rw [show (8 : Int32) = nI 8 from rfl, pk_mul, nI_add]
  exact vp_in_nI (by omega) (by decide)
theorem wm_mv {x y : Int32} {n : Nat} (hn : n ≤ 4) (hy : y = nI n ∨ y = -1) (h0 : ¬ x < (0 : Int32)) (h : x < y) : vp_in x 4 := by
  rcases hy with hy | hy
  · exact wl_mvx hn hy h0 h
  · rw [hy, Int32.lt_iff_toInt_lt] at h
    rw [Int32.lt_iff_toInt_lt, Int32.toInt_zero] at h0
    rw [show (-1 : Int32).toInt = -1 from by decide] at h
    omega

theorem mw_640 : (.fieldLink RX10 31 RX10 "op" "[I" : Cond) ∈ AW := List.mem_filter.mpr ⟨List.mem_of_getElem? (i := 640) (by decide +kernel), rfl⟩
theorem mw_641 : (.fieldLink RX10 35 RX10 "a" "[I" : Cond) ∈ AW := List.mem_filter.mpr ⟨List.mem_of_getElem? (i := 641) (by decide +kernel), rfl⟩
theorem mw_642 : (.fieldLink RX10 38 RX10 "b" "[I" : Cond) ∈ AW := List.mem_filter.mpr ⟨List.mem_of_getElem? (i := 642) (by decide +kernel), rfl⟩
theorem mw_643 : (.fieldLink RX10 41 RX10 "c" "[I" : Cond) ∈ AW := List.mem_filter.mpr ⟨List.mem_of_getElem? (i := 643) (by decide +kernel), rfl⟩
theorem mw_644 : (.fieldLink RX10 44 RX10 "wide" "[I" : Cond) ∈ AW := List.mem_filter.mpr ⟨List.mem_of_getElem? (i := 644) (by decide +kernel), rfl⟩
theorem dX10_fresh_0 : decode cX10_fresh 0 = .ok (.aload_n 0, 1) := by decide +kernel
theorem dX10_fresh_1 : decode cX10_fresh 1 = .ok (.getfield 31, 3) := by decide +kernel
theorem dX10_fresh_4 : decode cX10_fresh 4 = .ok (.aload_n 0, 1) := by decide +kernel
theorem dX10_fresh_5 : decode cX10_fresh 5 = .ok (.getfield 7, 3) := by decide +kernel
theorem dX10_fresh_8 : decode cX10_fresh 8 = .ok (.iload_n 1, 1) := by decide +kernel
theorem dX10_fresh_9 : decode cX10_fresh 9 = .ok (.iastore, 1) := by decide +kernel
theorem dX10_fresh_10 : decode cX10_fresh 10 = .ok (.aload_n 0, 1) := by decide +kernel
theorem dX10_fresh_11 : decode cX10_fresh 11 = .ok (.getfield 35, 3) := by decide +kernel
theorem dX10_fresh_14 : decode cX10_fresh 14 = .ok (.aload_n 0, 1) := by decide +kernel
theorem dX10_fresh_15 : decode cX10_fresh 15 = .ok (.getfield 7, 3) := by decide +kernel
theorem dX10_fresh_18 : decode cX10_fresh 18 = .ok (.iload_n 2, 1) := by decide +kernel
theorem dX10_fresh_19 : decode cX10_fresh 19 = .ok (.iastore, 1) := by decide +kernel
theorem dX10_fresh_20 : decode cX10_fresh 20 = .ok (.aload_n 0, 1) := by decide +kernel
theorem dX10_fresh_21 : decode cX10_fresh 21 = .ok (.getfield 38, 3) := by decide +kernel
theorem dX10_fresh_24 : decode cX10_fresh 24 = .ok (.aload_n 0, 1) := by decide +kernel
theorem dX10_fresh_25 : decode cX10_fresh 25 = .ok (.getfield 7, 3) := by decide +kernel
theorem dX10_fresh_28 : decode cX10_fresh 28 = .ok (.iload_n 3, 1) := by decide +kernel
theorem dX10_fresh_29 : decode cX10_fresh 29 = .ok (.iastore, 1) := by decide +kernel
theorem dX10_fresh_30 : decode cX10_fresh 30 = .ok (.aload_n 0, 1) := by decide +kernel
theorem dX10_fresh_31 : decode cX10_fresh 31 = .ok (.getfield 41, 3) := by decide +kernel
theorem dX10_fresh_34 : decode cX10_fresh 34 = .ok (.aload_n 0, 1) := by decide +kernel
theorem dX10_fresh_35 : decode cX10_fresh 35 = .ok (.getfield 7, 3) := by decide +kernel
theorem dX10_fresh_38 : decode cX10_fresh 38 = .ok (.iload 4, 2) := by decide +kernel
theorem dX10_fresh_40 : decode cX10_fresh 40 = .ok (.iastore, 1) := by decide +kernel
theorem dX10_fresh_41 : decode cX10_fresh 41 = .ok (.aload_n 0, 1) := by decide +kernel
theorem dX10_fresh_42 : decode cX10_fresh 42 = .ok (.getfield 44, 3) := by decide +kernel
theorem dX10_fresh_45 : decode cX10_fresh 45 = .ok (.aload_n 0, 1) := by decide +kernel
theorem dX10_fresh_46 : decode cX10_fresh 46 = .ok (.getfield 7, 3) := by decide +kernel
theorem dX10_fresh_49 : decode cX10_fresh 49 = .ok (.iload 5, 2) := by decide +kernel
theorem dX10_fresh_51 : decode cX10_fresh 51 = .ok (.iastore, 1) := by decide +kernel
theorem dX10_fresh_52 : decode cX10_fresh 52 = .ok (.aload_n 0, 1) := by decide +kernel
theorem dX10_fresh_53 : decode cX10_fresh 53 = .ok (.dup, 1) := by decide +kernel
theorem dX10_fresh_54 : decode cX10_fresh 54 = .ok (.getfield 7, 3) := by decide +kernel
theorem dX10_fresh_57 : decode cX10_fresh 57 = .ok (.iconst 1, 1) := by decide +kernel
theorem dX10_fresh_58 : decode cX10_fresh 58 = .ok (.iadd, 1) := by decide +kernel
theorem dX10_fresh_59 : decode cX10_fresh 59 = .ok (.putfield 7, 3) := by decide +kernel
theorem dX10_fresh_62 : decode cX10_fresh 62 = .ok (.aload_n 0, 1) := by decide +kernel
theorem dX10_fresh_63 : decode cX10_fresh 63 = .ok (.getfield 7, 3) := by decide +kernel
theorem dX10_fresh_66 : decode cX10_fresh 66 = .ok (.iconst 1, 1) := by decide +kernel
theorem dX10_fresh_67 : decode cX10_fresh 67 = .ok (.isub, 1) := by decide +kernel
theorem dX10_fresh_68 : decode cX10_fresh 68 = .ok (.ireturn, 1) := by decide +kernel
def fm_Mod_fresh (st : XS) (o : Int32) (x1 : Int32) (y1 : Int32) (z1 : Int32) (w : Int32) : Int32 × XS := ((gI (wI (wA (wA (wA (wA (wA st 0 ((gI st 0).toNatClampNeg) o) 1 ((gI st 0).toNatClampNeg) x1) 2 ((gI st 0).toNatClampNeg) y1) 3 ((gI st 0).toNatClampNeg) z1) 4 ((gI st 0).toNatClampNeg) w) 0 ((gI st 0) + (1 : Int32))) 0) - (1 : Int32), wI (wA (wA (wA (wA (wA st 0 ((gI st 0).toNatClampNeg) o) 1 ((gI st 0).toNatClampNeg) x1) 2 ((gI st 0).toNatClampNeg) y1) 3 ((gI st 0).toNatClampNeg) z1) 4 ((gI st 0).toNatClampNeg) w) 0 ((gI st 0) + (1 : Int32)))
theorem ff_Mod_fresh (st : XS) (o : Int32) (x1 : Int32) (y1 : Int32) (z1 : Int32) (w : Int32) : XF [0] [0, 1, 2, 3, 4] [] st (fm_Mod_fresh st o x1 y1 z1 w).2 := by
  rw [fm_Mod_fresh]
  exact (wl_snd (XF.wI (by decide) (XF.wA (by decide) (XF.wA (by decide) (XF.wA (by decide) (XF.wA (by decide) (XF.wA (by decide) XF.rf)))))))
set_option maxHeartbeats 4000000 in
set_option maxRecDepth 100000 in
theorem km_Mod_fresh (l : Launch) (dC : Nat → ClassId) (dI : Nat → Nat → Nat) (a : Nat → Nat) (k : Nat → ClassId) (st : XS) (o : Int32) (x1 : Int32) (y1 : Int32) (z1 : Int32) (w : Int32) (sz : Nat) (hi : vp_in (gI st 0) 64) : Met l yX10_fresh wsX10_fresh ({ frames := 0, cells := 0, slots := 0, locals := 0 }) (va_Pc [.ref (a 0), .int o, .int x1, .int y1, .int z1, .int w] (wl_pre (dC, dI) vwCl (mt k) (mw a k) st sz)) (va_Qi (fun r9 u9 => (r9, u9) = fm_Mod_fresh st o x1 y1 z1 w) (wl_at (dC, dI) vwCl (mt k) (mw a k) (va_A (mw a k st) sz)) (va_A (mw a k st) sz)) 0 0 (va_A (mw a k st) sz) := by
  refine Met.ofW (cc := cX10_fresh) (maxL := 6) (ret := (some .int)) (by decide) rfl ?_
  intro p e s m args below meth c s₁ B hml hv
  obtain ⟨rfl, hsz, hP, hK, hD0⟩ := hv
  have hx := B.exec
  have hb := B.bytes
  have hr := B.returns
  have hta := aw_hts (atoms_spec (ws := wsX10_fresh) B.pre)
  have hown : s.vm.findClass RX10 = some m.cls := findClass_of_methodNamed B.named
  have hlocks := B.notSynchronized
  have hf31 := hta _ mw_640
  have hf7 := hta _ mw_633
  have hf35 := hta _ mw_641
  have hf38 := hta _ mw_642
  have hf41 := hta _ mw_643
  have hf44 := hta _ mw_644
  subst hsz
  have hD := hD0.self (sz := s.heap.size)
  generalize hAe : va_A (mw a k st) s.heap.size = A at hD ⊢
  have hAz : ∀ q : Nat, s.heap.size ≤ q → A q := fun q h => by rw [← hAe]; exact Or.inr h
  have hS : va_S A s.heap s.heap [] := va_S.rf
  have hl := lv_entry ([.ref (a 0), .int o, .int x1, .int y1, .int z1, .int w]) (n := 6) (Nat.le_of_ble_eq_true rfl)
  rw [lg_entry_eq]
  generalize (lg_sl ([.ref (a 0), .int o, .int x1, .int y1, .int z1, .int w]) ++ List.replicate (6 - (lg_sl ([.ref (a 0), .int o, .int x1, .int y1, .int z1, .int w])).length) Slot.unset).toArray = ls at hl ⊢
  have hl : lv_has ls 6 [(0, .ref (a 0)), (1, .int o), (2, .int x1), (3, .int y1), (4, .int z1), (5, .int w)] := hl
  generalize hR : fm_Mod_fresh st o x1 y1 z1 w = R
  rw [fm_Mod_fresh] at hR
  refine lv_aload_n hx hb dX10_fresh_0 rfl (lv_at hl 0 rfl) ?_
  refine va_get (D := (dC, dI)) (ci := 8) (v := .ref (a 1)) (C := RX10) (T := TX10) (N := 21) hx hb hta inX10 hown hK hP 0 (mr_0 a k st) rfl 7 (by decide) hf31 (fun _ h9 => h9) rfl dX10_fresh_1 ?_
  refine lv_aload_n hx hb dX10_fresh_4 rfl (lv_at hl 0 rfl) ?_
  refine va_get (D := (dC, dI)) (ci := 8) (v := .int (gI st 0)) (C := RX10) (T := TX10) (N := 21) hx hb hta inX10 hown hK hP 0 (mr_0 a k st) rfl 0 (by decide) hf7 (fun _ h9 => h9) rfl dX10_fresh_5 ?_
  refine lv_iload_n hx hb dX10_fresh_8 rfl (lv_at hl 1 rfl) ?_
  refine va_iast hx hb hK hP hD hS 1 0 (mr_1 a k st) rfl hi dX10_fresh_9 (fun H locs hP hD hS => ?_)
  have hP := mp_A0 hP
  have hD := md_A0 hD
  refine lv_aload_n hx hb dX10_fresh_10 rfl (lv_at hl 0 rfl) ?_
  refine va_get (D := (dC, dI)) (ci := 8) (v := .ref (a 2)) (C := RX10) (T := TX10) (N := 21) hx hb hta inX10 hown hK hP 0 (mr_0 a k (wA st 0 ((gI st 0).toNatClampNeg) o)) rfl 8 (by decide) hf35 (fun _ h9 => h9) rfl dX10_fresh_11 ?_
  refine lv_aload_n hx hb dX10_fresh_14 rfl (lv_at hl 0 rfl) ?_
  refine va_get (D := (dC, dI)) (ci := 8) (v := .int (gI st 0)) (C := RX10) (T := TX10) (N := 21) hx hb hta inX10 hown hK hP 0 (mr_0 a k (wA st 0 ((gI st 0).toNatClampNeg) o)) rfl 0 (by decide) hf7 (fun _ h9 => h9) rfl dX10_fresh_15 ?_
  refine lv_iload_n hx hb dX10_fresh_18 rfl (lv_at hl 2 rfl) ?_
  refine va_iast hx hb hK hP hD hS 2 1 (mr_2 a k (wA st 0 ((gI st 0).toNatClampNeg) o)) rfl hi dX10_fresh_19 (fun H locs hP hD hS => ?_)
  have hP := mp_A1 hP
  have hD := md_A1 hD
  refine lv_aload_n hx hb dX10_fresh_20 rfl (lv_at hl 0 rfl) ?_
  refine va_get (D := (dC, dI)) (ci := 8) (v := .ref (a 3)) (C := RX10) (T := TX10) (N := 21) hx hb hta inX10 hown hK hP 0 (mr_0 a k (wA (wA st 0 ((gI st 0).toNatClampNeg) o) 1 ((gI st 0).toNatClampNeg) x1)) rfl 9 (by decide) hf38 (fun _ h9 => h9) rfl dX10_fresh_21 ?_
  refine lv_aload_n hx hb dX10_fresh_24 rfl (lv_at hl 0 rfl) ?_
  refine va_get (D := (dC, dI)) (ci := 8) (v := .int (gI st 0)) (C := RX10) (T := TX10) (N := 21) hx hb hta inX10 hown hK hP 0 (mr_0 a k (wA (wA st 0 ((gI st 0).toNatClampNeg) o) 1 ((gI st 0).toNatClampNeg) x1)) rfl 0 (by decide) hf7 (fun _ h9 => h9) rfl dX10_fresh_25 ?_
  refine lv_iload_n hx hb dX10_fresh_28 rfl (lv_at hl 3 rfl) ?_
  refine va_iast hx hb hK hP hD hS 3 2 (mr_3 a k (wA (wA st 0 ((gI st 0).toNatClampNeg) o) 1 ((gI st 0).toNatClampNeg) x1)) rfl hi dX10_fresh_29 (fun H locs hP hD hS => ?_)
  have hP := mp_A2 hP
  have hD := md_A2 hD
  refine lv_aload_n hx hb dX10_fresh_30 rfl (lv_at hl 0 rfl) ?_
  refine va_get (D := (dC, dI)) (ci := 8) (v := .ref (a 4)) (C := RX10) (T := TX10) (N := 21) hx hb hta inX10 hown hK hP 0 (mr_0 a k (wA (wA (wA st 0 ((gI st 0).toNatClampNeg) o) 1 ((gI st 0).toNatClampNeg) x1) 2 ((gI st 0).toNatClampNeg) y1)) rfl 10 (by decide) hf41 (fun _ h9 => h9) rfl dX10_fresh_31 ?_
  refine lv_aload_n hx hb dX10_fresh_34 rfl (lv_at hl 0 rfl) ?_
  refine va_get (D := (dC, dI)) (ci := 8) (v := .int (gI st 0)) (C := RX10) (T := TX10) (N := 21) hx hb hta inX10 hown hK hP 0 (mr_0 a k (wA (wA (wA st 0 ((gI st 0).toNatClampNeg) o) 1 ((gI st 0).toNatClampNeg) x1) 2 ((gI st 0).toNatClampNeg) y1)) rfl 0 (by decide) hf7 (fun _ h9 => h9) rfl dX10_fresh_35 ?_
  refine lv_iload hx hb dX10_fresh_38 (lv_at hl 4 rfl) ?_
  refine va_iast hx hb hK hP hD hS 4 3 (mr_4 a k (wA (wA (wA st 0 ((gI st 0).toNatClampNeg) o) 1 ((gI st 0).toNatClampNeg) x1) 2 ((gI st 0).toNatClampNeg) y1)) rfl hi dX10_fresh_40 (fun H locs hP hD hS => ?_)
  have hP := mp_A3 hP
  have hD := md_A3 hD
  refine lv_aload_n hx hb dX10_fresh_41 rfl (lv_at hl 0 rfl) ?_
  refine va_get (D := (dC, dI)) (ci := 8) (v := .ref (a 5)) (C := RX10) (T := TX10) (N := 21) hx hb hta inX10 hown hK hP 0 (mr_0 a k (wA (wA (wA (wA st 0 ((gI st 0).toNatClampNeg) o) 1 ((gI st 0).toNatClampNeg) x1) 2 ((gI st 0).toNatClampNeg) y1) 3 ((gI st 0).toNatClampNeg) z1)) rfl 11 (by decide) hf44 (fun _ h9 => h9) rfl dX10_fresh_42 ?_
  refine lv_aload_n hx hb dX10_fresh_45 rfl (lv_at hl 0 rfl) ?_
  refine va_get (D := (dC, dI)) (ci := 8) (v := .int (gI st 0)) (C := RX10) (T := TX10) (N := 21) hx hb hta inX10 hown hK hP 0 (mr_0 a k (wA (wA (wA (wA st 0 ((gI st 0).toNatClampNeg) o) 1 ((gI st 0).toNatClampNeg) x1) 2 ((gI st 0).toNatClampNeg) y1) 3 ((gI st 0).toNatClampNeg) z1)) rfl 0 (by decide) hf7 (fun _ h9 => h9) rfl dX10_fresh_46 ?_
  refine lv_iload hx hb dX10_fresh_49 (lv_at hl 5 rfl) ?_
  refine va_iast hx hb hK hP hD hS 5 4 (mr_5 a k (wA (wA (wA (wA st 0 ((gI st 0).toNatClampNeg) o) 1 ((gI st 0).toNatClampNeg) x1) 2 ((gI st 0).toNatClampNeg) y1) 3 ((gI st 0).toNatClampNeg) z1)) rfl hi dX10_fresh_51 (fun H locs hP hD hS => ?_)
  have hP := mp_A4 hP
  have hD := md_A4 hD
  refine lv_aload_n hx hb dX10_fresh_52 rfl (lv_at hl 0 rfl) ?_
  refine lv_dup hx hb dX10_fresh_53 rfl ?_
  refine va_get (D := (dC, dI)) (ci := 8) (v := .int (gI st 0)) (C := RX10) (T := TX10) (N := 21) hx hb hta inX10 hown hK hP 0 (mr_0 a k (wA (wA (wA (wA (wA st 0 ((gI st 0).toNatClampNeg) o) 1 ((gI st 0).toNatClampNeg) x1) 2 ((gI st 0).toNatClampNeg) y1) 3 ((gI st 0).toNatClampNeg) z1) 4 ((gI st 0).toNatClampNeg) w)) rfl 0 (by decide) hf7 (fun _ h9 => h9) rfl dX10_fresh_54 ?_
  refine lv_iconst (v := (1 : Int32)) hx hb dX10_fresh_57 (by decide) ?_
  refine lv_iadd hx hb dX10_fresh_58 ?_
  refine va_put (D := (dC, dI)) (ci := 8) (v := .int ((gI st 0) + (1 : Int32))) (ty := .int) (C := RX10) (T := TX10) (N := 21) hx hb hta inX10 tyX10 tyX10_ok nmX10 hown hK hP hD hS 0 (mr_0 a k (wA (wA (wA (wA (wA st 0 ((gI st 0).toNatClampNeg) o) 1 ((gI st 0).toNatClampNeg) x1) 2 ((gI st 0).toNatClampNeg) y1) 3 ((gI st 0).toNatClampNeg) z1) 4 ((gI st 0).toNatClampNeg) w)) rfl 0 (by decide) hf7 (fun _ h9 => h9) rfl (by decide +kernel) rfl rfl (Nat.le_of_ble_eq_true rfl) dX10_fresh_59 (fun H locs hP hD hS => ?_)
  have hP := mp_I0 hP
  have hD := md_I0 hD
  refine lv_aload_n hx hb dX10_fresh_62 rfl (lv_at hl 0 rfl) ?_
  refine va_get (D := (dC, dI)) (ci := 8) (v := .int (gI (wI (wA (wA (wA (wA (wA st 0 ((gI st 0).toNatClampNeg) o) 1 ((gI st 0).toNatClampNeg) x1) 2 ((gI st 0).toNatClampNeg) y1) 3 ((gI st 0).toNatClampNeg) z1) 4 ((gI st 0).toNatClampNeg) w) 0 ((gI st 0) + (1 : Int32))) 0)) (C := RX10) (T := TX10) (N := 21) hx hb hta inX10 hown hK hP 0 (mr_0 a k (wI (wA (wA (wA (wA (wA st 0 ((gI st 0).toNatClampNeg) o) 1 ((gI st 0).toNatClampNeg) x1) 2 ((gI st 0).toNatClampNeg) y1) 3 ((gI st 0).toNatClampNeg) z1) 4 ((gI st 0).toNatClampNeg) w) 0 ((gI st 0) + (1 : Int32)))) rfl 0 (by decide) hf7 (fun _ h9 => h9) rfl dX10_fresh_63 ?_
  refine lv_iconst (v := (1 : Int32)) hx hb dX10_fresh_66 (by decide) ?_
  refine lv_isub hx hb dX10_fresh_67 ?_
  exact W.iret (v := (gI (wI (wA (wA (wA (wA (wA st 0 ((gI st 0).toNatClampNeg) o) 1 ((gI st 0).toNatClampNeg) x1) 2 ((gI st 0).toNatClampNeg) y1) 3 ((gI st 0).toNatClampNeg) z1) 4 ((gI st 0).toNatClampNeg) w) 0 ((gI st 0) + (1 : Int32))) 0) - (1 : Int32)) hx hb hr (fun t ht hW => ⟨⟨_, _, rfl, hR, by rw [ht]; exact hP, va_K.moved hW.alike hK, hD⟩, hS.F ht⟩) hS.2.2 dX10_fresh_68

theorem mw_752 : (.code yX10_sign cX10_sign 4 (some .long) : Cond) ∈ AW := List.mem_filter.mpr ⟨List.mem_of_getElem? (i := 752) (by decide +kernel), rfl⟩
theorem mw_749 : (.methodLink RX10 92 yX10_sign : Cond) ∈ AW := List.mem_filter.mpr ⟨List.mem_of_getElem? (i := 749) (by decide +kernel), rfl⟩
theorem mw_46 : (.initialized RX10 : Cond) ∈ AW := List.mem_filter.mpr ⟨List.mem_of_getElem? (i := 46) (by decide +kernel), rfl⟩
theorem mw_751 : (.instanceMethod yX10_sign : Cond) ∈ AW := List.mem_filter.mpr ⟨List.mem_of_getElem? (i := 751) (by decide +kernel), rfl⟩
theorem mw_25 : (.selects RX10 yX10_sign yX10_sign : Cond) ∈ AW := List.mem_filter.mpr ⟨List.mem_of_getElem? (i := 25) (by decide +kernel), rfl⟩
theorem mw_720 : (.code yX10_cut cX10_cut 4 (some .long) : Cond) ∈ AW := List.mem_filter.mpr ⟨List.mem_of_getElem? (i := 720) (by decide +kernel), rfl⟩
theorem mw_717 : (.methodLink RX10 88 yX10_cut : Cond) ∈ AW := List.mem_filter.mpr ⟨List.mem_of_getElem? (i := 717) (by decide +kernel), rfl⟩
theorem mw_719 : (.instanceMethod yX10_cut : Cond) ∈ AW := List.mem_filter.mpr ⟨List.mem_of_getElem? (i := 719) (by decide +kernel), rfl⟩
theorem mw_19 : (.selects RX10 yX10_cut yX10_cut : Cond) ∈ AW := List.mem_filter.mpr ⟨List.mem_of_getElem? (i := 19) (by decide +kernel), rfl⟩
theorem gX10_92 : GoodIn AW (wsV RX10 92 RX10 yX10_sign wsX10_sign) := aw_V mw_749 mw_751 mw_25 mw_46 mw_752
theorem gX10_88 : GoodIn AW (wsV RX10 88 RX10 yX10_cut wsX10_cut) := aw_V mw_717 mw_719 mw_19 mw_46 mw_720
theorem dX10_shifted_0 : decode cX10_shifted 0 = .ok (.lload 4, 2) := by decide +kernel
theorem dX10_shifted_2 : decode cX10_shifted 2 = .ok (.lconst 0, 1) := by decide +kernel
theorem dX10_shifted_3 : decode cX10_shifted 3 = .ok (.lcmp, 1) := by decide +kernel
theorem dX10_shifted_4 : decode cX10_shifted 4 = .ok (.ifCond .lt 12, 3) := by decide +kernel
theorem dX10_shifted_7 : decode cX10_shifted 7 = .ok (.lload 4, 2) := by decide +kernel
theorem dX10_shifted_9 : decode cX10_shifted 9 = .ok (.iload 6, 2) := by decide +kernel
theorem dX10_shifted_11 : decode cX10_shifted 11 = .ok (.i2l, 1) := by decide +kernel
theorem dX10_shifted_12 : decode cX10_shifted 12 = .ok (.lcmp, 1) := by decide +kernel
theorem dX10_shifted_13 : decode cX10_shifted 13 = .ok (.ifCond .lt 7, 3) := by decide +kernel
theorem dX10_shifted_16 : decode cX10_shifted 16 = .ok (.iconst 1, 1) := by decide +kernel
theorem dX10_shifted_17 : decode cX10_shifted 17 = .ok (.goto 4, 3) := by decide +kernel
theorem dX10_shifted_20 : decode cX10_shifted 20 = .ok (.iconst 0, 1) := by decide +kernel
theorem dX10_shifted_21 : decode cX10_shifted 21 = .ok (.istore 7, 2) := by decide +kernel
theorem dX10_shifted_23 : decode cX10_shifted 23 = .ok (.iload_n 1, 1) := by decide +kernel
theorem dX10_shifted_24 : decode cX10_shifted 24 = .ok (.bipush 12, 2) := by decide +kernel
theorem dX10_shifted_26 : decode cX10_shifted 26 = .ok (.if_icmp .ne 31, 3) := by decide +kernel
theorem dX10_shifted_29 : decode cX10_shifted 29 = .ok (.aload_n 0, 1) := by decide +kernel
theorem dX10_shifted_30 : decode cX10_shifted 30 = .ok (.aload_n 0, 1) := by decide +kernel
theorem dX10_shifted_31 : decode cX10_shifted 31 = .ok (.lload_n 2, 1) := by decide +kernel
theorem dX10_shifted_32 : decode cX10_shifted 32 = .ok (.iload 6, 2) := by decide +kernel
theorem dX10_shifted_34 : decode cX10_shifted 34 = .ok (.invokevirtual 92, 3) := by decide +kernel
theorem dX10_shifted_37 : decode cX10_shifted 37 = .ok (.iload 7, 2) := by decide +kernel
theorem dX10_shifted_39 : decode cX10_shifted 39 = .ok (.ifCond .eq 8, 3) := by decide +kernel
theorem dX10_shifted_42 : decode cX10_shifted 42 = .ok (.bipush 63, 2) := by decide +kernel
theorem dX10_shifted_44 : decode cX10_shifted 44 = .ok (.goto 6, 3) := by decide +kernel
theorem dX10_shifted_47 : decode cX10_shifted 47 = .ok (.lload 4, 2) := by decide +kernel
theorem dX10_shifted_49 : decode cX10_shifted 49 = .ok (.l2i, 1) := by decide +kernel
theorem dX10_shifted_50 : decode cX10_shifted 50 = .ok (.lshr, 1) := by decide +kernel
theorem dX10_shifted_51 : decode cX10_shifted 51 = .ok (.iload 6, 2) := by decide +kernel
theorem dX10_shifted_53 : decode cX10_shifted 53 = .ok (.invokevirtual 88, 3) := by decide +kernel
theorem dX10_shifted_56 : decode cX10_shifted 56 = .ok (.lreturn, 1) := by decide +kernel
theorem dX10_shifted_57 : decode cX10_shifted 57 = .ok (.iload 7, 2) := by decide +kernel
theorem dX10_shifted_59 : decode cX10_shifted 59 = .ok (.ifCond .eq 5, 3) := by decide +kernel
theorem dX10_shifted_62 : decode cX10_shifted 62 = .ok (.lconst 0, 1) := by decide +kernel
theorem dX10_shifted_63 : decode cX10_shifted 63 = .ok (.lreturn, 1) := by decide +kernel
theorem dX10_shifted_64 : decode cX10_shifted 64 = .ok (.iload_n 1, 1) := by decide +kernel
theorem dX10_shifted_65 : decode cX10_shifted 65 = .ok (.bipush 10, 2) := by decide +kernel
theorem dX10_shifted_67 : decode cX10_shifted 67 = .ok (.if_icmp .ne 17, 3) := by decide +kernel
theorem dX10_shifted_70 : decode cX10_shifted 70 = .ok (.aload_n 0, 1) := by decide +kernel
theorem dX10_shifted_71 : decode cX10_shifted 71 = .ok (.lload_n 2, 1) := by decide +kernel
theorem dX10_shifted_72 : decode cX10_shifted 72 = .ok (.lload 4, 2) := by decide +kernel
theorem dX10_shifted_74 : decode cX10_shifted 74 = .ok (.l2i, 1) := by decide +kernel
theorem dX10_shifted_75 : decode cX10_shifted 75 = .ok (.lshl, 1) := by decide +kernel
theorem dX10_shifted_76 : decode cX10_shifted 76 = .ok (.iload 6, 2) := by decide +kernel
theorem dX10_shifted_78 : decode cX10_shifted 78 = .ok (.invokevirtual 88, 3) := by decide +kernel
theorem dX10_shifted_81 : decode cX10_shifted 81 = .ok (.goto 8, 3) := by decide +kernel
theorem dX10_shifted_84 : decode cX10_shifted 84 = .ok (.lload_n 2, 1) := by decide +kernel
theorem dX10_shifted_85 : decode cX10_shifted 85 = .ok (.lload 4, 2) := by decide +kernel
theorem dX10_shifted_87 : decode cX10_shifted 87 = .ok (.l2i, 1) := by decide +kernel
theorem dX10_shifted_88 : decode cX10_shifted 88 = .ok (.lushr, 1) := by decide +kernel
theorem dX10_shifted_89 : decode cX10_shifted 89 = .ok (.lreturn, 1) := by decide +kernel
def fm_Mod_shifted (st : XS) (o : Int32) (x : Int64) (y : Int64) (w : Int32) : Int64 := 
  if lg_cmp y (0 : Int64) < (0 : Int32) then 
    if o = (12 : Int32) then fm_Mod_cut st ((fm_Mod_sign st x w) >>> ((63 : Int32).toInt64 &&& 63)) w
    else (0 : Int64)
  else 
    if lg_cmp y w.toInt64 < (0 : Int32) then 
      if o = (12 : Int32) then fm_Mod_cut st ((fm_Mod_sign st x w) >>> (y.toInt32.toInt64 &&& 63)) w
      else 
        if o = (10 : Int32) then fm_Mod_cut st (x <<< (y.toInt32.toInt64 &&& 63)) w
        else (x.toUInt64 >>> (y.toInt32.toInt64.toUInt64 &&& Int64.toUInt64 63)).toInt64
    else 
      if o = (12 : Int32) then fm_Mod_cut st ((fm_Mod_sign st x w) >>> ((63 : Int32).toInt64 &&& 63)) w
      else (0 : Int64)
set_option maxHeartbeats 4000000 in
set_option maxRecDepth 100000 in
theorem km_Mod_shifted (l : Launch) (dC : Nat → ClassId) (dI : Nat → Nat → Nat) (a : Nat → Nat) (k : Nat → ClassId) (st : XS) (o : Int32) (x : Int64) (y : Int64) (w : Int32) : Met l yX10_shifted wsX10_shifted ({ frames := 1, cells := 0, slots := 0, locals := 23 }) (va_Pc [.ref (a 0), .int o, .long x, .long y, .int w] (wl_prR (dC, dI) vwCl (mt k) (mw a k st))) (vp_Sl (fun r9 => r9 = fm_Mod_shifted st o x y w)) 0 0 (fun _ => False) := by
  refine Met.ofW (cc := cX10_shifted) (maxL := 8) (ret := (some .long)) (by decide) rfl ?_
  intro p e s m args below meth c s₁ B hml hv
  obtain ⟨rfl, hP, hK⟩ := hv
  have hx := B.exec
  have hb := B.bytes
  have hr := B.returns
  have hta := aw_hts (atoms_spec (ws := wsX10_shifted) B.pre)
  have hown : s.vm.findClass RX10 = some m.cls := findClass_of_methodNamed B.named
  have hlocks := B.notSynchronized
  have hl := lv_entry ([.ref (a 0), .int o, .long x, .long y, .int w]) (n := 8) (Nat.le_of_ble_eq_true rfl)
  rw [lg_entry_eq]
  generalize (lg_sl ([.ref (a 0), .int o, .long x, .long y, .int w]) ++ List.replicate (8 - (lg_sl ([.ref (a 0), .int o, .long x, .long y, .int w])).length) Slot.unset).toArray = ls at hl ⊢
  have hl : lv_has ls 8 [(0, .ref (a 0)), (1, .int o), (2, .long x), (4, .long y), (6, .int w)] := hl
  generalize hR : fm_Mod_shifted st o x y w = R
  rw [fm_Mod_shifted] at hR
  refine lv_lload hx hb dX10_shifted_0 (lv_at hl 3 rfl) ?_
  refine lv_lconst (v := (0 : Int64)) hx hb dX10_shifted_2 (by decide) ?_
  refine W.lcmp hx hb dX10_shifted_3 ?_
  refine lv_if_lt (tgt := 16) hx hb dX10_shifted_4 (by decide) (fun c4 => ?_) (fun c4 => ?_)
  · skip
    rw [if_pos c4] at hR
    refine lv_iconst (v := (1 : Int32)) hx hb dX10_shifted_16 (by decide) ?_
    refine lv_goto (tgt := 21) hx hb dX10_shifted_17 (by decide) ?_
    refine lv_istore (lv' := [(7, .int (1 : Int32)), (0, .ref (a 0)), (1, .int o), (2, .long x), (4, .long y), (6, .int w)]) hx hb dX10_shifted_21 hl (by decide) rfl (fun ls hl => ?_)
    refine lv_iload_n hx hb dX10_shifted_23 rfl (lv_at hl 2 rfl) ?_
    refine lv_bipush (v := (12 : Int32)) hx hb dX10_shifted_24 (by decide) ?_
    refine lv_icmp_ne (tgt := 57) hx hb dX10_shifted_26 (by decide) (fun c26 => ?_) (fun c26 => ?_)
    · skip
      rw [if_neg c26] at hR
      refine lv_iload hx hb dX10_shifted_57 (lv_at hl 0 rfl) ?_
      refine lv_if_eq (tgt := 64) hx hb dX10_shifted_59 (by decide) (fun c59 => ?_) (fun c59 => ?_)
      · skip
        exact absurd c59 (by decide)
      · skip
        refine lv_lconst (v := (0 : Int64)) hx hb dX10_shifted_62 (by decide) ?_
        exact W.lret (v := (0 : Int64)) hx hb hr (fun t ht hW => ⟨_, rfl, hR, ht⟩) (fun q h => by cases h) dX10_shifted_63
    · skip
      rw [if_pos c26] at hR
      refine lv_aload_n hx hb dX10_shifted_29 rfl (lv_at hl 1 rfl) ?_
      refine lv_aload_n hx hb dX10_shifted_30 rfl (lv_at hl 1 rfl) ?_
      refine lv_lload_n hx hb dX10_shifted_31 rfl (lv_at hl 3 rfl) ?_
      refine lv_iload hx hb dX10_shifted_32 (lv_at hl 5 rfl) ?_
      refine wl_cl (va_runV (As := [.long x, .int w]) (rest := [.ref (a 0)]) ⟨hx, hb, hml, hown, hta⟩ (km_Mod_sign l dC dI a k st x w) (cwV 2 hta gX10_92 rfl rfl rfl (by decide +kernel) ⟨Nat.le_of_ble_eq_true rfl, Nat.le_of_ble_eq_true rfl⟩) (wl_pR (C := RX10) (ci := 8) (q0 := 0) hK hP rfl (mr_0 a k st)) rfl rfl hl.1 rfl (lv_room (Nat.le_of_ble_eq_true rfl)) dX10_shifted_34 ⟨Nat.zero_le _, Nat.zero_le _⟩) ?_
      refine lv_iload hx hb dX10_shifted_37 (lv_at hl 0 rfl) ?_
      refine lv_if_eq (tgt := 47) hx hb dX10_shifted_39 (by decide) (fun c39 => ?_) (fun c39 => ?_)
      · skip
        exact absurd c39 (by decide)
      · skip
        refine lv_bipush (v := (63 : Int32)) hx hb dX10_shifted_42 (by decide) ?_
        refine lv_goto (tgt := 50) hx hb dX10_shifted_44 (by decide) ?_
        refine lv_lshr (v := (fm_Mod_sign st x w) >>> ((63 : Int32).toInt64 &&& 63)) hx hb dX10_shifted_50 rfl ?_
        refine lv_iload hx hb dX10_shifted_51 (lv_at hl 5 rfl) ?_
        refine wl_cl (va_runV (As := [.long ((fm_Mod_sign st x w) >>> ((63 : Int32).toInt64 &&& 63)), .int w]) (rest := []) ⟨hx, hb, hml, hown, hta⟩ (km_Mod_cut l dC dI a k st ((fm_Mod_sign st x w) >>> ((63 : Int32).toInt64 &&& 63)) w) (cwV 2 hta gX10_88 rfl rfl rfl (by decide +kernel) ⟨Nat.le_of_ble_eq_true rfl, Nat.le_of_ble_eq_true rfl⟩) (wl_pR (C := RX10) (ci := 8) (q0 := 0) hK hP rfl (mr_0 a k st)) rfl rfl hl.1 rfl (lv_room (Nat.le_of_ble_eq_true rfl)) dX10_shifted_53 ⟨Nat.zero_le _, Nat.zero_le _⟩) ?_
        exact W.lret (v := fm_Mod_cut st ((fm_Mod_sign st x w) >>> ((63 : Int32).toInt64 &&& 63)) w) hx hb hr (fun t ht hW => ⟨_, rfl, hR, ht⟩) (fun q h => by cases h) dX10_shifted_56
  · skip
    rw [if_neg c4] at hR
    refine lv_lload hx hb dX10_shifted_7 (lv_at hl 3 rfl) ?_
    refine lv_iload hx hb dX10_shifted_9 (lv_at hl 4 rfl) ?_
    refine lv_i2l (v := w.toInt64) hx hb dX10_shifted_11 rfl ?_
    refine W.lcmp hx hb dX10_shifted_12 ?_
    refine lv_if_lt (tgt := 20) hx hb dX10_shifted_13 (by decide) (fun c13 => ?_) (fun c13 => ?_)
    · skip
      rw [if_pos c13] at hR
      refine lv_iconst (v := (0 : Int32)) hx hb dX10_shifted_20 (by decide) ?_
      refine lv_istore (lv' := [(7, .int (0 : Int32)), (0, .ref (a 0)), (1, .int o), (2, .long x), (4, .long y), (6, .int w)]) hx hb dX10_shifted_21 hl (by decide) rfl (fun ls hl => ?_)
      refine lv_iload_n hx hb dX10_shifted_23 rfl (lv_at hl 2 rfl) ?_
      refine lv_bipush (v := (12 : Int32)) hx hb dX10_shifted_24 (by decide) ?_
      refine lv_icmp_ne (tgt := 57) hx hb dX10_shifted_26 (by decide) (fun c26 => ?_) (fun c26 => ?_)
      · skip
        rw [if_neg c26] at hR
        refine lv_iload hx hb dX10_shifted_57 (lv_at hl 0 rfl) ?_
        refine lv_if_eq (tgt := 64) hx hb dX10_shifted_59 (by decide) (fun c59 => ?_) (fun c59 => ?_)
        · skip
          refine lv_iload_n hx hb dX10_shifted_64 rfl (lv_at hl 2 rfl) ?_
          refine lv_bipush (v := (10 : Int32)) hx hb dX10_shifted_65 (by decide) ?_
          refine lv_icmp_ne (tgt := 84) hx hb dX10_shifted_67 (by decide) (fun c67 => ?_) (fun c67 => ?_)
          · skip
            rw [if_neg c67] at hR
            refine lv_lload_n hx hb dX10_shifted_84 rfl (lv_at hl 3 rfl) ?_
            refine lv_lload hx hb dX10_shifted_85 (lv_at hl 4 rfl) ?_
            refine lv_l2i (v := y.toInt32) hx hb dX10_shifted_87 rfl ?_
            refine lv_lushr (v := (x.toUInt64 >>> (y.toInt32.toInt64.toUInt64 &&& Int64.toUInt64 63)).toInt64) hx hb dX10_shifted_88 rfl ?_
            exact W.lret (v := (x.toUInt64 >>> (y.toInt32.toInt64.toUInt64 &&& Int64.toUInt64 63)).toInt64) hx hb hr (fun t ht hW => ⟨_, rfl, hR, ht⟩) (fun q h => by cases h) dX10_shifted_89
          · skip
            rw [if_pos c67] at hR
            refine lv_aload_n hx hb dX10_shifted_70 rfl (lv_at hl 1 rfl) ?_
            refine lv_lload_n hx hb dX10_shifted_71 rfl (lv_at hl 3 rfl) ?_
            refine lv_lload hx hb dX10_shifted_72 (lv_at hl 4 rfl) ?_
            refine lv_l2i (v := y.toInt32) hx hb dX10_shifted_74 rfl ?_
            refine lv_lshl (v := x <<< (y.toInt32.toInt64 &&& 63)) hx hb dX10_shifted_75 rfl ?_
            refine lv_iload hx hb dX10_shifted_76 (lv_at hl 5 rfl) ?_
            refine wl_cl (va_runV (As := [.long (x <<< (y.toInt32.toInt64 &&& 63)), .int w]) (rest := []) ⟨hx, hb, hml, hown, hta⟩ (km_Mod_cut l dC dI a k st (x <<< (y.toInt32.toInt64 &&& 63)) w) (cwV 2 hta gX10_88 rfl rfl rfl (by decide +kernel) ⟨Nat.le_of_ble_eq_true rfl, Nat.le_of_ble_eq_true rfl⟩) (wl_pR (C := RX10) (ci := 8) (q0 := 0) hK hP rfl (mr_0 a k st)) rfl rfl hl.1 rfl (lv_room (Nat.le_of_ble_eq_true rfl)) dX10_shifted_78 ⟨Nat.zero_le _, Nat.zero_le _⟩) ?_
            refine lv_goto (tgt := 89) hx hb dX10_shifted_81 (by decide) ?_
            exact W.lret (v := fm_Mod_cut st (x <<< (y.toInt32.toInt64 &&& 63)) w) hx hb hr (fun t ht hW => ⟨_, rfl, hR, ht⟩) (fun q h => by cases h) dX10_shifted_89
        · skip
          exact absurd c59 (by decide)
      · skip
        rw [if_pos c26] at hR
        refine lv_aload_n hx hb dX10_shifted_29 rfl (lv_at hl 1 rfl) ?_
        refine lv_aload_n hx hb dX10_shifted_30 rfl (lv_at hl 1 rfl) ?_
        refine lv_lload_n hx hb dX10_shifted_31 rfl (lv_at hl 3 rfl) ?_
        refine lv_iload hx hb dX10_shifted_32 (lv_at hl 5 rfl) ?_
        refine wl_cl (va_runV (As := [.long x, .int w]) (rest := [.ref (a 0)]) ⟨hx, hb, hml, hown, hta⟩ (km_Mod_sign l dC dI a k st x w) (cwV 2 hta gX10_92 rfl rfl rfl (by decide +kernel) ⟨Nat.le_of_ble_eq_true rfl, Nat.le_of_ble_eq_true rfl⟩) (wl_pR (C := RX10) (ci := 8) (q0 := 0) hK hP rfl (mr_0 a k st)) rfl rfl hl.1 rfl (lv_room (Nat.le_of_ble_eq_true rfl)) dX10_shifted_34 ⟨Nat.zero_le _, Nat.zero_le _⟩) ?_
        refine lv_iload hx hb dX10_shifted_37 (lv_at hl 0 rfl) ?_
        refine lv_if_eq (tgt := 47) hx hb dX10_shifted_39 (by decide) (fun c39 => ?_) (fun c39 => ?_)
        · skip
          refine lv_lload hx hb dX10_shifted_47 (lv_at hl 4 rfl) ?_
          refine lv_l2i (v := y.toInt32) hx hb dX10_shifted_49 rfl ?_
          refine lv_lshr (v := (fm_Mod_sign st x w) >>> (y.toInt32.toInt64 &&& 63)) hx hb dX10_shifted_50 rfl ?_
          refine lv_iload hx hb dX10_shifted_51 (lv_at hl 5 rfl) ?_
          refine wl_cl (va_runV (As := [.long ((fm_Mod_sign st x w) >>> (y.toInt32.toInt64 &&& 63)), .int w]) (rest := []) ⟨hx, hb, hml, hown, hta⟩ (km_Mod_cut l dC dI a k st ((fm_Mod_sign st x w) >>> (y.toInt32.toInt64 &&& 63)) w) (cwV 2 hta gX10_88 rfl rfl rfl (by decide +kernel) ⟨Nat.le_of_ble_eq_true rfl, Nat.le_of_ble_eq_true rfl⟩) (wl_pR (C := RX10) (ci := 8) (q0 := 0) hK hP rfl (mr_0 a k st)) rfl rfl hl.1 rfl (lv_room (Nat.le_of_ble_eq_true rfl)) dX10_shifted_53 ⟨Nat.zero_le _, Nat.zero_le _⟩) ?_
          exact W.lret (v := fm_Mod_cut st ((fm_Mod_sign st x w) >>> (y.toInt32.toInt64 &&& 63)) w) hx hb hr (fun t ht hW => ⟨_, rfl, hR, ht⟩) (fun q h => by cases h) dX10_shifted_56
        · skip
          exact absurd c39 (by decide)
    · skip
      rw [if_neg c13] at hR
      refine lv_iconst (v := (1 : Int32)) hx hb dX10_shifted_16 (by decide) ?_
      refine lv_goto (tgt := 21) hx hb dX10_shifted_17 (by decide) ?_
      refine lv_istore (lv' := [(7, .int (1 : Int32)), (0, .ref (a 0)), (1, .int o), (2, .long x), (4, .long y), (6, .int w)]) hx hb dX10_shifted_21 hl (by decide) rfl (fun ls hl => ?_)
      refine lv_iload_n hx hb dX10_shifted_23 rfl (lv_at hl 2 rfl) ?_
      refine lv_bipush (v := (12 : Int32)) hx hb dX10_shifted_24 (by decide) ?_
      refine lv_icmp_ne (tgt := 57) hx hb dX10_shifted_26 (by decide) (fun c26 => ?_) (fun c26 => ?_)
      · skip
        rw [if_neg c26] at hR
        refine lv_iload hx hb dX10_shifted_57 (lv_at hl 0 rfl) ?_
        refine lv_if_eq (tgt := 64) hx hb dX10_shifted_59 (by decide) (fun c59 => ?_) (fun c59 => ?_)
        · skip
          exact absurd c59 (by decide)
        · skip
          refine lv_lconst (v := (0 : Int64)) hx hb dX10_shifted_62 (by decide) ?_
          exact W.lret (v := (0 : Int64)) hx hb hr (fun t ht hW => ⟨_, rfl, hR, ht⟩) (fun q h => by cases h) dX10_shifted_63
      · skip
        rw [if_pos c26] at hR
        refine lv_aload_n hx hb dX10_shifted_29 rfl (lv_at hl 1 rfl) ?_
        refine lv_aload_n hx hb dX10_shifted_30 rfl (lv_at hl 1 rfl) ?_
        refine lv_lload_n hx hb dX10_shifted_31 rfl (lv_at hl 3 rfl) ?_
        refine lv_iload hx hb dX10_shifted_32 (lv_at hl 5 rfl) ?_
        refine wl_cl (va_runV (As := [.long x, .int w]) (rest := [.ref (a 0)]) ⟨hx, hb, hml, hown, hta⟩ (km_Mod_sign l dC dI a k st x w) (cwV 2 hta gX10_92 rfl rfl rfl (by decide +kernel) ⟨Nat.le_of_ble_eq_true rfl, Nat.le_of_ble_eq_true rfl⟩) (wl_pR (C := RX10) (ci := 8) (q0 := 0) hK hP rfl (mr_0 a k st)) rfl rfl hl.1 rfl (lv_room (Nat.le_of_ble_eq_true rfl)) dX10_shifted_34 ⟨Nat.zero_le _, Nat.zero_le _⟩) ?_
        refine lv_iload hx hb dX10_shifted_37 (lv_at hl 0 rfl) ?_
        refine lv_if_eq (tgt := 47) hx hb dX10_shifted_39 (by decide) (fun c39 => ?_) (fun c39 => ?_)
        · skip
          exact absurd c39 (by decide)
        · skip
          refine lv_bipush (v := (63 : Int32)) hx hb dX10_shifted_42 (by decide) ?_
          refine lv_goto (tgt := 50) hx hb dX10_shifted_44 (by decide) ?_
          refine lv_lshr (v := (fm_Mod_sign st x w) >>> ((63 : Int32).toInt64 &&& 63)) hx hb dX10_shifted_50 rfl ?_
          refine lv_iload hx hb dX10_shifted_51 (lv_at hl 5 rfl) ?_
          refine wl_cl (va_runV (As := [.long ((fm_Mod_sign st x w) >>> ((63 : Int32).toInt64 &&& 63)), .int w]) (rest := []) ⟨hx, hb, hml, hown, hta⟩ (km_Mod_cut l dC dI a k st ((fm_Mod_sign st x w) >>> ((63 : Int32).toInt64 &&& 63)) w) (cwV 2 hta gX10_88 rfl rfl rfl (by decide +kernel) ⟨Nat.le_of_ble_eq_true rfl, Nat.le_of_ble_eq_true rfl⟩) (wl_pR (C := RX10) (ci := 8) (q0 := 0) hK hP rfl (mr_0 a k st)) rfl rfl hl.1 rfl (lv_room (Nat.le_of_ble_eq_true rfl)) dX10_shifted_53 ⟨Nat.zero_le _, Nat.zero_le _⟩) ?_
          exact W.lret (v := fm_Mod_cut st ((fm_Mod_sign st x w) >>> ((63 : Int32).toInt64 &&& 63)) w) hx hb hr (fun t ht hW => ⟨_, rfl, hR, ht⟩) (fun q h => by cases h) dX10_shifted_56

theorem mw_758 : (.constantLong RX10 97 (-1) : Cond) ∈ AW := List.mem_filter.mpr ⟨List.mem_of_getElem? (i := 758) (by decide +kernel), rfl⟩
theorem mw_759 : (.constantLong RX10 99 (255) : Cond) ∈ AW := List.mem_filter.mpr ⟨List.mem_of_getElem? (i := 759) (by decide +kernel), rfl⟩
theorem mw_763 : (.code yX10_less cX10_less 5 (some .long) : Cond) ∈ AW := List.mem_filter.mpr ⟨List.mem_of_getElem? (i := 763) (by decide +kernel), rfl⟩
theorem mw_760 : (.methodLink RX10 101 yX10_less : Cond) ∈ AW := List.mem_filter.mpr ⟨List.mem_of_getElem? (i := 760) (by decide +kernel), rfl⟩
theorem mw_762 : (.instanceMethod yX10_less : Cond) ∈ AW := List.mem_filter.mpr ⟨List.mem_of_getElem? (i := 762) (by decide +kernel), rfl⟩
theorem mw_27 : (.selects RX10 yX10_less yX10_less : Cond) ∈ AW := List.mem_filter.mpr ⟨List.mem_of_getElem? (i := 27) (by decide +kernel), rfl⟩
theorem mw_768 : (.code yX10_shifted cX10_shifted 8 (some .long) : Cond) ∈ AW := List.mem_filter.mpr ⟨List.mem_of_getElem? (i := 768) (by decide +kernel), rfl⟩
theorem mw_765 : (.methodLink RX10 105 yX10_shifted : Cond) ∈ AW := List.mem_filter.mpr ⟨List.mem_of_getElem? (i := 765) (by decide +kernel), rfl⟩
theorem mw_767 : (.instanceMethod yX10_shifted : Cond) ∈ AW := List.mem_filter.mpr ⟨List.mem_of_getElem? (i := 767) (by decide +kernel), rfl⟩
theorem mw_28 : (.selects RX10 yX10_shifted yX10_shifted : Cond) ∈ AW := List.mem_filter.mpr ⟨List.mem_of_getElem? (i := 28) (by decide +kernel), rfl⟩
theorem gX10_101 : GoodIn AW (wsV RX10 101 RX10 yX10_less wsX10_less) := aw_V mw_760 mw_762 mw_27 mw_46 mw_763
theorem gX10_105 : GoodIn AW (wsV RX10 105 RX10 yX10_shifted wsX10_shifted) := aw_V mw_765 mw_767 mw_28 mw_46 mw_768
theorem dX10_plain_0 : decode cX10_plain 0 = .ok (.iload_n 1, 1) := by decide +kernel
theorem dX10_plain_1 : decode cX10_plain 1 = .ok (.tableswitch 228 0 15 #[79, 91, 100, 105, 110, 115, 126, 137, 148, 166, 228, 228, 228, 182, 195, 203], 79) := by decide +kernel
theorem dX10_plain_80 : decode cX10_plain 80 = .ok (.aload_n 0, 1) := by decide +kernel
theorem dX10_plain_81 : decode cX10_plain 81 = .ok (.lload_n 2, 1) := by decide +kernel
theorem dX10_plain_82 : decode cX10_plain 82 = .ok (.ldc2_w 97, 3) := by decide +kernel
theorem dX10_plain_85 : decode cX10_plain 85 = .ok (.lxor, 1) := by decide +kernel
theorem dX10_plain_86 : decode cX10_plain 86 = .ok (.iload 6, 2) := by decide +kernel
theorem dX10_plain_88 : decode cX10_plain 88 = .ok (.invokevirtual 88, 3) := by decide +kernel
theorem dX10_plain_91 : decode cX10_plain 91 = .ok (.lreturn, 1) := by decide +kernel
theorem dX10_plain_92 : decode cX10_plain 92 = .ok (.aload_n 0, 1) := by decide +kernel
theorem dX10_plain_93 : decode cX10_plain 93 = .ok (.lload_n 2, 1) := by decide +kernel
theorem dX10_plain_94 : decode cX10_plain 94 = .ok (.lneg, 1) := by decide +kernel
theorem dX10_plain_95 : decode cX10_plain 95 = .ok (.iload 6, 2) := by decide +kernel
theorem dX10_plain_97 : decode cX10_plain 97 = .ok (.invokevirtual 88, 3) := by decide +kernel
theorem dX10_plain_100 : decode cX10_plain 100 = .ok (.lreturn, 1) := by decide +kernel
theorem dX10_plain_101 : decode cX10_plain 101 = .ok (.lload_n 2, 1) := by decide +kernel
theorem dX10_plain_102 : decode cX10_plain 102 = .ok (.lload 4, 2) := by decide +kernel
theorem dX10_plain_104 : decode cX10_plain 104 = .ok (.land, 1) := by decide +kernel
theorem dX10_plain_105 : decode cX10_plain 105 = .ok (.lreturn, 1) := by decide +kernel
theorem dX10_plain_106 : decode cX10_plain 106 = .ok (.lload_n 2, 1) := by decide +kernel
theorem dX10_plain_107 : decode cX10_plain 107 = .ok (.lload 4, 2) := by decide +kernel
theorem dX10_plain_109 : decode cX10_plain 109 = .ok (.lor, 1) := by decide +kernel
theorem dX10_plain_110 : decode cX10_plain 110 = .ok (.lreturn, 1) := by decide +kernel
theorem dX10_plain_111 : decode cX10_plain 111 = .ok (.lload_n 2, 1) := by decide +kernel
theorem dX10_plain_112 : decode cX10_plain 112 = .ok (.lload 4, 2) := by decide +kernel
theorem dX10_plain_114 : decode cX10_plain 114 = .ok (.lxor, 1) := by decide +kernel
theorem dX10_plain_115 : decode cX10_plain 115 = .ok (.lreturn, 1) := by decide +kernel
theorem dX10_plain_116 : decode cX10_plain 116 = .ok (.aload_n 0, 1) := by decide +kernel
theorem dX10_plain_117 : decode cX10_plain 117 = .ok (.lload_n 2, 1) := by decide +kernel
theorem dX10_plain_118 : decode cX10_plain 118 = .ok (.lload 4, 2) := by decide +kernel
theorem dX10_plain_120 : decode cX10_plain 120 = .ok (.ladd, 1) := by decide +kernel
theorem dX10_plain_121 : decode cX10_plain 121 = .ok (.iload 6, 2) := by decide +kernel
theorem dX10_plain_123 : decode cX10_plain 123 = .ok (.invokevirtual 88, 3) := by decide +kernel
theorem dX10_plain_126 : decode cX10_plain 126 = .ok (.lreturn, 1) := by decide +kernel
theorem dX10_plain_127 : decode cX10_plain 127 = .ok (.aload_n 0, 1) := by decide +kernel
theorem dX10_plain_128 : decode cX10_plain 128 = .ok (.lload_n 2, 1) := by decide +kernel
theorem dX10_plain_129 : decode cX10_plain 129 = .ok (.lload 4, 2) := by decide +kernel
theorem dX10_plain_131 : decode cX10_plain 131 = .ok (.lsub, 1) := by decide +kernel
theorem dX10_plain_132 : decode cX10_plain 132 = .ok (.iload 6, 2) := by decide +kernel
theorem dX10_plain_134 : decode cX10_plain 134 = .ok (.invokevirtual 88, 3) := by decide +kernel
theorem dX10_plain_137 : decode cX10_plain 137 = .ok (.lreturn, 1) := by decide +kernel
theorem dX10_plain_138 : decode cX10_plain 138 = .ok (.aload_n 0, 1) := by decide +kernel
theorem dX10_plain_139 : decode cX10_plain 139 = .ok (.lload_n 2, 1) := by decide +kernel
theorem dX10_plain_140 : decode cX10_plain 140 = .ok (.lload 4, 2) := by decide +kernel
theorem dX10_plain_142 : decode cX10_plain 142 = .ok (.lmul, 1) := by decide +kernel
theorem dX10_plain_143 : decode cX10_plain 143 = .ok (.iload 6, 2) := by decide +kernel
theorem dX10_plain_145 : decode cX10_plain 145 = .ok (.invokevirtual 88, 3) := by decide +kernel
theorem dX10_plain_148 : decode cX10_plain 148 = .ok (.lreturn, 1) := by decide +kernel
theorem dX10_plain_149 : decode cX10_plain 149 = .ok (.lload 4, 2) := by decide +kernel
theorem dX10_plain_151 : decode cX10_plain 151 = .ok (.lconst 0, 1) := by decide +kernel
theorem dX10_plain_152 : decode cX10_plain 152 = .ok (.lcmp, 1) := by decide +kernel
theorem dX10_plain_153 : decode cX10_plain 153 = .ok (.ifCond .ne 9, 3) := by decide +kernel
theorem dX10_plain_156 : decode cX10_plain 156 = .ok (.ldc2_w 99, 3) := by decide +kernel
theorem dX10_plain_159 : decode cX10_plain 159 = .ok (.goto 7, 3) := by decide +kernel
theorem dX10_plain_162 : decode cX10_plain 162 = .ok (.lload_n 2, 1) := by decide +kernel
theorem dX10_plain_163 : decode cX10_plain 163 = .ok (.lload 4, 2) := by decide +kernel
theorem dX10_plain_165 : decode cX10_plain 165 = .ok (.ldiv, 1) := by decide +kernel
theorem dX10_plain_166 : decode cX10_plain 166 = .ok (.lreturn, 1) := by decide +kernel
theorem dX10_plain_167 : decode cX10_plain 167 = .ok (.lload 4, 2) := by decide +kernel
theorem dX10_plain_169 : decode cX10_plain 169 = .ok (.lconst 0, 1) := by decide +kernel
theorem dX10_plain_170 : decode cX10_plain 170 = .ok (.lcmp, 1) := by decide +kernel
theorem dX10_plain_171 : decode cX10_plain 171 = .ok (.ifCond .ne 7, 3) := by decide +kernel
theorem dX10_plain_174 : decode cX10_plain 174 = .ok (.lload_n 2, 1) := by decide +kernel
theorem dX10_plain_175 : decode cX10_plain 175 = .ok (.goto 7, 3) := by decide +kernel
theorem dX10_plain_178 : decode cX10_plain 178 = .ok (.lload_n 2, 1) := by decide +kernel
theorem dX10_plain_179 : decode cX10_plain 179 = .ok (.lload 4, 2) := by decide +kernel
theorem dX10_plain_181 : decode cX10_plain 181 = .ok (.lrem, 1) := by decide +kernel
theorem dX10_plain_182 : decode cX10_plain 182 = .ok (.lreturn, 1) := by decide +kernel
theorem dX10_plain_183 : decode cX10_plain 183 = .ok (.lload_n 2, 1) := by decide +kernel
theorem dX10_plain_184 : decode cX10_plain 184 = .ok (.lload 4, 2) := by decide +kernel
theorem dX10_plain_186 : decode cX10_plain 186 = .ok (.lcmp, 1) := by decide +kernel
theorem dX10_plain_187 : decode cX10_plain 187 = .ok (.ifCond .ne 7, 3) := by decide +kernel
theorem dX10_plain_190 : decode cX10_plain 190 = .ok (.lconst 1, 1) := by decide +kernel
theorem dX10_plain_191 : decode cX10_plain 191 = .ok (.goto 4, 3) := by decide +kernel
theorem dX10_plain_194 : decode cX10_plain 194 = .ok (.lconst 0, 1) := by decide +kernel
theorem dX10_plain_195 : decode cX10_plain 195 = .ok (.lreturn, 1) := by decide +kernel
theorem dX10_plain_196 : decode cX10_plain 196 = .ok (.aload_n 0, 1) := by decide +kernel
theorem dX10_plain_197 : decode cX10_plain 197 = .ok (.lload_n 2, 1) := by decide +kernel
theorem dX10_plain_198 : decode cX10_plain 198 = .ok (.lload 4, 2) := by decide +kernel
theorem dX10_plain_200 : decode cX10_plain 200 = .ok (.invokevirtual 101, 3) := by decide +kernel
theorem dX10_plain_203 : decode cX10_plain 203 = .ok (.lreturn, 1) := by decide +kernel
theorem dX10_plain_204 : decode cX10_plain 204 = .ok (.aload_n 0, 1) := by decide +kernel
theorem dX10_plain_205 : decode cX10_plain 205 = .ok (.lload_n 2, 1) := by decide +kernel
theorem dX10_plain_206 : decode cX10_plain 206 = .ok (.iload 6, 2) := by decide +kernel
theorem dX10_plain_208 : decode cX10_plain 208 = .ok (.invokevirtual 92, 3) := by decide +kernel
theorem dX10_plain_211 : decode cX10_plain 211 = .ok (.aload_n 0, 1) := by decide +kernel
theorem dX10_plain_212 : decode cX10_plain 212 = .ok (.lload 4, 2) := by decide +kernel
theorem dX10_plain_214 : decode cX10_plain 214 = .ok (.iload 6, 2) := by decide +kernel
theorem dX10_plain_216 : decode cX10_plain 216 = .ok (.invokevirtual 92, 3) := by decide +kernel
theorem dX10_plain_219 : decode cX10_plain 219 = .ok (.lcmp, 1) := by decide +kernel
theorem dX10_plain_220 : decode cX10_plain 220 = .ok (.ifCond .ge 7, 3) := by decide +kernel
theorem dX10_plain_223 : decode cX10_plain 223 = .ok (.lconst 1, 1) := by decide +kernel
theorem dX10_plain_224 : decode cX10_plain 224 = .ok (.goto 4, 3) := by decide +kernel
theorem dX10_plain_227 : decode cX10_plain 227 = .ok (.lconst 0, 1) := by decide +kernel
theorem dX10_plain_228 : decode cX10_plain 228 = .ok (.lreturn, 1) := by decide +kernel
theorem dX10_plain_229 : decode cX10_plain 229 = .ok (.aload_n 0, 1) := by decide +kernel
theorem dX10_plain_230 : decode cX10_plain 230 = .ok (.iload_n 1, 1) := by decide +kernel
theorem dX10_plain_231 : decode cX10_plain 231 = .ok (.lload_n 2, 1) := by decide +kernel
theorem dX10_plain_232 : decode cX10_plain 232 = .ok (.lload 4, 2) := by decide +kernel
theorem dX10_plain_234 : decode cX10_plain 234 = .ok (.iload 6, 2) := by decide +kernel
theorem dX10_plain_236 : decode cX10_plain 236 = .ok (.invokevirtual 105, 3) := by decide +kernel
theorem dX10_plain_239 : decode cX10_plain 239 = .ok (.lreturn, 1) := by decide +kernel
def fm_Mod_plain (st : XS) (o : Int32) (x : Int64) (y : Int64) (w : Int32) : Int64 := 
  if o = (0 : Int32) then fm_Mod_cut st (x ^^^ (-1 : Int64)) w
  else 
    if o = (1 : Int32) then fm_Mod_cut st (-x) w
    else 
      if o = (2 : Int32) then x &&& y
      else 
        if o = (3 : Int32) then x ||| y
        else 
          if o = (4 : Int32) then x ^^^ y
          else 
            if o = (5 : Int32) then fm_Mod_cut st (x + y) w
            else 
              if o = (6 : Int32) then fm_Mod_cut st (x - y) w
              else 
                if o = (7 : Int32) then fm_Mod_cut st (x * y) w
                else 
                  if o = (8 : Int32) then 
                    if lg_cmp y (0 : Int64) = (0 : Int32) then (255 : Int64)
                    else x / y
                  else 
                    if o = (9 : Int32) then 
                      if lg_cmp y (0 : Int64) = (0 : Int32) then x
                      else x - x / y * y
                    else 
                      if o = (13 : Int32) then 
                        if lg_cmp x y = (0 : Int32) then (1 : Int64)
                        else (0 : Int64)
                      else 
                        if o = (14 : Int32) then fm_Mod_less st x y
                        else 
                          if o = (15 : Int32) then 
                            if (0 : Int32) ≤ lg_cmp (fm_Mod_sign st x w) (fm_Mod_sign st y w) then (0 : Int64)
                            else (1 : Int64)
                          else fm_Mod_shifted st o x y w
set_option maxHeartbeats 4000000 in
set_option maxRecDepth 100000 in
theorem km_Mod_plain (l : Launch) (dC : Nat → ClassId) (dI : Nat → Nat → Nat) (a : Nat → Nat) (k : Nat → ClassId) (st : XS) (o : Int32) (x : Int64) (y : Int64) (w : Int32) : Met l yX10_plain wsX10_plain ({ frames := 2, cells := 0, slots := 0, locals := 50 }) (va_Pc [.ref (a 0), .int o, .long x, .long y, .int w] (wl_prR (dC, dI) vwCl (mt k) (mw a k st))) (vp_Sl (fun r9 => r9 = fm_Mod_plain st o x y w)) 0 0 (fun _ => False) := by
  refine Met.ofW (cc := cX10_plain) (maxL := 7) (ret := (some .long)) (by decide) rfl ?_
  intro p e s m args below meth c s₁ B hml hv
  obtain ⟨rfl, hP, hK⟩ := hv
  have hx := B.exec
  have hb := B.bytes
  have hr := B.returns
  have hta := aw_hts (atoms_spec (ws := wsX10_plain) B.pre)
  have hown : s.vm.findClass RX10 = some m.cls := findClass_of_methodNamed B.named
  have hlocks := B.notSynchronized
  have hc97 := hta _ mw_758
  have hc99 := hta _ mw_759
  have hl := lv_entry ([.ref (a 0), .int o, .long x, .long y, .int w]) (n := 7) (Nat.le_of_ble_eq_true rfl)
  rw [lg_entry_eq]
  generalize (lg_sl ([.ref (a 0), .int o, .long x, .long y, .int w]) ++ List.replicate (7 - (lg_sl ([.ref (a 0), .int o, .long x, .long y, .int w])).length) Slot.unset).toArray = ls at hl ⊢
  have hl : lv_has ls 7 [(0, .ref (a 0)), (1, .int o), (2, .long x), (4, .long y), (6, .int w)] := hl
  generalize hR : fm_Mod_plain st o x y w = R
  rw [fm_Mod_plain] at hR
  refine lv_iload_n hx hb dX10_plain_0 rfl (lv_at hl 1 rfl) ?_
  by_cases c1_0 : o = (0 : Int32)
  · skip
    rw [if_pos c1_0] at hR
    refine lv_tableIn (tgt := 80) hx hb dX10_plain_1 (by rw [c1_0]; decide) (by rw [c1_0]; decide) (by rw [c1_0] <;> rfl) (by decide) ?_
    refine lv_aload_n hx hb dX10_plain_80 rfl (lv_at hl 0 rfl) ?_
    refine lv_lload_n hx hb dX10_plain_81 rfl (lv_at hl 2 rfl) ?_
    refine lv_ldc2 (v := (-1 : Int64)) hx hb hown hc97 dX10_plain_82 ?_
    refine lv_lxor hx hb dX10_plain_85 ?_
    refine lv_iload hx hb dX10_plain_86 (lv_at hl 4 rfl) ?_
    refine wl_cl (va_runV (As := [.long (x ^^^ (-1 : Int64)), .int w]) (rest := []) ⟨hx, hb, hml, hown, hta⟩ (km_Mod_cut l dC dI a k st (x ^^^ (-1 : Int64)) w) (cwV 2 hta gX10_88 rfl rfl rfl (by decide +kernel) ⟨Nat.le_of_ble_eq_true rfl, Nat.le_of_ble_eq_true rfl⟩) (wl_pR (C := RX10) (ci := 8) (q0 := 0) hK hP rfl (mr_0 a k st)) rfl rfl hl.1 rfl (lv_room (Nat.le_of_ble_eq_true rfl)) dX10_plain_88 ⟨Nat.zero_le _, Nat.zero_le _⟩) ?_
    exact W.lret (v := fm_Mod_cut st (x ^^^ (-1 : Int64)) w) hx hb hr (fun t ht hW => ⟨_, rfl, hR, ht⟩) (fun q h => by cases h) dX10_plain_91
  · skip
    rw [if_neg c1_0] at hR
    by_cases c1_1 : o = (1 : Int32)
    · skip
      rw [if_pos c1_1] at hR
      refine lv_tableIn (tgt := 92) hx hb dX10_plain_1 (by rw [c1_1]; decide) (by rw [c1_1]; decide) (by rw [c1_1] <;> rfl) (by decide) ?_
      refine lv_aload_n hx hb dX10_plain_92 rfl (lv_at hl 0 rfl) ?_
      refine lv_lload_n hx hb dX10_plain_93 rfl (lv_at hl 2 rfl) ?_
      refine lv_lneg hx hb dX10_plain_94 ?_
      refine lv_iload hx hb dX10_plain_95 (lv_at hl 4 rfl) ?_
      refine wl_cl (va_runV (As := [.long (-x), .int w]) (rest := []) ⟨hx, hb, hml, hown, hta⟩ (km_Mod_cut l dC dI a k st (-x) w) (cwV 2 hta gX10_88 rfl rfl rfl (by decide +kernel) ⟨Nat.le_of_ble_eq_true rfl, Nat.le_of_ble_eq_true rfl⟩) (wl_pR (C := RX10) (ci := 8) (q0 := 0) hK hP rfl (mr_0 a k st)) rfl rfl hl.1 rfl (lv_room (Nat.le_of_ble_eq_true rfl)) dX10_plain_97 ⟨Nat.zero_le _, Nat.zero_le _⟩) ?_
      exact W.lret (v := fm_Mod_cut st (-x) w) hx hb hr (fun t ht hW => ⟨_, rfl, hR, ht⟩) (fun q h => by cases h) dX10_plain_100
    · skip
      rw [if_neg c1_1] at hR
      by_cases c1_2 : o = (2 : Int32)
      · skip
        rw [if_pos c1_2] at hR
        refine lv_tableIn (tgt := 101) hx hb dX10_plain_1 (by rw [c1_2]; decide) (by rw [c1_2]; decide) (by rw [c1_2] <;> rfl) (by decide) ?_
        refine lv_lload_n hx hb dX10_plain_101 rfl (lv_at hl 2 rfl) ?_
        refine lv_lload hx hb dX10_plain_102 (lv_at hl 3 rfl) ?_
        refine lv_land hx hb dX10_plain_104 ?_
        exact W.lret (v := x &&& y) hx hb hr (fun t ht hW => ⟨_, rfl, hR, ht⟩) (fun q h => by cases h) dX10_plain_105
      · skip
        rw [if_neg c1_2] at hR
        by_cases c1_3 : o = (3 : Int32)
        · skip
          rw [if_pos c1_3] at hR
          refine lv_tableIn (tgt := 106) hx hb dX10_plain_1 (by rw [c1_3]; decide) (by rw [c1_3]; decide) (by rw [c1_3] <;> rfl) (by decide) ?_
          refine lv_lload_n hx hb dX10_plain_106 rfl (lv_at hl 2 rfl) ?_
          refine lv_lload hx hb dX10_plain_107 (lv_at hl 3 rfl) ?_
          refine lv_lor hx hb dX10_plain_109 ?_
          exact W.lret (v := x ||| y) hx hb hr (fun t ht hW => ⟨_, rfl, hR, ht⟩) (fun q h => by cases h) dX10_plain_110
        · skip
          rw [if_neg c1_3] at hR
          by_cases c1_4 : o = (4 : Int32)
          · skip
            rw [if_pos c1_4] at hR
            refine lv_tableIn (tgt := 111) hx hb dX10_plain_1 (by rw [c1_4]; decide) (by rw [c1_4]; decide) (by rw [c1_4] <;> rfl) (by decide) ?_
            refine lv_lload_n hx hb dX10_plain_111 rfl (lv_at hl 2 rfl) ?_
            refine lv_lload hx hb dX10_plain_112 (lv_at hl 3 rfl) ?_
            refine lv_lxor hx hb dX10_plain_114 ?_
            exact W.lret (v := x ^^^ y) hx hb hr (fun t ht hW => ⟨_, rfl, hR, ht⟩) (fun q h => by cases h) dX10_plain_115
          · skip
            rw [if_neg c1_4] at hR
            by_cases c1_5 : o = (5 : Int32)
            · skip
              rw [if_pos c1_5] at hR
              refine lv_tableIn (tgt := 116) hx hb dX10_plain_1 (by rw [c1_5]; decide) (by rw [c1_5]; decide) (by rw [c1_5] <;> rfl) (by decide) ?_
              refine lv_aload_n hx hb dX10_plain_116 rfl (lv_at hl 0 rfl) ?_
              refine lv_lload_n hx hb dX10_plain_117 rfl (lv_at hl 2 rfl) ?_
              refine lv_lload hx hb dX10_plain_118 (lv_at hl 3 rfl) ?_
              refine lv_ladd hx hb dX10_plain_120 ?_
              refine lv_iload hx hb dX10_plain_121 (lv_at hl 4 rfl) ?_
              refine wl_cl (va_runV (As := [.long (x + y), .int w]) (rest := []) ⟨hx, hb, hml, hown, hta⟩ (km_Mod_cut l dC dI a k st (x + y) w) (cwV 2 hta gX10_88 rfl rfl rfl (by decide +kernel) ⟨Nat.le_of_ble_eq_true rfl, Nat.le_of_ble_eq_true rfl⟩) (wl_pR (C := RX10) (ci := 8) (q0 := 0) hK hP rfl (mr_0 a k st)) rfl rfl hl.1 rfl (lv_room (Nat.le_of_ble_eq_true rfl)) dX10_plain_123 ⟨Nat.zero_le _, Nat.zero_le _⟩) ?_
              exact W.lret (v := fm_Mod_cut st (x + y) w) hx hb hr (fun t ht hW => ⟨_, rfl, hR, ht⟩) (fun q h => by cases h) dX10_plain_126
            · skip
              rw [if_neg c1_5] at hR
              by_cases c1_6 : o = (6 : Int32)
              · skip
                rw [if_pos c1_6] at hR
                refine lv_tableIn (tgt := 127) hx hb dX10_plain_1 (by rw [c1_6]; decide) (by rw [c1_6]; decide) (by rw [c1_6] <;> rfl) (by decide) ?_
                refine lv_aload_n hx hb dX10_plain_127 rfl (lv_at hl 0 rfl) ?_
                refine lv_lload_n hx hb dX10_plain_128 rfl (lv_at hl 2 rfl) ?_
                refine lv_lload hx hb dX10_plain_129 (lv_at hl 3 rfl) ?_
                refine lv_lsub hx hb dX10_plain_131 ?_
                refine lv_iload hx hb dX10_plain_132 (lv_at hl 4 rfl) ?_
                refine wl_cl (va_runV (As := [.long (x - y), .int w]) (rest := []) ⟨hx, hb, hml, hown, hta⟩ (km_Mod_cut l dC dI a k st (x - y) w) (cwV 2 hta gX10_88 rfl rfl rfl (by decide +kernel) ⟨Nat.le_of_ble_eq_true rfl, Nat.le_of_ble_eq_true rfl⟩) (wl_pR (C := RX10) (ci := 8) (q0 := 0) hK hP rfl (mr_0 a k st)) rfl rfl hl.1 rfl (lv_room (Nat.le_of_ble_eq_true rfl)) dX10_plain_134 ⟨Nat.zero_le _, Nat.zero_le _⟩) ?_
                exact W.lret (v := fm_Mod_cut st (x - y) w) hx hb hr (fun t ht hW => ⟨_, rfl, hR, ht⟩) (fun q h => by cases h) dX10_plain_137
              · skip
                rw [if_neg c1_6] at hR
                by_cases c1_7 : o = (7 : Int32)
                · skip
                  rw [if_pos c1_7] at hR
                  refine lv_tableIn (tgt := 138) hx hb dX10_plain_1 (by rw [c1_7]; decide) (by rw [c1_7]; decide) (by rw [c1_7] <;> rfl) (by decide) ?_
                  refine lv_aload_n hx hb dX10_plain_138 rfl (lv_at hl 0 rfl) ?_
                  refine lv_lload_n hx hb dX10_plain_139 rfl (lv_at hl 2 rfl) ?_
                  refine lv_lload hx hb dX10_plain_140 (lv_at hl 3 rfl) ?_
                  refine lv_lmul hx hb dX10_plain_142 ?_
                  refine lv_iload hx hb dX10_plain_143 (lv_at hl 4 rfl) ?_
                  refine wl_cl (va_runV (As := [.long (x * y), .int w]) (rest := []) ⟨hx, hb, hml, hown, hta⟩ (km_Mod_cut l dC dI a k st (x * y) w) (cwV 2 hta gX10_88 rfl rfl rfl (by decide +kernel) ⟨Nat.le_of_ble_eq_true rfl, Nat.le_of_ble_eq_true rfl⟩) (wl_pR (C := RX10) (ci := 8) (q0 := 0) hK hP rfl (mr_0 a k st)) rfl rfl hl.1 rfl (lv_room (Nat.le_of_ble_eq_true rfl)) dX10_plain_145 ⟨Nat.zero_le _, Nat.zero_le _⟩) ?_
                  exact W.lret (v := fm_Mod_cut st (x * y) w) hx hb hr (fun t ht hW => ⟨_, rfl, hR, ht⟩) (fun q h => by cases h) dX10_plain_148
                · skip
                  rw [if_neg c1_7] at hR
                  by_cases c1_8 : o = (8 : Int32)
                  · skip
                    rw [if_pos c1_8] at hR
                    refine lv_tableIn (tgt := 149) hx hb dX10_plain_1 (by rw [c1_8]; decide) (by rw [c1_8]; decide) (by rw [c1_8] <;> rfl) (by decide) ?_
                    refine lv_lload hx hb dX10_plain_149 (lv_at hl 3 rfl) ?_
                    refine lv_lconst (v := (0 : Int64)) hx hb dX10_plain_151 (by decide) ?_
                    refine W.lcmp hx hb dX10_plain_152 ?_
                    refine lv_if_ne (tgt := 162) hx hb dX10_plain_153 (by decide) (fun c153 => ?_) (fun c153 => ?_)
                    · skip
                      rw [if_neg c153] at hR
                      refine lv_lload_n hx hb dX10_plain_162 rfl (lv_at hl 2 rfl) ?_
                      refine lv_lload hx hb dX10_plain_163 (lv_at hl 3 rfl) ?_
                      refine lv_ldiv hx hb dX10_plain_165 (fun h => c153 ((lg_cmp_eq _ _).mpr h)) ?_
                      exact W.lret (v := x / y) hx hb hr (fun t ht hW => ⟨_, rfl, hR, ht⟩) (fun q h => by cases h) dX10_plain_166
                    · skip
                      rw [if_pos c153] at hR
                      refine lv_ldc2 (v := (255 : Int64)) hx hb hown hc99 dX10_plain_156 ?_
                      refine lv_goto (tgt := 166) hx hb dX10_plain_159 (by decide) ?_
                      exact W.lret (v := (255 : Int64)) hx hb hr (fun t ht hW => ⟨_, rfl, hR, ht⟩) (fun q h => by cases h) dX10_plain_166
                  · skip
                    rw [if_neg c1_8] at hR
                    by_cases c1_9 : o = (9 : Int32)
                    · skip
                      rw [if_pos c1_9] at hR
                      refine lv_tableIn (tgt := 167) hx hb dX10_plain_1 (by rw [c1_9]; decide) (by rw [c1_9]; decide) (by rw [c1_9] <;> rfl) (by decide) ?_
                      refine lv_lload hx hb dX10_plain_167 (lv_at hl 3 rfl) ?_
                      refine lv_lconst (v := (0 : Int64)) hx hb dX10_plain_169 (by decide) ?_
                      refine W.lcmp hx hb dX10_plain_170 ?_
                      refine lv_if_ne (tgt := 178) hx hb dX10_plain_171 (by decide) (fun c171 => ?_) (fun c171 => ?_)
                      · skip
                        rw [if_neg c171] at hR
                        refine lv_lload_n hx hb dX10_plain_178 rfl (lv_at hl 2 rfl) ?_
                        refine lv_lload hx hb dX10_plain_179 (lv_at hl 3 rfl) ?_
                        refine lv_lrem hx hb dX10_plain_181 (fun h => c171 ((lg_cmp_eq _ _).mpr h)) ?_
                        exact W.lret (v := x - x / y * y) hx hb hr (fun t ht hW => ⟨_, rfl, hR, ht⟩) (fun q h => by cases h) dX10_plain_182
                      · skip
                        rw [if_pos c171] at hR
                        refine lv_lload_n hx hb dX10_plain_174 rfl (lv_at hl 2 rfl) ?_
                        refine lv_goto (tgt := 182) hx hb dX10_plain_175 (by decide) ?_
                        exact W.lret (v := x) hx hb hr (fun t ht hW => ⟨_, rfl, hR, ht⟩) (fun q h => by cases h) dX10_plain_182
                    · skip
                      rw [if_neg c1_9] at hR
                      by_cases c1_13 : o = (13 : Int32)
                      · skip
                        rw [if_pos c1_13] at hR
                        refine lv_tableIn (tgt := 183) hx hb dX10_plain_1 (by rw [c1_13]; decide) (by rw [c1_13]; decide) (by rw [c1_13] <;> rfl) (by decide) ?_
                        refine lv_lload_n hx hb dX10_plain_183 rfl (lv_at hl 2 rfl) ?_
                        refine lv_lload hx hb dX10_plain_184 (lv_at hl 3 rfl) ?_
                        refine W.lcmp hx hb dX10_plain_186 ?_
                        refine lv_if_ne (tgt := 194) hx hb dX10_plain_187 (by decide) (fun c187 => ?_) (fun c187 => ?_)
                        · skip
                          rw [if_neg c187] at hR
                          refine lv_lconst (v := (0 : Int64)) hx hb dX10_plain_194 (by decide) ?_
                          exact W.lret (v := (0 : Int64)) hx hb hr (fun t ht hW => ⟨_, rfl, hR, ht⟩) (fun q h => by cases h) dX10_plain_195
                        · skip
                          rw [if_pos c187] at hR
                          refine lv_lconst (v := (1 : Int64)) hx hb dX10_plain_190 (by decide) ?_
                          refine lv_goto (tgt := 195) hx hb dX10_plain_191 (by decide) ?_
                          exact W.lret (v := (1 : Int64)) hx hb hr (fun t ht hW => ⟨_, rfl, hR, ht⟩) (fun q h => by cases h) dX10_plain_195
                      · skip
                        rw [if_neg c1_13] at hR
                        by_cases c1_14 : o = (14 : Int32)
                        · skip
                          rw [if_pos c1_14] at hR
                          refine lv_tableIn (tgt := 196) hx hb dX10_plain_1 (by rw [c1_14]; decide) (by rw [c1_14]; decide) (by rw [c1_14] <;> rfl) (by decide) ?_
                          refine lv_aload_n hx hb dX10_plain_196 rfl (lv_at hl 0 rfl) ?_
                          refine lv_lload_n hx hb dX10_plain_197 rfl (lv_at hl 2 rfl) ?_
                          refine lv_lload hx hb dX10_plain_198 (lv_at hl 3 rfl) ?_
                          refine wl_cl (va_runV (As := [.long x, .long y]) (rest := []) ⟨hx, hb, hml, hown, hta⟩ (km_Mod_less l dC dI a k st x y) (cwV 2 hta gX10_101 rfl rfl rfl (by decide +kernel) ⟨Nat.le_of_ble_eq_true rfl, Nat.le_of_ble_eq_true rfl⟩) (wl_pR (C := RX10) (ci := 8) (q0 := 0) hK hP rfl (mr_0 a k st)) rfl rfl hl.1 rfl (lv_room (Nat.le_of_ble_eq_true rfl)) dX10_plain_200 ⟨Nat.zero_le _, Nat.zero_le _⟩) ?_
                          exact W.lret (v := fm_Mod_less st x y) hx hb hr (fun t ht hW => ⟨_, rfl, hR, ht⟩) (fun q h => by cases h) dX10_plain_203
                        · skip
                          rw [if_neg c1_14] at hR
                          by_cases c1_15 : o = (15 : Int32)
                          · skip
                            rw [if_pos c1_15] at hR
                            refine lv_tableIn (tgt := 204) hx hb dX10_plain_1 (by rw [c1_15]; decide) (by rw [c1_15]; decide) (by rw [c1_15] <;> rfl) (by decide) ?_
                            refine lv_aload_n hx hb dX10_plain_204 rfl (lv_at hl 0 rfl) ?_
                            refine lv_lload_n hx hb dX10_plain_205 rfl (lv_at hl 2 rfl) ?_
                            refine lv_iload hx hb dX10_plain_206 (lv_at hl 4 rfl) ?_
                            refine wl_cl (va_runV (As := [.long x, .int w]) (rest := []) ⟨hx, hb, hml, hown, hta⟩ (km_Mod_sign l dC dI a k st x w) (cwV 2 hta gX10_92 rfl rfl rfl (by decide +kernel) ⟨Nat.le_of_ble_eq_true rfl, Nat.le_of_ble_eq_true rfl⟩) (wl_pR (C := RX10) (ci := 8) (q0 := 0) hK hP rfl (mr_0 a k st)) rfl rfl hl.1 rfl (lv_room (Nat.le_of_ble_eq_true rfl)) dX10_plain_208 ⟨Nat.zero_le _, Nat.zero_le _⟩) ?_
                            refine lv_aload_n hx hb dX10_plain_211 rfl (lv_at hl 0 rfl) ?_
                            refine lv_lload hx hb dX10_plain_212 (lv_at hl 3 rfl) ?_
                            refine lv_iload hx hb dX10_plain_214 (lv_at hl 4 rfl) ?_
                            refine wl_cl (va_runV (As := [.long y, .int w]) (rest := [.long (fm_Mod_sign st x w)]) ⟨hx, hb, hml, hown, hta⟩ (km_Mod_sign l dC dI a k st y w) (cwV 2 hta gX10_92 rfl rfl rfl (by decide +kernel) ⟨Nat.le_of_ble_eq_true rfl, Nat.le_of_ble_eq_true rfl⟩) (wl_pR (C := RX10) (ci := 8) (q0 := 0) hK hP rfl (mr_0 a k st)) rfl rfl hl.1 rfl (lv_room (Nat.le_of_ble_eq_true rfl)) dX10_plain_216 ⟨Nat.zero_le _, Nat.zero_le _⟩) ?_
                            refine W.lcmp hx hb dX10_plain_219 ?_
                            refine lv_if_ge (tgt := 227) hx hb dX10_plain_220 (by decide) (fun c220 => ?_) (fun c220 => ?_)
                            · skip
                              rw [if_pos c220] at hR
                              refine lv_lconst (v := (0 : Int64)) hx hb dX10_plain_227 (by decide) ?_
                              exact W.lret (v := (0 : Int64)) hx hb hr (fun t ht hW => ⟨_, rfl, hR, ht⟩) (fun q h => by cases h) dX10_plain_228
                            · skip
                              rw [if_neg c220] at hR
                              refine lv_lconst (v := (1 : Int64)) hx hb dX10_plain_223 (by decide) ?_
                              refine lv_goto (tgt := 228) hx hb dX10_plain_224 (by decide) ?_
                              exact W.lret (v := (1 : Int64)) hx hb hr (fun t ht hW => ⟨_, rfl, hR, ht⟩) (fun q h => by cases h) dX10_plain_228
                          · skip
                            rw [if_neg c1_15] at hR
                            have t1_0 := lv_neT (a := 0) c1_0 (by decide)
                            have t1_1 := lv_neT (a := 1) c1_1 (by decide)
                            have t1_2 := lv_neT (a := 2) c1_2 (by decide)
                            have t1_3 := lv_neT (a := 3) c1_3 (by decide)
                            have t1_4 := lv_neT (a := 4) c1_4 (by decide)
                            have t1_5 := lv_neT (a := 5) c1_5 (by decide)
                            have t1_6 := lv_neT (a := 6) c1_6 (by decide)
                            have t1_7 := lv_neT (a := 7) c1_7 (by decide)
                            have t1_8 := lv_neT (a := 8) c1_8 (by decide)
                            have t1_9 := lv_neT (a := 9) c1_9 (by decide)
                            have t1_13 := lv_neT (a := 13) c1_13 (by decide)
                            have t1_14 := lv_neT (a := 14) c1_14 (by decide)
                            have t1_15 := lv_neT (a := 15) c1_15 (by decide)
                            refine wl_tabD (tgt := 229) (ks := [0, 1, 2, 3, 4, 5, 6, 7, 8, 9, 13, 14, 15]) hx hb dX10_plain_1 (by decide) (by decide +kernel) (by intro k hk; simp only [List.mem_cons, List.not_mem_nil, or_false] at hk; rcases hk with rfl | rfl | rfl | rfl | rfl | rfl | rfl | rfl | rfl | rfl | rfl | rfl | rfl <;> assumption) (by decide) ?_
                            refine lv_aload_n hx hb dX10_plain_229 rfl (lv_at hl 0 rfl) ?_
                            refine lv_iload_n hx hb dX10_plain_230 rfl (lv_at hl 1 rfl) ?_
                            refine lv_lload_n hx hb dX10_plain_231 rfl (lv_at hl 2 rfl) ?_
                            refine lv_lload hx hb dX10_plain_232 (lv_at hl 3 rfl) ?_
                            refine lv_iload hx hb dX10_plain_234 (lv_at hl 4 rfl) ?_
                            refine wl_cl (va_runV (As := [.int o, .long x, .long y, .int w]) (rest := []) ⟨hx, hb, hml, hown, hta⟩ (km_Mod_shifted l dC dI a k st o x y w) (cwV 4 hta gX10_105 rfl rfl rfl (by decide +kernel) ⟨Nat.le_of_ble_eq_true rfl, Nat.le_of_ble_eq_true rfl⟩) (wl_pR (C := RX10) (ci := 8) (q0 := 0) hK hP rfl (mr_0 a k st)) rfl rfl hl.1 rfl (lv_room (Nat.le_of_ble_eq_true rfl)) dX10_plain_236 ⟨Nat.zero_le _, Nat.zero_le _⟩) ?_
                            exact W.lret (v := fm_Mod_shifted st o x y w) hx hb hr (fun t ht hW => ⟨_, rfl, hR, ht⟩) (fun q h => by cases h) dX10_plain_239

theorem mw_646 : (.fieldLink RX10 51 RX10 "now" "[J" : Cond) ∈ AW := List.mem_filter.mpr ⟨List.mem_of_getElem? (i := 646) (by decide +kernel), rfl⟩
theorem mw_757 : (.code yX10_plain cX10_plain 7 (some .long) : Cond) ∈ AW := List.mem_filter.mpr ⟨List.mem_of_getElem? (i := 757) (by decide +kernel), rfl⟩
theorem mw_754 : (.methodLink RX10 111 yX10_plain : Cond) ∈ AW := List.mem_filter.mpr ⟨List.mem_of_getElem? (i := 754) (by decide +kernel), rfl⟩
theorem mw_756 : (.instanceMethod yX10_plain : Cond) ∈ AW := List.mem_filter.mpr ⟨List.mem_of_getElem? (i := 756) (by decide +kernel), rfl⟩
theorem mw_26 : (.selects RX10 yX10_plain yX10_plain : Cond) ∈ AW := List.mem_filter.mpr ⟨List.mem_of_getElem? (i := 26) (by decide +kernel), rfl⟩
theorem mw_652 : (.fieldLink RX10 70 RX10 "table" "[I" : Cond) ∈ AW := List.mem_filter.mpr ⟨List.mem_of_getElem? (i := 652) (by decide +kernel), rfl⟩
theorem mw_753 : (.constantLong RX10 109 (7) : Cond) ∈ AW := List.mem_filter.mpr ⟨List.mem_of_getElem? (i := 753) (by decide +kernel), rfl⟩
theorem gX10_111 : GoodIn AW (wsV RX10 111 RX10 yX10_plain wsX10_plain) := aw_V mw_754 mw_756 mw_26 mw_46 mw_757
theorem dX10_result_0 : decode cX10_result 0 = .ok (.iload_n 1, 1) := by decide +kernel
theorem dX10_result_1 : decode cX10_result 1 = .ok (.bipush 16, 2) := by decide +kernel
theorem dX10_result_3 : decode cX10_result 3 = .ok (.if_icmp .ne 31, 3) := by decide +kernel
theorem dX10_result_6 : decode cX10_result 6 = .ok (.aload_n 0, 1) := by decide +kernel
theorem dX10_result_7 : decode cX10_result 7 = .ok (.getfield 51, 3) := by decide +kernel
theorem dX10_result_10 : decode cX10_result 10 = .ok (.iload_n 2, 1) := by decide +kernel
theorem dX10_result_11 : decode cX10_result 11 = .ok (.laload, 1) := by decide +kernel
theorem dX10_result_12 : decode cX10_result 12 = .ok (.lconst 1, 1) := by decide +kernel
theorem dX10_result_13 : decode cX10_result 13 = .ok (.lcmp, 1) := by decide +kernel
theorem dX10_result_14 : decode cX10_result 14 = .ok (.ifCond .ne 12, 3) := by decide +kernel
theorem dX10_result_17 : decode cX10_result 17 = .ok (.aload_n 0, 1) := by decide +kernel
theorem dX10_result_18 : decode cX10_result 18 = .ok (.getfield 51, 3) := by decide +kernel
theorem dX10_result_21 : decode cX10_result 21 = .ok (.iload_n 3, 1) := by decide +kernel
theorem dX10_result_22 : decode cX10_result 22 = .ok (.laload, 1) := by decide +kernel
theorem dX10_result_23 : decode cX10_result 23 = .ok (.goto 10, 3) := by decide +kernel
theorem dX10_result_26 : decode cX10_result 26 = .ok (.aload_n 0, 1) := by decide +kernel
theorem dX10_result_27 : decode cX10_result 27 = .ok (.getfield 51, 3) := by decide +kernel
theorem dX10_result_30 : decode cX10_result 30 = .ok (.iload 4, 2) := by decide +kernel
theorem dX10_result_32 : decode cX10_result 32 = .ok (.laload, 1) := by decide +kernel
theorem dX10_result_33 : decode cX10_result 33 = .ok (.lreturn, 1) := by decide +kernel
theorem dX10_result_34 : decode cX10_result 34 = .ok (.iload_n 1, 1) := by decide +kernel
theorem dX10_result_35 : decode cX10_result 35 = .ok (.bipush 17, 2) := by decide +kernel
theorem dX10_result_37 : decode cX10_result 37 = .ok (.if_icmp .ne 10, 3) := by decide +kernel
theorem dX10_result_40 : decode cX10_result 40 = .ok (.aload_n 0, 1) := by decide +kernel
theorem dX10_result_41 : decode cX10_result 41 = .ok (.getfield 51, 3) := by decide +kernel
theorem dX10_result_44 : decode cX10_result 44 = .ok (.iload_n 2, 1) := by decide +kernel
theorem dX10_result_45 : decode cX10_result 45 = .ok (.laload, 1) := by decide +kernel
theorem dX10_result_46 : decode cX10_result 46 = .ok (.lreturn, 1) := by decide +kernel
theorem dX10_result_47 : decode cX10_result 47 = .ok (.iload_n 1, 1) := by decide +kernel
theorem dX10_result_48 : decode cX10_result 48 = .ok (.bipush 18, 2) := by decide +kernel
theorem dX10_result_50 : decode cX10_result 50 = .ok (.if_icmp .ne 25, 3) := by decide +kernel
theorem dX10_result_53 : decode cX10_result 53 = .ok (.aload_n 0, 1) := by decide +kernel
theorem dX10_result_54 : decode cX10_result 54 = .ok (.aload_n 0, 1) := by decide +kernel
theorem dX10_result_55 : decode cX10_result 55 = .ok (.aload_n 0, 1) := by decide +kernel
theorem dX10_result_56 : decode cX10_result 56 = .ok (.getfield 51, 3) := by decide +kernel
theorem dX10_result_59 : decode cX10_result 59 = .ok (.iload_n 2, 1) := by decide +kernel
theorem dX10_result_60 : decode cX10_result 60 = .ok (.laload, 1) := by decide +kernel
theorem dX10_result_61 : decode cX10_result 61 = .ok (.aload_n 0, 1) := by decide +kernel
theorem dX10_result_62 : decode cX10_result 62 = .ok (.getfield 44, 3) := by decide +kernel
theorem dX10_result_65 : decode cX10_result 65 = .ok (.iload_n 2, 1) := by decide +kernel
theorem dX10_result_66 : decode cX10_result 66 = .ok (.iaload, 1) := by decide +kernel
theorem dX10_result_67 : decode cX10_result 67 = .ok (.invokevirtual 92, 3) := by decide +kernel
theorem dX10_result_70 : decode cX10_result 70 = .ok (.iload_n 3, 1) := by decide +kernel
theorem dX10_result_71 : decode cX10_result 71 = .ok (.invokevirtual 88, 3) := by decide +kernel
theorem dX10_result_74 : decode cX10_result 74 = .ok (.lreturn, 1) := by decide +kernel
theorem dX10_result_75 : decode cX10_result 75 = .ok (.iload_n 1, 1) := by decide +kernel
theorem dX10_result_76 : decode cX10_result 76 = .ok (.bipush 19, 2) := by decide +kernel
theorem dX10_result_78 : decode cX10_result 78 = .ok (.if_icmp .ne 15, 3) := by decide +kernel
theorem dX10_result_81 : decode cX10_result 81 = .ok (.aload_n 0, 1) := by decide +kernel
theorem dX10_result_82 : decode cX10_result 82 = .ok (.aload_n 0, 1) := by decide +kernel
theorem dX10_result_83 : decode cX10_result 83 = .ok (.getfield 51, 3) := by decide +kernel
theorem dX10_result_86 : decode cX10_result 86 = .ok (.iload_n 2, 1) := by decide +kernel
theorem dX10_result_87 : decode cX10_result 87 = .ok (.laload, 1) := by decide +kernel
theorem dX10_result_88 : decode cX10_result 88 = .ok (.iload_n 3, 1) := by decide +kernel
theorem dX10_result_89 : decode cX10_result 89 = .ok (.invokevirtual 88, 3) := by decide +kernel
theorem dX10_result_92 : decode cX10_result 92 = .ok (.lreturn, 1) := by decide +kernel
theorem dX10_result_93 : decode cX10_result 93 = .ok (.iload_n 1, 1) := by decide +kernel
theorem dX10_result_94 : decode cX10_result 94 = .ok (.bipush 20, 2) := by decide +kernel
theorem dX10_result_96 : decode cX10_result 96 = .ok (.if_icmp .ne 26, 3) := by decide +kernel
theorem dX10_result_99 : decode cX10_result 99 = .ok (.aload_n 0, 1) := by decide +kernel
theorem dX10_result_100 : decode cX10_result 100 = .ok (.getfield 70, 3) := by decide +kernel
theorem dX10_result_103 : decode cX10_result 103 = .ok (.iload_n 3, 1) := by decide +kernel
theorem dX10_result_104 : decode cX10_result 104 = .ok (.bipush 8, 2) := by decide +kernel
theorem dX10_result_106 : decode cX10_result 106 = .ok (.imul, 1) := by decide +kernel
theorem dX10_result_107 : decode cX10_result 107 = .ok (.aload_n 0, 1) := by decide +kernel
theorem dX10_result_108 : decode cX10_result 108 = .ok (.getfield 51, 3) := by decide +kernel
theorem dX10_result_111 : decode cX10_result 111 = .ok (.iload_n 2, 1) := by decide +kernel
theorem dX10_result_112 : decode cX10_result 112 = .ok (.laload, 1) := by decide +kernel
theorem dX10_result_113 : decode cX10_result 113 = .ok (.ldc2_w 109, 3) := by decide +kernel
theorem dX10_result_116 : decode cX10_result 116 = .ok (.land, 1) := by decide +kernel
theorem dX10_result_117 : decode cX10_result 117 = .ok (.l2i, 1) := by decide +kernel
theorem dX10_result_118 : decode cX10_result 118 = .ok (.iadd, 1) := by decide +kernel
theorem dX10_result_119 : decode cX10_result 119 = .ok (.iaload, 1) := by decide +kernel
theorem dX10_result_120 : decode cX10_result 120 = .ok (.i2l, 1) := by decide +kernel
theorem dX10_result_121 : decode cX10_result 121 = .ok (.lreturn, 1) := by decide +kernel
theorem dX10_result_122 : decode cX10_result 122 = .ok (.aload_n 0, 1) := by decide +kernel
theorem dX10_result_123 : decode cX10_result 123 = .ok (.iload_n 1, 1) := by decide +kernel
theorem dX10_result_124 : decode cX10_result 124 = .ok (.aload_n 0, 1) := by decide +kernel
theorem dX10_result_125 : decode cX10_result 125 = .ok (.getfield 51, 3) := by decide +kernel
theorem dX10_result_128 : decode cX10_result 128 = .ok (.iload_n 2, 1) := by decide +kernel
theorem dX10_result_129 : decode cX10_result 129 = .ok (.laload, 1) := by decide +kernel
theorem dX10_result_130 : decode cX10_result 130 = .ok (.iload_n 1, 1) := by decide +kernel
theorem dX10_result_131 : decode cX10_result 131 = .ok (.iconst 2, 1) := by decide +kernel
theorem dX10_result_132 : decode cX10_result 132 = .ok (.if_icmp .ge 7, 3) := by decide +kernel
theorem dX10_result_135 : decode cX10_result 135 = .ok (.lconst 0, 1) := by decide +kernel
theorem dX10_result_136 : decode cX10_result 136 = .ok (.goto 9, 3) := by decide +kernel
theorem dX10_result_139 : decode cX10_result 139 = .ok (.aload_n 0, 1) := by decide +kernel
theorem dX10_result_140 : decode cX10_result 140 = .ok (.getfield 51, 3) := by decide +kernel
theorem dX10_result_143 : decode cX10_result 143 = .ok (.iload_n 3, 1) := by decide +kernel
theorem dX10_result_144 : decode cX10_result 144 = .ok (.laload, 1) := by decide +kernel
theorem dX10_result_145 : decode cX10_result 145 = .ok (.aload_n 0, 1) := by decide +kernel
theorem dX10_result_146 : decode cX10_result 146 = .ok (.getfield 44, 3) := by decide +kernel
theorem dX10_result_149 : decode cX10_result 149 = .ok (.iload_n 2, 1) := by decide +kernel
theorem dX10_result_150 : decode cX10_result 150 = .ok (.iaload, 1) := by decide +kernel
theorem dX10_result_151 : decode cX10_result 151 = .ok (.invokevirtual 111, 3) := by decide +kernel
theorem dX10_result_154 : decode cX10_result 154 = .ok (.lreturn, 1) := by decide +kernel
def fm_Mod_result (st : XS) (o : Int32) (x1 : Int32) (y1 : Int32) (z1 : Int32) : Int64 := 
  if o = (16 : Int32) then 
    if lg_cmp (fL st 1 x1.toNatClampNeg) (1 : Int64) = (0 : Int32) then fL st 1 y1.toNatClampNeg
    else fL st 1 z1.toNatClampNeg
  else 
    if o = (17 : Int32) then fL st 1 x1.toNatClampNeg
    else 
      if o = (18 : Int32) then fm_Mod_cut st (fm_Mod_sign st (fL st 1 x1.toNatClampNeg) (fA st 4 x1.toNatClampNeg)) y1
      else 
        if o = (19 : Int32) then fm_Mod_cut st (fL st 1 x1.toNatClampNeg) y1
        else 
          if o = (20 : Int32) then (fA st 10 ((y1 * (8 : Int32)) + (((fL st 1 x1.toNatClampNeg) &&& (7 : Int64)).toInt32)).toNatClampNeg).toInt64
          else 
            if (2 : Int32) ≤ o then fm_Mod_plain st o (fL st 1 x1.toNatClampNeg) (fL st 1 y1.toNatClampNeg) (fA st 4 x1.toNatClampNeg)
            else fm_Mod_plain st o (fL st 1 x1.toNatClampNeg) (0 : Int64) (fA st 4 x1.toNatClampNeg)
set_option maxHeartbeats 4000000 in
set_option maxRecDepth 100000 in
theorem km_Mod_result (l : Launch) (dC : Nat → ClassId) (dI : Nat → Nat → Nat) (a : Nat → Nat) (k : Nat → ClassId) (st : XS) (o : Int32) (x1 : Int32) (y1 : Int32) (z1 : Int32) (hA : vp_in x1 64) (hB : ¬ o < 2 → ¬ (o = 17 ∨ o = 18 ∨ o = 19 ∨ o = 20) → vp_in y1 64) (hC : o = 16 → vp_in z1 64) (hT : o = 20 → vp_in y1 2) : Met l yX10_result wsX10_result ({ frames := 3, cells := 0, slots := 0, locals := 76 }) (va_Pc [.ref (a 0), .int o, .int x1, .int y1, .int z1] (wl_prR (dC, dI) vwCl (mt k) (mw a k st))) (vp_Sl (fun r9 => r9 = fm_Mod_result st o x1 y1 z1)) 0 0 (fun _ => False) := by
  refine Met.ofW (cc := cX10_result) (maxL := 5) (ret := (some .long)) (by decide) rfl ?_
  intro p e s m args below meth c s₁ B hml hv
  obtain ⟨rfl, hP, hK⟩ := hv
  have hx := B.exec
  have hb := B.bytes
  have hr := B.returns
  have hta := aw_hts (atoms_spec (ws := wsX10_result) B.pre)
  have hown : s.vm.findClass RX10 = some m.cls := findClass_of_methodNamed B.named
  have hlocks := B.notSynchronized
  have hf51 := hta _ mw_646
  have hf44 := hta _ mw_644
  have hf70 := hta _ mw_652
  have hc109 := hta _ mw_753
  have hl := lv_entry ([.ref (a 0), .int o, .int x1, .int y1, .int z1]) (n := 5) (Nat.le_of_ble_eq_true rfl)
  rw [lg_entry_eq]
  generalize (lg_sl ([.ref (a 0), .int o, .int x1, .int y1, .int z1]) ++ List.replicate (5 - (lg_sl ([.ref (a 0), .int o, .int x1, .int y1, .int z1])).length) Slot.unset).toArray = ls at hl ⊢
  have hl : lv_has ls 5 [(0, .ref (a 0)), (1, .int o), (2, .int x1), (3, .int y1), (4, .int z1)] := hl
  generalize hR : fm_Mod_result st o x1 y1 z1 = R
  rw [fm_Mod_result] at hR
  refine lv_iload_n hx hb dX10_result_0 rfl (lv_at hl 1 rfl) ?_
  refine lv_bipush (v := (16 : Int32)) hx hb dX10_result_1 (by decide) ?_
  refine lv_icmp_ne (tgt := 34) hx hb dX10_result_3 (by decide) (fun c3 => ?_) (fun c3 => ?_)
  · skip
    rw [if_neg c3] at hR
    refine lv_iload_n hx hb dX10_result_34 rfl (lv_at hl 1 rfl) ?_
    refine lv_bipush (v := (17 : Int32)) hx hb dX10_result_35 (by decide) ?_
    refine lv_icmp_ne (tgt := 47) hx hb dX10_result_37 (by decide) (fun c37 => ?_) (fun c37 => ?_)
    · skip
      rw [if_neg c37] at hR
      refine lv_iload_n hx hb dX10_result_47 rfl (lv_at hl 1 rfl) ?_
      refine lv_bipush (v := (18 : Int32)) hx hb dX10_result_48 (by decide) ?_
      refine lv_icmp_ne (tgt := 75) hx hb dX10_result_50 (by decide) (fun c50 => ?_) (fun c50 => ?_)
      · skip
        rw [if_neg c50] at hR
        refine lv_iload_n hx hb dX10_result_75 rfl (lv_at hl 1 rfl) ?_
        refine lv_bipush (v := (19 : Int32)) hx hb dX10_result_76 (by decide) ?_
        refine lv_icmp_ne (tgt := 93) hx hb dX10_result_78 (by decide) (fun c78 => ?_) (fun c78 => ?_)
        · skip
          rw [if_neg c78] at hR
          refine lv_iload_n hx hb dX10_result_93 rfl (lv_at hl 1 rfl) ?_
          refine lv_bipush (v := (20 : Int32)) hx hb dX10_result_94 (by decide) ?_
          refine lv_icmp_ne (tgt := 122) hx hb dX10_result_96 (by decide) (fun c96 => ?_) (fun c96 => ?_)
          · skip
            rw [if_neg c96] at hR
            refine lv_aload_n hx hb dX10_result_122 rfl (lv_at hl 0 rfl) ?_
            refine lv_iload_n hx hb dX10_result_123 rfl (lv_at hl 1 rfl) ?_
            refine lv_aload_n hx hb dX10_result_124 rfl (lv_at hl 0 rfl) ?_
            refine va_get (D := (dC, dI)) (ci := 8) (v := .ref (a 7)) (C := RX10) (T := TX10) (N := 21) hx hb hta inX10 hown hK hP 0 (mr_0 a k st) rfl 13 (by decide) hf51 (fun _ h9 => h9) rfl dX10_result_125 ?_
            refine lv_iload_n hx hb dX10_result_128 rfl (lv_at hl 2 rfl) ?_
            refine va_lald hx hb hK hP 7 6 (mr_7 a k st) rfl hA dX10_result_129 ?_
            refine lv_iload_n hx hb dX10_result_130 rfl (lv_at hl 1 rfl) ?_
            refine lv_iconst (v := (2 : Int32)) hx hb dX10_result_131 (by decide) ?_
            refine lv_icmp_ge (tgt := 139) hx hb dX10_result_132 (by decide) (fun c132 => ?_) (fun c132 => ?_)
            · skip
              rw [if_pos c132] at hR
              refine lv_aload_n hx hb dX10_result_139 rfl (lv_at hl 0 rfl) ?_
              refine va_get (D := (dC, dI)) (ci := 8) (v := .ref (a 7)) (C := RX10) (T := TX10) (N := 21) hx hb hta inX10 hown hK hP 0 (mr_0 a k st) rfl 13 (by decide) hf51 (fun _ h9 => h9) rfl dX10_result_140 ?_
              refine lv_iload_n hx hb dX10_result_143 rfl (lv_at hl 3 rfl) ?_
              refine va_lald hx hb hK hP 7 6 (mr_7 a k st) rfl (hB (wl_ln c132) (fun h => by rcases h with h | h | h | h <;> contradiction)) dX10_result_144 ?_
              refine lv_aload_n hx hb dX10_result_145 rfl (lv_at hl 0 rfl) ?_
              refine va_get (D := (dC, dI)) (ci := 8) (v := .ref (a 5)) (C := RX10) (T := TX10) (N := 21) hx hb hta inX10 hown hK hP 0 (mr_0 a k st) rfl 11 (by decide) hf44 (fun _ h9 => h9) rfl dX10_result_146 ?_
              refine lv_iload_n hx hb dX10_result_149 rfl (lv_at hl 2 rfl) ?_
              refine va_iald hx hb hK hP 5 4 (mr_5 a k st) rfl hA dX10_result_150 ?_
              refine wl_cl (va_runV (As := [.int o, .long (fL st 1 x1.toNatClampNeg), .long (fL st 1 y1.toNatClampNeg), .int (fA st 4 x1.toNatClampNeg)]) (rest := []) ⟨hx, hb, hml, hown, hta⟩ (km_Mod_plain l dC dI a k st o (fL st 1 x1.toNatClampNeg) (fL st 1 y1.toNatClampNeg) (fA st 4 x1.toNatClampNeg)) (cwV 4 hta gX10_111 rfl rfl rfl (by decide +kernel) ⟨Nat.le_of_ble_eq_true rfl, Nat.le_of_ble_eq_true rfl⟩) (wl_pR (C := RX10) (ci := 8) (q0 := 0) hK hP rfl (mr_0 a k st)) rfl rfl hl.1 rfl (lv_room (Nat.le_of_ble_eq_true rfl)) dX10_result_151 ⟨Nat.zero_le _, Nat.zero_le _⟩) ?_
              exact W.lret (v := fm_Mod_plain st o (fL st 1 x1.toNatClampNeg) (fL st 1 y1.toNatClampNeg) (fA st 4 x1.toNatClampNeg)) hx hb hr (fun t ht hW => ⟨_, rfl, hR, ht⟩) (fun q h => by cases h) dX10_result_154
            · skip
              rw [if_neg c132] at hR
              refine lv_lconst (v := (0 : Int64)) hx hb dX10_result_135 (by decide) ?_
              refine lv_goto (tgt := 145) hx hb dX10_result_136 (by decide) ?_
              refine lv_aload_n hx hb dX10_result_145 rfl (lv_at hl 0 rfl) ?_
              refine va_get (D := (dC, dI)) (ci := 8) (v := .ref (a 5)) (C := RX10) (T := TX10) (N := 21) hx hb hta inX10 hown hK hP 0 (mr_0 a k st) rfl 11 (by decide) hf44 (fun _ h9 => h9) rfl dX10_result_146 ?_
              refine lv_iload_n hx hb dX10_result_149 rfl (lv_at hl 2 rfl) ?_
              refine va_iald hx hb hK hP 5 4 (mr_5 a k st) rfl hA dX10_result_150 ?_
              refine wl_cl (va_runV (As := [.int o, .long (fL st 1 x1.toNatClampNeg), .long (0 : Int64), .int (fA st 4 x1.toNatClampNeg)]) (rest := []) ⟨hx, hb, hml, hown, hta⟩ (km_Mod_plain l dC dI a k st o (fL st 1 x1.toNatClampNeg) (0 : Int64) (fA st 4 x1.toNatClampNeg)) (cwV 4 hta gX10_111 rfl rfl rfl (by decide +kernel) ⟨Nat.le_of_ble_eq_true rfl, Nat.le_of_ble_eq_true rfl⟩) (wl_pR (C := RX10) (ci := 8) (q0 := 0) hK hP rfl (mr_0 a k st)) rfl rfl hl.1 rfl (lv_room (Nat.le_of_ble_eq_true rfl)) dX10_result_151 ⟨Nat.zero_le _, Nat.zero_le _⟩) ?_
              exact W.lret (v := fm_Mod_plain st o (fL st 1 x1.toNatClampNeg) (0 : Int64) (fA st 4 x1.toNatClampNeg)) hx hb hr (fun t ht hW => ⟨_, rfl, hR, ht⟩) (fun q h => by cases h) dX10_result_154
          · skip
            rw [if_pos c96] at hR
            refine lv_aload_n hx hb dX10_result_99 rfl (lv_at hl 0 rfl) ?_
            refine va_get (D := (dC, dI)) (ci := 8) (v := .ref (a 13)) (C := RX10) (T := TX10) (N := 21) hx hb hta inX10 hown hK hP 0 (mr_0 a k st) rfl 19 (by decide) hf70 (fun _ h9 => h9) rfl dX10_result_100 ?_
            refine lv_iload_n hx hb dX10_result_103 rfl (lv_at hl 3 rfl) ?_
            refine lv_bipush (v := (8 : Int32)) hx hb dX10_result_104 (by decide) ?_
            refine lv_imul hx hb dX10_result_106 ?_
            refine lv_aload_n hx hb dX10_result_107 rfl (lv_at hl 0 rfl) ?_
            refine va_get (D := (dC, dI)) (ci := 8) (v := .ref (a 7)) (C := RX10) (T := TX10) (N := 21) hx hb hta inX10 hown hK hP 0 (mr_0 a k st) rfl 13 (by decide) hf51 (fun _ h9 => h9) rfl dX10_result_108 ?_
            refine lv_iload_n hx hb dX10_result_111 rfl (lv_at hl 2 rfl) ?_
            refine va_lald hx hb hK hP 7 6 (mr_7 a k st) rfl hA dX10_result_112 ?_
            refine lv_ldc2 (v := (7 : Int64)) hx hb hown hc109 dX10_result_113 ?_
            refine lv_land hx hb dX10_result_116 ?_
            refine lv_l2i (v := ((fL st 1 x1.toNatClampNeg) &&& (7 : Int64)).toInt32) hx hb dX10_result_117 rfl ?_
            refine lv_iadd hx hb dX10_result_118 ?_
            refine va_iald hx hb hK hP 13 12 (mr_13 a k st) rfl (wl_lk (hT c96) _) dX10_result_119 ?_
            refine lv_i2l (v := (fA st 10 ((y1 * (8 : Int32)) + (((fL st 1 x1.toNatClampNeg) &&& (7 : Int64)).toInt32)).toNatClampNeg).toInt64) hx hb dX10_result_120 rfl ?_
            exact W.lret (v := (fA st 10 ((y1 * (8 : Int32)) + (((fL st 1 x1.toNatClampNeg) &&& (7 : Int64)).toInt32)).toNatClampNeg).toInt64) hx hb hr (fun t ht hW => ⟨_, rfl, hR, ht⟩) (fun q h => by cases h) dX10_result_121
        · skip
          rw [if_pos c78] at hR
          refine lv_aload_n hx hb dX10_result_81 rfl (lv_at hl 0 rfl) ?_
          refine lv_aload_n hx hb dX10_result_82 rfl (lv_at hl 0 rfl) ?_
          refine va_get (D := (dC, dI)) (ci := 8) (v := .ref (a 7)) (C := RX10) (T := TX10) (N := 21) hx hb hta inX10 hown hK hP 0 (mr_0 a k st) rfl 13 (by decide) hf51 (fun _ h9 => h9) rfl dX10_result_83 ?_
          refine lv_iload_n hx hb dX10_result_86 rfl (lv_at hl 2 rfl) ?_
          refine va_lald hx hb hK hP 7 6 (mr_7 a k st) rfl hA dX10_result_87 ?_
          refine lv_iload_n hx hb dX10_result_88 rfl (lv_at hl 3 rfl) ?_
          refine wl_cl (va_runV (As := [.long (fL st 1 x1.toNatClampNeg), .int y1]) (rest := []) ⟨hx, hb, hml, hown, hta⟩ (km_Mod_cut l dC dI a k st (fL st 1 x1.toNatClampNeg) y1) (cwV 2 hta gX10_88 rfl rfl rfl (by decide +kernel) ⟨Nat.le_of_ble_eq_true rfl, Nat.le_of_ble_eq_true rfl⟩) (wl_pR (C := RX10) (ci := 8) (q0 := 0) hK hP rfl (mr_0 a k st)) rfl rfl hl.1 rfl (lv_room (Nat.le_of_ble_eq_true rfl)) dX10_result_89 ⟨Nat.zero_le _, Nat.zero_le _⟩) ?_
          exact W.lret (v := fm_Mod_cut st (fL st 1 x1.toNatClampNeg) y1) hx hb hr (fun t ht hW => ⟨_, rfl, hR, ht⟩) (fun q h => by cases h) dX10_result_92
      · skip
        rw [if_pos c50] at hR
        refine lv_aload_n hx hb dX10_result_53 rfl (lv_at hl 0 rfl) ?_
        refine lv_aload_n hx hb dX10_result_54 rfl (lv_at hl 0 rfl) ?_
        refine lv_aload_n hx hb dX10_result_55 rfl (lv_at hl 0 rfl) ?_
        refine va_get (D := (dC, dI)) (ci := 8) (v := .ref (a 7)) (C := RX10) (T := TX10) (N := 21) hx hb hta inX10 hown hK hP 0 (mr_0 a k st) rfl 13 (by decide) hf51 (fun _ h9 => h9) rfl dX10_result_56 ?_
        refine lv_iload_n hx hb dX10_result_59 rfl (lv_at hl 2 rfl) ?_
        refine va_lald hx hb hK hP 7 6 (mr_7 a k st) rfl hA dX10_result_60 ?_
        refine lv_aload_n hx hb dX10_result_61 rfl (lv_at hl 0 rfl) ?_
        refine va_get (D := (dC, dI)) (ci := 8) (v := .ref (a 5)) (C := RX10) (T := TX10) (N := 21) hx hb hta inX10 hown hK hP 0 (mr_0 a k st) rfl 11 (by decide) hf44 (fun _ h9 => h9) rfl dX10_result_62 ?_
        refine lv_iload_n hx hb dX10_result_65 rfl (lv_at hl 2 rfl) ?_
        refine va_iald hx hb hK hP 5 4 (mr_5 a k st) rfl hA dX10_result_66 ?_
        refine wl_cl (va_runV (As := [.long (fL st 1 x1.toNatClampNeg), .int (fA st 4 x1.toNatClampNeg)]) (rest := [.ref (a 0)]) ⟨hx, hb, hml, hown, hta⟩ (km_Mod_sign l dC dI a k st (fL st 1 x1.toNatClampNeg) (fA st 4 x1.toNatClampNeg)) (cwV 2 hta gX10_92 rfl rfl rfl (by decide +kernel) ⟨Nat.le_of_ble_eq_true rfl, Nat.le_of_ble_eq_true rfl⟩) (wl_pR (C := RX10) (ci := 8) (q0 := 0) hK hP rfl (mr_0 a k st)) rfl rfl hl.1 rfl (lv_room (Nat.le_of_ble_eq_true rfl)) dX10_result_67 ⟨Nat.zero_le _, Nat.zero_le _⟩) ?_
        refine lv_iload_n hx hb dX10_result_70 rfl (lv_at hl 3 rfl) ?_
        refine wl_cl (va_runV (As := [.long (fm_Mod_sign st (fL st 1 x1.toNatClampNeg) (fA st 4 x1.toNatClampNeg)), .int y1]) (rest := []) ⟨hx, hb, hml, hown, hta⟩ (km_Mod_cut l dC dI a k st (fm_Mod_sign st (fL st 1 x1.toNatClampNeg) (fA st 4 x1.toNatClampNeg)) y1) (cwV 2 hta gX10_88 rfl rfl rfl (by decide +kernel) ⟨Nat.le_of_ble_eq_true rfl, Nat.le_of_ble_eq_true rfl⟩) (wl_pR (C := RX10) (ci := 8) (q0 := 0) hK hP rfl (mr_0 a k st)) rfl rfl hl.1 rfl (lv_room (Nat.le_of_ble_eq_true rfl)) dX10_result_71 ⟨Nat.zero_le _, Nat.zero_le _⟩) ?_
        exact W.lret (v := fm_Mod_cut st (fm_Mod_sign st (fL st 1 x1.toNatClampNeg) (fA st 4 x1.toNatClampNeg)) y1) hx hb hr (fun t ht hW => ⟨_, rfl, hR, ht⟩) (fun q h => by cases h) dX10_result_74
    · skip
      rw [if_pos c37] at hR
      refine lv_aload_n hx hb dX10_result_40 rfl (lv_at hl 0 rfl) ?_
      refine va_get (D := (dC, dI)) (ci := 8) (v := .ref (a 7)) (C := RX10) (T := TX10) (N := 21) hx hb hta inX10 hown hK hP 0 (mr_0 a k st) rfl 13 (by decide) hf51 (fun _ h9 => h9) rfl dX10_result_41 ?_
      refine lv_iload_n hx hb dX10_result_44 rfl (lv_at hl 2 rfl) ?_
      refine va_lald hx hb hK hP 7 6 (mr_7 a k st) rfl hA dX10_result_45 ?_
      exact W.lret (v := fL st 1 x1.toNatClampNeg) hx hb hr (fun t ht hW => ⟨_, rfl, hR, ht⟩) (fun q h => by cases h) dX10_result_46
  · skip
    rw [if_pos c3] at hR
    refine lv_aload_n hx hb dX10_result_6 rfl (lv_at hl 0 rfl) ?_
    refine va_get (D := (dC, dI)) (ci := 8) (v := .ref (a 7)) (C := RX10) (T := TX10) (N := 21) hx hb hta inX10 hown hK hP 0 (mr_0 a k st) rfl 13 (by decide) hf51 (fun _ h9 => h9) rfl dX10_result_7 ?_
    refine lv_iload_n hx hb dX10_result_10 rfl (lv_at hl 2 rfl) ?_
    refine va_lald hx hb hK hP 7 6 (mr_7 a k st) rfl hA dX10_result_11 ?_
    refine lv_lconst (v := (1 : Int64)) hx hb dX10_result_12 (by decide) ?_
    refine W.lcmp hx hb dX10_result_13 ?_
    refine lv_if_ne (tgt := 26) hx hb dX10_result_14 (by decide) (fun c14 => ?_) (fun c14 => ?_)
    · skip
      rw [if_neg c14] at hR
      refine lv_aload_n hx hb dX10_result_26 rfl (lv_at hl 0 rfl) ?_
      refine va_get (D := (dC, dI)) (ci := 8) (v := .ref (a 7)) (C := RX10) (T := TX10) (N := 21) hx hb hta inX10 hown hK hP 0 (mr_0 a k st) rfl 13 (by decide) hf51 (fun _ h9 => h9) rfl dX10_result_27 ?_
      refine lv_iload hx hb dX10_result_30 (lv_at hl 4 rfl) ?_
      refine va_lald hx hb hK hP 7 6 (mr_7 a k st) rfl (hC c3) dX10_result_32 ?_
      exact W.lret (v := fL st 1 z1.toNatClampNeg) hx hb hr (fun t ht hW => ⟨_, rfl, hR, ht⟩) (fun q h => by cases h) dX10_result_33
    · skip
      rw [if_pos c14] at hR
      refine lv_aload_n hx hb dX10_result_17 rfl (lv_at hl 0 rfl) ?_
      refine va_get (D := (dC, dI)) (ci := 8) (v := .ref (a 7)) (C := RX10) (T := TX10) (N := 21) hx hb hta inX10 hown hK hP 0 (mr_0 a k st) rfl 13 (by decide) hf51 (fun _ h9 => h9) rfl dX10_result_18 ?_
      refine lv_iload_n hx hb dX10_result_21 rfl (lv_at hl 3 rfl) ?_
      refine va_lald hx hb hK hP 7 6 (mr_7 a k st) rfl (hB (by rw [c3]; decide) (by rw [c3]; decide)) dX10_result_22 ?_
      refine lv_goto (tgt := 33) hx hb dX10_result_23 (by decide) ?_
      exact W.lret (v := fL st 1 y1.toNatClampNeg) hx hb hr (fun t ht hW => ⟨_, rfl, hR, ht⟩) (fun q h => by cases h) dX10_result_33

theorem mw_736 : (.code yX10_none cX10_none 2 (some .boolean) : Cond) ∈ AW := List.mem_filter.mpr ⟨List.mem_of_getElem? (i := 736) (by decide +kernel), rfl⟩
theorem mw_733 : (.methodLink RX10 114 yX10_none : Cond) ∈ AW := List.mem_filter.mpr ⟨List.mem_of_getElem? (i := 733) (by decide +kernel), rfl⟩
theorem mw_735 : (.instanceMethod yX10_none : Cond) ∈ AW := List.mem_filter.mpr ⟨List.mem_of_getElem? (i := 735) (by decide +kernel), rfl⟩
theorem mw_21 : (.selects RX10 yX10_none yX10_none : Cond) ∈ AW := List.mem_filter.mpr ⟨List.mem_of_getElem? (i := 21) (by decide +kernel), rfl⟩
theorem mw_712 : (.code yX10_isWidth cX10_isWidth 2 (some .boolean) : Cond) ∈ AW := List.mem_filter.mpr ⟨List.mem_of_getElem? (i := 712) (by decide +kernel), rfl⟩
theorem mw_709 : (.methodLink RX10 80 yX10_isWidth : Cond) ∈ AW := List.mem_filter.mpr ⟨List.mem_of_getElem? (i := 709) (by decide +kernel), rfl⟩
theorem mw_711 : (.instanceMethod yX10_isWidth : Cond) ∈ AW := List.mem_filter.mpr ⟨List.mem_of_getElem? (i := 711) (by decide +kernel), rfl⟩
theorem mw_17 : (.selects RX10 yX10_isWidth yX10_isWidth : Cond) ∈ AW := List.mem_filter.mpr ⟨List.mem_of_getElem? (i := 17) (by decide +kernel), rfl⟩
theorem gX10_114 : GoodIn AW (wsV RX10 114 RX10 yX10_none wsX10_none) := aw_V mw_733 mw_735 mw_21 mw_46 mw_736
theorem gX10_80 : GoodIn AW (wsV RX10 80 RX10 yX10_isWidth wsX10_isWidth) := aw_V mw_709 mw_711 mw_17 mw_46 mw_712
theorem dX10_fits_0 : decode cX10_fits 0 = .ok (.iload_n 1, 1) := by decide +kernel
theorem dX10_fits_1 : decode cX10_fits 1 = .ok (.ifCond .lt 17, 3) := by decide +kernel
theorem dX10_fits_4 : decode cX10_fits 4 = .ok (.iload_n 1, 1) := by decide +kernel
theorem dX10_fits_5 : decode cX10_fits 5 = .ok (.bipush 20, 2) := by decide +kernel
theorem dX10_fits_7 : decode cX10_fits 7 = .ok (.if_icmp .gt 11, 3) := by decide +kernel
theorem dX10_fits_10 : decode cX10_fits 10 = .ok (.aload_n 0, 1) := by decide +kernel
theorem dX10_fits_11 : decode cX10_fits 11 = .ok (.iload_n 2, 1) := by decide +kernel
theorem dX10_fits_12 : decode cX10_fits 12 = .ok (.invokevirtual 114, 3) := by decide +kernel
theorem dX10_fits_15 : decode cX10_fits 15 = .ok (.ifCond .eq 5, 3) := by decide +kernel
theorem dX10_fits_18 : decode cX10_fits 18 = .ok (.iconst 0, 1) := by decide +kernel
theorem dX10_fits_19 : decode cX10_fits 19 = .ok (.ireturn, 1) := by decide +kernel
theorem dX10_fits_20 : decode cX10_fits 20 = .ok (.aload_n 0, 1) := by decide +kernel
theorem dX10_fits_21 : decode cX10_fits 21 = .ok (.getfield 44, 3) := by decide +kernel
theorem dX10_fits_24 : decode cX10_fits 24 = .ok (.iload_n 2, 1) := by decide +kernel
theorem dX10_fits_25 : decode cX10_fits 25 = .ok (.iaload, 1) := by decide +kernel
theorem dX10_fits_26 : decode cX10_fits 26 = .ok (.istore 5, 2) := by decide +kernel
theorem dX10_fits_28 : decode cX10_fits 28 = .ok (.iload_n 1, 1) := by decide +kernel
theorem dX10_fits_29 : decode cX10_fits 29 = .ok (.iconst 2, 1) := by decide +kernel
theorem dX10_fits_30 : decode cX10_fits 30 = .ok (.if_icmp .ge 5, 3) := by decide +kernel
theorem dX10_fits_33 : decode cX10_fits 33 = .ok (.iconst 1, 1) := by decide +kernel
theorem dX10_fits_34 : decode cX10_fits 34 = .ok (.ireturn, 1) := by decide +kernel
theorem dX10_fits_35 : decode cX10_fits 35 = .ok (.iload_n 1, 1) := by decide +kernel
theorem dX10_fits_36 : decode cX10_fits 36 = .ok (.bipush 20, 2) := by decide +kernel
theorem dX10_fits_38 : decode cX10_fits 38 = .ok (.if_icmp .ne 25, 3) := by decide +kernel
theorem dX10_fits_41 : decode cX10_fits 41 = .ok (.iload 5, 2) := by decide +kernel
theorem dX10_fits_43 : decode cX10_fits 43 = .ok (.bipush 8, 2) := by decide +kernel
theorem dX10_fits_45 : decode cX10_fits 45 = .ok (.if_icmp .ne 16, 3) := by decide +kernel
theorem dX10_fits_48 : decode cX10_fits 48 = .ok (.iload_n 3, 1) := by decide +kernel
theorem dX10_fits_49 : decode cX10_fits 49 = .ok (.ifCond .eq 8, 3) := by decide +kernel
theorem dX10_fits_52 : decode cX10_fits 52 = .ok (.iload_n 3, 1) := by decide +kernel
theorem dX10_fits_53 : decode cX10_fits 53 = .ok (.iconst 1, 1) := by decide +kernel
theorem dX10_fits_54 : decode cX10_fits 54 = .ok (.if_icmp .ne 7, 3) := by decide +kernel
theorem dX10_fits_57 : decode cX10_fits 57 = .ok (.iconst 1, 1) := by decide +kernel
theorem dX10_fits_58 : decode cX10_fits 58 = .ok (.goto 4, 3) := by decide +kernel
theorem dX10_fits_61 : decode cX10_fits 61 = .ok (.iconst 0, 1) := by decide +kernel
theorem dX10_fits_62 : decode cX10_fits 62 = .ok (.ireturn, 1) := by decide +kernel
theorem dX10_fits_63 : decode cX10_fits 63 = .ok (.iload_n 1, 1) := by decide +kernel
theorem dX10_fits_64 : decode cX10_fits 64 = .ok (.bipush 16, 2) := by decide +kernel
theorem dX10_fits_66 : decode cX10_fits 66 = .ok (.if_icmp .le 38, 3) := by decide +kernel
theorem dX10_fits_69 : decode cX10_fits 69 = .ok (.aload_n 0, 1) := by decide +kernel
theorem dX10_fits_70 : decode cX10_fits 70 = .ok (.iload_n 3, 1) := by decide +kernel
theorem dX10_fits_71 : decode cX10_fits 71 = .ok (.invokevirtual 80, 3) := by decide +kernel
theorem dX10_fits_74 : decode cX10_fits 74 = .ok (.ifCond .eq 28, 3) := by decide +kernel
theorem dX10_fits_77 : decode cX10_fits 77 = .ok (.iload_n 1, 1) := by decide +kernel
theorem dX10_fits_78 : decode cX10_fits 78 = .ok (.bipush 19, 2) := by decide +kernel
theorem dX10_fits_80 : decode cX10_fits 80 = .ok (.if_icmp .ne 12, 3) := by decide +kernel
theorem dX10_fits_83 : decode cX10_fits 83 = .ok (.iload_n 3, 1) := by decide +kernel
theorem dX10_fits_84 : decode cX10_fits 84 = .ok (.iload 5, 2) := by decide +kernel
theorem dX10_fits_86 : decode cX10_fits 86 = .ok (.if_icmp .ge 16, 3) := by decide +kernel
theorem dX10_fits_89 : decode cX10_fits 89 = .ok (.goto 9, 3) := by decide +kernel
theorem dX10_fits_92 : decode cX10_fits 92 = .ok (.iload_n 3, 1) := by decide +kernel
theorem dX10_fits_93 : decode cX10_fits 93 = .ok (.iload 5, 2) := by decide +kernel
theorem dX10_fits_95 : decode cX10_fits 95 = .ok (.if_icmp .le 7, 3) := by decide +kernel
theorem dX10_fits_98 : decode cX10_fits 98 = .ok (.iconst 1, 1) := by decide +kernel
theorem dX10_fits_99 : decode cX10_fits 99 = .ok (.goto 4, 3) := by decide +kernel
theorem dX10_fits_102 : decode cX10_fits 102 = .ok (.iconst 0, 1) := by decide +kernel
theorem dX10_fits_103 : decode cX10_fits 103 = .ok (.ireturn, 1) := by decide +kernel
theorem dX10_fits_104 : decode cX10_fits 104 = .ok (.aload_n 0, 1) := by decide +kernel
theorem dX10_fits_105 : decode cX10_fits 105 = .ok (.iload_n 3, 1) := by decide +kernel
theorem dX10_fits_106 : decode cX10_fits 106 = .ok (.invokevirtual 114, 3) := by decide +kernel
theorem dX10_fits_109 : decode cX10_fits 109 = .ok (.ifCond .eq 5, 3) := by decide +kernel
theorem dX10_fits_112 : decode cX10_fits 112 = .ok (.iconst 0, 1) := by decide +kernel
theorem dX10_fits_113 : decode cX10_fits 113 = .ok (.ireturn, 1) := by decide +kernel
theorem dX10_fits_114 : decode cX10_fits 114 = .ok (.iload_n 1, 1) := by decide +kernel
theorem dX10_fits_115 : decode cX10_fits 115 = .ok (.bipush 16, 2) := by decide +kernel
theorem dX10_fits_117 : decode cX10_fits 117 = .ok (.if_icmp .ne 40, 3) := by decide +kernel
theorem dX10_fits_120 : decode cX10_fits 120 = .ok (.iload 5, 2) := by decide +kernel
theorem dX10_fits_122 : decode cX10_fits 122 = .ok (.iconst 1, 1) := by decide +kernel
theorem dX10_fits_123 : decode cX10_fits 123 = .ok (.if_icmp .ne 32, 3) := by decide +kernel
theorem dX10_fits_126 : decode cX10_fits 126 = .ok (.aload_n 0, 1) := by decide +kernel
theorem dX10_fits_127 : decode cX10_fits 127 = .ok (.iload 4, 2) := by decide +kernel
theorem dX10_fits_129 : decode cX10_fits 129 = .ok (.invokevirtual 114, 3) := by decide +kernel
theorem dX10_fits_132 : decode cX10_fits 132 = .ok (.ifCond .ne 23, 3) := by decide +kernel
theorem dX10_fits_135 : decode cX10_fits 135 = .ok (.aload_n 0, 1) := by decide +kernel
theorem dX10_fits_136 : decode cX10_fits 136 = .ok (.getfield 44, 3) := by decide +kernel
theorem dX10_fits_139 : decode cX10_fits 139 = .ok (.iload_n 3, 1) := by decide +kernel
theorem dX10_fits_140 : decode cX10_fits 140 = .ok (.iaload, 1) := by decide +kernel
theorem dX10_fits_141 : decode cX10_fits 141 = .ok (.aload_n 0, 1) := by decide +kernel
theorem dX10_fits_142 : decode cX10_fits 142 = .ok (.getfield 44, 3) := by decide +kernel
theorem dX10_fits_145 : decode cX10_fits 145 = .ok (.iload 4, 2) := by decide +kernel
theorem dX10_fits_147 : decode cX10_fits 147 = .ok (.iaload, 1) := by decide +kernel
theorem dX10_fits_148 : decode cX10_fits 148 = .ok (.if_icmp .ne 7, 3) := by decide +kernel
theorem dX10_fits_151 : decode cX10_fits 151 = .ok (.iconst 1, 1) := by decide +kernel
theorem dX10_fits_152 : decode cX10_fits 152 = .ok (.goto 4, 3) := by decide +kernel
theorem dX10_fits_155 : decode cX10_fits 155 = .ok (.iconst 0, 1) := by decide +kernel
theorem dX10_fits_156 : decode cX10_fits 156 = .ok (.ireturn, 1) := by decide +kernel
theorem dX10_fits_157 : decode cX10_fits 157 = .ok (.aload_n 0, 1) := by decide +kernel
theorem dX10_fits_158 : decode cX10_fits 158 = .ok (.getfield 44, 3) := by decide +kernel
theorem dX10_fits_161 : decode cX10_fits 161 = .ok (.iload_n 3, 1) := by decide +kernel
theorem dX10_fits_162 : decode cX10_fits 162 = .ok (.iaload, 1) := by decide +kernel
theorem dX10_fits_163 : decode cX10_fits 163 = .ok (.iload 5, 2) := by decide +kernel
theorem dX10_fits_165 : decode cX10_fits 165 = .ok (.if_icmp .eq 5, 3) := by decide +kernel
theorem dX10_fits_168 : decode cX10_fits 168 = .ok (.iconst 0, 1) := by decide +kernel
theorem dX10_fits_169 : decode cX10_fits 169 = .ok (.ireturn, 1) := by decide +kernel
theorem dX10_fits_170 : decode cX10_fits 170 = .ok (.iload_n 1, 1) := by decide +kernel
theorem dX10_fits_171 : decode cX10_fits 171 = .ok (.bipush 7, 2) := by decide +kernel
theorem dX10_fits_173 : decode cX10_fits 173 = .ok (.if_icmp .ne 18, 3) := by decide +kernel
theorem dX10_fits_176 : decode cX10_fits 176 = .ok (.iload 5, 2) := by decide +kernel
theorem dX10_fits_178 : decode cX10_fits 178 = .ok (.bipush 17, 2) := by decide +kernel
theorem dX10_fits_180 : decode cX10_fits 180 = .ok (.if_icmp .ge 7, 3) := by decide +kernel
theorem dX10_fits_183 : decode cX10_fits 183 = .ok (.iconst 1, 1) := by decide +kernel
theorem dX10_fits_184 : decode cX10_fits 184 = .ok (.goto 31, 3) := by decide +kernel
theorem dX10_fits_187 : decode cX10_fits 187 = .ok (.iconst 0, 1) := by decide +kernel
theorem dX10_fits_188 : decode cX10_fits 188 = .ok (.goto 27, 3) := by decide +kernel
theorem dX10_fits_191 : decode cX10_fits 191 = .ok (.iload_n 1, 1) := by decide +kernel
theorem dX10_fits_192 : decode cX10_fits 192 = .ok (.bipush 8, 2) := by decide +kernel
theorem dX10_fits_194 : decode cX10_fits 194 = .ok (.if_icmp .eq 9, 3) := by decide +kernel
theorem dX10_fits_197 : decode cX10_fits 197 = .ok (.iload_n 1, 1) := by decide +kernel
theorem dX10_fits_198 : decode cX10_fits 198 = .ok (.bipush 9, 2) := by decide +kernel
theorem dX10_fits_200 : decode cX10_fits 200 = .ok (.if_icmp .ne 10, 3) := by decide +kernel
theorem dX10_fits_203 : decode cX10_fits 203 = .ok (.iload 5, 2) := by decide +kernel
theorem dX10_fits_205 : decode cX10_fits 205 = .ok (.bipush 8, 2) := by decide +kernel
theorem dX10_fits_207 : decode cX10_fits 207 = .ok (.if_icmp .ne 7, 3) := by decide +kernel
theorem dX10_fits_210 : decode cX10_fits 210 = .ok (.iconst 1, 1) := by decide +kernel
theorem dX10_fits_211 : decode cX10_fits 211 = .ok (.goto 4, 3) := by decide +kernel
theorem dX10_fits_214 : decode cX10_fits 214 = .ok (.iconst 0, 1) := by decide +kernel
theorem dX10_fits_215 : decode cX10_fits 215 = .ok (.ireturn, 1) := by decide +kernel
def fm_Mod_fits (st : XS) (o : Int32) (x1 : Int32) (y1 : Int32) (z1 : Int32) : Int32 := 
  if o < (0 : Int32) then (0 : Int32)
  else 
    if (20 : Int32) < o then (0 : Int32)
    else 
      if fm_Mod_none st x1 = (0 : Int32) then 
        if (2 : Int32) ≤ o then 
          if o = (20 : Int32) then 
            if fA st 4 x1.toNatClampNeg = (8 : Int32) then 
              if y1 = (0 : Int32) then (1 : Int32)
              else 
                if y1 = (1 : Int32) then (1 : Int32)
                else (0 : Int32)
            else (0 : Int32)
          else 
            if o ≤ (16 : Int32) then 
              if fm_Mod_none st y1 = (0 : Int32) then 
                if o = (16 : Int32) then 
                  if fA st 4 x1.toNatClampNeg = (1 : Int32) then 
                    if fm_Mod_none st z1 = (0 : Int32) then 
                      if fA st 4 y1.toNatClampNeg = fA st 4 z1.toNatClampNeg then (1 : Int32)
                      else (0 : Int32)
                    else (0 : Int32)
                  else (0 : Int32)
                else 
                  if fA st 4 y1.toNatClampNeg = fA st 4 x1.toNatClampNeg then 
                    if o = (7 : Int32) then 
                      if (17 : Int32) ≤ fA st 4 x1.toNatClampNeg then (0 : Int32)
                      else (1 : Int32)
                    else 
                      if o = (8 : Int32) then 
                        if fA st 4 x1.toNatClampNeg = (8 : Int32) then (1 : Int32)
                        else (0 : Int32)
                      else 
                        if o = (9 : Int32) then 
                          if fA st 4 x1.toNatClampNeg = (8 : Int32) then (1 : Int32)
                          else (0 : Int32)
                        else (1 : Int32)
                  else (0 : Int32)
              else (0 : Int32)
            else 
              if fm_Mod_isWidth st y1 = (0 : Int32) then (0 : Int32)
              else 
                if o = (19 : Int32) then 
                  if fA st 4 x1.toNatClampNeg ≤ y1 then (0 : Int32)
                  else (1 : Int32)
                else 
                  if y1 ≤ fA st 4 x1.toNatClampNeg then (0 : Int32)
                  else (1 : Int32)
        else (1 : Int32)
      else (0 : Int32)
set_option maxHeartbeats 4000000 in
set_option maxRecDepth 100000 in
theorem km_Mod_fits (l : Launch) (dC : Nat → ClassId) (dI : Nat → Nat → Nat) (a : Nat → Nat) (k : Nat → ClassId) (st : XS) (o : Int32) (x1 : Int32) (y1 : Int32) (z1 : Int32) (N : Nat) (hN : gI st 0 = nI N) (h64 : N ≤ 64) : Met l yX10_fits wsX10_fits ({ frames := 1, cells := 0, slots := 0, locals := 21 }) (va_Pc [.ref (a 0), .int o, .int x1, .int y1, .int z1] (wl_prR (dC, dI) vwCl (mt k) (mw a k st))) (vp_Si (fun r9 => r9 = fm_Mod_fits st o x1 y1 z1)) 0 0 (fun _ => False) := by
  refine Met.ofW (cc := cX10_fits) (maxL := 6) (ret := (some .boolean)) (by decide) rfl ?_
  intro p e s m args below meth c s₁ B hml hv
  obtain ⟨rfl, hP, hK⟩ := hv
  have hx := B.exec
  have hb := B.bytes
  have hr := B.returns
  have hta := aw_hts (atoms_spec (ws := wsX10_fits) B.pre)
  have hown : s.vm.findClass RX10 = some m.cls := findClass_of_methodNamed B.named
  have hlocks := B.notSynchronized
  have hf44 := hta _ mw_644
  have hl := lv_entry ([.ref (a 0), .int o, .int x1, .int y1, .int z1]) (n := 6) (Nat.le_of_ble_eq_true rfl)
  rw [lg_entry_eq]
  generalize (lg_sl ([.ref (a 0), .int o, .int x1, .int y1, .int z1]) ++ List.replicate (6 - (lg_sl ([.ref (a 0), .int o, .int x1, .int y1, .int z1])).length) Slot.unset).toArray = ls at hl ⊢
  have hl : lv_has ls 6 [(0, .ref (a 0)), (1, .int o), (2, .int x1), (3, .int y1), (4, .int z1)] := hl
  generalize hR : fm_Mod_fits st o x1 y1 z1 = R
  rw [fm_Mod_fits] at hR
  refine lv_iload_n hx hb dX10_fits_0 rfl (lv_at hl 1 rfl) ?_
  refine lv_if_lt (tgt := 18) hx hb dX10_fits_1 (by decide) (fun c1 => ?_) (fun c1 => ?_)
  · skip
    rw [if_pos c1] at hR
    refine lv_iconst (v := (0 : Int32)) hx hb dX10_fits_18 (by decide) ?_
    exact W.zret (v := (0 : Int32)) (ty := .boolean) hx hb hr rfl (fun t ht hW => ⟨_, rfl, hR, ht⟩) (fun q h => by cases h) dX10_fits_19
  · skip
    rw [if_neg c1] at hR
    refine lv_iload_n hx hb dX10_fits_4 rfl (lv_at hl 1 rfl) ?_
    refine lv_bipush (v := (20 : Int32)) hx hb dX10_fits_5 (by decide) ?_
    refine lv_icmp_gt (tgt := 18) hx hb dX10_fits_7 (by decide) (fun c7 => ?_) (fun c7 => ?_)
    · skip
      rw [if_pos c7] at hR
      refine lv_iconst (v := (0 : Int32)) hx hb dX10_fits_18 (by decide) ?_
      exact W.zret (v := (0 : Int32)) (ty := .boolean) hx hb hr rfl (fun t ht hW => ⟨_, rfl, hR, ht⟩) (fun q h => by cases h) dX10_fits_19
    · skip
      rw [if_neg c7] at hR
      refine lv_aload_n hx hb dX10_fits_10 rfl (lv_at hl 0 rfl) ?_
      refine lv_iload_n hx hb dX10_fits_11 rfl (lv_at hl 2 rfl) ?_
      refine wl_ci (va_runV (As := [.int x1]) (rest := []) ⟨hx, hb, hml, hown, hta⟩ (km_Mod_none l dC dI a k st x1) (cwV 1 hta gX10_114 rfl rfl rfl (by decide +kernel) ⟨Nat.le_of_ble_eq_true rfl, Nat.le_of_ble_eq_true rfl⟩) (wl_pR (C := RX10) (ci := 8) (q0 := 0) hK hP rfl (mr_0 a k st)) rfl rfl hl.1 rfl (lv_room (Nat.le_of_ble_eq_true rfl)) dX10_fits_12 ⟨Nat.zero_le _, Nat.zero_le _⟩) ?_
      refine lv_if_eq (tgt := 20) hx hb dX10_fits_15 (by decide) (fun c15 => ?_) (fun c15 => ?_)
      · skip
        rw [if_pos c15] at hR
        refine lv_aload_n hx hb dX10_fits_20 rfl (lv_at hl 0 rfl) ?_
        refine va_get (D := (dC, dI)) (ci := 8) (v := .ref (a 5)) (C := RX10) (T := TX10) (N := 21) hx hb hta inX10 hown hK hP 0 (mr_0 a k st) rfl 11 (by decide) hf44 (fun _ h9 => h9) rfl dX10_fits_21 ?_
        refine lv_iload_n hx hb dX10_fits_24 rfl (lv_at hl 2 rfl) ?_
        refine va_iald hx hb hK hP 5 4 (mr_5 a k st) rfl (wm_none hN h64 c15) dX10_fits_25 ?_
        refine lv_istore (lv' := [(5, .int (fA st 4 x1.toNatClampNeg)), (0, .ref (a 0)), (1, .int o), (2, .int x1), (3, .int y1), (4, .int z1)]) hx hb dX10_fits_26 hl (by decide) rfl (fun ls hl => ?_)
        refine lv_iload_n hx hb dX10_fits_28 rfl (lv_at hl 2 rfl) ?_
        refine lv_iconst (v := (2 : Int32)) hx hb dX10_fits_29 (by decide) ?_
        refine lv_icmp_ge (tgt := 35) hx hb dX10_fits_30 (by decide) (fun c30 => ?_) (fun c30 => ?_)
        · skip
          rw [if_pos c30] at hR
          refine lv_iload_n hx hb dX10_fits_35 rfl (lv_at hl 2 rfl) ?_
          refine lv_bipush (v := (20 : Int32)) hx hb dX10_fits_36 (by decide) ?_
          refine lv_icmp_ne (tgt := 63) hx hb dX10_fits_38 (by decide) (fun c38 => ?_) (fun c38 => ?_)
          · skip
            rw [if_neg c38] at hR
            refine lv_iload_n hx hb dX10_fits_63 rfl (lv_at hl 2 rfl) ?_
            refine lv_bipush (v := (16 : Int32)) hx hb dX10_fits_64 (by decide) ?_
            refine lv_icmp_le (tgt := 104) hx hb dX10_fits_66 (by decide) (fun c66 => ?_) (fun c66 => ?_)
            · skip
              rw [if_pos c66] at hR
              refine lv_aload_n hx hb dX10_fits_104 rfl (lv_at hl 1 rfl) ?_
              refine lv_iload_n hx hb dX10_fits_105 rfl (lv_at hl 4 rfl) ?_
              refine wl_ci (va_runV (As := [.int y1]) (rest := []) ⟨hx, hb, hml, hown, hta⟩ (km_Mod_none l dC dI a k st y1) (cwV 1 hta gX10_114 rfl rfl rfl (by decide +kernel) ⟨Nat.le_of_ble_eq_true rfl, Nat.le_of_ble_eq_true rfl⟩) (wl_pR (C := RX10) (ci := 8) (q0 := 0) hK hP rfl (mr_0 a k st)) rfl rfl hl.1 rfl (lv_room (Nat.le_of_ble_eq_true rfl)) dX10_fits_106 ⟨Nat.zero_le _, Nat.zero_le _⟩) ?_
              refine lv_if_eq (tgt := 114) hx hb dX10_fits_109 (by decide) (fun c109 => ?_) (fun c109 => ?_)
              · skip
                rw [if_pos c109] at hR
                refine lv_iload_n hx hb dX10_fits_114 rfl (lv_at hl 2 rfl) ?_
                refine lv_bipush (v := (16 : Int32)) hx hb dX10_fits_115 (by decide) ?_
                refine lv_icmp_ne (tgt := 157) hx hb dX10_fits_117 (by decide) (fun c117 => ?_) (fun c117 => ?_)
                · skip
                  rw [if_neg c117] at hR
                  refine lv_aload_n hx hb dX10_fits_157 rfl (lv_at hl 1 rfl) ?_
                  refine va_get (D := (dC, dI)) (ci := 8) (v := .ref (a 5)) (C := RX10) (T := TX10) (N := 21) hx hb hta inX10 hown hK hP 0 (mr_0 a k st) rfl 11 (by decide) hf44 (fun _ h9 => h9) rfl dX10_fits_158 ?_
                  refine lv_iload_n hx hb dX10_fits_161 rfl (lv_at hl 4 rfl) ?_
                  refine va_iald hx hb hK hP 5 4 (mr_5 a k st) rfl (wm_none hN h64 c109) dX10_fits_162 ?_
                  refine lv_iload hx hb dX10_fits_163 (lv_at hl 0 rfl) ?_
                  refine lv_icmp_eq (tgt := 170) hx hb dX10_fits_165 (by decide) (fun c165 => ?_) (fun c165 => ?_)
                  · skip
                    rw [if_pos c165] at hR
                    refine lv_iload_n hx hb dX10_fits_170 rfl (lv_at hl 2 rfl) ?_
                    refine lv_bipush (v := (7 : Int32)) hx hb dX10_fits_171 (by decide) ?_
                    refine lv_icmp_ne (tgt := 191) hx hb dX10_fits_173 (by decide) (fun c173 => ?_) (fun c173 => ?_)
                    · skip
                      rw [if_neg c173] at hR
                      refine lv_iload_n hx hb dX10_fits_191 rfl (lv_at hl 2 rfl) ?_
                      refine lv_bipush (v := (8 : Int32)) hx hb dX10_fits_192 (by decide) ?_
                      refine lv_icmp_eq (tgt := 203) hx hb dX10_fits_194 (by decide) (fun c194 => ?_) (fun c194 => ?_)
                      · skip
                        rw [if_pos c194] at hR
                        refine lv_iload hx hb dX10_fits_203 (lv_at hl 0 rfl) ?_
                        refine lv_bipush (v := (8 : Int32)) hx hb dX10_fits_205 (by decide) ?_
                        refine lv_icmp_ne (tgt := 214) hx hb dX10_fits_207 (by decide) (fun c207 => ?_) (fun c207 => ?_)
                        · skip
                          rw [if_neg c207] at hR
                          refine lv_iconst (v := (0 : Int32)) hx hb dX10_fits_214 (by decide) ?_
                          exact W.zret (v := (0 : Int32)) (ty := .boolean) hx hb hr rfl (fun t ht hW => ⟨_, rfl, hR, ht⟩) (fun q h => by cases h) dX10_fits_215
                        · skip
                          rw [if_pos c207] at hR
                          refine lv_iconst (v := (1 : Int32)) hx hb dX10_fits_210 (by decide) ?_
                          refine lv_goto (tgt := 215) hx hb dX10_fits_211 (by decide) ?_
                          exact W.zret (v := (1 : Int32)) (ty := .boolean) hx hb hr rfl (fun t ht hW => ⟨_, rfl, hR, ht⟩) (fun q h => by cases h) dX10_fits_215
                      · skip
                        rw [if_neg c194] at hR
                        refine lv_iload_n hx hb dX10_fits_197 rfl (lv_at hl 2 rfl) ?_
                        refine lv_bipush (v := (9 : Int32)) hx hb dX10_fits_198 (by decide) ?_
                        refine lv_icmp_ne (tgt := 210) hx hb dX10_fits_200 (by decide) (fun c200 => ?_) (fun c200 => ?_)
                        · skip
                          rw [if_neg c200] at hR
                          refine lv_iconst (v := (1 : Int32)) hx hb dX10_fits_210 (by decide) ?_
                          refine lv_goto (tgt := 215) hx hb dX10_fits_211 (by decide) ?_
                          exact W.zret (v := (1 : Int32)) (ty := .boolean) hx hb hr rfl (fun t ht hW => ⟨_, rfl, hR, ht⟩) (fun q h => by cases h) dX10_fits_215
                        · skip
                          rw [if_pos c200] at hR
                          refine lv_iload hx hb dX10_fits_203 (lv_at hl 0 rfl) ?_
                          refine lv_bipush (v := (8 : Int32)) hx hb dX10_fits_205 (by decide) ?_
                          refine lv_icmp_ne (tgt := 214) hx hb dX10_fits_207 (by decide) (fun c207 => ?_) (fun c207 => ?_)
                          · skip
                            rw [if_neg c207] at hR
                            refine lv_iconst (v := (0 : Int32)) hx hb dX10_fits_214 (by decide) ?_
                            exact W.zret (v := (0 : Int32)) (ty := .boolean) hx hb hr rfl (fun t ht hW => ⟨_, rfl, hR, ht⟩) (fun q h => by cases h) dX10_fits_215
                          · skip
                            rw [if_pos c207] at hR
                            refine lv_iconst (v := (1 : Int32)) hx hb dX10_fits_210 (by decide) ?_
                            refine lv_goto (tgt := 215) hx hb dX10_fits_211 (by decide) ?_
                            exact W.zret (v := (1 : Int32)) (ty := .boolean) hx hb hr rfl (fun t ht hW => ⟨_, rfl, hR, ht⟩) (fun q h => by cases h) dX10_fits_215
                    · skip
                      rw [if_pos c173] at hR
                      refine lv_iload hx hb dX10_fits_176 (lv_at hl 0 rfl) ?_
                      refine lv_bipush (v := (17 : Int32)) hx hb dX10_fits_178 (by decide) ?_
                      refine lv_icmp_ge (tgt := 187) hx hb dX10_fits_180 (by decide) (fun c180 => ?_) (fun c180 => ?_)
                      · skip
                        rw [if_pos c180] at hR
                        refine lv_iconst (v := (0 : Int32)) hx hb dX10_fits_187 (by decide) ?_
                        refine lv_goto (tgt := 215) hx hb dX10_fits_188 (by decide) ?_
                        exact W.zret (v := (0 : Int32)) (ty := .boolean) hx hb hr rfl (fun t ht hW => ⟨_, rfl, hR, ht⟩) (fun q h => by cases h) dX10_fits_215
                      · skip
                        rw [if_neg c180] at hR
                        refine lv_iconst (v := (1 : Int32)) hx hb dX10_fits_183 (by decide) ?_
                        refine lv_goto (tgt := 215) hx hb dX10_fits_184 (by decide) ?_
                        exact W.zret (v := (1 : Int32)) (ty := .boolean) hx hb hr rfl (fun t ht hW => ⟨_, rfl, hR, ht⟩) (fun q h => by cases h) dX10_fits_215
                  · skip
                    rw [if_neg c165] at hR
                    refine lv_iconst (v := (0 : Int32)) hx hb dX10_fits_168 (by decide) ?_
                    exact W.zret (v := (0 : Int32)) (ty := .boolean) hx hb hr rfl (fun t ht hW => ⟨_, rfl, hR, ht⟩) (fun q h => by cases h) dX10_fits_169
                · skip
                  rw [if_pos c117] at hR
                  refine lv_iload hx hb dX10_fits_120 (lv_at hl 0 rfl) ?_
                  refine lv_iconst (v := (1 : Int32)) hx hb dX10_fits_122 (by decide) ?_
                  refine lv_icmp_ne (tgt := 155) hx hb dX10_fits_123 (by decide) (fun c123 => ?_) (fun c123 => ?_)
                  · skip
                    rw [if_neg c123] at hR
                    refine lv_iconst (v := (0 : Int32)) hx hb dX10_fits_155 (by decide) ?_
                    exact W.zret (v := (0 : Int32)) (ty := .boolean) hx hb hr rfl (fun t ht hW => ⟨_, rfl, hR, ht⟩) (fun q h => by cases h) dX10_fits_156
                  · skip
                    rw [if_pos c123] at hR
                    refine lv_aload_n hx hb dX10_fits_126 rfl (lv_at hl 1 rfl) ?_
                    refine lv_iload hx hb dX10_fits_127 (lv_at hl 5 rfl) ?_
                    refine wl_ci (va_runV (As := [.int z1]) (rest := []) ⟨hx, hb, hml, hown, hta⟩ (km_Mod_none l dC dI a k st z1) (cwV 1 hta gX10_114 rfl rfl rfl (by decide +kernel) ⟨Nat.le_of_ble_eq_true rfl, Nat.le_of_ble_eq_true rfl⟩) (wl_pR (C := RX10) (ci := 8) (q0 := 0) hK hP rfl (mr_0 a k st)) rfl rfl hl.1 rfl (lv_room (Nat.le_of_ble_eq_true rfl)) dX10_fits_129 ⟨Nat.zero_le _, Nat.zero_le _⟩) ?_
                    refine lv_if_ne (tgt := 155) hx hb dX10_fits_132 (by decide) (fun c132 => ?_) (fun c132 => ?_)
                    · skip
                      rw [if_neg c132] at hR
                      refine lv_iconst (v := (0 : Int32)) hx hb dX10_fits_155 (by decide) ?_
                      exact W.zret (v := (0 : Int32)) (ty := .boolean) hx hb hr rfl (fun t ht hW => ⟨_, rfl, hR, ht⟩) (fun q h => by cases h) dX10_fits_156
                    · skip
                      rw [if_pos c132] at hR
                      refine lv_aload_n hx hb dX10_fits_135 rfl (lv_at hl 1 rfl) ?_
                      refine va_get (D := (dC, dI)) (ci := 8) (v := .ref (a 5)) (C := RX10) (T := TX10) (N := 21) hx hb hta inX10 hown hK hP 0 (mr_0 a k st) rfl 11 (by decide) hf44 (fun _ h9 => h9) rfl dX10_fits_136 ?_
                      refine lv_iload_n hx hb dX10_fits_139 rfl (lv_at hl 4 rfl) ?_
                      refine va_iald hx hb hK hP 5 4 (mr_5 a k st) rfl (wm_none hN h64 c109) dX10_fits_140 ?_
                      refine lv_aload_n hx hb dX10_fits_141 rfl (lv_at hl 1 rfl) ?_
                      refine va_get (D := (dC, dI)) (ci := 8) (v := .ref (a 5)) (C := RX10) (T := TX10) (N := 21) hx hb hta inX10 hown hK hP 0 (mr_0 a k st) rfl 11 (by decide) hf44 (fun _ h9 => h9) rfl dX10_fits_142 ?_
                      refine lv_iload hx hb dX10_fits_145 (lv_at hl 5 rfl) ?_
                      refine va_iald hx hb hK hP 5 4 (mr_5 a k st) rfl (wm_none hN h64 c132) dX10_fits_147 ?_
                      refine lv_icmp_ne (tgt := 155) hx hb dX10_fits_148 (by decide) (fun c148 => ?_) (fun c148 => ?_)
                      · skip
                        rw [if_neg c148] at hR
                        refine lv_iconst (v := (0 : Int32)) hx hb dX10_fits_155 (by decide) ?_
                        exact W.zret (v := (0 : Int32)) (ty := .boolean) hx hb hr rfl (fun t ht hW => ⟨_, rfl, hR, ht⟩) (fun q h => by cases h) dX10_fits_156
                      · skip
                        rw [if_pos c148] at hR
                        refine lv_iconst (v := (1 : Int32)) hx hb dX10_fits_151 (by decide) ?_
                        refine lv_goto (tgt := 156) hx hb dX10_fits_152 (by decide) ?_
                        exact W.zret (v := (1 : Int32)) (ty := .boolean) hx hb hr rfl (fun t ht hW => ⟨_, rfl, hR, ht⟩) (fun q h => by cases h) dX10_fits_156
              · skip
                rw [if_neg c109] at hR
                refine lv_iconst (v := (0 : Int32)) hx hb dX10_fits_112 (by decide) ?_
                exact W.zret (v := (0 : Int32)) (ty := .boolean) hx hb hr rfl (fun t ht hW => ⟨_, rfl, hR, ht⟩) (fun q h => by cases h) dX10_fits_113
            · skip
              rw [if_neg c66] at hR
              refine lv_aload_n hx hb dX10_fits_69 rfl (lv_at hl 1 rfl) ?_
              refine lv_iload_n hx hb dX10_fits_70 rfl (lv_at hl 4 rfl) ?_
              refine wl_ci (va_runV (As := [.int y1]) (rest := []) ⟨hx, hb, hml, hown, hta⟩ (km_Mod_isWidth l dC dI a k st y1) (cwV 1 hta gX10_80 rfl rfl rfl (by decide +kernel) ⟨Nat.le_of_ble_eq_true rfl, Nat.le_of_ble_eq_true rfl⟩) (wl_pR (C := RX10) (ci := 8) (q0 := 0) hK hP rfl (mr_0 a k st)) rfl rfl hl.1 rfl (lv_room (Nat.le_of_ble_eq_true rfl)) dX10_fits_71 ⟨Nat.zero_le _, Nat.zero_le _⟩) ?_
              refine lv_if_eq (tgt := 102) hx hb dX10_fits_74 (by decide) (fun c74 => ?_) (fun c74 => ?_)
              · skip
                rw [if_pos c74] at hR
                refine lv_iconst (v := (0 : Int32)) hx hb dX10_fits_102 (by decide) ?_
                exact W.zret (v := (0 : Int32)) (ty := .boolean) hx hb hr rfl (fun t ht hW => ⟨_, rfl, hR, ht⟩) (fun q h => by cases h) dX10_fits_103
              · skip
                rw [if_neg c74] at hR
                refine lv_iload_n hx hb dX10_fits_77 rfl (lv_at hl 2 rfl) ?_
                refine lv_bipush (v := (19 : Int32)) hx hb dX10_fits_78 (by decide) ?_
                refine lv_icmp_ne (tgt := 92) hx hb dX10_fits_80 (by decide) (fun c80 => ?_) (fun c80 => ?_)
                · skip
                  rw [if_neg c80] at hR
                  refine lv_iload_n hx hb dX10_fits_92 rfl (lv_at hl 4 rfl) ?_
                  refine lv_iload hx hb dX10_fits_93 (lv_at hl 0 rfl) ?_
                  refine lv_icmp_le (tgt := 102) hx hb dX10_fits_95 (by decide) (fun c95 => ?_) (fun c95 => ?_)
                  · skip
                    rw [if_pos c95] at hR
                    refine lv_iconst (v := (0 : Int32)) hx hb dX10_fits_102 (by decide) ?_
                    exact W.zret (v := (0 : Int32)) (ty := .boolean) hx hb hr rfl (fun t ht hW => ⟨_, rfl, hR, ht⟩) (fun q h => by cases h) dX10_fits_103
                  · skip
                    rw [if_neg c95] at hR
                    refine lv_iconst (v := (1 : Int32)) hx hb dX10_fits_98 (by decide) ?_
                    refine lv_goto (tgt := 103) hx hb dX10_fits_99 (by decide) ?_
                    exact W.zret (v := (1 : Int32)) (ty := .boolean) hx hb hr rfl (fun t ht hW => ⟨_, rfl, hR, ht⟩) (fun q h => by cases h) dX10_fits_103
                · skip
                  rw [if_pos c80] at hR
                  refine lv_iload_n hx hb dX10_fits_83 rfl (lv_at hl 4 rfl) ?_
                  refine lv_iload hx hb dX10_fits_84 (lv_at hl 0 rfl) ?_
                  refine lv_icmp_ge (tgt := 102) hx hb dX10_fits_86 (by decide) (fun c86 => ?_) (fun c86 => ?_)
                  · skip
                    rw [if_pos c86] at hR
                    refine lv_iconst (v := (0 : Int32)) hx hb dX10_fits_102 (by decide) ?_
                    exact W.zret (v := (0 : Int32)) (ty := .boolean) hx hb hr rfl (fun t ht hW => ⟨_, rfl, hR, ht⟩) (fun q h => by cases h) dX10_fits_103
                  · skip
                    rw [if_neg c86] at hR
                    refine lv_goto (tgt := 98) hx hb dX10_fits_89 (by decide) ?_
                    refine lv_iconst (v := (1 : Int32)) hx hb dX10_fits_98 (by decide) ?_
                    refine lv_goto (tgt := 103) hx hb dX10_fits_99 (by decide) ?_
                    exact W.zret (v := (1 : Int32)) (ty := .boolean) hx hb hr rfl (fun t ht hW => ⟨_, rfl, hR, ht⟩) (fun q h => by cases h) dX10_fits_103
          · skip
            rw [if_pos c38] at hR
            refine lv_iload hx hb dX10_fits_41 (lv_at hl 0 rfl) ?_
            refine lv_bipush (v := (8 : Int32)) hx hb dX10_fits_43 (by decide) ?_
            refine lv_icmp_ne (tgt := 61) hx hb dX10_fits_45 (by decide) (fun c45 => ?_) (fun c45 => ?_)
            · skip
              rw [if_neg c45] at hR
              refine lv_iconst (v := (0 : Int32)) hx hb dX10_fits_61 (by decide) ?_
              exact W.zret (v := (0 : Int32)) (ty := .boolean) hx hb hr rfl (fun t ht hW => ⟨_, rfl, hR, ht⟩) (fun q h => by cases h) dX10_fits_62
            · skip
              rw [if_pos c45] at hR
              refine lv_iload_n hx hb dX10_fits_48 rfl (lv_at hl 4 rfl) ?_
              refine lv_if_eq (tgt := 57) hx hb dX10_fits_49 (by decide) (fun c49 => ?_) (fun c49 => ?_)
              · skip
                rw [if_pos c49] at hR
                refine lv_iconst (v := (1 : Int32)) hx hb dX10_fits_57 (by decide) ?_
                refine lv_goto (tgt := 62) hx hb dX10_fits_58 (by decide) ?_
                exact W.zret (v := (1 : Int32)) (ty := .boolean) hx hb hr rfl (fun t ht hW => ⟨_, rfl, hR, ht⟩) (fun q h => by cases h) dX10_fits_62
              · skip
                rw [if_neg c49] at hR
                refine lv_iload_n hx hb dX10_fits_52 rfl (lv_at hl 4 rfl) ?_
                refine lv_iconst (v := (1 : Int32)) hx hb dX10_fits_53 (by decide) ?_
                refine lv_icmp_ne (tgt := 61) hx hb dX10_fits_54 (by decide) (fun c54 => ?_) (fun c54 => ?_)
                · skip
                  rw [if_neg c54] at hR
                  refine lv_iconst (v := (0 : Int32)) hx hb dX10_fits_61 (by decide) ?_
                  exact W.zret (v := (0 : Int32)) (ty := .boolean) hx hb hr rfl (fun t ht hW => ⟨_, rfl, hR, ht⟩) (fun q h => by cases h) dX10_fits_62
                · skip
                  rw [if_pos c54] at hR
                  refine lv_iconst (v := (1 : Int32)) hx hb dX10_fits_57 (by decide) ?_
                  refine lv_goto (tgt := 62) hx hb dX10_fits_58 (by decide) ?_
                  exact W.zret (v := (1 : Int32)) (ty := .boolean) hx hb hr rfl (fun t ht hW => ⟨_, rfl, hR, ht⟩) (fun q h => by cases h) dX10_fits_62
        · skip
          rw [if_neg c30] at hR
          refine lv_iconst (v := (1 : Int32)) hx hb dX10_fits_33 (by decide) ?_
          exact W.zret (v := (1 : Int32)) (ty := .boolean) hx hb hr rfl (fun t ht hW => ⟨_, rfl, hR, ht⟩) (fun q h => by cases h) dX10_fits_34
      · skip
        rw [if_neg c15] at hR
        refine lv_iconst (v := (0 : Int32)) hx hb dX10_fits_18 (by decide) ?_
        exact W.zret (v := (0 : Int32)) (ty := .boolean) hx hb hr rfl (fun t ht hW => ⟨_, rfl, hR, ht⟩) (fun q h => by cases h) dX10_fits_19

theorem dX10_isConst_0 : decode cX10_isConst 0 = .ok (.aload_n 0, 1) := by decide +kernel
theorem dX10_isConst_1 : decode cX10_isConst 1 = .ok (.getfield 31, 3) := by decide +kernel
theorem dX10_isConst_4 : decode cX10_isConst 4 = .ok (.iload_n 1, 1) := by decide +kernel
theorem dX10_isConst_5 : decode cX10_isConst 5 = .ok (.iaload, 1) := by decide +kernel
theorem dX10_isConst_6 : decode cX10_isConst 6 = .ok (.bipush 21, 2) := by decide +kernel
theorem dX10_isConst_8 : decode cX10_isConst 8 = .ok (.if_icmp .ne 7, 3) := by decide +kernel
theorem dX10_isConst_11 : decode cX10_isConst 11 = .ok (.iconst 1, 1) := by decide +kernel
theorem dX10_isConst_12 : decode cX10_isConst 12 = .ok (.goto 4, 3) := by decide +kernel
theorem dX10_isConst_15 : decode cX10_isConst 15 = .ok (.iconst 0, 1) := by decide +kernel
theorem dX10_isConst_16 : decode cX10_isConst 16 = .ok (.ireturn, 1) := by decide +kernel
def fm_Mod_isConst (st : XS) (t : Int32) : Int32 := 
  if fA st 0 t.toNatClampNeg = (21 : Int32) then (1 : Int32)
  else (0 : Int32)
set_option maxHeartbeats 4000000 in
set_option maxRecDepth 100000 in
theorem km_Mod_isConst (l : Launch) (dC : Nat → ClassId) (dI : Nat → Nat → Nat) (a : Nat → Nat) (k : Nat → ClassId) (st : XS) (t : Int32) (hi : vp_in t 64) : Met l yX10_isConst wsX10_isConst ({ frames := 0, cells := 0, slots := 0, locals := 0 }) (va_Pc [.ref (a 0), .int t] (wl_prR (dC, dI) vwCl (mt k) (mw a k st))) (vp_Si (fun r9 => r9 = fm_Mod_isConst st t)) 0 0 (fun _ => False) := by
  refine Met.ofW (cc := cX10_isConst) (maxL := 2) (ret := (some .boolean)) (by decide) rfl ?_
  intro p e s m args below meth c s₁ B hml hv
  obtain ⟨rfl, hP, hK⟩ := hv
  have hx := B.exec
  have hb := B.bytes
  have hr := B.returns
  have hta := aw_hts (atoms_spec (ws := wsX10_isConst) B.pre)
  have hown : s.vm.findClass RX10 = some m.cls := findClass_of_methodNamed B.named
  have hlocks := B.notSynchronized
  have hf31 := hta _ mw_640
  have hl := lv_entry ([.ref (a 0), .int t]) (n := 2) (Nat.le_of_ble_eq_true rfl)
  rw [lg_entry_eq]
  generalize (lg_sl ([.ref (a 0), .int t]) ++ List.replicate (2 - (lg_sl ([.ref (a 0), .int t])).length) Slot.unset).toArray = ls at hl ⊢
  have hl : lv_has ls 2 [(0, .ref (a 0)), (1, .int t)] := hl
  generalize hR : fm_Mod_isConst st t = R
  rw [fm_Mod_isConst] at hR
  refine lv_aload_n hx hb dX10_isConst_0 rfl (lv_at hl 0 rfl) ?_
  refine va_get (D := (dC, dI)) (ci := 8) (v := .ref (a 1)) (C := RX10) (T := TX10) (N := 21) hx hb hta inX10 hown hK hP 0 (mr_0 a k st) rfl 7 (by decide) hf31 (fun _ h9 => h9) rfl dX10_isConst_1 ?_
  refine lv_iload_n hx hb dX10_isConst_4 rfl (lv_at hl 1 rfl) ?_
  refine va_iald hx hb hK hP 1 0 (mr_1 a k st) rfl hi dX10_isConst_5 ?_
  refine lv_bipush (v := (21 : Int32)) hx hb dX10_isConst_6 (by decide) ?_
  refine lv_icmp_ne (tgt := 15) hx hb dX10_isConst_8 (by decide) (fun c8 => ?_) (fun c8 => ?_)
  · skip
    rw [if_neg c8] at hR
    refine lv_iconst (v := (0 : Int32)) hx hb dX10_isConst_15 (by decide) ?_
    exact W.zret (v := (0 : Int32)) (ty := .boolean) hx hb hr rfl (fun t ht hW => ⟨_, rfl, hR, ht⟩) (fun q h => by cases h) dX10_isConst_16
  · skip
    rw [if_pos c8] at hR
    refine lv_iconst (v := (1 : Int32)) hx hb dX10_isConst_11 (by decide) ?_
    refine lv_goto (tgt := 16) hx hb dX10_isConst_12 (by decide) ?_
    exact W.zret (v := (1 : Int32)) (ty := .boolean) hx hb hr rfl (fun t ht hW => ⟨_, rfl, hR, ht⟩) (fun q h => by cases h) dX10_isConst_16

theorem mw_645 : (.fieldLink RX10 47 RX10 "fixed" "[J" : Cond) ∈ AW := List.mem_filter.mpr ⟨List.mem_of_getElem? (i := 645) (by decide +kernel), rfl⟩
theorem dX10_isZero_0 : decode cX10_isZero 0 = .ok (.aload_n 0, 1) := by decide +kernel
theorem dX10_isZero_1 : decode cX10_isZero 1 = .ok (.getfield 31, 3) := by decide +kernel
theorem dX10_isZero_4 : decode cX10_isZero 4 = .ok (.iload_n 1, 1) := by decide +kernel
theorem dX10_isZero_5 : decode cX10_isZero 5 = .ok (.iaload, 1) := by decide +kernel
theorem dX10_isZero_6 : decode cX10_isZero 6 = .ok (.bipush 21, 2) := by decide +kernel
theorem dX10_isZero_8 : decode cX10_isZero 8 = .ok (.if_icmp .ne 18, 3) := by decide +kernel
theorem dX10_isZero_11 : decode cX10_isZero 11 = .ok (.aload_n 0, 1) := by decide +kernel
theorem dX10_isZero_12 : decode cX10_isZero 12 = .ok (.getfield 47, 3) := by decide +kernel
theorem dX10_isZero_15 : decode cX10_isZero 15 = .ok (.iload_n 1, 1) := by decide +kernel
theorem dX10_isZero_16 : decode cX10_isZero 16 = .ok (.laload, 1) := by decide +kernel
theorem dX10_isZero_17 : decode cX10_isZero 17 = .ok (.lconst 0, 1) := by decide +kernel
theorem dX10_isZero_18 : decode cX10_isZero 18 = .ok (.lcmp, 1) := by decide +kernel
theorem dX10_isZero_19 : decode cX10_isZero 19 = .ok (.ifCond .ne 7, 3) := by decide +kernel
theorem dX10_isZero_22 : decode cX10_isZero 22 = .ok (.iconst 1, 1) := by decide +kernel
theorem dX10_isZero_23 : decode cX10_isZero 23 = .ok (.goto 4, 3) := by decide +kernel
theorem dX10_isZero_26 : decode cX10_isZero 26 = .ok (.iconst 0, 1) := by decide +kernel
theorem dX10_isZero_27 : decode cX10_isZero 27 = .ok (.ireturn, 1) := by decide +kernel
def fm_Mod_isZero (st : XS) (t : Int32) : Int32 := 
  if fA st 0 t.toNatClampNeg = (21 : Int32) then 
    if lg_cmp (fL st 0 t.toNatClampNeg) (0 : Int64) = (0 : Int32) then (1 : Int32)
    else (0 : Int32)
  else (0 : Int32)
set_option maxHeartbeats 4000000 in
set_option maxRecDepth 100000 in
theorem km_Mod_isZero (l : Launch) (dC : Nat → ClassId) (dI : Nat → Nat → Nat) (a : Nat → Nat) (k : Nat → ClassId) (st : XS) (t : Int32) (hi : vp_in t 64) : Met l yX10_isZero wsX10_isZero ({ frames := 0, cells := 0, slots := 0, locals := 0 }) (va_Pc [.ref (a 0), .int t] (wl_prR (dC, dI) vwCl (mt k) (mw a k st))) (vp_Si (fun r9 => r9 = fm_Mod_isZero st t)) 0 0 (fun _ => False) := by
  refine Met.ofW (cc := cX10_isZero) (maxL := 2) (ret := (some .boolean)) (by decide) rfl ?_
  intro p e s m args below meth c s₁ B hml hv
  obtain ⟨rfl, hP, hK⟩ := hv
  have hx := B.exec
  have hb := B.bytes
  have hr := B.returns
  have hta := aw_hts (atoms_spec (ws := wsX10_isZero) B.pre)
  have hown : s.vm.findClass RX10 = some m.cls := findClass_of_methodNamed B.named
  have hlocks := B.notSynchronized
  have hf31 := hta _ mw_640
  have hf47 := hta _ mw_645
  have hl := lv_entry ([.ref (a 0), .int t]) (n := 2) (Nat.le_of_ble_eq_true rfl)
  rw [lg_entry_eq]
  generalize (lg_sl ([.ref (a 0), .int t]) ++ List.replicate (2 - (lg_sl ([.ref (a 0), .int t])).length) Slot.unset).toArray = ls at hl ⊢
  have hl : lv_has ls 2 [(0, .ref (a 0)), (1, .int t)] := hl
  generalize hR : fm_Mod_isZero st t = R
  rw [fm_Mod_isZero] at hR
  refine lv_aload_n hx hb dX10_isZero_0 rfl (lv_at hl 0 rfl) ?_
  refine va_get (D := (dC, dI)) (ci := 8) (v := .ref (a 1)) (C := RX10) (T := TX10) (N := 21) hx hb hta inX10 hown hK hP 0 (mr_0 a k st) rfl 7 (by decide) hf31 (fun _ h9 => h9) rfl dX10_isZero_1 ?_
  refine lv_iload_n hx hb dX10_isZero_4 rfl (lv_at hl 1 rfl) ?_
  refine va_iald hx hb hK hP 1 0 (mr_1 a k st) rfl hi dX10_isZero_5 ?_
  refine lv_bipush (v := (21 : Int32)) hx hb dX10_isZero_6 (by decide) ?_
  refine lv_icmp_ne (tgt := 26) hx hb dX10_isZero_8 (by decide) (fun c8 => ?_) (fun c8 => ?_)
  · skip
    rw [if_neg c8] at hR
    refine lv_iconst (v := (0 : Int32)) hx hb dX10_isZero_26 (by decide) ?_
    exact W.zret (v := (0 : Int32)) (ty := .boolean) hx hb hr rfl (fun t ht hW => ⟨_, rfl, hR, ht⟩) (fun q h => by cases h) dX10_isZero_27
  · skip
    rw [if_pos c8] at hR
    refine lv_aload_n hx hb dX10_isZero_11 rfl (lv_at hl 0 rfl) ?_
    refine va_get (D := (dC, dI)) (ci := 8) (v := .ref (a 6)) (C := RX10) (T := TX10) (N := 21) hx hb hta inX10 hown hK hP 0 (mr_0 a k st) rfl 12 (by decide) hf47 (fun _ h9 => h9) rfl dX10_isZero_12 ?_
    refine lv_iload_n hx hb dX10_isZero_15 rfl (lv_at hl 1 rfl) ?_
    refine va_lald hx hb hK hP 6 5 (mr_6 a k st) rfl hi dX10_isZero_16 ?_
    refine lv_lconst (v := (0 : Int64)) hx hb dX10_isZero_17 (by decide) ?_
    refine W.lcmp hx hb dX10_isZero_18 ?_
    refine lv_if_ne (tgt := 26) hx hb dX10_isZero_19 (by decide) (fun c19 => ?_) (fun c19 => ?_)
    · skip
      rw [if_neg c19] at hR
      refine lv_iconst (v := (0 : Int32)) hx hb dX10_isZero_26 (by decide) ?_
      exact W.zret (v := (0 : Int32)) (ty := .boolean) hx hb hr rfl (fun t ht hW => ⟨_, rfl, hR, ht⟩) (fun q h => by cases h) dX10_isZero_27
    · skip
      rw [if_pos c19] at hR
      refine lv_iconst (v := (1 : Int32)) hx hb dX10_isZero_22 (by decide) ?_
      refine lv_goto (tgt := 27) hx hb dX10_isZero_23 (by decide) ?_
      exact W.zret (v := (1 : Int32)) (ty := .boolean) hx hb hr rfl (fun t ht hW => ⟨_, rfl, hR, ht⟩) (fun q h => by cases h) dX10_isZero_27

theorem dX10_widthOf_0 : decode cX10_widthOf 0 = .ok (.iload_n 1, 1) := by decide +kernel
theorem dX10_widthOf_1 : decode cX10_widthOf 1 = .ok (.bipush 16, 2) := by decide +kernel
theorem dX10_widthOf_3 : decode cX10_widthOf 3 = .ok (.if_icmp .ne 12, 3) := by decide +kernel
theorem dX10_widthOf_6 : decode cX10_widthOf 6 = .ok (.aload_n 0, 1) := by decide +kernel
theorem dX10_widthOf_7 : decode cX10_widthOf 7 = .ok (.getfield 44, 3) := by decide +kernel
theorem dX10_widthOf_10 : decode cX10_widthOf 10 = .ok (.iload_n 3, 1) := by decide +kernel
theorem dX10_widthOf_11 : decode cX10_widthOf 11 = .ok (.iaload, 1) := by decide +kernel
theorem dX10_widthOf_12 : decode cX10_widthOf 12 = .ok (.goto 46, 3) := by decide +kernel
theorem dX10_widthOf_15 : decode cX10_widthOf 15 = .ok (.iload_n 1, 1) := by decide +kernel
theorem dX10_widthOf_16 : decode cX10_widthOf 16 = .ok (.bipush 12, 2) := by decide +kernel
theorem dX10_widthOf_18 : decode cX10_widthOf 18 = .ok (.if_icmp .le 13, 3) := by decide +kernel
theorem dX10_widthOf_21 : decode cX10_widthOf 21 = .ok (.iload_n 1, 1) := by decide +kernel
theorem dX10_widthOf_22 : decode cX10_widthOf 22 = .ok (.bipush 16, 2) := by decide +kernel
theorem dX10_widthOf_24 : decode cX10_widthOf 24 = .ok (.if_icmp .ge 7, 3) := by decide +kernel
theorem dX10_widthOf_27 : decode cX10_widthOf 27 = .ok (.iconst 1, 1) := by decide +kernel
theorem dX10_widthOf_28 : decode cX10_widthOf 28 = .ok (.goto 30, 3) := by decide +kernel
theorem dX10_widthOf_31 : decode cX10_widthOf 31 = .ok (.iload_n 1, 1) := by decide +kernel
theorem dX10_widthOf_32 : decode cX10_widthOf 32 = .ok (.bipush 20, 2) := by decide +kernel
theorem dX10_widthOf_34 : decode cX10_widthOf 34 = .ok (.if_icmp .ne 8, 3) := by decide +kernel
theorem dX10_widthOf_37 : decode cX10_widthOf 37 = .ok (.bipush 8, 2) := by decide +kernel
theorem dX10_widthOf_39 : decode cX10_widthOf 39 = .ok (.goto 19, 3) := by decide +kernel
theorem dX10_widthOf_42 : decode cX10_widthOf 42 = .ok (.iload_n 1, 1) := by decide +kernel
theorem dX10_widthOf_43 : decode cX10_widthOf 43 = .ok (.bipush 16, 2) := by decide +kernel
theorem dX10_widthOf_45 : decode cX10_widthOf 45 = .ok (.if_icmp .le 7, 3) := by decide +kernel
theorem dX10_widthOf_48 : decode cX10_widthOf 48 = .ok (.iload_n 3, 1) := by decide +kernel
theorem dX10_widthOf_49 : decode cX10_widthOf 49 = .ok (.goto 9, 3) := by decide +kernel
theorem dX10_widthOf_52 : decode cX10_widthOf 52 = .ok (.aload_n 0, 1) := by decide +kernel
theorem dX10_widthOf_53 : decode cX10_widthOf 53 = .ok (.getfield 44, 3) := by decide +kernel
theorem dX10_widthOf_56 : decode cX10_widthOf 56 = .ok (.iload_n 2, 1) := by decide +kernel
theorem dX10_widthOf_57 : decode cX10_widthOf 57 = .ok (.iaload, 1) := by decide +kernel
theorem dX10_widthOf_58 : decode cX10_widthOf 58 = .ok (.ireturn, 1) := by decide +kernel
def fm_Mod_widthOf (st : XS) (o : Int32) (x1 : Int32) (y1 : Int32) : Int32 := 
  if o = (16 : Int32) then fA st 4 y1.toNatClampNeg
  else 
    if o ≤ (12 : Int32) then 
      if o = (20 : Int32) then (8 : Int32)
      else 
        if o ≤ (16 : Int32) then fA st 4 x1.toNatClampNeg
        else y1
    else 
      if (16 : Int32) ≤ o then 
        if o = (20 : Int32) then (8 : Int32)
        else 
          if o ≤ (16 : Int32) then fA st 4 x1.toNatClampNeg
          else y1
      else (1 : Int32)
set_option maxHeartbeats 4000000 in
set_option maxRecDepth 100000 in
theorem km_Mod_widthOf (l : Launch) (dC : Nat → ClassId) (dI : Nat → Nat → Nat) (a : Nat → Nat) (k : Nat → ClassId) (st : XS) (o : Int32) (x1 : Int32) (y1 : Int32) (hA : vp_in x1 64) (hB : o = 16 → vp_in y1 64) : Met l yX10_widthOf wsX10_widthOf ({ frames := 0, cells := 0, slots := 0, locals := 0 }) (va_Pc [.ref (a 0), .int o, .int x1, .int y1] (wl_prR (dC, dI) vwCl (mt k) (mw a k st))) (vp_Si (fun r9 => r9 = fm_Mod_widthOf st o x1 y1)) 0 0 (fun _ => False) := by
  refine Met.ofW (cc := cX10_widthOf) (maxL := 4) (ret := (some .int)) (by decide) rfl ?_
  intro p e s m args below meth c s₁ B hml hv
  obtain ⟨rfl, hP, hK⟩ := hv
  have hx := B.exec
  have hb := B.bytes
  have hr := B.returns
  have hta := aw_hts (atoms_spec (ws := wsX10_widthOf) B.pre)
  have hown : s.vm.findClass RX10 = some m.cls := findClass_of_methodNamed B.named
  have hlocks := B.notSynchronized
  have hf44 := hta _ mw_644
  have hl := lv_entry ([.ref (a 0), .int o, .int x1, .int y1]) (n := 4) (Nat.le_of_ble_eq_true rfl)
  rw [lg_entry_eq]
  generalize (lg_sl ([.ref (a 0), .int o, .int x1, .int y1]) ++ List.replicate (4 - (lg_sl ([.ref (a 0), .int o, .int x1, .int y1])).length) Slot.unset).toArray = ls at hl ⊢
  have hl : lv_has ls 4 [(0, .ref (a 0)), (1, .int o), (2, .int x1), (3, .int y1)] := hl
  generalize hR : fm_Mod_widthOf st o x1 y1 = R
  rw [fm_Mod_widthOf] at hR
  refine lv_iload_n hx hb dX10_widthOf_0 rfl (lv_at hl 1 rfl) ?_
  refine lv_bipush (v := (16 : Int32)) hx hb dX10_widthOf_1 (by decide) ?_
  refine lv_icmp_ne (tgt := 15) hx hb dX10_widthOf_3 (by decide) (fun c3 => ?_) (fun c3 => ?_)
  · skip
    rw [if_neg c3] at hR
    refine lv_iload_n hx hb dX10_widthOf_15 rfl (lv_at hl 1 rfl) ?_
    refine lv_bipush (v := (12 : Int32)) hx hb dX10_widthOf_16 (by decide) ?_
    refine lv_icmp_le (tgt := 31) hx hb dX10_widthOf_18 (by decide) (fun c18 => ?_) (fun c18 => ?_)
    · skip
      rw [if_pos c18] at hR
      refine lv_iload_n hx hb dX10_widthOf_31 rfl (lv_at hl 1 rfl) ?_
      refine lv_bipush (v := (20 : Int32)) hx hb dX10_widthOf_32 (by decide) ?_
      refine lv_icmp_ne (tgt := 42) hx hb dX10_widthOf_34 (by decide) (fun c34 => ?_) (fun c34 => ?_)
      · skip
        rw [if_neg c34] at hR
        refine lv_iload_n hx hb dX10_widthOf_42 rfl (lv_at hl 1 rfl) ?_
        refine lv_bipush (v := (16 : Int32)) hx hb dX10_widthOf_43 (by decide) ?_
        refine lv_icmp_le (tgt := 52) hx hb dX10_widthOf_45 (by decide) (fun c45 => ?_) (fun c45 => ?_)
        · skip
          rw [if_pos c45] at hR
          refine lv_aload_n hx hb dX10_widthOf_52 rfl (lv_at hl 0 rfl) ?_
          refine va_get (D := (dC, dI)) (ci := 8) (v := .ref (a 5)) (C := RX10) (T := TX10) (N := 21) hx hb hta inX10 hown hK hP 0 (mr_0 a k st) rfl 11 (by decide) hf44 (fun _ h9 => h9) rfl dX10_widthOf_53 ?_
          refine lv_iload_n hx hb dX10_widthOf_56 rfl (lv_at hl 2 rfl) ?_
          refine va_iald hx hb hK hP 5 4 (mr_5 a k st) rfl hA dX10_widthOf_57 ?_
          exact W.iret (v := fA st 4 x1.toNatClampNeg) hx hb hr (fun t ht hW => ⟨_, rfl, hR, ht⟩) (fun q h => by cases h) dX10_widthOf_58
        · skip
          rw [if_neg c45] at hR
          refine lv_iload_n hx hb dX10_widthOf_48 rfl (lv_at hl 3 rfl) ?_
          refine lv_goto (tgt := 58) hx hb dX10_widthOf_49 (by decide) ?_
          exact W.iret (v := y1) hx hb hr (fun t ht hW => ⟨_, rfl, hR, ht⟩) (fun q h => by cases h) dX10_widthOf_58
      · skip
        rw [if_pos c34] at hR
        refine lv_bipush (v := (8 : Int32)) hx hb dX10_widthOf_37 (by decide) ?_
        refine lv_goto (tgt := 58) hx hb dX10_widthOf_39 (by decide) ?_
        exact W.iret (v := (8 : Int32)) hx hb hr (fun t ht hW => ⟨_, rfl, hR, ht⟩) (fun q h => by cases h) dX10_widthOf_58
    · skip
      rw [if_neg c18] at hR
      refine lv_iload_n hx hb dX10_widthOf_21 rfl (lv_at hl 1 rfl) ?_
      refine lv_bipush (v := (16 : Int32)) hx hb dX10_widthOf_22 (by decide) ?_
      refine lv_icmp_ge (tgt := 31) hx hb dX10_widthOf_24 (by decide) (fun c24 => ?_) (fun c24 => ?_)
      · skip
        rw [if_pos c24] at hR
        refine lv_iload_n hx hb dX10_widthOf_31 rfl (lv_at hl 1 rfl) ?_
        refine lv_bipush (v := (20 : Int32)) hx hb dX10_widthOf_32 (by decide) ?_
        refine lv_icmp_ne (tgt := 42) hx hb dX10_widthOf_34 (by decide) (fun c34 => ?_) (fun c34 => ?_)
        · skip
          rw [if_neg c34] at hR
          refine lv_iload_n hx hb dX10_widthOf_42 rfl (lv_at hl 1 rfl) ?_
          refine lv_bipush (v := (16 : Int32)) hx hb dX10_widthOf_43 (by decide) ?_
          refine lv_icmp_le (tgt := 52) hx hb dX10_widthOf_45 (by decide) (fun c45 => ?_) (fun c45 => ?_)
          · skip
            rw [if_pos c45] at hR
            refine lv_aload_n hx hb dX10_widthOf_52 rfl (lv_at hl 0 rfl) ?_
            refine va_get (D := (dC, dI)) (ci := 8) (v := .ref (a 5)) (C := RX10) (T := TX10) (N := 21) hx hb hta inX10 hown hK hP 0 (mr_0 a k st) rfl 11 (by decide) hf44 (fun _ h9 => h9) rfl dX10_widthOf_53 ?_
            refine lv_iload_n hx hb dX10_widthOf_56 rfl (lv_at hl 2 rfl) ?_
            refine va_iald hx hb hK hP 5 4 (mr_5 a k st) rfl hA dX10_widthOf_57 ?_
            exact W.iret (v := fA st 4 x1.toNatClampNeg) hx hb hr (fun t ht hW => ⟨_, rfl, hR, ht⟩) (fun q h => by cases h) dX10_widthOf_58
          · skip
            rw [if_neg c45] at hR
            refine lv_iload_n hx hb dX10_widthOf_48 rfl (lv_at hl 3 rfl) ?_
            refine lv_goto (tgt := 58) hx hb dX10_widthOf_49 (by decide) ?_
            exact W.iret (v := y1) hx hb hr (fun t ht hW => ⟨_, rfl, hR, ht⟩) (fun q h => by cases h) dX10_widthOf_58
        · skip
          rw [if_pos c34] at hR
          refine lv_bipush (v := (8 : Int32)) hx hb dX10_widthOf_37 (by decide) ?_
          refine lv_goto (tgt := 58) hx hb dX10_widthOf_39 (by decide) ?_
          exact W.iret (v := (8 : Int32)) hx hb hr (fun t ht hW => ⟨_, rfl, hR, ht⟩) (fun q h => by cases h) dX10_widthOf_58
      · skip
        rw [if_neg c24] at hR
        refine lv_iconst (v := (1 : Int32)) hx hb dX10_widthOf_27 (by decide) ?_
        refine lv_goto (tgt := 58) hx hb dX10_widthOf_28 (by decide) ?_
        exact W.iret (v := (1 : Int32)) hx hb hr (fun t ht hW => ⟨_, rfl, hR, ht⟩) (fun q h => by cases h) dX10_widthOf_58
  · skip
    rw [if_pos c3] at hR
    refine lv_aload_n hx hb dX10_widthOf_6 rfl (lv_at hl 0 rfl) ?_
    refine va_get (D := (dC, dI)) (ci := 8) (v := .ref (a 5)) (C := RX10) (T := TX10) (N := 21) hx hb hta inX10 hown hK hP 0 (mr_0 a k st) rfl 11 (by decide) hf44 (fun _ h9 => h9) rfl dX10_widthOf_7 ?_
    refine lv_iload_n hx hb dX10_widthOf_10 rfl (lv_at hl 3 rfl) ?_
    refine va_iald hx hb hK hP 5 4 (mr_5 a k st) rfl (hB c3) dX10_widthOf_11 ?_
    refine lv_goto (tgt := 58) hx hb dX10_widthOf_12 (by decide) ?_
    exact W.iret (v := fA st 4 y1.toNatClampNeg) hx hb hr (fun t ht hW => ⟨_, rfl, hR, ht⟩) (fun q h => by cases h) dX10_widthOf_58

theorem dX10_cost_0 : decode cX10_cost 0 = .ok (.iload_n 1, 1) := by decide +kernel
theorem dX10_cost_1 : decode cX10_cost 1 = .ok (.ifCond .eq 19, 3) := by decide +kernel
theorem dX10_cost_4 : decode cX10_cost 4 = .ok (.iload_n 1, 1) := by decide +kernel
theorem dX10_cost_5 : decode cX10_cost 5 = .ok (.iconst 1, 1) := by decide +kernel
theorem dX10_cost_6 : decode cX10_cost 6 = .ok (.if_icmp .le 8, 3) := by decide +kernel
theorem dX10_cost_9 : decode cX10_cost 9 = .ok (.iload_n 1, 1) := by decide +kernel
theorem dX10_cost_10 : decode cX10_cost 10 = .ok (.iconst 5, 1) := by decide +kernel
theorem dX10_cost_11 : decode cX10_cost 11 = .ok (.if_icmp .lt 9, 3) := by decide +kernel
theorem dX10_cost_14 : decode cX10_cost 14 = .ok (.iload_n 1, 1) := by decide +kernel
theorem dX10_cost_15 : decode cX10_cost 15 = .ok (.bipush 16, 2) := by decide +kernel
theorem dX10_cost_17 : decode cX10_cost 17 = .ok (.if_icmp .ne 5, 3) := by decide +kernel
theorem dX10_cost_20 : decode cX10_cost 20 = .ok (.iload_n 2, 1) := by decide +kernel
theorem dX10_cost_21 : decode cX10_cost 21 = .ok (.ireturn, 1) := by decide +kernel
theorem dX10_cost_22 : decode cX10_cost 22 = .ok (.iload_n 1, 1) := by decide +kernel
theorem dX10_cost_23 : decode cX10_cost 23 = .ok (.bipush 7, 2) := by decide +kernel
theorem dX10_cost_25 : decode cX10_cost 25 = .ok (.if_icmp .ne 13, 3) := by decide +kernel
theorem dX10_cost_28 : decode cX10_cost 28 = .ok (.iload_n 2, 1) := by decide +kernel
theorem dX10_cost_29 : decode cX10_cost 29 = .ok (.iload_n 2, 1) := by decide +kernel
theorem dX10_cost_30 : decode cX10_cost 30 = .ok (.imul, 1) := by decide +kernel
theorem dX10_cost_31 : decode cX10_cost 31 = .ok (.iconst 5, 1) := by decide +kernel
theorem dX10_cost_32 : decode cX10_cost 32 = .ok (.imul, 1) := by decide +kernel
theorem dX10_cost_33 : decode cX10_cost 33 = .ok (.iconst 4, 1) := by decide +kernel
theorem dX10_cost_34 : decode cX10_cost 34 = .ok (.idiv, 1) := by decide +kernel
theorem dX10_cost_35 : decode cX10_cost 35 = .ok (.iconst 1, 1) := by decide +kernel
theorem dX10_cost_36 : decode cX10_cost 36 = .ok (.iadd, 1) := by decide +kernel
theorem dX10_cost_37 : decode cX10_cost 37 = .ok (.ireturn, 1) := by decide +kernel
theorem dX10_cost_38 : decode cX10_cost 38 = .ok (.iload_n 1, 1) := by decide +kernel
theorem dX10_cost_39 : decode cX10_cost 39 = .ok (.bipush 8, 2) := by decide +kernel
theorem dX10_cost_41 : decode cX10_cost 41 = .ok (.if_icmp .eq 9, 3) := by decide +kernel
theorem dX10_cost_44 : decode cX10_cost 44 = .ok (.iload_n 1, 1) := by decide +kernel
theorem dX10_cost_45 : decode cX10_cost 45 = .ok (.bipush 9, 2) := by decide +kernel
theorem dX10_cost_47 : decode cX10_cost 47 = .ok (.if_icmp .ne 6, 3) := by decide +kernel
theorem dX10_cost_50 : decode cX10_cost 50 = .ok (.bipush 100, 2) := by decide +kernel
theorem dX10_cost_52 : decode cX10_cost 52 = .ok (.ireturn, 1) := by decide +kernel
theorem dX10_cost_53 : decode cX10_cost 53 = .ok (.iload_n 1, 1) := by decide +kernel
theorem dX10_cost_54 : decode cX10_cost 54 = .ok (.bipush 9, 2) := by decide +kernel
theorem dX10_cost_56 : decode cX10_cost 56 = .ok (.if_icmp .le 13, 3) := by decide +kernel
theorem dX10_cost_59 : decode cX10_cost 59 = .ok (.iload_n 1, 1) := by decide +kernel
theorem dX10_cost_60 : decode cX10_cost 60 = .ok (.bipush 13, 2) := by decide +kernel
theorem dX10_cost_62 : decode cX10_cost 62 = .ok (.if_icmp .ge 7, 3) := by decide +kernel
theorem dX10_cost_65 : decode cX10_cost 65 = .ok (.iconst 3, 1) := by decide +kernel
theorem dX10_cost_66 : decode cX10_cost 66 = .ok (.iload_n 2, 1) := by decide +kernel
theorem dX10_cost_67 : decode cX10_cost 67 = .ok (.imul, 1) := by decide +kernel
theorem dX10_cost_68 : decode cX10_cost 68 = .ok (.ireturn, 1) := by decide +kernel
theorem dX10_cost_69 : decode cX10_cost 69 = .ok (.iload_n 1, 1) := by decide +kernel
theorem dX10_cost_70 : decode cX10_cost 70 = .ok (.bipush 20, 2) := by decide +kernel
theorem dX10_cost_72 : decode cX10_cost 72 = .ok (.if_icmp .ne 8, 3) := by decide +kernel
theorem dX10_cost_75 : decode cX10_cost 75 = .ok (.bipush 40, 2) := by decide +kernel
theorem dX10_cost_77 : decode cX10_cost 77 = .ok (.goto 14, 3) := by decide +kernel
theorem dX10_cost_80 : decode cX10_cost 80 = .ok (.iload_n 1, 1) := by decide +kernel
theorem dX10_cost_81 : decode cX10_cost 81 = .ok (.bipush 16, 2) := by decide +kernel
theorem dX10_cost_83 : decode cX10_cost 83 = .ok (.if_icmp .le 7, 3) := by decide +kernel
theorem dX10_cost_86 : decode cX10_cost 86 = .ok (.iconst 0, 1) := by decide +kernel
theorem dX10_cost_87 : decode cX10_cost 87 = .ok (.goto 4, 3) := by decide +kernel
theorem dX10_cost_90 : decode cX10_cost 90 = .ok (.iload_n 2, 1) := by decide +kernel
theorem dX10_cost_91 : decode cX10_cost 91 = .ok (.ireturn, 1) := by decide +kernel
def fm_Mod_cost (st : XS) (o : Int32) (w : Int32) : Int32 := 
  if o = (0 : Int32) then w
  else 
    if o ≤ (1 : Int32) then 
      if o = (16 : Int32) then w
      else 
        if o = (7 : Int32) then (((w * w) * (5 : Int32)) / (4 : Int32)) + (1 : Int32)
        else 
          if o = (8 : Int32) then (100 : Int32)
          else 
            if o = (9 : Int32) then (100 : Int32)
            else 
              if o ≤ (9 : Int32) then 
                if o = (20 : Int32) then (40 : Int32)
                else 
                  if o ≤ (16 : Int32) then w
                  else (0 : Int32)
              else 
                if (13 : Int32) ≤ o then 
                  if o = (20 : Int32) then (40 : Int32)
                  else 
                    if o ≤ (16 : Int32) then w
                    else (0 : Int32)
                else (3 : Int32) * w
    else 
      if o < (5 : Int32) then w
      else 
        if o = (16 : Int32) then w
        else 
          if o = (7 : Int32) then (((w * w) * (5 : Int32)) / (4 : Int32)) + (1 : Int32)
          else 
            if o = (8 : Int32) then (100 : Int32)
            else 
              if o = (9 : Int32) then (100 : Int32)
              else 
                if o ≤ (9 : Int32) then 
                  if o = (20 : Int32) then (40 : Int32)
                  else 
                    if o ≤ (16 : Int32) then w
                    else (0 : Int32)
                else 
                  if (13 : Int32) ≤ o then 
                    if o = (20 : Int32) then (40 : Int32)
                    else 
                      if o ≤ (16 : Int32) then w
                      else (0 : Int32)
                  else (3 : Int32) * w
set_option maxHeartbeats 4000000 in
set_option maxRecDepth 100000 in
theorem km_Mod_cost (l : Launch) (dC : Nat → ClassId) (dI : Nat → Nat → Nat) (a : Nat → Nat) (k : Nat → ClassId) (st : XS) (o : Int32) (w : Int32) : Met l yX10_cost wsX10_cost ({ frames := 0, cells := 0, slots := 0, locals := 0 }) (va_Pc [.ref (a 0), .int o, .int w] (wl_prR (dC, dI) vwCl (mt k) (mw a k st))) (vp_Si (fun r9 => r9 = fm_Mod_cost st o w)) 0 0 (fun _ => False) := by
  refine Met.ofW (cc := cX10_cost) (maxL := 3) (ret := (some .int)) (by decide) rfl ?_
  intro p e s m args below meth c s₁ B hml hv
  obtain ⟨rfl, hP, hK⟩ := hv
  have hx := B.exec
  have hb := B.bytes
  have hr := B.returns
  have hta := aw_hts (atoms_spec (ws := wsX10_cost) B.pre)
  have hown : s.vm.findClass RX10 = some m.cls := findClass_of_methodNamed B.named
  have hlocks := B.notSynchronized
  have hl := lv_entry ([.ref (a 0), .int o, .int w]) (n := 3) (Nat.le_of_ble_eq_true rfl)
  rw [lg_entry_eq]
  generalize (lg_sl ([.ref (a 0), .int o, .int w]) ++ List.replicate (3 - (lg_sl ([.ref (a 0), .int o, .int w])).length) Slot.unset).toArray = ls at hl ⊢
  have hl : lv_has ls 3 [(0, .ref (a 0)), (1, .int o), (2, .int w)] := hl
  generalize hR : fm_Mod_cost st o w = R
  rw [fm_Mod_cost] at hR
  refine lv_iload_n hx hb dX10_cost_0 rfl (lv_at hl 1 rfl) ?_
  refine lv_if_eq (tgt := 20) hx hb dX10_cost_1 (by decide) (fun c1 => ?_) (fun c1 => ?_)
  · skip
    rw [if_pos c1] at hR
    refine lv_iload_n hx hb dX10_cost_20 rfl (lv_at hl 2 rfl) ?_
    exact W.iret (v := w) hx hb hr (fun t ht hW => ⟨_, rfl, hR, ht⟩) (fun q h => by cases h) dX10_cost_21
  · skip
    rw [if_neg c1] at hR
    refine lv_iload_n hx hb dX10_cost_4 rfl (lv_at hl 1 rfl) ?_
    refine lv_iconst (v := (1 : Int32)) hx hb dX10_cost_5 (by decide) ?_
    refine lv_icmp_le (tgt := 14) hx hb dX10_cost_6 (by decide) (fun c6 => ?_) (fun c6 => ?_)
    · skip
      rw [if_pos c6] at hR
      refine lv_iload_n hx hb dX10_cost_14 rfl (lv_at hl 1 rfl) ?_
      refine lv_bipush (v := (16 : Int32)) hx hb dX10_cost_15 (by decide) ?_
      refine lv_icmp_ne (tgt := 22) hx hb dX10_cost_17 (by decide) (fun c17 => ?_) (fun c17 => ?_)
      · skip
        rw [if_neg c17] at hR
        refine lv_iload_n hx hb dX10_cost_22 rfl (lv_at hl 1 rfl) ?_
        refine lv_bipush (v := (7 : Int32)) hx hb dX10_cost_23 (by decide) ?_
        refine lv_icmp_ne (tgt := 38) hx hb dX10_cost_25 (by decide) (fun c25 => ?_) (fun c25 => ?_)
        · skip
          rw [if_neg c25] at hR
          refine lv_iload_n hx hb dX10_cost_38 rfl (lv_at hl 1 rfl) ?_
          refine lv_bipush (v := (8 : Int32)) hx hb dX10_cost_39 (by decide) ?_
          refine lv_icmp_eq (tgt := 50) hx hb dX10_cost_41 (by decide) (fun c41 => ?_) (fun c41 => ?_)
          · skip
            rw [if_pos c41] at hR
            refine lv_bipush (v := (100 : Int32)) hx hb dX10_cost_50 (by decide) ?_
            exact W.iret (v := (100 : Int32)) hx hb hr (fun t ht hW => ⟨_, rfl, hR, ht⟩) (fun q h => by cases h) dX10_cost_52
          · skip
            rw [if_neg c41] at hR
            refine lv_iload_n hx hb dX10_cost_44 rfl (lv_at hl 1 rfl) ?_
            refine lv_bipush (v := (9 : Int32)) hx hb dX10_cost_45 (by decide) ?_
            refine lv_icmp_ne (tgt := 53) hx hb dX10_cost_47 (by decide) (fun c47 => ?_) (fun c47 => ?_)
            · skip
              rw [if_neg c47] at hR
              refine lv_iload_n hx hb dX10_cost_53 rfl (lv_at hl 1 rfl) ?_
              refine lv_bipush (v := (9 : Int32)) hx hb dX10_cost_54 (by decide) ?_
              refine lv_icmp_le (tgt := 69) hx hb dX10_cost_56 (by decide) (fun c56 => ?_) (fun c56 => ?_)
              · skip
                rw [if_pos c56] at hR
                refine lv_iload_n hx hb dX10_cost_69 rfl (lv_at hl 1 rfl) ?_
                refine lv_bipush (v := (20 : Int32)) hx hb dX10_cost_70 (by decide) ?_
                refine lv_icmp_ne (tgt := 80) hx hb dX10_cost_72 (by decide) (fun c72 => ?_) (fun c72 => ?_)
                · skip
                  rw [if_neg c72] at hR
                  refine lv_iload_n hx hb dX10_cost_80 rfl (lv_at hl 1 rfl) ?_
                  refine lv_bipush (v := (16 : Int32)) hx hb dX10_cost_81 (by decide) ?_
                  refine lv_icmp_le (tgt := 90) hx hb dX10_cost_83 (by decide) (fun c83 => ?_) (fun c83 => ?_)
                  · skip
                    rw [if_pos c83] at hR
                    refine lv_iload_n hx hb dX10_cost_90 rfl (lv_at hl 2 rfl) ?_
                    exact W.iret (v := w) hx hb hr (fun t ht hW => ⟨_, rfl, hR, ht⟩) (fun q h => by cases h) dX10_cost_91
                  · skip
                    rw [if_neg c83] at hR
                    refine lv_iconst (v := (0 : Int32)) hx hb dX10_cost_86 (by decide) ?_
                    refine lv_goto (tgt := 91) hx hb dX10_cost_87 (by decide) ?_
                    exact W.iret (v := (0 : Int32)) hx hb hr (fun t ht hW => ⟨_, rfl, hR, ht⟩) (fun q h => by cases h) dX10_cost_91
                · skip
                  rw [if_pos c72] at hR
                  refine lv_bipush (v := (40 : Int32)) hx hb dX10_cost_75 (by decide) ?_
                  refine lv_goto (tgt := 91) hx hb dX10_cost_77 (by decide) ?_
                  exact W.iret (v := (40 : Int32)) hx hb hr (fun t ht hW => ⟨_, rfl, hR, ht⟩) (fun q h => by cases h) dX10_cost_91
              · skip
                rw [if_neg c56] at hR
                refine lv_iload_n hx hb dX10_cost_59 rfl (lv_at hl 1 rfl) ?_
                refine lv_bipush (v := (13 : Int32)) hx hb dX10_cost_60 (by decide) ?_
                refine lv_icmp_ge (tgt := 69) hx hb dX10_cost_62 (by decide) (fun c62 => ?_) (fun c62 => ?_)
                · skip
                  rw [if_pos c62] at hR
                  refine lv_iload_n hx hb dX10_cost_69 rfl (lv_at hl 1 rfl) ?_
                  refine lv_bipush (v := (20 : Int32)) hx hb dX10_cost_70 (by decide) ?_
                  refine lv_icmp_ne (tgt := 80) hx hb dX10_cost_72 (by decide) (fun c72 => ?_) (fun c72 => ?_)
                  · skip
                    rw [if_neg c72] at hR
                    refine lv_iload_n hx hb dX10_cost_80 rfl (lv_at hl 1 rfl) ?_
                    refine lv_bipush (v := (16 : Int32)) hx hb dX10_cost_81 (by decide) ?_
                    refine lv_icmp_le (tgt := 90) hx hb dX10_cost_83 (by decide) (fun c83 => ?_) (fun c83 => ?_)
                    · skip
                      rw [if_pos c83] at hR
                      refine lv_iload_n hx hb dX10_cost_90 rfl (lv_at hl 2 rfl) ?_
                      exact W.iret (v := w) hx hb hr (fun t ht hW => ⟨_, rfl, hR, ht⟩) (fun q h => by cases h) dX10_cost_91
                    · skip
                      rw [if_neg c83] at hR
                      refine lv_iconst (v := (0 : Int32)) hx hb dX10_cost_86 (by decide) ?_
                      refine lv_goto (tgt := 91) hx hb dX10_cost_87 (by decide) ?_
                      exact W.iret (v := (0 : Int32)) hx hb hr (fun t ht hW => ⟨_, rfl, hR, ht⟩) (fun q h => by cases h) dX10_cost_91
                  · skip
                    rw [if_pos c72] at hR
                    refine lv_bipush (v := (40 : Int32)) hx hb dX10_cost_75 (by decide) ?_
                    refine lv_goto (tgt := 91) hx hb dX10_cost_77 (by decide) ?_
                    exact W.iret (v := (40 : Int32)) hx hb hr (fun t ht hW => ⟨_, rfl, hR, ht⟩) (fun q h => by cases h) dX10_cost_91
                · skip
                  rw [if_neg c62] at hR
                  refine lv_iconst (v := (3 : Int32)) hx hb dX10_cost_65 (by decide) ?_
                  refine lv_iload_n hx hb dX10_cost_66 rfl (lv_at hl 2 rfl) ?_
                  refine lv_imul hx hb dX10_cost_67 ?_
                  exact W.iret (v := (3 : Int32) * w) hx hb hr (fun t ht hW => ⟨_, rfl, hR, ht⟩) (fun q h => by cases h) dX10_cost_68
            · skip
              rw [if_pos c47] at hR
              refine lv_bipush (v := (100 : Int32)) hx hb dX10_cost_50 (by decide) ?_
              exact W.iret (v := (100 : Int32)) hx hb hr (fun t ht hW => ⟨_, rfl, hR, ht⟩) (fun q h => by cases h) dX10_cost_52
        · skip
          rw [if_pos c25] at hR
          refine lv_iload_n hx hb dX10_cost_28 rfl (lv_at hl 2 rfl) ?_
          refine lv_iload_n hx hb dX10_cost_29 rfl (lv_at hl 2 rfl) ?_
          refine lv_imul hx hb dX10_cost_30 ?_
          refine lv_iconst (v := (5 : Int32)) hx hb dX10_cost_31 (by decide) ?_
          refine lv_imul hx hb dX10_cost_32 ?_
          refine lv_iconst (v := (4 : Int32)) hx hb dX10_cost_33 (by decide) ?_
          refine lv_idiv hx hb dX10_cost_34 (by decide) ?_
          refine lv_iconst (v := (1 : Int32)) hx hb dX10_cost_35 (by decide) ?_
          refine lv_iadd hx hb dX10_cost_36 ?_
          exact W.iret (v := (((w * w) * (5 : Int32)) / (4 : Int32)) + (1 : Int32)) hx hb hr (fun t ht hW => ⟨_, rfl, hR, ht⟩) (fun q h => by cases h) dX10_cost_37
      · skip
        rw [if_pos c17] at hR
        refine lv_iload_n hx hb dX10_cost_20 rfl (lv_at hl 2 rfl) ?_
        exact W.iret (v := w) hx hb hr (fun t ht hW => ⟨_, rfl, hR, ht⟩) (fun q h => by cases h) dX10_cost_21
    · skip
      rw [if_neg c6] at hR
      refine lv_iload_n hx hb dX10_cost_9 rfl (lv_at hl 1 rfl) ?_
      refine lv_iconst (v := (5 : Int32)) hx hb dX10_cost_10 (by decide) ?_
      refine lv_icmp_lt (tgt := 20) hx hb dX10_cost_11 (by decide) (fun c11 => ?_) (fun c11 => ?_)
      · skip
        rw [if_pos c11] at hR
        refine lv_iload_n hx hb dX10_cost_20 rfl (lv_at hl 2 rfl) ?_
        exact W.iret (v := w) hx hb hr (fun t ht hW => ⟨_, rfl, hR, ht⟩) (fun q h => by cases h) dX10_cost_21
      · skip
        rw [if_neg c11] at hR
        refine lv_iload_n hx hb dX10_cost_14 rfl (lv_at hl 1 rfl) ?_
        refine lv_bipush (v := (16 : Int32)) hx hb dX10_cost_15 (by decide) ?_
        refine lv_icmp_ne (tgt := 22) hx hb dX10_cost_17 (by decide) (fun c17 => ?_) (fun c17 => ?_)
        · skip
          rw [if_neg c17] at hR
          refine lv_iload_n hx hb dX10_cost_22 rfl (lv_at hl 1 rfl) ?_
          refine lv_bipush (v := (7 : Int32)) hx hb dX10_cost_23 (by decide) ?_
          refine lv_icmp_ne (tgt := 38) hx hb dX10_cost_25 (by decide) (fun c25 => ?_) (fun c25 => ?_)
          · skip
            rw [if_neg c25] at hR
            refine lv_iload_n hx hb dX10_cost_38 rfl (lv_at hl 1 rfl) ?_
            refine lv_bipush (v := (8 : Int32)) hx hb dX10_cost_39 (by decide) ?_
            refine lv_icmp_eq (tgt := 50) hx hb dX10_cost_41 (by decide) (fun c41 => ?_) (fun c41 => ?_)
            · skip
              rw [if_pos c41] at hR
              refine lv_bipush (v := (100 : Int32)) hx hb dX10_cost_50 (by decide) ?_
              exact W.iret (v := (100 : Int32)) hx hb hr (fun t ht hW => ⟨_, rfl, hR, ht⟩) (fun q h => by cases h) dX10_cost_52
            · skip
              rw [if_neg c41] at hR
              refine lv_iload_n hx hb dX10_cost_44 rfl (lv_at hl 1 rfl) ?_
              refine lv_bipush (v := (9 : Int32)) hx hb dX10_cost_45 (by decide) ?_
              refine lv_icmp_ne (tgt := 53) hx hb dX10_cost_47 (by decide) (fun c47 => ?_) (fun c47 => ?_)
              · skip
                rw [if_neg c47] at hR
                refine lv_iload_n hx hb dX10_cost_53 rfl (lv_at hl 1 rfl) ?_
                refine lv_bipush (v := (9 : Int32)) hx hb dX10_cost_54 (by decide) ?_
                refine lv_icmp_le (tgt := 69) hx hb dX10_cost_56 (by decide) (fun c56 => ?_) (fun c56 => ?_)
                · skip
                  rw [if_pos c56] at hR
                  refine lv_iload_n hx hb dX10_cost_69 rfl (lv_at hl 1 rfl) ?_
                  refine lv_bipush (v := (20 : Int32)) hx hb dX10_cost_70 (by decide) ?_
                  refine lv_icmp_ne (tgt := 80) hx hb dX10_cost_72 (by decide) (fun c72 => ?_) (fun c72 => ?_)
                  · skip
                    rw [if_neg c72] at hR
                    refine lv_iload_n hx hb dX10_cost_80 rfl (lv_at hl 1 rfl) ?_
                    refine lv_bipush (v := (16 : Int32)) hx hb dX10_cost_81 (by decide) ?_
                    refine lv_icmp_le (tgt := 90) hx hb dX10_cost_83 (by decide) (fun c83 => ?_) (fun c83 => ?_)
                    · skip
                      rw [if_pos c83] at hR
                      refine lv_iload_n hx hb dX10_cost_90 rfl (lv_at hl 2 rfl) ?_
                      exact W.iret (v := w) hx hb hr (fun t ht hW => ⟨_, rfl, hR, ht⟩) (fun q h => by cases h) dX10_cost_91
                    · skip
                      rw [if_neg c83] at hR
                      refine lv_iconst (v := (0 : Int32)) hx hb dX10_cost_86 (by decide) ?_
                      refine lv_goto (tgt := 91) hx hb dX10_cost_87 (by decide) ?_
                      exact W.iret (v := (0 : Int32)) hx hb hr (fun t ht hW => ⟨_, rfl, hR, ht⟩) (fun q h => by cases h) dX10_cost_91
                  · skip
                    rw [if_pos c72] at hR
                    refine lv_bipush (v := (40 : Int32)) hx hb dX10_cost_75 (by decide) ?_
                    refine lv_goto (tgt := 91) hx hb dX10_cost_77 (by decide) ?_
                    exact W.iret (v := (40 : Int32)) hx hb hr (fun t ht hW => ⟨_, rfl, hR, ht⟩) (fun q h => by cases h) dX10_cost_91
                · skip
                  rw [if_neg c56] at hR
                  refine lv_iload_n hx hb dX10_cost_59 rfl (lv_at hl 1 rfl) ?_
                  refine lv_bipush (v := (13 : Int32)) hx hb dX10_cost_60 (by decide) ?_
                  refine lv_icmp_ge (tgt := 69) hx hb dX10_cost_62 (by decide) (fun c62 => ?_) (fun c62 => ?_)
                  · skip
                    rw [if_pos c62] at hR
                    refine lv_iload_n hx hb dX10_cost_69 rfl (lv_at hl 1 rfl) ?_
                    refine lv_bipush (v := (20 : Int32)) hx hb dX10_cost_70 (by decide) ?_
                    refine lv_icmp_ne (tgt := 80) hx hb dX10_cost_72 (by decide) (fun c72 => ?_) (fun c72 => ?_)
                    · skip
                      rw [if_neg c72] at hR
                      refine lv_iload_n hx hb dX10_cost_80 rfl (lv_at hl 1 rfl) ?_
                      refine lv_bipush (v := (16 : Int32)) hx hb dX10_cost_81 (by decide) ?_
                      refine lv_icmp_le (tgt := 90) hx hb dX10_cost_83 (by decide) (fun c83 => ?_) (fun c83 => ?_)
                      · skip
                        rw [if_pos c83] at hR
                        refine lv_iload_n hx hb dX10_cost_90 rfl (lv_at hl 2 rfl) ?_
                        exact W.iret (v := w) hx hb hr (fun t ht hW => ⟨_, rfl, hR, ht⟩) (fun q h => by cases h) dX10_cost_91
                      · skip
                        rw [if_neg c83] at hR
                        refine lv_iconst (v := (0 : Int32)) hx hb dX10_cost_86 (by decide) ?_
                        refine lv_goto (tgt := 91) hx hb dX10_cost_87 (by decide) ?_
                        exact W.iret (v := (0 : Int32)) hx hb hr (fun t ht hW => ⟨_, rfl, hR, ht⟩) (fun q h => by cases h) dX10_cost_91
                    · skip
                      rw [if_pos c72] at hR
                      refine lv_bipush (v := (40 : Int32)) hx hb dX10_cost_75 (by decide) ?_
                      refine lv_goto (tgt := 91) hx hb dX10_cost_77 (by decide) ?_
                      exact W.iret (v := (40 : Int32)) hx hb hr (fun t ht hW => ⟨_, rfl, hR, ht⟩) (fun q h => by cases h) dX10_cost_91
                  · skip
                    rw [if_neg c62] at hR
                    refine lv_iconst (v := (3 : Int32)) hx hb dX10_cost_65 (by decide) ?_
                    refine lv_iload_n hx hb dX10_cost_66 rfl (lv_at hl 2 rfl) ?_
                    refine lv_imul hx hb dX10_cost_67 ?_
                    exact W.iret (v := (3 : Int32) * w) hx hb hr (fun t ht hW => ⟨_, rfl, hR, ht⟩) (fun q h => by cases h) dX10_cost_68
              · skip
                rw [if_pos c47] at hR
                refine lv_bipush (v := (100 : Int32)) hx hb dX10_cost_50 (by decide) ?_
                exact W.iret (v := (100 : Int32)) hx hb hr (fun t ht hW => ⟨_, rfl, hR, ht⟩) (fun q h => by cases h) dX10_cost_52
          · skip
            rw [if_pos c25] at hR
            refine lv_iload_n hx hb dX10_cost_28 rfl (lv_at hl 2 rfl) ?_
            refine lv_iload_n hx hb dX10_cost_29 rfl (lv_at hl 2 rfl) ?_
            refine lv_imul hx hb dX10_cost_30 ?_
            refine lv_iconst (v := (5 : Int32)) hx hb dX10_cost_31 (by decide) ?_
            refine lv_imul hx hb dX10_cost_32 ?_
            refine lv_iconst (v := (4 : Int32)) hx hb dX10_cost_33 (by decide) ?_
            refine lv_idiv hx hb dX10_cost_34 (by decide) ?_
            refine lv_iconst (v := (1 : Int32)) hx hb dX10_cost_35 (by decide) ?_
            refine lv_iadd hx hb dX10_cost_36 ?_
            exact W.iret (v := (((w * w) * (5 : Int32)) / (4 : Int32)) + (1 : Int32)) hx hb hr (fun t ht hW => ⟨_, rfl, hR, ht⟩) (fun q h => by cases h) dX10_cost_37
        · skip
          rw [if_pos c17] at hR
          refine lv_iload_n hx hb dX10_cost_20 rfl (lv_at hl 2 rfl) ?_
          exact W.iret (v := w) hx hb hr (fun t ht hW => ⟨_, rfl, hR, ht⟩) (fun q h => by cases h) dX10_cost_21

theorem mw_704 : (.code yX10_fresh cX10_fresh 6 (some .int) : Cond) ∈ AW := List.mem_filter.mpr ⟨List.mem_of_getElem? (i := 704) (by decide +kernel), rfl⟩
theorem mw_701 : (.methodLink RX10 76 yX10_fresh : Cond) ∈ AW := List.mem_filter.mpr ⟨List.mem_of_getElem? (i := 701) (by decide +kernel), rfl⟩
theorem mw_703 : (.instanceMethod yX10_fresh : Cond) ∈ AW := List.mem_filter.mpr ⟨List.mem_of_getElem? (i := 703) (by decide +kernel), rfl⟩
theorem mw_16 : (.selects RX10 yX10_fresh yX10_fresh : Cond) ∈ AW := List.mem_filter.mpr ⟨List.mem_of_getElem? (i := 16) (by decide +kernel), rfl⟩
theorem gX10_76 : GoodIn AW (wsV RX10 76 RX10 yX10_fresh wsX10_fresh) := aw_V mw_701 mw_703 mw_16 mw_46 mw_704
theorem dX10_constantOf_0 : decode cX10_constantOf 0 = .ok (.iconst 0, 1) := by decide +kernel
theorem dX10_constantOf_1 : decode cX10_constantOf 1 = .ok (.istore 4, 2) := by decide +kernel
theorem dX10_constantOf_3 : decode cX10_constantOf 3 = .ok (.iload 4, 2) := by decide +kernel
theorem dX10_constantOf_5 : decode cX10_constantOf 5 = .ok (.aload_n 0, 1) := by decide +kernel
theorem dX10_constantOf_6 : decode cX10_constantOf 6 = .ok (.getfield 7, 3) := by decide +kernel
theorem dX10_constantOf_9 : decode cX10_constantOf 9 = .ok (.if_icmp .ge 52, 3) := by decide +kernel
theorem dX10_constantOf_12 : decode cX10_constantOf 12 = .ok (.aload_n 0, 1) := by decide +kernel
theorem dX10_constantOf_13 : decode cX10_constantOf 13 = .ok (.getfield 31, 3) := by decide +kernel
theorem dX10_constantOf_16 : decode cX10_constantOf 16 = .ok (.iload 4, 2) := by decide +kernel
theorem dX10_constantOf_18 : decode cX10_constantOf 18 = .ok (.iaload, 1) := by decide +kernel
theorem dX10_constantOf_19 : decode cX10_constantOf 19 = .ok (.bipush 21, 2) := by decide +kernel
theorem dX10_constantOf_21 : decode cX10_constantOf 21 = .ok (.if_icmp .ne 34, 3) := by decide +kernel
theorem dX10_constantOf_24 : decode cX10_constantOf 24 = .ok (.aload_n 0, 1) := by decide +kernel
theorem dX10_constantOf_25 : decode cX10_constantOf 25 = .ok (.getfield 44, 3) := by decide +kernel
theorem dX10_constantOf_28 : decode cX10_constantOf 28 = .ok (.iload 4, 2) := by decide +kernel
theorem dX10_constantOf_30 : decode cX10_constantOf 30 = .ok (.iaload, 1) := by decide +kernel
theorem dX10_constantOf_31 : decode cX10_constantOf 31 = .ok (.iload_n 1, 1) := by decide +kernel
theorem dX10_constantOf_32 : decode cX10_constantOf 32 = .ok (.if_icmp .ne 23, 3) := by decide +kernel
theorem dX10_constantOf_35 : decode cX10_constantOf 35 = .ok (.aload_n 0, 1) := by decide +kernel
theorem dX10_constantOf_36 : decode cX10_constantOf 36 = .ok (.getfield 47, 3) := by decide +kernel
theorem dX10_constantOf_39 : decode cX10_constantOf 39 = .ok (.iload 4, 2) := by decide +kernel
theorem dX10_constantOf_41 : decode cX10_constantOf 41 = .ok (.laload, 1) := by decide +kernel
theorem dX10_constantOf_42 : decode cX10_constantOf 42 = .ok (.aload_n 0, 1) := by decide +kernel
theorem dX10_constantOf_43 : decode cX10_constantOf 43 = .ok (.lload_n 2, 1) := by decide +kernel
theorem dX10_constantOf_44 : decode cX10_constantOf 44 = .ok (.iload_n 1, 1) := by decide +kernel
theorem dX10_constantOf_45 : decode cX10_constantOf 45 = .ok (.invokevirtual 88, 3) := by decide +kernel
theorem dX10_constantOf_48 : decode cX10_constantOf 48 = .ok (.lcmp, 1) := by decide +kernel
theorem dX10_constantOf_49 : decode cX10_constantOf 49 = .ok (.ifCond .ne 6, 3) := by decide +kernel
theorem dX10_constantOf_52 : decode cX10_constantOf 52 = .ok (.iload 4, 2) := by decide +kernel
theorem dX10_constantOf_54 : decode cX10_constantOf 54 = .ok (.ireturn, 1) := by decide +kernel
theorem dX10_constantOf_55 : decode cX10_constantOf 55 = .ok (.iinc 4 1, 3) := by decide +kernel
theorem dX10_constantOf_58 : decode cX10_constantOf 58 = .ok (.goto (-55), 3) := by decide +kernel
theorem dX10_constantOf_61 : decode cX10_constantOf 61 = .ok (.aload_n 0, 1) := by decide +kernel
theorem dX10_constantOf_62 : decode cX10_constantOf 62 = .ok (.getfield 7, 3) := by decide +kernel
theorem dX10_constantOf_65 : decode cX10_constantOf 65 = .ok (.bipush 64, 2) := by decide +kernel
theorem dX10_constantOf_67 : decode cX10_constantOf 67 = .ok (.if_icmp .ne 6, 3) := by decide +kernel
theorem dX10_constantOf_70 : decode cX10_constantOf 70 = .ok (.bipush (-2), 2) := by decide +kernel
theorem dX10_constantOf_72 : decode cX10_constantOf 72 = .ok (.ireturn, 1) := by decide +kernel
theorem dX10_constantOf_73 : decode cX10_constantOf 73 = .ok (.aload_n 0, 1) := by decide +kernel
theorem dX10_constantOf_74 : decode cX10_constantOf 74 = .ok (.getfield 47, 3) := by decide +kernel
theorem dX10_constantOf_77 : decode cX10_constantOf 77 = .ok (.aload_n 0, 1) := by decide +kernel
theorem dX10_constantOf_78 : decode cX10_constantOf 78 = .ok (.getfield 7, 3) := by decide +kernel
theorem dX10_constantOf_81 : decode cX10_constantOf 81 = .ok (.aload_n 0, 1) := by decide +kernel
theorem dX10_constantOf_82 : decode cX10_constantOf 82 = .ok (.lload_n 2, 1) := by decide +kernel
theorem dX10_constantOf_83 : decode cX10_constantOf 83 = .ok (.iload_n 1, 1) := by decide +kernel
theorem dX10_constantOf_84 : decode cX10_constantOf 84 = .ok (.invokevirtual 88, 3) := by decide +kernel
theorem dX10_constantOf_87 : decode cX10_constantOf 87 = .ok (.lastore, 1) := by decide +kernel
theorem dX10_constantOf_88 : decode cX10_constantOf 88 = .ok (.aload_n 0, 1) := by decide +kernel
theorem dX10_constantOf_89 : decode cX10_constantOf 89 = .ok (.bipush 21, 2) := by decide +kernel
theorem dX10_constantOf_91 : decode cX10_constantOf 91 = .ok (.iconst 0, 1) := by decide +kernel
theorem dX10_constantOf_92 : decode cX10_constantOf 92 = .ok (.iconst 0, 1) := by decide +kernel
theorem dX10_constantOf_93 : decode cX10_constantOf 93 = .ok (.iconst 0, 1) := by decide +kernel
theorem dX10_constantOf_94 : decode cX10_constantOf 94 = .ok (.iload_n 1, 1) := by decide +kernel
theorem dX10_constantOf_95 : decode cX10_constantOf 95 = .ok (.invokevirtual 76, 3) := by decide +kernel
theorem dX10_constantOf_98 : decode cX10_constantOf 98 = .ok (.ireturn, 1) := by decide +kernel
def fm_Mod_constantOf_L3 (st : XS) (w : Int32) (x : Int64) : Nat → Nat → Int32 × XS
  | 0, i => (0, st)
  | n + 1, i => 
    if gI st 0 ≤ nI i then 
      if gI st 0 = (64 : Int32) then ((-2 : Int32), st)
      else (((fm_Mod_fresh (wL st 0 ((gI st 0).toNatClampNeg) (fm_Mod_cut st x w)) (21 : Int32) (0 : Int32) (0 : Int32) (0 : Int32) w).1), ((fm_Mod_fresh (wL st 0 ((gI st 0).toNatClampNeg) (fm_Mod_cut st x w)) (21 : Int32) (0 : Int32) (0 : Int32) (0 : Int32) w).2))
    else 
      if fA st 0 (nI i).toNatClampNeg = (21 : Int32) then 
        if fA st 4 (nI i).toNatClampNeg = w then 
          if lg_cmp (fL st 0 (nI i).toNatClampNeg) (fm_Mod_cut st x w) = (0 : Int32) then (nI i, st)
          else fm_Mod_constantOf_L3 st w x n (i + 1)
        else fm_Mod_constantOf_L3 st w x n (i + 1)
      else fm_Mod_constantOf_L3 st w x n (i + 1)
def fm_Mod_constantOf (st : XS) (w : Int32) (x : Int64) : Int32 × XS := fm_Mod_constantOf_L3 st w x 65 0
theorem fr_Mod_constantOf_L3 (st : XS) (w : Int32) (x : Int64) : ∀ (n : Nat) (i : Nat), XF [0] [0, 1, 2, 3, 4] [0] st (fm_Mod_constantOf_L3 st w x n i).2 := by
  intro n
  induction n with
  | zero => intro i; exact XF.rf
  | succ n ih =>
    intro i
    rw [fm_Mod_constantOf_L3]
    exact (wl_ite (P := fun (q : Int32 × XS) => XF [0] [0, 1, 2, 3, 4] [0] _ (q.2)) (wl_ite (P := fun (q : Int32 × XS) => XF [0] [0, 1, 2, 3, 4] [0] _ (q.2)) (wl_snd XF.rf) (wl_snd (XF.tr (XF.wL (by decide) XF.rf) (XF.mono (ff_Mod_fresh _ _ _ _ _ _) (by decide) (by decide) (by decide))))) (wl_ite (P := fun (q : Int32 × XS) => XF [0] [0, 1, 2, 3, 4] [0] _ (q.2)) (wl_ite (P := fun (q : Int32 × XS) => XF [0] [0, 1, 2, 3, 4] [0] _ (q.2)) (wl_ite (P := fun (q : Int32 × XS) => XF [0] [0, 1, 2, 3, 4] [0] _ (q.2)) (wl_snd XF.rf) (ih _)) (ih _)) (ih _)))
theorem ff_Mod_constantOf (st : XS) (w : Int32) (x : Int64) : XF [0] [0, 1, 2, 3, 4] [0] st (fm_Mod_constantOf st w x).2 := by
  rw [fm_Mod_constantOf]
  exact (fr_Mod_constantOf_L3 _ _ _ _ _)
set_option maxHeartbeats 4000000 in
set_option maxRecDepth 100000 in
theorem km_Mod_constantOf (l : Launch) (dC : Nat → ClassId) (dI : Nat → Nat → Nat) (a : Nat → Nat) (k : Nat → ClassId) (st : XS) (w : Int32) (x : Int64) (sz : Nat) (N : Nat) (hN : gI st 0 = nI N) (h64 : N ≤ 64) : Met l yX10_constantOf wsX10_constantOf ({ frames := 1, cells := 0, slots := 0, locals := 25 }) (va_Pc [.ref (a 0), .int w, .long x] (wl_pre (dC, dI) vwCl (mt k) (mw a k) st sz)) (va_Qi (fun r9 u9 => (r9, u9) = fm_Mod_constantOf st w x) (wl_at (dC, dI) vwCl (mt k) (mw a k) (va_A (mw a k st) sz)) (va_A (mw a k st) sz)) 0 0 (va_A (mw a k st) sz) := by
  refine Met.ofW (cc := cX10_constantOf) (maxL := 5) (ret := (some .int)) (by decide) rfl ?_
  intro p e s m args below meth c s₁ B hml hv
  obtain ⟨rfl, hsz, hP, hK, hD0⟩ := hv
  have hx := B.exec
  have hb := B.bytes
  have hr := B.returns
  have hta := aw_hts (atoms_spec (ws := wsX10_constantOf) B.pre)
  have hown : s.vm.findClass RX10 = some m.cls := findClass_of_methodNamed B.named
  have hlocks := B.notSynchronized
  have hf7 := hta _ mw_633
  have hf47 := hta _ mw_645
  have hf31 := hta _ mw_640
  have hf44 := hta _ mw_644
  subst hsz
  have hD := hD0.self (sz := s.heap.size)
  generalize hAe : va_A (mw a k st) s.heap.size = A at hD ⊢
  have hAz : ∀ q : Nat, s.heap.size ≤ q → A q := fun q h => by rw [← hAe]; exact Or.inr h
  have hS : va_S A s.heap s.heap [] := va_S.rf
  have hl := lv_entry ([.ref (a 0), .int w, .long x]) (n := 5) (Nat.le_of_ble_eq_true rfl)
  rw [lg_entry_eq]
  generalize (lg_sl ([.ref (a 0), .int w, .long x]) ++ List.replicate (5 - (lg_sl ([.ref (a 0), .int w, .long x])).length) Slot.unset).toArray = ls at hl ⊢
  have hl : lv_has ls 5 [(0, .ref (a 0)), (1, .int w), (2, .long x)] := hl
  generalize hR : fm_Mod_constantOf st w x = R
  rw [fm_Mod_constantOf] at hR
  refine lv_iconst (v := (0 : Int32)) hx hb dX10_constantOf_0 (by decide) ?_
  refine lv_istore (lv' := [(4, .int (0 : Int32)), (0, .ref (a 0)), (1, .int w), (2, .long x)]) hx hb dX10_constantOf_1 hl (by decide) rfl (fun ls hl => ?_)
  have L3 : ∀ (n : Nat) (i : Nat) (H : Heap) (locs : List Loc) (ls : Array Slot), fm_Mod_constantOf_L3 st w x n i = R → (i ≤ N) → N - i < n → va_P (dC, dI) vwCl (mw a k st) H → va_D A (mw a k st) → va_S A s.heap H locs → lv_has ls 5 [(4, .int (nI i)), (0, .ref (a 0)), (1, .int w), (2, .long x)] → W p l e (headSpec wsX10_constantOf ({ frames := 1, cells := 0, slots := 0, locals := 25 })).room s m ([.ref (a 0), .int w, .long x] : List Value).toArray below meth c H locs 0 0 (MQ below (va_Qi (fun r9 u9 => (r9, u9) = R) (wl_at (dC, dI) vwCl (mt k) (mw a k) A) A) ([.ref (a 0), .int w, .long x] : List Value).toArray s 0 0 A) (F0 m 3 ls []) := by
    intro n
    induction n with
    | zero =>
      intro i H locs ls hR hi hm hP hD hS hl
      exact absurd hm (Nat.not_lt_zero _)
    | succ n ih =>
      intro i H locs ls hR hi hm hP hD hS hl
      rw [fm_Mod_constantOf_L3] at hR
      refine lv_iload hx hb dX10_constantOf_3 (lv_at hl 0 rfl) ?_
      refine lv_aload_n hx hb dX10_constantOf_5 rfl (lv_at hl 1 rfl) ?_
      refine va_get (D := (dC, dI)) (ci := 8) (v := .int (gI st 0)) (C := RX10) (T := TX10) (N := 21) hx hb hta inX10 hown hK hP 0 (mr_0 a k st) rfl 0 (by decide) hf7 (fun _ h9 => h9) rfl dX10_constantOf_6 ?_
      refine lv_icmp_ge (tgt := 61) hx hb dX10_constantOf_9 (by decide) (fun c9 => ?_) (fun c9 => ?_)
      · skip
        rw [if_pos c9] at hR
        refine lv_aload_n hx hb dX10_constantOf_61 rfl (lv_at hl 1 rfl) ?_
        refine va_get (D := (dC, dI)) (ci := 8) (v := .int (gI st 0)) (C := RX10) (T := TX10) (N := 21) hx hb hta inX10 hown hK hP 0 (mr_0 a k st) rfl 0 (by decide) hf7 (fun _ h9 => h9) rfl dX10_constantOf_62 ?_
        refine lv_bipush (v := (64 : Int32)) hx hb dX10_constantOf_65 (by decide) ?_
        refine lv_icmp_ne (tgt := 73) hx hb dX10_constantOf_67 (by decide) (fun c67 => ?_) (fun c67 => ?_)
        · skip
          rw [if_neg c67] at hR
          have hN64 : N < 64 := wm_n64 hN h64 c67
          refine lv_aload_n hx hb dX10_constantOf_73 rfl (lv_at hl 1 rfl) ?_
          refine va_get (D := (dC, dI)) (ci := 8) (v := .ref (a 6)) (C := RX10) (T := TX10) (N := 21) hx hb hta inX10 hown hK hP 0 (mr_0 a k st) rfl 12 (by decide) hf47 (fun _ h9 => h9) rfl dX10_constantOf_74 ?_
          refine lv_aload_n hx hb dX10_constantOf_77 rfl (lv_at hl 1 rfl) ?_
          refine va_get (D := (dC, dI)) (ci := 8) (v := .int (gI st 0)) (C := RX10) (T := TX10) (N := 21) hx hb hta inX10 hown hK hP 0 (mr_0 a k st) rfl 0 (by decide) hf7 (fun _ h9 => h9) rfl dX10_constantOf_78 ?_
          refine lv_aload_n hx hb dX10_constantOf_81 rfl (lv_at hl 1 rfl) ?_
          refine lv_lload_n hx hb dX10_constantOf_82 rfl (lv_at hl 3 rfl) ?_
          refine lv_iload_n hx hb dX10_constantOf_83 rfl (lv_at hl 2 rfl) ?_
          refine wl_cl (va_runV (As := [.long x, .int w]) (rest := [.int (gI st 0), .ref (a 6)]) ⟨hx, hb, hml, hown, hta⟩ (km_Mod_cut l dC dI a k st x w) (cwV 2 hta gX10_88 rfl rfl rfl (by decide +kernel) ⟨Nat.le_of_ble_eq_true rfl, Nat.le_of_ble_eq_true rfl⟩) (wl_pR (C := RX10) (ci := 8) (q0 := 0) hK hP rfl (mr_0 a k st)) rfl rfl hl.1 rfl (lv_room (Nat.le_of_ble_eq_true rfl)) dX10_constantOf_84 ⟨Nat.zero_le _, Nat.zero_le _⟩) ?_
          refine va_last hx hb hK hP hD hS 6 5 (mr_6 a k st) rfl (by rw [hN]; exact wl_in hN64 (by decide)) dX10_constantOf_87 (fun H locs hP hD hS => ?_)
          have hP := mp_L0 hP
          have hD := md_L0 hD
          refine lv_aload_n hx hb dX10_constantOf_88 rfl (lv_at hl 1 rfl) ?_
          refine lv_bipush (v := (21 : Int32)) hx hb dX10_constantOf_89 (by decide) ?_
          refine lv_iconst (v := (0 : Int32)) hx hb dX10_constantOf_91 (by decide) ?_
          refine lv_iconst (v := (0 : Int32)) hx hb dX10_constantOf_92 (by decide) ?_
          refine lv_iconst (v := (0 : Int32)) hx hb dX10_constantOf_93 (by decide) ?_
          refine lv_iload_n hx hb dX10_constantOf_94 rfl (lv_at hl 2 rfl) ?_
          refine wl_mi (va_runV (As := [.int (21 : Int32), .int (0 : Int32), .int (0 : Int32), .int (0 : Int32), .int w]) (rest := []) ⟨hx, hb, hml, hown, hta⟩ (km_Mod_fresh l dC dI a k (wL st 0 ((gI st 0).toNatClampNeg) (fm_Mod_cut st x w)) (21 : Int32) (0 : Int32) (0 : Int32) (0 : Int32) w _ (show vp_in (gI st 0) 64 from by rw [hN]; exact wl_in hN64 (by decide))) (cwV 5 hta gX10_76 rfl rfl rfl (by decide +kernel) ⟨Nat.le_of_ble_eq_true rfl, Nat.le_of_ble_eq_true rfl⟩) (wl_pM (C := RX10) (ci := 8) (q0 := 0) hK hP hD rfl (mr_0 a k (wL st 0 ((gI st 0).toNatClampNeg) (fm_Mod_cut st x w)))) rfl rfl hl.1 rfl (lv_room (Nat.le_of_ble_eq_true rfl)) dX10_constantOf_95 ⟨Nat.zero_le _, Nat.zero_le _⟩) hP hD hS hAz (fun r95 u95 H locs hw95 hP hD hS => ?_)
          have v95 : (fm_Mod_fresh (wL st 0 ((gI st 0).toNatClampNeg) (fm_Mod_cut st x w)) (21 : Int32) (0 : Int32) (0 : Int32) (0 : Int32) w).1 = r95 := congrArg Prod.fst hw95.symm
          have w95 : (fm_Mod_fresh (wL st 0 ((gI st 0).toNatClampNeg) (fm_Mod_cut st x w)) (21 : Int32) (0 : Int32) (0 : Int32) (0 : Int32) w).2 = u95 := congrArg Prod.snd hw95.symm
          have hf95 : XF [0] [0, 1, 2, 3, 4] [] (wL st 0 ((gI st 0).toNatClampNeg) (fm_Mod_cut st x w)) u95 := by rw [← w95]; exact ff_Mod_fresh (wL st 0 ((gI st 0).toNatClampNeg) (fm_Mod_cut st x w)) (21 : Int32) (0 : Int32) (0 : Int32) (0 : Int32) w
          try rw [v95] at hR
          try rw [w95] at hR
          exact W.iret (v := r95) hx hb hr (fun t ht hW => ⟨⟨_, _, rfl, hR, by rw [ht]; exact hP, va_K.moved hW.alike hK, hD⟩, hS.F ht⟩) hS.2.2 dX10_constantOf_98
        · skip
          rw [if_pos c67] at hR
          refine lv_bipush (v := (-2 : Int32)) hx hb dX10_constantOf_70 (by decide) ?_
          exact W.iret (v := (-2 : Int32)) hx hb hr (fun t ht hW => ⟨⟨_, _, rfl, hR, by rw [ht]; exact hP, va_K.moved hW.alike hK, hD⟩, hS.F ht⟩) hS.2.2 dX10_constantOf_72
      · skip
        rw [if_neg c9] at hR
        have hlt : i < N := wl_lt (by rw [← hN]; exact c9) (by omega)
        refine lv_aload_n hx hb dX10_constantOf_12 rfl (lv_at hl 1 rfl) ?_
        refine va_get (D := (dC, dI)) (ci := 8) (v := .ref (a 1)) (C := RX10) (T := TX10) (N := 21) hx hb hta inX10 hown hK hP 0 (mr_0 a k st) rfl 7 (by decide) hf31 (fun _ h9 => h9) rfl dX10_constantOf_13 ?_
        refine lv_iload hx hb dX10_constantOf_16 (lv_at hl 0 rfl) ?_
        refine va_iald hx hb hK hP 1 0 (mr_1 a k st) rfl (wl_in (by omega) (by decide)) dX10_constantOf_18 ?_
        refine lv_bipush (v := (21 : Int32)) hx hb dX10_constantOf_19 (by decide) ?_
        refine lv_icmp_ne (tgt := 55) hx hb dX10_constantOf_21 (by decide) (fun c21 => ?_) (fun c21 => ?_)
        · skip
          rw [if_neg c21] at hR
          refine lv_iinc (v := nI (i + 1)) (lv' := [(4, .int (nI (i + 1))), (0, .ref (a 0)), (1, .int w), (2, .long x)]) hx hb dX10_constantOf_55 hl (k := 0) rfl (nI_1 _) (by decide) rfl (fun ls hl => ?_)
          refine lv_goto (tgt := 3) hx hb dX10_constantOf_58 (by decide) ?_
          exact ih (i + 1) _ _ ls hR (by omega) (by omega) hP hD hS (lv_sub hl [0, 1, 2, 3] rfl)
        · skip
          rw [if_pos c21] at hR
          refine lv_aload_n hx hb dX10_constantOf_24 rfl (lv_at hl 1 rfl) ?_
          refine va_get (D := (dC, dI)) (ci := 8) (v := .ref (a 5)) (C := RX10) (T := TX10) (N := 21) hx hb hta inX10 hown hK hP 0 (mr_0 a k st) rfl 11 (by decide) hf44 (fun _ h9 => h9) rfl dX10_constantOf_25 ?_
          refine lv_iload hx hb dX10_constantOf_28 (lv_at hl 0 rfl) ?_
          refine va_iald hx hb hK hP 5 4 (mr_5 a k st) rfl (wl_in (by omega) (by decide)) dX10_constantOf_30 ?_
          refine lv_iload_n hx hb dX10_constantOf_31 rfl (lv_at hl 2 rfl) ?_
          refine lv_icmp_ne (tgt := 55) hx hb dX10_constantOf_32 (by decide) (fun c32 => ?_) (fun c32 => ?_)
          · skip
            rw [if_neg c32] at hR
            refine lv_iinc (v := nI (i + 1)) (lv' := [(4, .int (nI (i + 1))), (0, .ref (a 0)), (1, .int w), (2, .long x)]) hx hb dX10_constantOf_55 hl (k := 0) rfl (nI_1 _) (by decide) rfl (fun ls hl => ?_)
            refine lv_goto (tgt := 3) hx hb dX10_constantOf_58 (by decide) ?_
            exact ih (i + 1) _ _ ls hR (by omega) (by omega) hP hD hS (lv_sub hl [0, 1, 2, 3] rfl)
          · skip
            rw [if_pos c32] at hR
            refine lv_aload_n hx hb dX10_constantOf_35 rfl (lv_at hl 1 rfl) ?_
            refine va_get (D := (dC, dI)) (ci := 8) (v := .ref (a 6)) (C := RX10) (T := TX10) (N := 21) hx hb hta inX10 hown hK hP 0 (mr_0 a k st) rfl 12 (by decide) hf47 (fun _ h9 => h9) rfl dX10_constantOf_36 ?_
            refine lv_iload hx hb dX10_constantOf_39 (lv_at hl 0 rfl) ?_
            refine va_lald hx hb hK hP 6 5 (mr_6 a k st) rfl (wl_in (by omega) (by decide)) dX10_constantOf_41 ?_
            refine lv_aload_n hx hb dX10_constantOf_42 rfl (lv_at hl 1 rfl) ?_
            refine lv_lload_n hx hb dX10_constantOf_43 rfl (lv_at hl 3 rfl) ?_
            refine lv_iload_n hx hb dX10_constantOf_44 rfl (lv_at hl 2 rfl) ?_
            refine wl_cl (va_runV (As := [.long x, .int w]) (rest := [.long (fL st 0 (nI i).toNatClampNeg)]) ⟨hx, hb, hml, hown, hta⟩ (km_Mod_cut l dC dI a k st x w) (cwV 2 hta gX10_88 rfl rfl rfl (by decide +kernel) ⟨Nat.le_of_ble_eq_true rfl, Nat.le_of_ble_eq_true rfl⟩) (wl_pR (C := RX10) (ci := 8) (q0 := 0) hK hP rfl (mr_0 a k st)) rfl rfl hl.1 rfl (lv_room (Nat.le_of_ble_eq_true rfl)) dX10_constantOf_45 ⟨Nat.zero_le _, Nat.zero_le _⟩) ?_
            refine W.lcmp hx hb dX10_constantOf_48 ?_
            refine lv_if_ne (tgt := 55) hx hb dX10_constantOf_49 (by decide) (fun c49 => ?_) (fun c49 => ?_)
            · skip
              rw [if_neg c49] at hR
              refine lv_iinc (v := nI (i + 1)) (lv' := [(4, .int (nI (i + 1))), (0, .ref (a 0)), (1, .int w), (2, .long x)]) hx hb dX10_constantOf_55 hl (k := 0) rfl (nI_1 _) (by decide) rfl (fun ls hl => ?_)
              refine lv_goto (tgt := 3) hx hb dX10_constantOf_58 (by decide) ?_
              exact ih (i + 1) _ _ ls hR (by omega) (by omega) hP hD hS (lv_sub hl [0, 1, 2, 3] rfl)
            · skip
              rw [if_pos c49] at hR
              refine lv_iload hx hb dX10_constantOf_52 (lv_at hl 0 rfl) ?_
              exact W.iret (v := nI i) hx hb hr (fun t ht hW => ⟨⟨_, _, rfl, hR, by rw [ht]; exact hP, va_K.moved hW.alike hK, hD⟩, hS.F ht⟩) hS.2.2 dX10_constantOf_54
  exact L3 65 0 _ _ ls hR (Nat.zero_le _) (by omega) hP hD hS (lv_sub hl [0, 1, 2, 3] rfl)

theorem mw_716 : (.code yX10_constantOf cX10_constantOf 5 (some .int) : Cond) ∈ AW := List.mem_filter.mpr ⟨List.mem_of_getElem? (i := 716) (by decide +kernel), rfl⟩
theorem mw_713 : (.methodLink RX10 84 yX10_constantOf : Cond) ∈ AW := List.mem_filter.mpr ⟨List.mem_of_getElem? (i := 713) (by decide +kernel), rfl⟩
theorem mw_715 : (.instanceMethod yX10_constantOf : Cond) ∈ AW := List.mem_filter.mpr ⟨List.mem_of_getElem? (i := 715) (by decide +kernel), rfl⟩
theorem mw_18 : (.selects RX10 yX10_constantOf yX10_constantOf : Cond) ∈ AW := List.mem_filter.mpr ⟨List.mem_of_getElem? (i := 18) (by decide +kernel), rfl⟩
theorem gX10_84 : GoodIn AW (wsV RX10 84 RX10 yX10_constantOf wsX10_constantOf) := aw_V mw_713 mw_715 mw_18 mw_46 mw_716
theorem dX10_constant_0 : decode cX10_constant 0 = .ok (.aload_n 0, 1) := by decide +kernel
theorem dX10_constant_1 : decode cX10_constant 1 = .ok (.iload_n 1, 1) := by decide +kernel
theorem dX10_constant_2 : decode cX10_constant 2 = .ok (.invokevirtual 80, 3) := by decide +kernel
theorem dX10_constant_5 : decode cX10_constant 5 = .ok (.ifCond .eq 12, 3) := by decide +kernel
theorem dX10_constant_8 : decode cX10_constant 8 = .ok (.aload_n 0, 1) := by decide +kernel
theorem dX10_constant_9 : decode cX10_constant 9 = .ok (.iload_n 1, 1) := by decide +kernel
theorem dX10_constant_10 : decode cX10_constant 10 = .ok (.lload_n 2, 1) := by decide +kernel
theorem dX10_constant_11 : decode cX10_constant 11 = .ok (.invokevirtual 84, 3) := by decide +kernel
theorem dX10_constant_14 : decode cX10_constant 14 = .ok (.goto 4, 3) := by decide +kernel
theorem dX10_constant_17 : decode cX10_constant 17 = .ok (.iconst (-1), 1) := by decide +kernel
theorem dX10_constant_18 : decode cX10_constant 18 = .ok (.ireturn, 1) := by decide +kernel
def fm_Mod_constant (st : XS) (w : Int32) (x : Int64) : Int32 × XS := 
  if fm_Mod_isWidth st w = (0 : Int32) then ((-1 : Int32), st)
  else (((fm_Mod_constantOf st w x).1), ((fm_Mod_constantOf st w x).2))
theorem ff_Mod_constant (st : XS) (w : Int32) (x : Int64) : XF [0] [0, 1, 2, 3, 4] [0] st (fm_Mod_constant st w x).2 := by
  rw [fm_Mod_constant]
  exact (wl_ite (P := fun (q : Int32 × XS) => XF [0] [0, 1, 2, 3, 4] [0] _ (q.2)) (wl_snd XF.rf) (wl_snd (XF.tr XF.rf (XF.mono (ff_Mod_constantOf _ _ _) (by decide) (by decide) (by decide)))))
set_option maxHeartbeats 4000000 in
set_option maxRecDepth 100000 in
theorem km_Mod_constant (l : Launch) (dC : Nat → ClassId) (dI : Nat → Nat → Nat) (a : Nat → Nat) (k : Nat → ClassId) (st : XS) (w : Int32) (x : Int64) (sz : Nat) (N : Nat) (hN : gI st 0 = nI N) (h64 : N ≤ 64) : Met l yX10_constant wsX10_constant ({ frames := 2, cells := 0, slots := 0, locals := 49 }) (va_Pc [.ref (a 0), .int w, .long x] (wl_pre (dC, dI) vwCl (mt k) (mw a k) st sz)) (va_Qi (fun r9 u9 => (r9, u9) = fm_Mod_constant st w x) (wl_at (dC, dI) vwCl (mt k) (mw a k) (va_A (mw a k st) sz)) (va_A (mw a k st) sz)) 0 0 (va_A (mw a k st) sz) := by
  refine Met.ofW (cc := cX10_constant) (maxL := 4) (ret := (some .int)) (by decide) rfl ?_
  intro p e s m args below meth c s₁ B hml hv
  obtain ⟨rfl, hsz, hP, hK, hD0⟩ := hv
  have hx := B.exec
  have hb := B.bytes
  have hr := B.returns
  have hta := aw_hts (atoms_spec (ws := wsX10_constant) B.pre)
  have hown : s.vm.findClass RX10 = some m.cls := findClass_of_methodNamed B.named
  have hlocks := B.notSynchronized
  subst hsz
  have hD := hD0.self (sz := s.heap.size)
  generalize hAe : va_A (mw a k st) s.heap.size = A at hD ⊢
  have hAz : ∀ q : Nat, s.heap.size ≤ q → A q := fun q h => by rw [← hAe]; exact Or.inr h
  have hS : va_S A s.heap s.heap [] := va_S.rf
  have hl := lv_entry ([.ref (a 0), .int w, .long x]) (n := 4) (Nat.le_of_ble_eq_true rfl)
  rw [lg_entry_eq]
  generalize (lg_sl ([.ref (a 0), .int w, .long x]) ++ List.replicate (4 - (lg_sl ([.ref (a 0), .int w, .long x])).length) Slot.unset).toArray = ls at hl ⊢
  have hl : lv_has ls 4 [(0, .ref (a 0)), (1, .int w), (2, .long x)] := hl
  generalize hR : fm_Mod_constant st w x = R
  rw [fm_Mod_constant] at hR
  refine lv_aload_n hx hb dX10_constant_0 rfl (lv_at hl 0 rfl) ?_
  refine lv_iload_n hx hb dX10_constant_1 rfl (lv_at hl 1 rfl) ?_
  refine wl_ci (va_runV (As := [.int w]) (rest := []) ⟨hx, hb, hml, hown, hta⟩ (km_Mod_isWidth l dC dI a k st w) (cwV 1 hta gX10_80 rfl rfl rfl (by decide +kernel) ⟨Nat.le_of_ble_eq_true rfl, Nat.le_of_ble_eq_true rfl⟩) (wl_pR (C := RX10) (ci := 8) (q0 := 0) hK hP rfl (mr_0 a k st)) rfl rfl hl.1 rfl (lv_room (Nat.le_of_ble_eq_true rfl)) dX10_constant_2 ⟨Nat.zero_le _, Nat.zero_le _⟩) ?_
  refine lv_if_eq (tgt := 17) hx hb dX10_constant_5 (by decide) (fun c5 => ?_) (fun c5 => ?_)
  · skip
    rw [if_pos c5] at hR
    refine lv_iconst (v := (-1 : Int32)) hx hb dX10_constant_17 (by decide) ?_
    exact W.iret (v := (-1 : Int32)) hx hb hr (fun t ht hW => ⟨⟨_, _, rfl, hR, by rw [ht]; exact hP, va_K.moved hW.alike hK, hD⟩, hS.F ht⟩) hS.2.2 dX10_constant_18
  · skip
    rw [if_neg c5] at hR
    refine lv_aload_n hx hb dX10_constant_8 rfl (lv_at hl 0 rfl) ?_
    refine lv_iload_n hx hb dX10_constant_9 rfl (lv_at hl 1 rfl) ?_
    refine lv_lload_n hx hb dX10_constant_10 rfl (lv_at hl 2 rfl) ?_
    refine wl_mi (va_runV (As := [.int w, .long x]) (rest := []) ⟨hx, hb, hml, hown, hta⟩ (km_Mod_constantOf l dC dI a k st w x _ N hN h64) (cwV 2 hta gX10_84 rfl rfl rfl (by decide +kernel) ⟨Nat.le_of_ble_eq_true rfl, Nat.le_of_ble_eq_true rfl⟩) (wl_pM (C := RX10) (ci := 8) (q0 := 0) hK hP hD rfl (mr_0 a k st)) rfl rfl hl.1 rfl (lv_room (Nat.le_of_ble_eq_true rfl)) dX10_constant_11 ⟨Nat.zero_le _, Nat.zero_le _⟩) hP hD hS hAz (fun r11 u11 H locs hw11 hP hD hS => ?_)
    have v11 : (fm_Mod_constantOf st w x).1 = r11 := congrArg Prod.fst hw11.symm
    have w11 : (fm_Mod_constantOf st w x).2 = u11 := congrArg Prod.snd hw11.symm
    have hf11 : XF [0] [0, 1, 2, 3, 4] [0] st u11 := by rw [← w11]; exact ff_Mod_constantOf st w x
    try rw [v11] at hR
    try rw [w11] at hR
    refine lv_goto (tgt := 18) hx hb dX10_constant_14 (by decide) ?_
    exact W.iret (v := r11) hx hb hr (fun t ht hW => ⟨⟨_, _, rfl, hR, by rw [ht]; exact hP, va_K.moved hW.alike hK, hD⟩, hS.F ht⟩) hS.2.2 dX10_constant_18

theorem mw_635 : (.fieldLink RX10 16 RX10 "variables" "I" : Cond) ∈ AW := List.mem_filter.mpr ⟨List.mem_of_getElem? (i := 635) (by decide +kernel), rfl⟩
theorem mw_647 : (.fieldLink RX10 54 RX10 "bits" "[I" : Cond) ∈ AW := List.mem_filter.mpr ⟨List.mem_of_getElem? (i := 647) (by decide +kernel), rfl⟩
theorem mw_651 : (.fieldLink RX10 66 RX10 "signed" "[Z" : Cond) ∈ AW := List.mem_filter.mpr ⟨List.mem_of_getElem? (i := 651) (by decide +kernel), rfl⟩
theorem mw_648 : (.fieldLink RX10 57 RX10 "termOf" "[I" : Cond) ∈ AW := List.mem_filter.mpr ⟨List.mem_of_getElem? (i := 648) (by decide +kernel), rfl⟩
theorem dX10_variable_0 : decode cX10_variable 0 = .ok (.iconst 0, 1) := by decide +kernel
theorem dX10_variable_1 : decode cX10_variable 1 = .ok (.istore_n 3, 1) := by decide +kernel
theorem dX10_variable_2 : decode cX10_variable 2 = .ok (.iconst 0, 1) := by decide +kernel
theorem dX10_variable_3 : decode cX10_variable 3 = .ok (.istore 4, 2) := by decide +kernel
theorem dX10_variable_5 : decode cX10_variable 5 = .ok (.iload 4, 2) := by decide +kernel
theorem dX10_variable_7 : decode cX10_variable 7 = .ok (.aload_n 0, 1) := by decide +kernel
theorem dX10_variable_8 : decode cX10_variable 8 = .ok (.getfield 16, 3) := by decide +kernel
theorem dX10_variable_11 : decode cX10_variable 11 = .ok (.if_icmp .ge 19, 3) := by decide +kernel
theorem dX10_variable_14 : decode cX10_variable 14 = .ok (.iload_n 3, 1) := by decide +kernel
theorem dX10_variable_15 : decode cX10_variable 15 = .ok (.aload_n 0, 1) := by decide +kernel
theorem dX10_variable_16 : decode cX10_variable 16 = .ok (.getfield 54, 3) := by decide +kernel
theorem dX10_variable_19 : decode cX10_variable 19 = .ok (.iload 4, 2) := by decide +kernel
theorem dX10_variable_21 : decode cX10_variable 21 = .ok (.iaload, 1) := by decide +kernel
theorem dX10_variable_22 : decode cX10_variable 22 = .ok (.iadd, 1) := by decide +kernel
theorem dX10_variable_23 : decode cX10_variable 23 = .ok (.istore_n 3, 1) := by decide +kernel
theorem dX10_variable_24 : decode cX10_variable 24 = .ok (.iinc 4 1, 3) := by decide +kernel
theorem dX10_variable_27 : decode cX10_variable 27 = .ok (.goto (-22), 3) := by decide +kernel
theorem dX10_variable_30 : decode cX10_variable 30 = .ok (.iload_n 1, 1) := by decide +kernel
theorem dX10_variable_31 : decode cX10_variable 31 = .ok (.iconst 1, 1) := by decide +kernel
theorem dX10_variable_32 : decode cX10_variable 32 = .ok (.if_icmp .lt 25, 3) := by decide +kernel
theorem dX10_variable_35 : decode cX10_variable 35 = .ok (.iload_n 1, 1) := by decide +kernel
theorem dX10_variable_36 : decode cX10_variable 36 = .ok (.bipush 8, 2) := by decide +kernel
theorem dX10_variable_38 : decode cX10_variable 38 = .ok (.if_icmp .gt 19, 3) := by decide +kernel
theorem dX10_variable_41 : decode cX10_variable 41 = .ok (.aload_n 0, 1) := by decide +kernel
theorem dX10_variable_42 : decode cX10_variable 42 = .ok (.getfield 16, 3) := by decide +kernel
theorem dX10_variable_45 : decode cX10_variable 45 = .ok (.iconst 4, 1) := by decide +kernel
theorem dX10_variable_46 : decode cX10_variable 46 = .ok (.if_icmp .eq 11, 3) := by decide +kernel
theorem dX10_variable_49 : decode cX10_variable 49 = .ok (.iload_n 3, 1) := by decide +kernel
theorem dX10_variable_50 : decode cX10_variable 50 = .ok (.iload_n 1, 1) := by decide +kernel
theorem dX10_variable_51 : decode cX10_variable 51 = .ok (.iadd, 1) := by decide +kernel
theorem dX10_variable_52 : decode cX10_variable 52 = .ok (.bipush 10, 2) := by decide +kernel
theorem dX10_variable_54 : decode cX10_variable 54 = .ok (.if_icmp .le 5, 3) := by decide +kernel
theorem dX10_variable_57 : decode cX10_variable 57 = .ok (.iconst (-1), 1) := by decide +kernel
theorem dX10_variable_58 : decode cX10_variable 58 = .ok (.ireturn, 1) := by decide +kernel
theorem dX10_variable_59 : decode cX10_variable 59 = .ok (.aload_n 0, 1) := by decide +kernel
theorem dX10_variable_60 : decode cX10_variable 60 = .ok (.getfield 7, 3) := by decide +kernel
theorem dX10_variable_63 : decode cX10_variable 63 = .ok (.bipush 64, 2) := by decide +kernel
theorem dX10_variable_65 : decode cX10_variable 65 = .ok (.if_icmp .ne 6, 3) := by decide +kernel
theorem dX10_variable_68 : decode cX10_variable 68 = .ok (.bipush (-2), 2) := by decide +kernel
theorem dX10_variable_70 : decode cX10_variable 70 = .ok (.ireturn, 1) := by decide +kernel
theorem dX10_variable_71 : decode cX10_variable 71 = .ok (.aload_n 0, 1) := by decide +kernel
theorem dX10_variable_72 : decode cX10_variable 72 = .ok (.getfield 54, 3) := by decide +kernel
theorem dX10_variable_75 : decode cX10_variable 75 = .ok (.aload_n 0, 1) := by decide +kernel
theorem dX10_variable_76 : decode cX10_variable 76 = .ok (.getfield 16, 3) := by decide +kernel
theorem dX10_variable_79 : decode cX10_variable 79 = .ok (.iload_n 1, 1) := by decide +kernel
theorem dX10_variable_80 : decode cX10_variable 80 = .ok (.iastore, 1) := by decide +kernel
theorem dX10_variable_81 : decode cX10_variable 81 = .ok (.aload_n 0, 1) := by decide +kernel
theorem dX10_variable_82 : decode cX10_variable 82 = .ok (.getfield 66, 3) := by decide +kernel
theorem dX10_variable_85 : decode cX10_variable 85 = .ok (.aload_n 0, 1) := by decide +kernel
theorem dX10_variable_86 : decode cX10_variable 86 = .ok (.getfield 16, 3) := by decide +kernel
theorem dX10_variable_89 : decode cX10_variable 89 = .ok (.iload_n 2, 1) := by decide +kernel
theorem dX10_variable_90 : decode cX10_variable 90 = .ok (.bastore, 1) := by decide +kernel
theorem dX10_variable_91 : decode cX10_variable 91 = .ok (.aload_n 0, 1) := by decide +kernel
theorem dX10_variable_92 : decode cX10_variable 92 = .ok (.getfield 57, 3) := by decide +kernel
theorem dX10_variable_95 : decode cX10_variable 95 = .ok (.aload_n 0, 1) := by decide +kernel
theorem dX10_variable_96 : decode cX10_variable 96 = .ok (.getfield 16, 3) := by decide +kernel
theorem dX10_variable_99 : decode cX10_variable 99 = .ok (.aload_n 0, 1) := by decide +kernel
theorem dX10_variable_100 : decode cX10_variable 100 = .ok (.bipush 22, 2) := by decide +kernel
theorem dX10_variable_102 : decode cX10_variable 102 = .ok (.aload_n 0, 1) := by decide +kernel
theorem dX10_variable_103 : decode cX10_variable 103 = .ok (.getfield 16, 3) := by decide +kernel
theorem dX10_variable_106 : decode cX10_variable 106 = .ok (.iconst 0, 1) := by decide +kernel
theorem dX10_variable_107 : decode cX10_variable 107 = .ok (.iconst 0, 1) := by decide +kernel
theorem dX10_variable_108 : decode cX10_variable 108 = .ok (.bipush 8, 2) := by decide +kernel
theorem dX10_variable_110 : decode cX10_variable 110 = .ok (.invokevirtual 76, 3) := by decide +kernel
theorem dX10_variable_113 : decode cX10_variable 113 = .ok (.iastore, 1) := by decide +kernel
theorem dX10_variable_114 : decode cX10_variable 114 = .ok (.aload_n 0, 1) := by decide +kernel
theorem dX10_variable_115 : decode cX10_variable 115 = .ok (.dup, 1) := by decide +kernel
theorem dX10_variable_116 : decode cX10_variable 116 = .ok (.getfield 16, 3) := by decide +kernel
theorem dX10_variable_119 : decode cX10_variable 119 = .ok (.iconst 1, 1) := by decide +kernel
theorem dX10_variable_120 : decode cX10_variable 120 = .ok (.iadd, 1) := by decide +kernel
theorem dX10_variable_121 : decode cX10_variable 121 = .ok (.putfield 16, 3) := by decide +kernel
theorem dX10_variable_124 : decode cX10_variable 124 = .ok (.aload_n 0, 1) := by decide +kernel
theorem dX10_variable_125 : decode cX10_variable 125 = .ok (.getfield 7, 3) := by decide +kernel
theorem dX10_variable_128 : decode cX10_variable 128 = .ok (.iconst 1, 1) := by decide +kernel
theorem dX10_variable_129 : decode cX10_variable 129 = .ok (.isub, 1) := by decide +kernel
theorem dX10_variable_130 : decode cX10_variable 130 = .ok (.ireturn, 1) := by decide +kernel
def fm_Mod_variable_L5 (st : XS) (b : Int32) (sg : Int32) : Nat → Int32 → Nat → Int32 × XS
  | 0, all, i => (0, st)
  | n + 1, all, i => 
    if gI st 2 ≤ nI i then 
      if b < (1 : Int32) then ((-1 : Int32), st)
      else 
        if (8 : Int32) < b then ((-1 : Int32), st)
        else 
          if gI st 2 = (4 : Int32) then ((-1 : Int32), st)
          else 
            if all + b ≤ (10 : Int32) then 
              if gI st 0 = (64 : Int32) then ((-2 : Int32), st)
              else ((gI (((fm_Mod_fresh (wA (wA st 5 ((gI st 2).toNatClampNeg) b) 9 ((gI st 2).toNatClampNeg) (vp_nar .boolean sg)) (22 : Int32) (gI st 2) (0 : Int32) (0 : Int32) (8 : Int32)).2)) 0) - (1 : Int32), wI (wA (((fm_Mod_fresh (wA (wA st 5 ((gI st 2).toNatClampNeg) b) 9 ((gI st 2).toNatClampNeg) (vp_nar .boolean sg)) (22 : Int32) (gI st 2) (0 : Int32) (0 : Int32) (8 : Int32)).2)) 6 ((gI st 2).toNatClampNeg) (((fm_Mod_fresh (wA (wA st 5 ((gI st 2).toNatClampNeg) b) 9 ((gI st 2).toNatClampNeg) (vp_nar .boolean sg)) (22 : Int32) (gI st 2) (0 : Int32) (0 : Int32) (8 : Int32)).1))) 2 ((gI (((fm_Mod_fresh (wA (wA st 5 ((gI st 2).toNatClampNeg) b) 9 ((gI st 2).toNatClampNeg) (vp_nar .boolean sg)) (22 : Int32) (gI st 2) (0 : Int32) (0 : Int32) (8 : Int32)).2)) 2) + (1 : Int32)))
            else ((-1 : Int32), st)
    else fm_Mod_variable_L5 st b sg n (all + (fA st 5 (nI i).toNatClampNeg)) (i + 1)
def fm_Mod_variable (st : XS) (b : Int32) (sg : Int32) : Int32 × XS := fm_Mod_variable_L5 st b sg 5 (0 : Int32) 0
theorem fr_Mod_variable_L5 (st : XS) (b : Int32) (sg : Int32) : ∀ (n : Nat) (all : Int32) (i : Nat), XF [0, 2] [0, 1, 2, 3, 4, 5, 6, 9] [] st (fm_Mod_variable_L5 st b sg n all i).2 := by
  intro n
  induction n with
  | zero => intro all i; exact XF.rf
  | succ n ih =>
    intro all i
    rw [fm_Mod_variable_L5]
    exact (wl_ite (P := fun (q : Int32 × XS) => XF [0, 2] [0, 1, 2, 3, 4, 5, 6, 9] [] _ (q.2)) (wl_ite (P := fun (q : Int32 × XS) => XF [0, 2] [0, 1, 2, 3, 4, 5, 6, 9] [] _ (q.2)) (wl_snd XF.rf) (wl_ite (P := fun (q : Int32 × XS) => XF [0, 2] [0, 1, 2, 3, 4, 5, 6, 9] [] _ (q.2)) (wl_snd XF.rf) (wl_ite (P := fun (q : Int32 × XS) => XF [0, 2] [0, 1, 2, 3, 4, 5, 6, 9] [] _ (q.2)) (wl_snd XF.rf) (wl_ite (P := fun (q : Int32 × XS) => XF [0, 2] [0, 1, 2, 3, 4, 5, 6, 9] [] _ (q.2)) (wl_ite (P := fun (q : Int32 × XS) => XF [0, 2] [0, 1, 2, 3, 4, 5, 6, 9] [] _ (q.2)) (wl_snd XF.rf) (wl_snd (XF.wI (by decide) (XF.wA (by decide) (XF.tr (XF.wA (by decide) (XF.wA (by decide) XF.rf)) (XF.mono (ff_Mod_fresh _ _ _ _ _ _) (by decide) (by decide) (by decide))))))) (wl_snd XF.rf))))) (ih _ _))
theorem ff_Mod_variable (st : XS) (b : Int32) (sg : Int32) : XF [0, 2] [0, 1, 2, 3, 4, 5, 6, 9] [] st (fm_Mod_variable st b sg).2 := by
  rw [fm_Mod_variable]
  exact (fr_Mod_variable_L5 _ _ _ _ _ _)
set_option maxHeartbeats 4000000 in
set_option maxRecDepth 100000 in
theorem km_Mod_variable (l : Launch) (dC : Nat → ClassId) (dI : Nat → Nat → Nat) (a : Nat → Nat) (k : Nat → ClassId) (st : XS) (b : Int32) (sg : Int32) (sz : Nat) (N : Nat) (hN : gI st 0 = nI N) (h64 : N ≤ 64) (V : Nat) (hV : gI st 2 = nI V) (hV4 : V ≤ 4) : Met l yX10_variable wsX10_variable ({ frames := 1, cells := 0, slots := 0, locals := 25 }) (va_Pc [.ref (a 0), .int b, .int sg] (wl_pre (dC, dI) vwCl (mt k) (mw a k) st sz)) (va_Qi (fun r9 u9 => (r9, u9) = fm_Mod_variable st b sg) (wl_at (dC, dI) vwCl (mt k) (mw a k) (va_A (mw a k st) sz)) (va_A (mw a k st) sz)) 0 0 (va_A (mw a k st) sz) := by
  refine Met.ofW (cc := cX10_variable) (maxL := 5) (ret := (some .int)) (by decide) rfl ?_
  intro p e s m args below meth c s₁ B hml hv
  obtain ⟨rfl, hsz, hP, hK, hD0⟩ := hv
  have hx := B.exec
  have hb := B.bytes
  have hr := B.returns
  have hta := aw_hts (atoms_spec (ws := wsX10_variable) B.pre)
  have hown : s.vm.findClass RX10 = some m.cls := findClass_of_methodNamed B.named
  have hlocks := B.notSynchronized
  have hf16 := hta _ mw_635
  have hf7 := hta _ mw_633
  have hf54 := hta _ mw_647
  have hf66 := hta _ mw_651
  have hf57 := hta _ mw_648
  subst hsz
  have hD := hD0.self (sz := s.heap.size)
  generalize hAe : va_A (mw a k st) s.heap.size = A at hD ⊢
  have hAz : ∀ q : Nat, s.heap.size ≤ q → A q := fun q h => by rw [← hAe]; exact Or.inr h
  have hS : va_S A s.heap s.heap [] := va_S.rf
  have hl := lv_entry ([.ref (a 0), .int b, .int sg]) (n := 5) (Nat.le_of_ble_eq_true rfl)
  rw [lg_entry_eq]
  generalize (lg_sl ([.ref (a 0), .int b, .int sg]) ++ List.replicate (5 - (lg_sl ([.ref (a 0), .int b, .int sg])).length) Slot.unset).toArray = ls at hl ⊢
  have hl : lv_has ls 5 [(0, .ref (a 0)), (1, .int b), (2, .int sg)] := hl
  generalize hR : fm_Mod_variable st b sg = R
  rw [fm_Mod_variable] at hR
  refine lv_iconst (v := (0 : Int32)) hx hb dX10_variable_0 (by decide) ?_
  refine lv_istore_n (lv' := [(3, .int (0 : Int32)), (0, .ref (a 0)), (1, .int b), (2, .int sg)]) hx hb dX10_variable_1 rfl hl (by decide) rfl (fun ls hl => ?_)
  refine lv_iconst (v := (0 : Int32)) hx hb dX10_variable_2 (by decide) ?_
  refine lv_istore (lv' := [(4, .int (0 : Int32)), (3, .int (0 : Int32)), (0, .ref (a 0)), (1, .int b), (2, .int sg)]) hx hb dX10_variable_3 hl (by decide) rfl (fun ls hl => ?_)
  have L5 : ∀ (n : Nat) (all : Int32) (i : Nat) (H : Heap) (locs : List Loc) (ls : Array Slot), fm_Mod_variable_L5 st b sg n all i = R → (i ≤ V) → V - i < n → va_P (dC, dI) vwCl (mw a k st) H → va_D A (mw a k st) → va_S A s.heap H locs → lv_has ls 5 [(4, .int (nI i)), (3, .int all), (0, .ref (a 0)), (1, .int b), (2, .int sg)] → W p l e (headSpec wsX10_variable ({ frames := 1, cells := 0, slots := 0, locals := 25 })).room s m ([.ref (a 0), .int b, .int sg] : List Value).toArray below meth c H locs 0 0 (MQ below (va_Qi (fun r9 u9 => (r9, u9) = R) (wl_at (dC, dI) vwCl (mt k) (mw a k) A) A) ([.ref (a 0), .int b, .int sg] : List Value).toArray s 0 0 A) (F0 m 5 ls []) := by
    intro n
    induction n with
    | zero =>
      intro all i H locs ls hR hi hm hP hD hS hl
      exact absurd hm (Nat.not_lt_zero _)
    | succ n ih =>
      intro all i H locs ls hR hi hm hP hD hS hl
      rw [fm_Mod_variable_L5] at hR
      refine lv_iload hx hb dX10_variable_5 (lv_at hl 0 rfl) ?_
      refine lv_aload_n hx hb dX10_variable_7 rfl (lv_at hl 2 rfl) ?_
      refine va_get (D := (dC, dI)) (ci := 8) (v := .int (gI st 2)) (C := RX10) (T := TX10) (N := 21) hx hb hta inX10 hown hK hP 0 (mr_0 a k st) rfl 2 (by decide) hf16 (fun _ h9 => h9) rfl dX10_variable_8 ?_
      refine lv_icmp_ge (tgt := 30) hx hb dX10_variable_11 (by decide) (fun c11 => ?_) (fun c11 => ?_)
      · skip
        rw [if_pos c11] at hR
        refine lv_iload_n hx hb dX10_variable_30 rfl (lv_at hl 3 rfl) ?_
        refine lv_iconst (v := (1 : Int32)) hx hb dX10_variable_31 (by decide) ?_
        refine lv_icmp_lt (tgt := 57) hx hb dX10_variable_32 (by decide) (fun c32 => ?_) (fun c32 => ?_)
        · skip
          rw [if_pos c32] at hR
          refine lv_iconst (v := (-1 : Int32)) hx hb dX10_variable_57 (by decide) ?_
          exact W.iret (v := (-1 : Int32)) hx hb hr (fun t ht hW => ⟨⟨_, _, rfl, hR, by rw [ht]; exact hP, va_K.moved hW.alike hK, hD⟩, hS.F ht⟩) hS.2.2 dX10_variable_58
        · skip
          rw [if_neg c32] at hR
          refine lv_iload_n hx hb dX10_variable_35 rfl (lv_at hl 3 rfl) ?_
          refine lv_bipush (v := (8 : Int32)) hx hb dX10_variable_36 (by decide) ?_
          refine lv_icmp_gt (tgt := 57) hx hb dX10_variable_38 (by decide) (fun c38 => ?_) (fun c38 => ?_)
          · skip
            rw [if_pos c38] at hR
            refine lv_iconst (v := (-1 : Int32)) hx hb dX10_variable_57 (by decide) ?_
            exact W.iret (v := (-1 : Int32)) hx hb hr (fun t ht hW => ⟨⟨_, _, rfl, hR, by rw [ht]; exact hP, va_K.moved hW.alike hK, hD⟩, hS.F ht⟩) hS.2.2 dX10_variable_58
          · skip
            rw [if_neg c38] at hR
            refine lv_aload_n hx hb dX10_variable_41 rfl (lv_at hl 2 rfl) ?_
            refine va_get (D := (dC, dI)) (ci := 8) (v := .int (gI st 2)) (C := RX10) (T := TX10) (N := 21) hx hb hta inX10 hown hK hP 0 (mr_0 a k st) rfl 2 (by decide) hf16 (fun _ h9 => h9) rfl dX10_variable_42 ?_
            refine lv_iconst (v := (4 : Int32)) hx hb dX10_variable_45 (by decide) ?_
            refine lv_icmp_eq (tgt := 57) hx hb dX10_variable_46 (by decide) (fun c46 => ?_) (fun c46 => ?_)
            · skip
              rw [if_pos c46] at hR
              refine lv_iconst (v := (-1 : Int32)) hx hb dX10_variable_57 (by decide) ?_
              exact W.iret (v := (-1 : Int32)) hx hb hr (fun t ht hW => ⟨⟨_, _, rfl, hR, by rw [ht]; exact hP, va_K.moved hW.alike hK, hD⟩, hS.F ht⟩) hS.2.2 dX10_variable_58
            · skip
              rw [if_neg c46] at hR
              have hV3 : V < 4 := wm_v4 hV hV4 c46
              refine lv_iload_n hx hb dX10_variable_49 rfl (lv_at hl 1 rfl) ?_
              refine lv_iload_n hx hb dX10_variable_50 rfl (lv_at hl 3 rfl) ?_
              refine lv_iadd hx hb dX10_variable_51 ?_
              refine lv_bipush (v := (10 : Int32)) hx hb dX10_variable_52 (by decide) ?_
              refine lv_icmp_le (tgt := 59) hx hb dX10_variable_54 (by decide) (fun c54 => ?_) (fun c54 => ?_)
              · skip
                rw [if_pos c54] at hR
                refine lv_aload_n hx hb dX10_variable_59 rfl (lv_at hl 2 rfl) ?_
                refine va_get (D := (dC, dI)) (ci := 8) (v := .int (gI st 0)) (C := RX10) (T := TX10) (N := 21) hx hb hta inX10 hown hK hP 0 (mr_0 a k st) rfl 0 (by decide) hf7 (fun _ h9 => h9) rfl dX10_variable_60 ?_
                refine lv_bipush (v := (64 : Int32)) hx hb dX10_variable_63 (by decide) ?_
                refine lv_icmp_ne (tgt := 71) hx hb dX10_variable_65 (by decide) (fun c65 => ?_) (fun c65 => ?_)
                · skip
                  rw [if_neg c65] at hR
                  have hN64 : N < 64 := wm_n64 hN h64 c65
                  refine lv_aload_n hx hb dX10_variable_71 rfl (lv_at hl 2 rfl) ?_
                  refine va_get (D := (dC, dI)) (ci := 8) (v := .ref (a 8)) (C := RX10) (T := TX10) (N := 21) hx hb hta inX10 hown hK hP 0 (mr_0 a k st) rfl 14 (by decide) hf54 (fun _ h9 => h9) rfl dX10_variable_72 ?_
                  refine lv_aload_n hx hb dX10_variable_75 rfl (lv_at hl 2 rfl) ?_
                  refine va_get (D := (dC, dI)) (ci := 8) (v := .int (gI st 2)) (C := RX10) (T := TX10) (N := 21) hx hb hta inX10 hown hK hP 0 (mr_0 a k st) rfl 2 (by decide) hf16 (fun _ h9 => h9) rfl dX10_variable_76 ?_
                  refine lv_iload_n hx hb dX10_variable_79 rfl (lv_at hl 3 rfl) ?_
                  refine va_iast hx hb hK hP hD hS 8 7 (mr_8 a k st) rfl (show vp_in (gI st 2) 4 from by rw [hV]; exact wl_in hV3 (by decide)) dX10_variable_80 (fun H locs hP hD hS => ?_)
                  have hP := mp_A5 hP
                  have hD := md_A5 hD
                  refine lv_aload_n hx hb dX10_variable_81 rfl (lv_at hl 2 rfl) ?_
                  refine va_get (D := (dC, dI)) (ci := 8) (v := .ref (a 12)) (C := RX10) (T := TX10) (N := 21) hx hb hta inX10 hown hK hP 0 (mr_0 a k (wA st 5 ((gI st 2).toNatClampNeg) b)) rfl 18 (by decide) hf66 (fun _ h9 => h9) rfl dX10_variable_82 ?_
                  refine lv_aload_n hx hb dX10_variable_85 rfl (lv_at hl 2 rfl) ?_
                  refine va_get (D := (dC, dI)) (ci := 8) (v := .int (gI st 2)) (C := RX10) (T := TX10) (N := 21) hx hb hta inX10 hown hK hP 0 (mr_0 a k (wA st 5 ((gI st 2).toNatClampNeg) b)) rfl 2 (by decide) hf16 (fun _ h9 => h9) rfl dX10_variable_86 ?_
                  refine lv_iload_n hx hb dX10_variable_89 rfl (lv_at hl 4 rfl) ?_
                  refine va_zast hx hb hK hP hD hS 12 11 (mr_12 a k (wA st 5 ((gI st 2).toNatClampNeg) b)) rfl (show vp_in (gI st 2) 4 from by rw [hV]; exact wl_in hV3 (by decide)) dX10_variable_90 (fun H locs hP hD hS => ?_)
                  have hP := mp_A9 hP
                  have hD := md_A9 hD
                  refine lv_aload_n hx hb dX10_variable_91 rfl (lv_at hl 2 rfl) ?_
                  refine va_get (D := (dC, dI)) (ci := 8) (v := .ref (a 9)) (C := RX10) (T := TX10) (N := 21) hx hb hta inX10 hown hK hP 0 (mr_0 a k (wA (wA st 5 ((gI st 2).toNatClampNeg) b) 9 ((gI st 2).toNatClampNeg) (vp_nar .boolean sg))) rfl 15 (by decide) hf57 (fun _ h9 => h9) rfl dX10_variable_92 ?_
                  refine lv_aload_n hx hb dX10_variable_95 rfl (lv_at hl 2 rfl) ?_
                  refine va_get (D := (dC, dI)) (ci := 8) (v := .int (gI st 2)) (C := RX10) (T := TX10) (N := 21) hx hb hta inX10 hown hK hP 0 (mr_0 a k (wA (wA st 5 ((gI st 2).toNatClampNeg) b) 9 ((gI st 2).toNatClampNeg) (vp_nar .boolean sg))) rfl 2 (by decide) hf16 (fun _ h9 => h9) rfl dX10_variable_96 ?_
                  refine lv_aload_n hx hb dX10_variable_99 rfl (lv_at hl 2 rfl) ?_
                  refine lv_bipush (v := (22 : Int32)) hx hb dX10_variable_100 (by decide) ?_
                  refine lv_aload_n hx hb dX10_variable_102 rfl (lv_at hl 2 rfl) ?_
                  refine va_get (D := (dC, dI)) (ci := 8) (v := .int (gI st 2)) (C := RX10) (T := TX10) (N := 21) hx hb hta inX10 hown hK hP 0 (mr_0 a k (wA (wA st 5 ((gI st 2).toNatClampNeg) b) 9 ((gI st 2).toNatClampNeg) (vp_nar .boolean sg))) rfl 2 (by decide) hf16 (fun _ h9 => h9) rfl dX10_variable_103 ?_
                  refine lv_iconst (v := (0 : Int32)) hx hb dX10_variable_106 (by decide) ?_
                  refine lv_iconst (v := (0 : Int32)) hx hb dX10_variable_107 (by decide) ?_
                  refine lv_bipush (v := (8 : Int32)) hx hb dX10_variable_108 (by decide) ?_
                  refine wl_mi (va_runV (As := [.int (22 : Int32), .int (gI st 2), .int (0 : Int32), .int (0 : Int32), .int (8 : Int32)]) (rest := [.int (gI st 2), .ref (a 9)]) ⟨hx, hb, hml, hown, hta⟩ (km_Mod_fresh l dC dI a k (wA (wA st 5 ((gI st 2).toNatClampNeg) b) 9 ((gI st 2).toNatClampNeg) (vp_nar .boolean sg)) (22 : Int32) (gI st 2) (0 : Int32) (0 : Int32) (8 : Int32) _ (show vp_in (gI st 0) 64 from by rw [hN]; exact wl_in hN64 (by decide))) (cwV 5 hta gX10_76 rfl rfl rfl (by decide +kernel) ⟨Nat.le_of_ble_eq_true rfl, Nat.le_of_ble_eq_true rfl⟩) (wl_pM (C := RX10) (ci := 8) (q0 := 0) hK hP hD rfl (mr_0 a k (wA (wA st 5 ((gI st 2).toNatClampNeg) b) 9 ((gI st 2).toNatClampNeg) (vp_nar .boolean sg)))) rfl rfl hl.1 rfl (lv_room (Nat.le_of_ble_eq_true rfl)) dX10_variable_110 ⟨Nat.zero_le _, Nat.zero_le _⟩) hP hD hS hAz (fun r110 u110 H locs hw110 hP hD hS => ?_)
                  have v110 : (fm_Mod_fresh (wA (wA st 5 ((gI st 2).toNatClampNeg) b) 9 ((gI st 2).toNatClampNeg) (vp_nar .boolean sg)) (22 : Int32) (gI st 2) (0 : Int32) (0 : Int32) (8 : Int32)).1 = r110 := congrArg Prod.fst hw110.symm
                  have w110 : (fm_Mod_fresh (wA (wA st 5 ((gI st 2).toNatClampNeg) b) 9 ((gI st 2).toNatClampNeg) (vp_nar .boolean sg)) (22 : Int32) (gI st 2) (0 : Int32) (0 : Int32) (8 : Int32)).2 = u110 := congrArg Prod.snd hw110.symm
                  have hf110 : XF [0] [0, 1, 2, 3, 4] [] (wA (wA st 5 ((gI st 2).toNatClampNeg) b) 9 ((gI st 2).toNatClampNeg) (vp_nar .boolean sg)) u110 := by rw [← w110]; exact ff_Mod_fresh (wA (wA st 5 ((gI st 2).toNatClampNeg) b) 9 ((gI st 2).toNatClampNeg) (vp_nar .boolean sg)) (22 : Int32) (gI st 2) (0 : Int32) (0 : Int32) (8 : Int32)
                  try rw [v110] at hR
                  try rw [w110] at hR
                  refine va_iast hx hb hK hP hD hS 9 8 (mr_9 a k (u110)) rfl (show vp_in (gI st 2) 4 from by rw [hV]; exact wl_in hV3 (by decide)) dX10_variable_113 (fun H locs hP hD hS => ?_)
                  have hP := mp_A6 hP
                  have hD := md_A6 hD
                  refine lv_aload_n hx hb dX10_variable_114 rfl (lv_at hl 2 rfl) ?_
                  refine lv_dup hx hb dX10_variable_115 rfl ?_
                  refine va_get (D := (dC, dI)) (ci := 8) (v := .int (gI (u110) 2)) (C := RX10) (T := TX10) (N := 21) hx hb hta inX10 hown hK hP 0 (mr_0 a k (wA (u110) 6 ((gI st 2).toNatClampNeg) (r110))) rfl 2 (by decide) hf16 (fun _ h9 => h9) rfl dX10_variable_116 ?_
                  refine lv_iconst (v := (1 : Int32)) hx hb dX10_variable_119 (by decide) ?_
                  refine lv_iadd hx hb dX10_variable_120 ?_
                  refine va_put (D := (dC, dI)) (ci := 8) (v := .int ((gI (u110) 2) + (1 : Int32))) (ty := .int) (C := RX10) (T := TX10) (N := 21) hx hb hta inX10 tyX10 tyX10_ok nmX10 hown hK hP hD hS 0 (mr_0 a k (wA (u110) 6 ((gI st 2).toNatClampNeg) (r110))) rfl 2 (by decide) hf16 (fun _ h9 => h9) rfl (by decide +kernel) rfl rfl (Nat.le_of_ble_eq_true rfl) dX10_variable_121 (fun H locs hP hD hS => ?_)
                  have hP := mp_I2 hP
                  have hD := md_I2 hD
                  refine lv_aload_n hx hb dX10_variable_124 rfl (lv_at hl 2 rfl) ?_
                  refine va_get (D := (dC, dI)) (ci := 8) (v := .int (gI (u110) 0)) (C := RX10) (T := TX10) (N := 21) hx hb hta inX10 hown hK hP 0 (mr_0 a k (wI (wA (u110) 6 ((gI st 2).toNatClampNeg) (r110)) 2 ((gI (u110) 2) + (1 : Int32)))) rfl 0 (by decide) hf7 (fun _ h9 => h9) rfl dX10_variable_125 ?_
                  refine lv_iconst (v := (1 : Int32)) hx hb dX10_variable_128 (by decide) ?_
                  refine lv_isub hx hb dX10_variable_129 ?_
                  exact W.iret (v := (gI (u110) 0) - (1 : Int32)) hx hb hr (fun t ht hW => ⟨⟨_, _, rfl, hR, by rw [ht]; exact hP, va_K.moved hW.alike hK, hD⟩, hS.F ht⟩) hS.2.2 dX10_variable_130
                · skip
                  rw [if_pos c65] at hR
                  refine lv_bipush (v := (-2 : Int32)) hx hb dX10_variable_68 (by decide) ?_
                  exact W.iret (v := (-2 : Int32)) hx hb hr (fun t ht hW => ⟨⟨_, _, rfl, hR, by rw [ht]; exact hP, va_K.moved hW.alike hK, hD⟩, hS.F ht⟩) hS.2.2 dX10_variable_70
              · skip
                rw [if_neg c54] at hR
                refine lv_iconst (v := (-1 : Int32)) hx hb dX10_variable_57 (by decide) ?_
                exact W.iret (v := (-1 : Int32)) hx hb hr (fun t ht hW => ⟨⟨_, _, rfl, hR, by rw [ht]; exact hP, va_K.moved hW.alike hK, hD⟩, hS.F ht⟩) hS.2.2 dX10_variable_58
      · skip
        rw [if_neg c11] at hR
        have hlt : i < V := wl_lt (by rw [← hV]; exact c11) (by omega)
        refine lv_iload_n hx hb dX10_variable_14 rfl (lv_at hl 1 rfl) ?_
        refine lv_aload_n hx hb dX10_variable_15 rfl (lv_at hl 2 rfl) ?_
        refine va_get (D := (dC, dI)) (ci := 8) (v := .ref (a 8)) (C := RX10) (T := TX10) (N := 21) hx hb hta inX10 hown hK hP 0 (mr_0 a k st) rfl 14 (by decide) hf54 (fun _ h9 => h9) rfl dX10_variable_16 ?_
        refine lv_iload hx hb dX10_variable_19 (lv_at hl 0 rfl) ?_
        refine va_iald hx hb hK hP 8 7 (mr_8 a k st) rfl (wl_in (by omega) (by decide)) dX10_variable_21 ?_
        refine lv_iadd hx hb dX10_variable_22 ?_
        refine lv_istore_n (lv' := [(3, .int (all + (fA st 5 (nI i).toNatClampNeg))), (4, .int (nI i)), (0, .ref (a 0)), (1, .int b), (2, .int sg)]) hx hb dX10_variable_23 rfl hl (by decide) rfl (fun ls hl => ?_)
        refine lv_iinc (v := nI (i + 1)) (lv' := [(4, .int (nI (i + 1))), (3, .int (all + (fA st 5 (nI i).toNatClampNeg))), (0, .ref (a 0)), (1, .int b), (2, .int sg)]) hx hb dX10_variable_24 hl (k := 1) rfl (nI_1 _) (by decide) rfl (fun ls hl => ?_)
        refine lv_goto (tgt := 5) hx hb dX10_variable_27 (by decide) ?_
        exact ih (all + (fA st 5 (nI i).toNatClampNeg)) (i + 1) _ _ ls hR (by omega) (by omega) hP hD hS (lv_sub hl [0, 1, 2, 3, 4] rfl)
  exact L5 5 (0 : Int32) 0 _ _ ls hR (Nat.zero_le _) (by omega) hP hD hS (lv_sub hl [0, 1, 2, 3, 4] rfl)

theorem dX10_entry_0 : decode cX10_entry 0 = .ok (.iload_n 1, 1) := by decide +kernel
theorem dX10_entry_1 : decode cX10_entry 1 = .ok (.ifCond .lt 18, 3) := by decide +kernel
theorem dX10_entry_4 : decode cX10_entry 4 = .ok (.iload_n 1, 1) := by decide +kernel
theorem dX10_entry_5 : decode cX10_entry 5 = .ok (.iconst 1, 1) := by decide +kernel
theorem dX10_entry_6 : decode cX10_entry 6 = .ok (.if_icmp .gt 13, 3) := by decide +kernel
theorem dX10_entry_9 : decode cX10_entry 9 = .ok (.iload_n 2, 1) := by decide +kernel
theorem dX10_entry_10 : decode cX10_entry 10 = .ok (.ifCond .lt 9, 3) := by decide +kernel
theorem dX10_entry_13 : decode cX10_entry 13 = .ok (.iload_n 2, 1) := by decide +kernel
theorem dX10_entry_14 : decode cX10_entry 14 = .ok (.bipush 7, 2) := by decide +kernel
theorem dX10_entry_16 : decode cX10_entry 16 = .ok (.if_icmp .le 5, 3) := by decide +kernel
theorem dX10_entry_19 : decode cX10_entry 19 = .ok (.iconst (-1), 1) := by decide +kernel
theorem dX10_entry_20 : decode cX10_entry 20 = .ok (.ireturn, 1) := by decide +kernel
theorem dX10_entry_21 : decode cX10_entry 21 = .ok (.aload_n 0, 1) := by decide +kernel
theorem dX10_entry_22 : decode cX10_entry 22 = .ok (.getfield 70, 3) := by decide +kernel
theorem dX10_entry_25 : decode cX10_entry 25 = .ok (.iload_n 1, 1) := by decide +kernel
theorem dX10_entry_26 : decode cX10_entry 26 = .ok (.bipush 8, 2) := by decide +kernel
theorem dX10_entry_28 : decode cX10_entry 28 = .ok (.imul, 1) := by decide +kernel
theorem dX10_entry_29 : decode cX10_entry 29 = .ok (.iload_n 2, 1) := by decide +kernel
theorem dX10_entry_30 : decode cX10_entry 30 = .ok (.iadd, 1) := by decide +kernel
theorem dX10_entry_31 : decode cX10_entry 31 = .ok (.iload_n 3, 1) := by decide +kernel
theorem dX10_entry_32 : decode cX10_entry 32 = .ok (.sipush 255, 3) := by decide +kernel
theorem dX10_entry_35 : decode cX10_entry 35 = .ok (.iand, 1) := by decide +kernel
theorem dX10_entry_36 : decode cX10_entry 36 = .ok (.iastore, 1) := by decide +kernel
theorem dX10_entry_37 : decode cX10_entry 37 = .ok (.iconst 0, 1) := by decide +kernel
theorem dX10_entry_38 : decode cX10_entry 38 = .ok (.ireturn, 1) := by decide +kernel
def fm_Mod_entry (st : XS) (tt : Int32) (ii : Int32) (vv : Int32) : Int32 × XS := 
  if tt < (0 : Int32) then ((-1 : Int32), st)
  else 
    if (1 : Int32) < tt then ((-1 : Int32), st)
    else 
      if ii < (0 : Int32) then ((-1 : Int32), st)
      else 
        if ii ≤ (7 : Int32) then ((0 : Int32), wA st 10 (((tt * (8 : Int32)) + ii).toNatClampNeg) (vv &&& (255 : Int32)))
        else ((-1 : Int32), st)
theorem ff_Mod_entry (st : XS) (tt : Int32) (ii : Int32) (vv : Int32) : XF [] [10] [] st (fm_Mod_entry st tt ii vv).2 := by
  rw [fm_Mod_entry]
  exact (wl_ite (P := fun (q : Int32 × XS) => XF [] [10] [] _ (q.2)) (wl_snd XF.rf) (wl_ite (P := fun (q : Int32 × XS) => XF [] [10] [] _ (q.2)) (wl_snd XF.rf) (wl_ite (P := fun (q : Int32 × XS) => XF [] [10] [] _ (q.2)) (wl_snd XF.rf) (wl_ite (P := fun (q : Int32 × XS) => XF [] [10] [] _ (q.2)) (wl_snd (XF.wA (by decide) XF.rf)) (wl_snd XF.rf)))))
set_option maxHeartbeats 4000000 in
set_option maxRecDepth 100000 in
theorem km_Mod_entry (l : Launch) (dC : Nat → ClassId) (dI : Nat → Nat → Nat) (a : Nat → Nat) (k : Nat → ClassId) (st : XS) (tt : Int32) (ii : Int32) (vv : Int32) (sz : Nat) : Met l yX10_entry wsX10_entry ({ frames := 0, cells := 0, slots := 0, locals := 0 }) (va_Pc [.ref (a 0), .int tt, .int ii, .int vv] (wl_pre (dC, dI) vwCl (mt k) (mw a k) st sz)) (va_Qi (fun r9 u9 => (r9, u9) = fm_Mod_entry st tt ii vv) (wl_at (dC, dI) vwCl (mt k) (mw a k) (va_A (mw a k st) sz)) (va_A (mw a k st) sz)) 0 0 (va_A (mw a k st) sz) := by
  refine Met.ofW (cc := cX10_entry) (maxL := 4) (ret := (some .int)) (by decide) rfl ?_
  intro p e s m args below meth c s₁ B hml hv
  obtain ⟨rfl, hsz, hP, hK, hD0⟩ := hv
  have hx := B.exec
  have hb := B.bytes
  have hr := B.returns
  have hta := aw_hts (atoms_spec (ws := wsX10_entry) B.pre)
  have hown : s.vm.findClass RX10 = some m.cls := findClass_of_methodNamed B.named
  have hlocks := B.notSynchronized
  have hf70 := hta _ mw_652
  subst hsz
  have hD := hD0.self (sz := s.heap.size)
  generalize hAe : va_A (mw a k st) s.heap.size = A at hD ⊢
  have hAz : ∀ q : Nat, s.heap.size ≤ q → A q := fun q h => by rw [← hAe]; exact Or.inr h
  have hS : va_S A s.heap s.heap [] := va_S.rf
  have hl := lv_entry ([.ref (a 0), .int tt, .int ii, .int vv]) (n := 4) (Nat.le_of_ble_eq_true rfl)
  rw [lg_entry_eq]
  generalize (lg_sl ([.ref (a 0), .int tt, .int ii, .int vv]) ++ List.replicate (4 - (lg_sl ([.ref (a 0), .int tt, .int ii, .int vv])).length) Slot.unset).toArray = ls at hl ⊢
  have hl : lv_has ls 4 [(0, .ref (a 0)), (1, .int tt), (2, .int ii), (3, .int vv)] := hl
  generalize hR : fm_Mod_entry st tt ii vv = R
  rw [fm_Mod_entry] at hR
  refine lv_iload_n hx hb dX10_entry_0 rfl (lv_at hl 1 rfl) ?_
  refine lv_if_lt (tgt := 19) hx hb dX10_entry_1 (by decide) (fun c1 => ?_) (fun c1 => ?_)
  · skip
    rw [if_pos c1] at hR
    refine lv_iconst (v := (-1 : Int32)) hx hb dX10_entry_19 (by decide) ?_
    exact W.iret (v := (-1 : Int32)) hx hb hr (fun t ht hW => ⟨⟨_, _, rfl, hR, by rw [ht]; exact hP, va_K.moved hW.alike hK, hD⟩, hS.F ht⟩) hS.2.2 dX10_entry_20
  · skip
    rw [if_neg c1] at hR
    refine lv_iload_n hx hb dX10_entry_4 rfl (lv_at hl 1 rfl) ?_
    refine lv_iconst (v := (1 : Int32)) hx hb dX10_entry_5 (by decide) ?_
    refine lv_icmp_gt (tgt := 19) hx hb dX10_entry_6 (by decide) (fun c6 => ?_) (fun c6 => ?_)
    · skip
      rw [if_pos c6] at hR
      refine lv_iconst (v := (-1 : Int32)) hx hb dX10_entry_19 (by decide) ?_
      exact W.iret (v := (-1 : Int32)) hx hb hr (fun t ht hW => ⟨⟨_, _, rfl, hR, by rw [ht]; exact hP, va_K.moved hW.alike hK, hD⟩, hS.F ht⟩) hS.2.2 dX10_entry_20
    · skip
      rw [if_neg c6] at hR
      refine lv_iload_n hx hb dX10_entry_9 rfl (lv_at hl 2 rfl) ?_
      refine lv_if_lt (tgt := 19) hx hb dX10_entry_10 (by decide) (fun c10 => ?_) (fun c10 => ?_)
      · skip
        rw [if_pos c10] at hR
        refine lv_iconst (v := (-1 : Int32)) hx hb dX10_entry_19 (by decide) ?_
        exact W.iret (v := (-1 : Int32)) hx hb hr (fun t ht hW => ⟨⟨_, _, rfl, hR, by rw [ht]; exact hP, va_K.moved hW.alike hK, hD⟩, hS.F ht⟩) hS.2.2 dX10_entry_20
      · skip
        rw [if_neg c10] at hR
        refine lv_iload_n hx hb dX10_entry_13 rfl (lv_at hl 2 rfl) ?_
        refine lv_bipush (v := (7 : Int32)) hx hb dX10_entry_14 (by decide) ?_
        refine lv_icmp_le (tgt := 21) hx hb dX10_entry_16 (by decide) (fun c16 => ?_) (fun c16 => ?_)
        · skip
          rw [if_pos c16] at hR
          refine lv_aload_n hx hb dX10_entry_21 rfl (lv_at hl 0 rfl) ?_
          refine va_get (D := (dC, dI)) (ci := 8) (v := .ref (a 13)) (C := RX10) (T := TX10) (N := 21) hx hb hta inX10 hown hK hP 0 (mr_0 a k st) rfl 19 (by decide) hf70 (fun _ h9 => h9) rfl dX10_entry_22 ?_
          refine lv_iload_n hx hb dX10_entry_25 rfl (lv_at hl 1 rfl) ?_
          refine lv_bipush (v := (8 : Int32)) hx hb dX10_entry_26 (by decide) ?_
          refine lv_imul hx hb dX10_entry_28 ?_
          refine lv_iload_n hx hb dX10_entry_29 rfl (lv_at hl 2 rfl) ?_
          refine lv_iadd hx hb dX10_entry_30 ?_
          refine lv_iload_n hx hb dX10_entry_31 rfl (lv_at hl 3 rfl) ?_
          refine lv_sipush (v := (255 : Int32)) hx hb dX10_entry_32 (by decide) ?_
          refine lv_iand hx hb dX10_entry_35 ?_
          refine va_iast hx hb hK hP hD hS 13 12 (mr_13 a k st) rfl (wm_ti c1 c6 c10 c16) dX10_entry_36 (fun H locs hP hD hS => ?_)
          have hP := mp_A10 hP
          have hD := md_A10 hD
          refine lv_iconst (v := (0 : Int32)) hx hb dX10_entry_37 (by decide) ?_
          exact W.iret (v := (0 : Int32)) hx hb hr (fun t ht hW => ⟨⟨_, _, rfl, hR, by rw [ht]; exact hP, va_K.moved hW.alike hK, hD⟩, hS.F ht⟩) hS.2.2 dX10_entry_38
        · skip
          rw [if_neg c16] at hR
          refine lv_iconst (v := (-1 : Int32)) hx hb dX10_entry_19 (by decide) ?_
          exact W.iret (v := (-1 : Int32)) hx hb hr (fun t ht hW => ⟨⟨_, _, rfl, hR, by rw [ht]; exact hP, va_K.moved hW.alike hK, hD⟩, hS.F ht⟩) hS.2.2 dX10_entry_20

theorem mw_636 : (.fieldLink RX10 19 RX10 "path" "I" : Cond) ∈ AW := List.mem_filter.mpr ⟨List.mem_of_getElem? (i := 636) (by decide +kernel), rfl⟩
theorem mw_653 : (.fieldLink RX10 73 RX10 "row" "[I" : Cond) ∈ AW := List.mem_filter.mpr ⟨List.mem_of_getElem? (i := 653) (by decide +kernel), rfl⟩
theorem dX10_take_0 : decode cX10_take 0 = .ok (.aload_n 0, 1) := by decide +kernel
theorem dX10_take_1 : decode cX10_take 1 = .ok (.iload_n 1, 1) := by decide +kernel
theorem dX10_take_2 : decode cX10_take 2 = .ok (.invokevirtual 114, 3) := by decide +kernel
theorem dX10_take_5 : decode cX10_take 5 = .ok (.ifCond .ne 13, 3) := by decide +kernel
theorem dX10_take_8 : decode cX10_take 8 = .ok (.aload_n 0, 1) := by decide +kernel
theorem dX10_take_9 : decode cX10_take 9 = .ok (.getfield 44, 3) := by decide +kernel
theorem dX10_take_12 : decode cX10_take 12 = .ok (.iload_n 1, 1) := by decide +kernel
theorem dX10_take_13 : decode cX10_take 13 = .ok (.iaload, 1) := by decide +kernel
theorem dX10_take_14 : decode cX10_take 14 = .ok (.iconst 1, 1) := by decide +kernel
theorem dX10_take_15 : decode cX10_take 15 = .ok (.if_icmp .eq 5, 3) := by decide +kernel
theorem dX10_take_18 : decode cX10_take 18 = .ok (.iconst (-1), 1) := by decide +kernel
theorem dX10_take_19 : decode cX10_take 19 = .ok (.ireturn, 1) := by decide +kernel
theorem dX10_take_20 : decode cX10_take 20 = .ok (.aload_n 0, 1) := by decide +kernel
theorem dX10_take_21 : decode cX10_take 21 = .ok (.getfield 19, 3) := by decide +kernel
theorem dX10_take_24 : decode cX10_take 24 = .ok (.bipush 16, 2) := by decide +kernel
theorem dX10_take_26 : decode cX10_take 26 = .ok (.if_icmp .ne 6, 3) := by decide +kernel
theorem dX10_take_29 : decode cX10_take 29 = .ok (.bipush (-2), 2) := by decide +kernel
theorem dX10_take_31 : decode cX10_take 31 = .ok (.ireturn, 1) := by decide +kernel
theorem dX10_take_32 : decode cX10_take 32 = .ok (.aload_n 0, 1) := by decide +kernel
theorem dX10_take_33 : decode cX10_take 33 = .ok (.getfield 73, 3) := by decide +kernel
theorem dX10_take_36 : decode cX10_take 36 = .ok (.aload_n 0, 1) := by decide +kernel
theorem dX10_take_37 : decode cX10_take 37 = .ok (.getfield 19, 3) := by decide +kernel
theorem dX10_take_40 : decode cX10_take 40 = .ok (.iload_n 1, 1) := by decide +kernel
theorem dX10_take_41 : decode cX10_take 41 = .ok (.iastore, 1) := by decide +kernel
theorem dX10_take_42 : decode cX10_take 42 = .ok (.aload_n 0, 1) := by decide +kernel
theorem dX10_take_43 : decode cX10_take 43 = .ok (.dup, 1) := by decide +kernel
theorem dX10_take_44 : decode cX10_take 44 = .ok (.getfield 19, 3) := by decide +kernel
theorem dX10_take_47 : decode cX10_take 47 = .ok (.iconst 1, 1) := by decide +kernel
theorem dX10_take_48 : decode cX10_take 48 = .ok (.iadd, 1) := by decide +kernel
theorem dX10_take_49 : decode cX10_take 49 = .ok (.putfield 19, 3) := by decide +kernel
theorem dX10_take_52 : decode cX10_take 52 = .ok (.aload_n 0, 1) := by decide +kernel
theorem dX10_take_53 : decode cX10_take 53 = .ok (.getfield 19, 3) := by decide +kernel
theorem dX10_take_56 : decode cX10_take 56 = .ok (.ireturn, 1) := by decide +kernel
def fm_Mod_take (st : XS) (cnd : Int32) : Int32 × XS := 
  if fm_Mod_none st cnd = (0 : Int32) then 
    if fA st 4 cnd.toNatClampNeg = (1 : Int32) then 
      if gI st 3 = (16 : Int32) then ((-2 : Int32), st)
      else (gI (wI (wA st 11 ((gI st 3).toNatClampNeg) cnd) 3 ((gI st 3) + (1 : Int32))) 3, wI (wA st 11 ((gI st 3).toNatClampNeg) cnd) 3 ((gI st 3) + (1 : Int32)))
    else ((-1 : Int32), st)
  else ((-1 : Int32), st)
theorem ff_Mod_take (st : XS) (cnd : Int32) : XF [3] [11] [] st (fm_Mod_take st cnd).2 := by
  rw [fm_Mod_take]
  exact (wl_ite (P := fun (q : Int32 × XS) => XF [3] [11] [] _ (q.2)) (wl_ite (P := fun (q : Int32 × XS) => XF [3] [11] [] _ (q.2)) (wl_ite (P := fun (q : Int32 × XS) => XF [3] [11] [] _ (q.2)) (wl_snd XF.rf) (wl_snd (XF.wI (by decide) (XF.wA (by decide) XF.rf)))) (wl_snd XF.rf)) (wl_snd XF.rf))
set_option maxHeartbeats 4000000 in
set_option maxRecDepth 100000 in
theorem km_Mod_take (l : Launch) (dC : Nat → ClassId) (dI : Nat → Nat → Nat) (a : Nat → Nat) (k : Nat → ClassId) (st : XS) (cnd : Int32) (sz : Nat) (N : Nat) (hN : gI st 0 = nI N) (h64 : N ≤ 64) (E : Nat) (hEl : gI st 3 = nI E) (hE16 : E ≤ 16) : Met l yX10_take wsX10_take ({ frames := 1, cells := 0, slots := 0, locals := 21 }) (va_Pc [.ref (a 0), .int cnd] (wl_pre (dC, dI) vwCl (mt k) (mw a k) st sz)) (va_Qi (fun r9 u9 => (r9, u9) = fm_Mod_take st cnd) (wl_at (dC, dI) vwCl (mt k) (mw a k) (va_A (mw a k st) sz)) (va_A (mw a k st) sz)) 0 0 (va_A (mw a k st) sz) := by
  refine Met.ofW (cc := cX10_take) (maxL := 2) (ret := (some .int)) (by decide) rfl ?_
  intro p e s m args below meth c s₁ B hml hv
  obtain ⟨rfl, hsz, hP, hK, hD0⟩ := hv
  have hx := B.exec
  have hb := B.bytes
  have hr := B.returns
  have hta := aw_hts (atoms_spec (ws := wsX10_take) B.pre)
  have hown : s.vm.findClass RX10 = some m.cls := findClass_of_methodNamed B.named
  have hlocks := B.notSynchronized
  have hf44 := hta _ mw_644
  have hf19 := hta _ mw_636
  have hf73 := hta _ mw_653
  subst hsz
  have hD := hD0.self (sz := s.heap.size)
  generalize hAe : va_A (mw a k st) s.heap.size = A at hD ⊢
  have hAz : ∀ q : Nat, s.heap.size ≤ q → A q := fun q h => by rw [← hAe]; exact Or.inr h
  have hS : va_S A s.heap s.heap [] := va_S.rf
  have hl := lv_entry ([.ref (a 0), .int cnd]) (n := 2) (Nat.le_of_ble_eq_true rfl)
  rw [lg_entry_eq]
  generalize (lg_sl ([.ref (a 0), .int cnd]) ++ List.replicate (2 - (lg_sl ([.ref (a 0), .int cnd])).length) Slot.unset).toArray = ls at hl ⊢
  have hl : lv_has ls 2 [(0, .ref (a 0)), (1, .int cnd)] := hl
  generalize hR : fm_Mod_take st cnd = R
  rw [fm_Mod_take] at hR
  refine lv_aload_n hx hb dX10_take_0 rfl (lv_at hl 0 rfl) ?_
  refine lv_iload_n hx hb dX10_take_1 rfl (lv_at hl 1 rfl) ?_
  refine wl_ci (va_runV (As := [.int cnd]) (rest := []) ⟨hx, hb, hml, hown, hta⟩ (km_Mod_none l dC dI a k st cnd) (cwV 1 hta gX10_114 rfl rfl rfl (by decide +kernel) ⟨Nat.le_of_ble_eq_true rfl, Nat.le_of_ble_eq_true rfl⟩) (wl_pR (C := RX10) (ci := 8) (q0 := 0) hK hP rfl (mr_0 a k st)) rfl rfl hl.1 rfl (lv_room (Nat.le_of_ble_eq_true rfl)) dX10_take_2 ⟨Nat.zero_le _, Nat.zero_le _⟩) ?_
  refine lv_if_ne (tgt := 18) hx hb dX10_take_5 (by decide) (fun c5 => ?_) (fun c5 => ?_)
  · skip
    rw [if_neg c5] at hR
    refine lv_iconst (v := (-1 : Int32)) hx hb dX10_take_18 (by decide) ?_
    exact W.iret (v := (-1 : Int32)) hx hb hr (fun t ht hW => ⟨⟨_, _, rfl, hR, by rw [ht]; exact hP, va_K.moved hW.alike hK, hD⟩, hS.F ht⟩) hS.2.2 dX10_take_19
  · skip
    rw [if_pos c5] at hR
    refine lv_aload_n hx hb dX10_take_8 rfl (lv_at hl 0 rfl) ?_
    refine va_get (D := (dC, dI)) (ci := 8) (v := .ref (a 5)) (C := RX10) (T := TX10) (N := 21) hx hb hta inX10 hown hK hP 0 (mr_0 a k st) rfl 11 (by decide) hf44 (fun _ h9 => h9) rfl dX10_take_9 ?_
    refine lv_iload_n hx hb dX10_take_12 rfl (lv_at hl 1 rfl) ?_
    refine va_iald hx hb hK hP 5 4 (mr_5 a k st) rfl (wm_none hN h64 c5) dX10_take_13 ?_
    refine lv_iconst (v := (1 : Int32)) hx hb dX10_take_14 (by decide) ?_
    refine lv_icmp_eq (tgt := 20) hx hb dX10_take_15 (by decide) (fun c15 => ?_) (fun c15 => ?_)
    · skip
      rw [if_pos c15] at hR
      refine lv_aload_n hx hb dX10_take_20 rfl (lv_at hl 0 rfl) ?_
      refine va_get (D := (dC, dI)) (ci := 8) (v := .int (gI st 3)) (C := RX10) (T := TX10) (N := 21) hx hb hta inX10 hown hK hP 0 (mr_0 a k st) rfl 3 (by decide) hf19 (fun _ h9 => h9) rfl dX10_take_21 ?_
      refine lv_bipush (v := (16 : Int32)) hx hb dX10_take_24 (by decide) ?_
      refine lv_icmp_ne (tgt := 32) hx hb dX10_take_26 (by decide) (fun c26 => ?_) (fun c26 => ?_)
      · skip
        rw [if_neg c26] at hR
        refine lv_aload_n hx hb dX10_take_32 rfl (lv_at hl 0 rfl) ?_
        refine va_get (D := (dC, dI)) (ci := 8) (v := .ref (a 14)) (C := RX10) (T := TX10) (N := 21) hx hb hta inX10 hown hK hP 0 (mr_0 a k st) rfl 20 (by decide) hf73 (fun _ h9 => h9) rfl dX10_take_33 ?_
        refine lv_aload_n hx hb dX10_take_36 rfl (lv_at hl 0 rfl) ?_
        refine va_get (D := (dC, dI)) (ci := 8) (v := .int (gI st 3)) (C := RX10) (T := TX10) (N := 21) hx hb hta inX10 hown hK hP 0 (mr_0 a k st) rfl 3 (by decide) hf19 (fun _ h9 => h9) rfl dX10_take_37 ?_
        refine lv_iload_n hx hb dX10_take_40 rfl (lv_at hl 1 rfl) ?_
        refine va_iast hx hb hK hP hD hS 14 13 (mr_14 a k st) rfl (show vp_in (gI st 3) 16 from by rw [hEl]; exact wl_in (wm_p16 hEl hE16 c26) (by decide)) dX10_take_41 (fun H locs hP hD hS => ?_)
        have hP := mp_A11 hP
        have hD := md_A11 hD
        refine lv_aload_n hx hb dX10_take_42 rfl (lv_at hl 0 rfl) ?_
        refine lv_dup hx hb dX10_take_43 rfl ?_
        refine va_get (D := (dC, dI)) (ci := 8) (v := .int (gI st 3)) (C := RX10) (T := TX10) (N := 21) hx hb hta inX10 hown hK hP 0 (mr_0 a k (wA st 11 ((gI st 3).toNatClampNeg) cnd)) rfl 3 (by decide) hf19 (fun _ h9 => h9) rfl dX10_take_44 ?_
        refine lv_iconst (v := (1 : Int32)) hx hb dX10_take_47 (by decide) ?_
        refine lv_iadd hx hb dX10_take_48 ?_
        refine va_put (D := (dC, dI)) (ci := 8) (v := .int ((gI st 3) + (1 : Int32))) (ty := .int) (C := RX10) (T := TX10) (N := 21) hx hb hta inX10 tyX10 tyX10_ok nmX10 hown hK hP hD hS 0 (mr_0 a k (wA st 11 ((gI st 3).toNatClampNeg) cnd)) rfl 3 (by decide) hf19 (fun _ h9 => h9) rfl (by decide +kernel) rfl rfl (Nat.le_of_ble_eq_true rfl) dX10_take_49 (fun H locs hP hD hS => ?_)
        have hP := mp_I3 hP
        have hD := md_I3 hD
        refine lv_aload_n hx hb dX10_take_52 rfl (lv_at hl 0 rfl) ?_
        refine va_get (D := (dC, dI)) (ci := 8) (v := .int (gI (wI (wA st 11 ((gI st 3).toNatClampNeg) cnd) 3 ((gI st 3) + (1 : Int32))) 3)) (C := RX10) (T := TX10) (N := 21) hx hb hta inX10 hown hK hP 0 (mr_0 a k (wI (wA st 11 ((gI st 3).toNatClampNeg) cnd) 3 ((gI st 3) + (1 : Int32)))) rfl 3 (by decide) hf19 (fun _ h9 => h9) rfl dX10_take_53 ?_
        exact W.iret (v := gI (wI (wA st 11 ((gI st 3).toNatClampNeg) cnd) 3 ((gI st 3) + (1 : Int32))) 3) hx hb hr (fun t ht hW => ⟨⟨_, _, rfl, hR, by rw [ht]; exact hP, va_K.moved hW.alike hK, hD⟩, hS.F ht⟩) hS.2.2 dX10_take_56
      · skip
        rw [if_pos c26] at hR
        refine lv_bipush (v := (-2 : Int32)) hx hb dX10_take_29 (by decide) ?_
        exact W.iret (v := (-2 : Int32)) hx hb hr (fun t ht hW => ⟨⟨_, _, rfl, hR, by rw [ht]; exact hP, va_K.moved hW.alike hK, hD⟩, hS.F ht⟩) hS.2.2 dX10_take_31
    · skip
      rw [if_neg c15] at hR
      refine lv_iconst (v := (-1 : Int32)) hx hb dX10_take_18 (by decide) ?_
      exact W.iret (v := (-1 : Int32)) hx hb hr (fun t ht hW => ⟨⟨_, _, rfl, hR, by rw [ht]; exact hP, va_K.moved hW.alike hK, hD⟩, hS.F ht⟩) hS.2.2 dX10_take_19

theorem dX10_back_0 : decode cX10_back 0 = .ok (.aload_n 0, 1) := by decide +kernel
theorem dX10_back_1 : decode cX10_back 1 = .ok (.getfield 19, 3) := by decide +kernel
theorem dX10_back_4 : decode cX10_back 4 = .ok (.ifCond .ne 5, 3) := by decide +kernel
theorem dX10_back_7 : decode cX10_back 7 = .ok (.iconst (-1), 1) := by decide +kernel
theorem dX10_back_8 : decode cX10_back 8 = .ok (.ireturn, 1) := by decide +kernel
theorem dX10_back_9 : decode cX10_back 9 = .ok (.aload_n 0, 1) := by decide +kernel
theorem dX10_back_10 : decode cX10_back 10 = .ok (.dup, 1) := by decide +kernel
theorem dX10_back_11 : decode cX10_back 11 = .ok (.getfield 19, 3) := by decide +kernel
theorem dX10_back_14 : decode cX10_back 14 = .ok (.iconst 1, 1) := by decide +kernel
theorem dX10_back_15 : decode cX10_back 15 = .ok (.isub, 1) := by decide +kernel
theorem dX10_back_16 : decode cX10_back 16 = .ok (.putfield 19, 3) := by decide +kernel
theorem dX10_back_19 : decode cX10_back 19 = .ok (.aload_n 0, 1) := by decide +kernel
theorem dX10_back_20 : decode cX10_back 20 = .ok (.getfield 19, 3) := by decide +kernel
theorem dX10_back_23 : decode cX10_back 23 = .ok (.ireturn, 1) := by decide +kernel
def fm_Mod_back (st : XS) : Int32 × XS := 
  if gI st 3 = (0 : Int32) then ((-1 : Int32), st)
  else (gI (wI st 3 ((gI st 3) - (1 : Int32))) 3, wI st 3 ((gI st 3) - (1 : Int32)))
theorem ff_Mod_back (st : XS) : XF [3] [] [] st (fm_Mod_back st).2 := by
  rw [fm_Mod_back]
  exact (wl_ite (P := fun (q : Int32 × XS) => XF [3] [] [] _ (q.2)) (wl_snd XF.rf) (wl_snd (XF.wI (by decide) XF.rf)))
set_option maxHeartbeats 4000000 in
set_option maxRecDepth 100000 in
theorem km_Mod_back (l : Launch) (dC : Nat → ClassId) (dI : Nat → Nat → Nat) (a : Nat → Nat) (k : Nat → ClassId) (st : XS) (sz : Nat) : Met l yX10_back wsX10_back ({ frames := 0, cells := 0, slots := 0, locals := 0 }) (va_Pc [.ref (a 0)] (wl_pre (dC, dI) vwCl (mt k) (mw a k) st sz)) (va_Qi (fun r9 u9 => (r9, u9) = fm_Mod_back st) (wl_at (dC, dI) vwCl (mt k) (mw a k) (va_A (mw a k st) sz)) (va_A (mw a k st) sz)) 0 0 (va_A (mw a k st) sz) := by
  refine Met.ofW (cc := cX10_back) (maxL := 1) (ret := (some .int)) (by decide) rfl ?_
  intro p e s m args below meth c s₁ B hml hv
  obtain ⟨rfl, hsz, hP, hK, hD0⟩ := hv
  have hx := B.exec
  have hb := B.bytes
  have hr := B.returns
  have hta := aw_hts (atoms_spec (ws := wsX10_back) B.pre)
  have hown : s.vm.findClass RX10 = some m.cls := findClass_of_methodNamed B.named
  have hlocks := B.notSynchronized
  have hf19 := hta _ mw_636
  subst hsz
  have hD := hD0.self (sz := s.heap.size)
  generalize hAe : va_A (mw a k st) s.heap.size = A at hD ⊢
  have hAz : ∀ q : Nat, s.heap.size ≤ q → A q := fun q h => by rw [← hAe]; exact Or.inr h
  have hS : va_S A s.heap s.heap [] := va_S.rf
  have hl := lv_entry ([.ref (a 0)]) (n := 1) (Nat.le_of_ble_eq_true rfl)
  rw [lg_entry_eq]
  generalize (lg_sl ([.ref (a 0)]) ++ List.replicate (1 - (lg_sl ([.ref (a 0)])).length) Slot.unset).toArray = ls at hl ⊢
  have hl : lv_has ls 1 [(0, .ref (a 0))] := hl
  generalize hR : fm_Mod_back st = R
  rw [fm_Mod_back] at hR
  refine lv_aload_n hx hb dX10_back_0 rfl (lv_at hl 0 rfl) ?_
  refine va_get (D := (dC, dI)) (ci := 8) (v := .int (gI st 3)) (C := RX10) (T := TX10) (N := 21) hx hb hta inX10 hown hK hP 0 (mr_0 a k st) rfl 3 (by decide) hf19 (fun _ h9 => h9) rfl dX10_back_1 ?_
  refine lv_if_ne (tgt := 9) hx hb dX10_back_4 (by decide) (fun c4 => ?_) (fun c4 => ?_)
  · skip
    rw [if_neg c4] at hR
    refine lv_aload_n hx hb dX10_back_9 rfl (lv_at hl 0 rfl) ?_
    refine lv_dup hx hb dX10_back_10 rfl ?_
    refine va_get (D := (dC, dI)) (ci := 8) (v := .int (gI st 3)) (C := RX10) (T := TX10) (N := 21) hx hb hta inX10 hown hK hP 0 (mr_0 a k st) rfl 3 (by decide) hf19 (fun _ h9 => h9) rfl dX10_back_11 ?_
    refine lv_iconst (v := (1 : Int32)) hx hb dX10_back_14 (by decide) ?_
    refine lv_isub hx hb dX10_back_15 ?_
    refine va_put (D := (dC, dI)) (ci := 8) (v := .int ((gI st 3) - (1 : Int32))) (ty := .int) (C := RX10) (T := TX10) (N := 21) hx hb hta inX10 tyX10 tyX10_ok nmX10 hown hK hP hD hS 0 (mr_0 a k st) rfl 3 (by decide) hf19 (fun _ h9 => h9) rfl (by decide +kernel) rfl rfl (Nat.le_of_ble_eq_true rfl) dX10_back_16 (fun H locs hP hD hS => ?_)
    have hP := mp_I3 hP
    have hD := md_I3 hD
    refine lv_aload_n hx hb dX10_back_19 rfl (lv_at hl 0 rfl) ?_
    refine va_get (D := (dC, dI)) (ci := 8) (v := .int (gI (wI st 3 ((gI st 3) - (1 : Int32))) 3)) (C := RX10) (T := TX10) (N := 21) hx hb hta inX10 hown hK hP 0 (mr_0 a k (wI st 3 ((gI st 3) - (1 : Int32)))) rfl 3 (by decide) hf19 (fun _ h9 => h9) rfl dX10_back_20 ?_
    exact W.iret (v := gI (wI st 3 ((gI st 3) - (1 : Int32))) 3) hx hb hr (fun t ht hW => ⟨⟨_, _, rfl, hR, by rw [ht]; exact hP, va_K.moved hW.alike hK, hD⟩, hS.F ht⟩) hS.2.2 dX10_back_23
  · skip
    rw [if_pos c4] at hR
    refine lv_iconst (v := (-1 : Int32)) hx hb dX10_back_7 (by decide) ?_
    exact W.iret (v := (-1 : Int32)) hx hb hr (fun t ht hW => ⟨⟨_, _, rfl, hR, by rw [ht]; exact hP, va_K.moved hW.alike hK, hD⟩, hS.F ht⟩) hS.2.2 dX10_back_8

theorem mw_638 : (.fieldLink RX10 25 RX10 "no" "I" : Cond) ∈ AW := List.mem_filter.mpr ⟨List.mem_of_getElem? (i := 638) (by decide +kernel), rfl⟩
theorem mw_637 : (.fieldLink RX10 22 RX10 "yes" "I" : Cond) ∈ AW := List.mem_filter.mpr ⟨List.mem_of_getElem? (i := 637) (by decide +kernel), rfl⟩
theorem mw_634 : (.fieldLink RX10 13 RX10 "costs" "I" : Cond) ∈ AW := List.mem_filter.mpr ⟨List.mem_of_getElem? (i := 634) (by decide +kernel), rfl⟩
theorem dX10_count_0 : decode cX10_count 0 = .ok (.iload_n 1, 1) := by decide +kernel
theorem dX10_count_1 : decode cX10_count 1 = .ok (.ifCond .ne 10, 3) := by decide +kernel
theorem dX10_count_4 : decode cX10_count 4 = .ok (.aload_n 0, 1) := by decide +kernel
theorem dX10_count_5 : decode cX10_count 5 = .ok (.getfield 7, 3) := by decide +kernel
theorem dX10_count_8 : decode cX10_count 8 = .ok (.goto 64, 3) := by decide +kernel
theorem dX10_count_11 : decode cX10_count 11 = .ok (.iload_n 1, 1) := by decide +kernel
theorem dX10_count_12 : decode cX10_count 12 = .ok (.iconst 1, 1) := by decide +kernel
theorem dX10_count_13 : decode cX10_count 13 = .ok (.if_icmp .ne 10, 3) := by decide +kernel
theorem dX10_count_16 : decode cX10_count 16 = .ok (.aload_n 0, 1) := by decide +kernel
theorem dX10_count_17 : decode cX10_count 17 = .ok (.getfield 13, 3) := by decide +kernel
theorem dX10_count_20 : decode cX10_count 20 = .ok (.goto 52, 3) := by decide +kernel
theorem dX10_count_23 : decode cX10_count 23 = .ok (.iload_n 1, 1) := by decide +kernel
theorem dX10_count_24 : decode cX10_count 24 = .ok (.iconst 2, 1) := by decide +kernel
theorem dX10_count_25 : decode cX10_count 25 = .ok (.if_icmp .ne 10, 3) := by decide +kernel
theorem dX10_count_28 : decode cX10_count 28 = .ok (.aload_n 0, 1) := by decide +kernel
theorem dX10_count_29 : decode cX10_count 29 = .ok (.getfield 19, 3) := by decide +kernel
theorem dX10_count_32 : decode cX10_count 32 = .ok (.goto 40, 3) := by decide +kernel
theorem dX10_count_35 : decode cX10_count 35 = .ok (.iload_n 1, 1) := by decide +kernel
theorem dX10_count_36 : decode cX10_count 36 = .ok (.iconst 3, 1) := by decide +kernel
theorem dX10_count_37 : decode cX10_count 37 = .ok (.if_icmp .ne 10, 3) := by decide +kernel
theorem dX10_count_40 : decode cX10_count 40 = .ok (.aload_n 0, 1) := by decide +kernel
theorem dX10_count_41 : decode cX10_count 41 = .ok (.getfield 16, 3) := by decide +kernel
theorem dX10_count_44 : decode cX10_count 44 = .ok (.goto 28, 3) := by decide +kernel
theorem dX10_count_47 : decode cX10_count 47 = .ok (.iload_n 1, 1) := by decide +kernel
theorem dX10_count_48 : decode cX10_count 48 = .ok (.iconst 4, 1) := by decide +kernel
theorem dX10_count_49 : decode cX10_count 49 = .ok (.if_icmp .ne 10, 3) := by decide +kernel
theorem dX10_count_52 : decode cX10_count 52 = .ok (.aload_n 0, 1) := by decide +kernel
theorem dX10_count_53 : decode cX10_count 53 = .ok (.getfield 22, 3) := by decide +kernel
theorem dX10_count_56 : decode cX10_count 56 = .ok (.goto 16, 3) := by decide +kernel
theorem dX10_count_59 : decode cX10_count 59 = .ok (.iload_n 1, 1) := by decide +kernel
theorem dX10_count_60 : decode cX10_count 60 = .ok (.iconst 5, 1) := by decide +kernel
theorem dX10_count_61 : decode cX10_count 61 = .ok (.if_icmp .ne 10, 3) := by decide +kernel
theorem dX10_count_64 : decode cX10_count 64 = .ok (.aload_n 0, 1) := by decide +kernel
theorem dX10_count_65 : decode cX10_count 65 = .ok (.getfield 25, 3) := by decide +kernel
theorem dX10_count_68 : decode cX10_count 68 = .ok (.goto 4, 3) := by decide +kernel
theorem dX10_count_71 : decode cX10_count 71 = .ok (.iconst (-1), 1) := by decide +kernel
theorem dX10_count_72 : decode cX10_count 72 = .ok (.ireturn, 1) := by decide +kernel
def fm_Mod_count (st : XS) (wh : Int32) : Int32 := 
  if wh = (0 : Int32) then gI st 0
  else 
    if wh = (1 : Int32) then gI st 1
    else 
      if wh = (2 : Int32) then gI st 3
      else 
        if wh = (3 : Int32) then gI st 2
        else 
          if wh = (4 : Int32) then gI st 4
          else 
            if wh = (5 : Int32) then gI st 5
            else (-1 : Int32)
set_option maxHeartbeats 4000000 in
set_option maxRecDepth 100000 in
theorem km_Mod_count (l : Launch) (dC : Nat → ClassId) (dI : Nat → Nat → Nat) (a : Nat → Nat) (k : Nat → ClassId) (st : XS) (wh : Int32) : Met l yX10_count wsX10_count ({ frames := 0, cells := 0, slots := 0, locals := 0 }) (va_Pc [.ref (a 0), .int wh] (wl_prR (dC, dI) vwCl (mt k) (mw a k st))) (vp_Si (fun r9 => r9 = fm_Mod_count st wh)) 0 0 (fun _ => False) := by
  refine Met.ofW (cc := cX10_count) (maxL := 2) (ret := (some .int)) (by decide) rfl ?_
  intro p e s m args below meth c s₁ B hml hv
  obtain ⟨rfl, hP, hK⟩ := hv
  have hx := B.exec
  have hb := B.bytes
  have hr := B.returns
  have hta := aw_hts (atoms_spec (ws := wsX10_count) B.pre)
  have hown : s.vm.findClass RX10 = some m.cls := findClass_of_methodNamed B.named
  have hlocks := B.notSynchronized
  have hf25 := hta _ mw_638
  have hf22 := hta _ mw_637
  have hf16 := hta _ mw_635
  have hf19 := hta _ mw_636
  have hf13 := hta _ mw_634
  have hf7 := hta _ mw_633
  have hl := lv_entry ([.ref (a 0), .int wh]) (n := 2) (Nat.le_of_ble_eq_true rfl)
  rw [lg_entry_eq]
  generalize (lg_sl ([.ref (a 0), .int wh]) ++ List.replicate (2 - (lg_sl ([.ref (a 0), .int wh])).length) Slot.unset).toArray = ls at hl ⊢
  have hl : lv_has ls 2 [(0, .ref (a 0)), (1, .int wh)] := hl
  generalize hR : fm_Mod_count st wh = R
  rw [fm_Mod_count] at hR
  refine lv_iload_n hx hb dX10_count_0 rfl (lv_at hl 1 rfl) ?_
  refine lv_if_ne (tgt := 11) hx hb dX10_count_1 (by decide) (fun c1 => ?_) (fun c1 => ?_)
  · skip
    rw [if_neg c1] at hR
    refine lv_iload_n hx hb dX10_count_11 rfl (lv_at hl 1 rfl) ?_
    refine lv_iconst (v := (1 : Int32)) hx hb dX10_count_12 (by decide) ?_
    refine lv_icmp_ne (tgt := 23) hx hb dX10_count_13 (by decide) (fun c13 => ?_) (fun c13 => ?_)
    · skip
      rw [if_neg c13] at hR
      refine lv_iload_n hx hb dX10_count_23 rfl (lv_at hl 1 rfl) ?_
      refine lv_iconst (v := (2 : Int32)) hx hb dX10_count_24 (by decide) ?_
      refine lv_icmp_ne (tgt := 35) hx hb dX10_count_25 (by decide) (fun c25 => ?_) (fun c25 => ?_)
      · skip
        rw [if_neg c25] at hR
        refine lv_iload_n hx hb dX10_count_35 rfl (lv_at hl 1 rfl) ?_
        refine lv_iconst (v := (3 : Int32)) hx hb dX10_count_36 (by decide) ?_
        refine lv_icmp_ne (tgt := 47) hx hb dX10_count_37 (by decide) (fun c37 => ?_) (fun c37 => ?_)
        · skip
          rw [if_neg c37] at hR
          refine lv_iload_n hx hb dX10_count_47 rfl (lv_at hl 1 rfl) ?_
          refine lv_iconst (v := (4 : Int32)) hx hb dX10_count_48 (by decide) ?_
          refine lv_icmp_ne (tgt := 59) hx hb dX10_count_49 (by decide) (fun c49 => ?_) (fun c49 => ?_)
          · skip
            rw [if_neg c49] at hR
            refine lv_iload_n hx hb dX10_count_59 rfl (lv_at hl 1 rfl) ?_
            refine lv_iconst (v := (5 : Int32)) hx hb dX10_count_60 (by decide) ?_
            refine lv_icmp_ne (tgt := 71) hx hb dX10_count_61 (by decide) (fun c61 => ?_) (fun c61 => ?_)
            · skip
              rw [if_neg c61] at hR
              refine lv_iconst (v := (-1 : Int32)) hx hb dX10_count_71 (by decide) ?_
              exact W.iret (v := (-1 : Int32)) hx hb hr (fun t ht hW => ⟨_, rfl, hR, ht⟩) (fun q h => by cases h) dX10_count_72
            · skip
              rw [if_pos c61] at hR
              refine lv_aload_n hx hb dX10_count_64 rfl (lv_at hl 0 rfl) ?_
              refine va_get (D := (dC, dI)) (ci := 8) (v := .int (gI st 5)) (C := RX10) (T := TX10) (N := 21) hx hb hta inX10 hown hK hP 0 (mr_0 a k st) rfl 5 (by decide) hf25 (fun _ h9 => h9) rfl dX10_count_65 ?_
              refine lv_goto (tgt := 72) hx hb dX10_count_68 (by decide) ?_
              exact W.iret (v := gI st 5) hx hb hr (fun t ht hW => ⟨_, rfl, hR, ht⟩) (fun q h => by cases h) dX10_count_72
          · skip
            rw [if_pos c49] at hR
            refine lv_aload_n hx hb dX10_count_52 rfl (lv_at hl 0 rfl) ?_
            refine va_get (D := (dC, dI)) (ci := 8) (v := .int (gI st 4)) (C := RX10) (T := TX10) (N := 21) hx hb hta inX10 hown hK hP 0 (mr_0 a k st) rfl 4 (by decide) hf22 (fun _ h9 => h9) rfl dX10_count_53 ?_
            refine lv_goto (tgt := 72) hx hb dX10_count_56 (by decide) ?_
            exact W.iret (v := gI st 4) hx hb hr (fun t ht hW => ⟨_, rfl, hR, ht⟩) (fun q h => by cases h) dX10_count_72
        · skip
          rw [if_pos c37] at hR
          refine lv_aload_n hx hb dX10_count_40 rfl (lv_at hl 0 rfl) ?_
          refine va_get (D := (dC, dI)) (ci := 8) (v := .int (gI st 2)) (C := RX10) (T := TX10) (N := 21) hx hb hta inX10 hown hK hP 0 (mr_0 a k st) rfl 2 (by decide) hf16 (fun _ h9 => h9) rfl dX10_count_41 ?_
          refine lv_goto (tgt := 72) hx hb dX10_count_44 (by decide) ?_
          exact W.iret (v := gI st 2) hx hb hr (fun t ht hW => ⟨_, rfl, hR, ht⟩) (fun q h => by cases h) dX10_count_72
      · skip
        rw [if_pos c25] at hR
        refine lv_aload_n hx hb dX10_count_28 rfl (lv_at hl 0 rfl) ?_
        refine va_get (D := (dC, dI)) (ci := 8) (v := .int (gI st 3)) (C := RX10) (T := TX10) (N := 21) hx hb hta inX10 hown hK hP 0 (mr_0 a k st) rfl 3 (by decide) hf19 (fun _ h9 => h9) rfl dX10_count_29 ?_
        refine lv_goto (tgt := 72) hx hb dX10_count_32 (by decide) ?_
        exact W.iret (v := gI st 3) hx hb hr (fun t ht hW => ⟨_, rfl, hR, ht⟩) (fun q h => by cases h) dX10_count_72
    · skip
      rw [if_pos c13] at hR
      refine lv_aload_n hx hb dX10_count_16 rfl (lv_at hl 0 rfl) ?_
      refine va_get (D := (dC, dI)) (ci := 8) (v := .int (gI st 1)) (C := RX10) (T := TX10) (N := 21) hx hb hta inX10 hown hK hP 0 (mr_0 a k st) rfl 1 (by decide) hf13 (fun _ h9 => h9) rfl dX10_count_17 ?_
      refine lv_goto (tgt := 72) hx hb dX10_count_20 (by decide) ?_
      exact W.iret (v := gI st 1) hx hb hr (fun t ht hW => ⟨_, rfl, hR, ht⟩) (fun q h => by cases h) dX10_count_72
  · skip
    rw [if_pos c1] at hR
    refine lv_aload_n hx hb dX10_count_4 rfl (lv_at hl 0 rfl) ?_
    refine va_get (D := (dC, dI)) (ci := 8) (v := .int (gI st 0)) (C := RX10) (T := TX10) (N := 21) hx hb hta inX10 hown hK hP 0 (mr_0 a k st) rfl 0 (by decide) hf7 (fun _ h9 => h9) rfl dX10_count_5 ?_
    refine lv_goto (tgt := 72) hx hb dX10_count_8 (by decide) ?_
    exact W.iret (v := gI st 0) hx hb hr (fun t ht hW => ⟨_, rfl, hR, ht⟩) (fun q h => by cases h) dX10_count_72

theorem dX10_width_0 : decode cX10_width 0 = .ok (.aload_n 0, 1) := by decide +kernel
theorem dX10_width_1 : decode cX10_width 1 = .ok (.iload_n 1, 1) := by decide +kernel
theorem dX10_width_2 : decode cX10_width 2 = .ok (.invokevirtual 114, 3) := by decide +kernel
theorem dX10_width_5 : decode cX10_width 5 = .ok (.ifCond .eq 7, 3) := by decide +kernel
theorem dX10_width_8 : decode cX10_width 8 = .ok (.iconst (-1), 1) := by decide +kernel
theorem dX10_width_9 : decode cX10_width 9 = .ok (.goto 9, 3) := by decide +kernel
theorem dX10_width_12 : decode cX10_width 12 = .ok (.aload_n 0, 1) := by decide +kernel
theorem dX10_width_13 : decode cX10_width 13 = .ok (.getfield 44, 3) := by decide +kernel
theorem dX10_width_16 : decode cX10_width 16 = .ok (.iload_n 1, 1) := by decide +kernel
theorem dX10_width_17 : decode cX10_width 17 = .ok (.iaload, 1) := by decide +kernel
theorem dX10_width_18 : decode cX10_width 18 = .ok (.ireturn, 1) := by decide +kernel
def fm_Mod_width (st : XS) (t2 : Int32) : Int32 := 
  if fm_Mod_none st t2 = (0 : Int32) then fA st 4 t2.toNatClampNeg
  else (-1 : Int32)
set_option maxHeartbeats 4000000 in
set_option maxRecDepth 100000 in
theorem km_Mod_width (l : Launch) (dC : Nat → ClassId) (dI : Nat → Nat → Nat) (a : Nat → Nat) (k : Nat → ClassId) (st : XS) (t2 : Int32) (N : Nat) (hN : gI st 0 = nI N) (h64 : N ≤ 64) : Met l yX10_width wsX10_width ({ frames := 1, cells := 0, slots := 0, locals := 21 }) (va_Pc [.ref (a 0), .int t2] (wl_prR (dC, dI) vwCl (mt k) (mw a k st))) (vp_Si (fun r9 => r9 = fm_Mod_width st t2)) 0 0 (fun _ => False) := by
  refine Met.ofW (cc := cX10_width) (maxL := 2) (ret := (some .int)) (by decide) rfl ?_
  intro p e s m args below meth c s₁ B hml hv
  obtain ⟨rfl, hP, hK⟩ := hv
  have hx := B.exec
  have hb := B.bytes
  have hr := B.returns
  have hta := aw_hts (atoms_spec (ws := wsX10_width) B.pre)
  have hown : s.vm.findClass RX10 = some m.cls := findClass_of_methodNamed B.named
  have hlocks := B.notSynchronized
  have hf44 := hta _ mw_644
  have hl := lv_entry ([.ref (a 0), .int t2]) (n := 2) (Nat.le_of_ble_eq_true rfl)
  rw [lg_entry_eq]
  generalize (lg_sl ([.ref (a 0), .int t2]) ++ List.replicate (2 - (lg_sl ([.ref (a 0), .int t2])).length) Slot.unset).toArray = ls at hl ⊢
  have hl : lv_has ls 2 [(0, .ref (a 0)), (1, .int t2)] := hl
  generalize hR : fm_Mod_width st t2 = R
  rw [fm_Mod_width] at hR
  refine lv_aload_n hx hb dX10_width_0 rfl (lv_at hl 0 rfl) ?_
  refine lv_iload_n hx hb dX10_width_1 rfl (lv_at hl 1 rfl) ?_
  refine wl_ci (va_runV (As := [.int t2]) (rest := []) ⟨hx, hb, hml, hown, hta⟩ (km_Mod_none l dC dI a k st t2) (cwV 1 hta gX10_114 rfl rfl rfl (by decide +kernel) ⟨Nat.le_of_ble_eq_true rfl, Nat.le_of_ble_eq_true rfl⟩) (wl_pR (C := RX10) (ci := 8) (q0 := 0) hK hP rfl (mr_0 a k st)) rfl rfl hl.1 rfl (lv_room (Nat.le_of_ble_eq_true rfl)) dX10_width_2 ⟨Nat.zero_le _, Nat.zero_le _⟩) ?_
  refine lv_if_eq (tgt := 12) hx hb dX10_width_5 (by decide) (fun c5 => ?_) (fun c5 => ?_)
  · skip
    rw [if_pos c5] at hR
    refine lv_aload_n hx hb dX10_width_12 rfl (lv_at hl 0 rfl) ?_
    refine va_get (D := (dC, dI)) (ci := 8) (v := .ref (a 5)) (C := RX10) (T := TX10) (N := 21) hx hb hta inX10 hown hK hP 0 (mr_0 a k st) rfl 11 (by decide) hf44 (fun _ h9 => h9) rfl dX10_width_13 ?_
    refine lv_iload_n hx hb dX10_width_16 rfl (lv_at hl 1 rfl) ?_
    refine va_iald hx hb hK hP 5 4 (mr_5 a k st) rfl (wm_none hN h64 c5) dX10_width_17 ?_
    exact W.iret (v := fA st 4 t2.toNatClampNeg) hx hb hr (fun t ht hW => ⟨_, rfl, hR, ht⟩) (fun q h => by cases h) dX10_width_18
  · skip
    rw [if_neg c5] at hR
    refine lv_iconst (v := (-1 : Int32)) hx hb dX10_width_8 (by decide) ?_
    refine lv_goto (tgt := 18) hx hb dX10_width_9 (by decide) ?_
    exact W.iret (v := (-1 : Int32)) hx hb hr (fun t ht hW => ⟨_, rfl, hR, ht⟩) (fun q h => by cases h) dX10_width_18

theorem dX10_operation_0 : decode cX10_operation 0 = .ok (.aload_n 0, 1) := by decide +kernel
theorem dX10_operation_1 : decode cX10_operation 1 = .ok (.iload_n 1, 1) := by decide +kernel
theorem dX10_operation_2 : decode cX10_operation 2 = .ok (.invokevirtual 114, 3) := by decide +kernel
theorem dX10_operation_5 : decode cX10_operation 5 = .ok (.ifCond .eq 7, 3) := by decide +kernel
theorem dX10_operation_8 : decode cX10_operation 8 = .ok (.iconst (-1), 1) := by decide +kernel
theorem dX10_operation_9 : decode cX10_operation 9 = .ok (.goto 9, 3) := by decide +kernel
theorem dX10_operation_12 : decode cX10_operation 12 = .ok (.aload_n 0, 1) := by decide +kernel
theorem dX10_operation_13 : decode cX10_operation 13 = .ok (.getfield 31, 3) := by decide +kernel
theorem dX10_operation_16 : decode cX10_operation 16 = .ok (.iload_n 1, 1) := by decide +kernel
theorem dX10_operation_17 : decode cX10_operation 17 = .ok (.iaload, 1) := by decide +kernel
theorem dX10_operation_18 : decode cX10_operation 18 = .ok (.ireturn, 1) := by decide +kernel
def fm_Mod_operation (st : XS) (t2 : Int32) : Int32 := 
  if fm_Mod_none st t2 = (0 : Int32) then fA st 0 t2.toNatClampNeg
  else (-1 : Int32)
set_option maxHeartbeats 4000000 in
set_option maxRecDepth 100000 in
theorem km_Mod_operation (l : Launch) (dC : Nat → ClassId) (dI : Nat → Nat → Nat) (a : Nat → Nat) (k : Nat → ClassId) (st : XS) (t2 : Int32) (N : Nat) (hN : gI st 0 = nI N) (h64 : N ≤ 64) : Met l yX10_operation wsX10_operation ({ frames := 1, cells := 0, slots := 0, locals := 21 }) (va_Pc [.ref (a 0), .int t2] (wl_prR (dC, dI) vwCl (mt k) (mw a k st))) (vp_Si (fun r9 => r9 = fm_Mod_operation st t2)) 0 0 (fun _ => False) := by
  refine Met.ofW (cc := cX10_operation) (maxL := 2) (ret := (some .int)) (by decide) rfl ?_
  intro p e s m args below meth c s₁ B hml hv
  obtain ⟨rfl, hP, hK⟩ := hv
  have hx := B.exec
  have hb := B.bytes
  have hr := B.returns
  have hta := aw_hts (atoms_spec (ws := wsX10_operation) B.pre)
  have hown : s.vm.findClass RX10 = some m.cls := findClass_of_methodNamed B.named
  have hlocks := B.notSynchronized
  have hf31 := hta _ mw_640
  have hl := lv_entry ([.ref (a 0), .int t2]) (n := 2) (Nat.le_of_ble_eq_true rfl)
  rw [lg_entry_eq]
  generalize (lg_sl ([.ref (a 0), .int t2]) ++ List.replicate (2 - (lg_sl ([.ref (a 0), .int t2])).length) Slot.unset).toArray = ls at hl ⊢
  have hl : lv_has ls 2 [(0, .ref (a 0)), (1, .int t2)] := hl
  generalize hR : fm_Mod_operation st t2 = R
  rw [fm_Mod_operation] at hR
  refine lv_aload_n hx hb dX10_operation_0 rfl (lv_at hl 0 rfl) ?_
  refine lv_iload_n hx hb dX10_operation_1 rfl (lv_at hl 1 rfl) ?_
  refine wl_ci (va_runV (As := [.int t2]) (rest := []) ⟨hx, hb, hml, hown, hta⟩ (km_Mod_none l dC dI a k st t2) (cwV 1 hta gX10_114 rfl rfl rfl (by decide +kernel) ⟨Nat.le_of_ble_eq_true rfl, Nat.le_of_ble_eq_true rfl⟩) (wl_pR (C := RX10) (ci := 8) (q0 := 0) hK hP rfl (mr_0 a k st)) rfl rfl hl.1 rfl (lv_room (Nat.le_of_ble_eq_true rfl)) dX10_operation_2 ⟨Nat.zero_le _, Nat.zero_le _⟩) ?_
  refine lv_if_eq (tgt := 12) hx hb dX10_operation_5 (by decide) (fun c5 => ?_) (fun c5 => ?_)
  · skip
    rw [if_pos c5] at hR
    refine lv_aload_n hx hb dX10_operation_12 rfl (lv_at hl 0 rfl) ?_
    refine va_get (D := (dC, dI)) (ci := 8) (v := .ref (a 1)) (C := RX10) (T := TX10) (N := 21) hx hb hta inX10 hown hK hP 0 (mr_0 a k st) rfl 7 (by decide) hf31 (fun _ h9 => h9) rfl dX10_operation_13 ?_
    refine lv_iload_n hx hb dX10_operation_16 rfl (lv_at hl 1 rfl) ?_
    refine va_iald hx hb hK hP 1 0 (mr_1 a k st) rfl (wm_none hN h64 c5) dX10_operation_17 ?_
    exact W.iret (v := fA st 0 t2.toNatClampNeg) hx hb hr (fun t ht hW => ⟨_, rfl, hR, ht⟩) (fun q h => by cases h) dX10_operation_18
  · skip
    rw [if_neg c5] at hR
    refine lv_iconst (v := (-1 : Int32)) hx hb dX10_operation_8 (by decide) ?_
    refine lv_goto (tgt := 18) hx hb dX10_operation_9 (by decide) ?_
    exact W.iret (v := (-1 : Int32)) hx hb hr (fun t ht hW => ⟨_, rfl, hR, ht⟩) (fun q h => by cases h) dX10_operation_18

theorem dX10_operand_0 : decode cX10_operand 0 = .ok (.aload_n 0, 1) := by decide +kernel
theorem dX10_operand_1 : decode cX10_operand 1 = .ok (.iload_n 1, 1) := by decide +kernel
theorem dX10_operand_2 : decode cX10_operand 2 = .ok (.invokevirtual 114, 3) := by decide +kernel
theorem dX10_operand_5 : decode cX10_operand 5 = .ok (.ifCond .ne 18, 3) := by decide +kernel
theorem dX10_operand_8 : decode cX10_operand 8 = .ok (.aload_n 0, 1) := by decide +kernel
theorem dX10_operand_9 : decode cX10_operand 9 = .ok (.getfield 31, 3) := by decide +kernel
theorem dX10_operand_12 : decode cX10_operand 12 = .ok (.iload_n 1, 1) := by decide +kernel
theorem dX10_operand_13 : decode cX10_operand 13 = .ok (.iaload, 1) := by decide +kernel
theorem dX10_operand_14 : decode cX10_operand 14 = .ok (.bipush 20, 2) := by decide +kernel
theorem dX10_operand_16 : decode cX10_operand 16 = .ok (.if_icmp .gt 7, 3) := by decide +kernel
theorem dX10_operand_19 : decode cX10_operand 19 = .ok (.iload_n 2, 1) := by decide +kernel
theorem dX10_operand_20 : decode cX10_operand 20 = .ok (.ifCond .ge 5, 3) := by decide +kernel
theorem dX10_operand_23 : decode cX10_operand 23 = .ok (.iconst (-1), 1) := by decide +kernel
theorem dX10_operand_24 : decode cX10_operand 24 = .ok (.ireturn, 1) := by decide +kernel
theorem dX10_operand_25 : decode cX10_operand 25 = .ok (.aload_n 0, 1) := by decide +kernel
theorem dX10_operand_26 : decode cX10_operand 26 = .ok (.getfield 31, 3) := by decide +kernel
theorem dX10_operand_29 : decode cX10_operand 29 = .ok (.iload_n 1, 1) := by decide +kernel
theorem dX10_operand_30 : decode cX10_operand 30 = .ok (.iaload, 1) := by decide +kernel
theorem dX10_operand_31 : decode cX10_operand 31 = .ok (.iconst 2, 1) := by decide +kernel
theorem dX10_operand_32 : decode cX10_operand 32 = .ok (.if_icmp .ge 7, 3) := by decide +kernel
theorem dX10_operand_35 : decode cX10_operand 35 = .ok (.iconst 1, 1) := by decide +kernel
theorem dX10_operand_36 : decode cX10_operand 36 = .ok (.goto 19, 3) := by decide +kernel
theorem dX10_operand_39 : decode cX10_operand 39 = .ok (.aload_n 0, 1) := by decide +kernel
theorem dX10_operand_40 : decode cX10_operand 40 = .ok (.getfield 31, 3) := by decide +kernel
theorem dX10_operand_43 : decode cX10_operand 43 = .ok (.iload_n 1, 1) := by decide +kernel
theorem dX10_operand_44 : decode cX10_operand 44 = .ok (.iaload, 1) := by decide +kernel
theorem dX10_operand_45 : decode cX10_operand 45 = .ok (.bipush 16, 2) := by decide +kernel
theorem dX10_operand_47 : decode cX10_operand 47 = .ok (.if_icmp .ne 7, 3) := by decide +kernel
theorem dX10_operand_50 : decode cX10_operand 50 = .ok (.iconst 3, 1) := by decide +kernel
theorem dX10_operand_51 : decode cX10_operand 51 = .ok (.goto 4, 3) := by decide +kernel
theorem dX10_operand_54 : decode cX10_operand 54 = .ok (.iconst 2, 1) := by decide +kernel
theorem dX10_operand_55 : decode cX10_operand 55 = .ok (.istore_n 3, 1) := by decide +kernel
theorem dX10_operand_56 : decode cX10_operand 56 = .ok (.iload_n 2, 1) := by decide +kernel
theorem dX10_operand_57 : decode cX10_operand 57 = .ok (.iload_n 3, 1) := by decide +kernel
theorem dX10_operand_58 : decode cX10_operand 58 = .ok (.if_icmp .lt 7, 3) := by decide +kernel
theorem dX10_operand_61 : decode cX10_operand 61 = .ok (.iconst (-1), 1) := by decide +kernel
theorem dX10_operand_62 : decode cX10_operand 62 = .ok (.goto 36, 3) := by decide +kernel
theorem dX10_operand_65 : decode cX10_operand 65 = .ok (.iload_n 2, 1) := by decide +kernel
theorem dX10_operand_66 : decode cX10_operand 66 = .ok (.ifCond .ne 12, 3) := by decide +kernel
theorem dX10_operand_69 : decode cX10_operand 69 = .ok (.aload_n 0, 1) := by decide +kernel
theorem dX10_operand_70 : decode cX10_operand 70 = .ok (.getfield 35, 3) := by decide +kernel
theorem dX10_operand_73 : decode cX10_operand 73 = .ok (.iload_n 1, 1) := by decide +kernel
theorem dX10_operand_74 : decode cX10_operand 74 = .ok (.iaload, 1) := by decide +kernel
theorem dX10_operand_75 : decode cX10_operand 75 = .ok (.goto 23, 3) := by decide +kernel
theorem dX10_operand_78 : decode cX10_operand 78 = .ok (.iload_n 2, 1) := by decide +kernel
theorem dX10_operand_79 : decode cX10_operand 79 = .ok (.iconst 1, 1) := by decide +kernel
theorem dX10_operand_80 : decode cX10_operand 80 = .ok (.if_icmp .ne 12, 3) := by decide +kernel
theorem dX10_operand_83 : decode cX10_operand 83 = .ok (.aload_n 0, 1) := by decide +kernel
theorem dX10_operand_84 : decode cX10_operand 84 = .ok (.getfield 38, 3) := by decide +kernel
theorem dX10_operand_87 : decode cX10_operand 87 = .ok (.iload_n 1, 1) := by decide +kernel
theorem dX10_operand_88 : decode cX10_operand 88 = .ok (.iaload, 1) := by decide +kernel
theorem dX10_operand_89 : decode cX10_operand 89 = .ok (.goto 9, 3) := by decide +kernel
theorem dX10_operand_92 : decode cX10_operand 92 = .ok (.aload_n 0, 1) := by decide +kernel
theorem dX10_operand_93 : decode cX10_operand 93 = .ok (.getfield 41, 3) := by decide +kernel
theorem dX10_operand_96 : decode cX10_operand 96 = .ok (.iload_n 1, 1) := by decide +kernel
theorem dX10_operand_97 : decode cX10_operand 97 = .ok (.iaload, 1) := by decide +kernel
theorem dX10_operand_98 : decode cX10_operand 98 = .ok (.ireturn, 1) := by decide +kernel
def fm_Mod_operand (st : XS) (t2 : Int32) (i2 : Int32) : Int32 := 
  if fm_Mod_none st t2 = (0 : Int32) then 
    if (20 : Int32) < fA st 0 t2.toNatClampNeg then (-1 : Int32)
    else 
      if (0 : Int32) ≤ i2 then 
        if (2 : Int32) ≤ fA st 0 t2.toNatClampNeg then 
          if fA st 0 t2.toNatClampNeg = (16 : Int32) then 
            if i2 < (3 : Int32) then 
              if i2 = (0 : Int32) then fA st 1 t2.toNatClampNeg
              else 
                if i2 = (1 : Int32) then fA st 2 t2.toNatClampNeg
                else fA st 3 t2.toNatClampNeg
            else (-1 : Int32)
          else 
            if i2 < (2 : Int32) then 
              if i2 = (0 : Int32) then fA st 1 t2.toNatClampNeg
              else 
                if i2 = (1 : Int32) then fA st 2 t2.toNatClampNeg
                else fA st 3 t2.toNatClampNeg
            else (-1 : Int32)
        else 
          if i2 < (1 : Int32) then 
            if i2 = (0 : Int32) then fA st 1 t2.toNatClampNeg
            else 
              if i2 = (1 : Int32) then fA st 2 t2.toNatClampNeg
              else fA st 3 t2.toNatClampNeg
          else (-1 : Int32)
      else (-1 : Int32)
  else (-1 : Int32)
set_option maxHeartbeats 4000000 in
set_option maxRecDepth 100000 in
theorem km_Mod_operand (l : Launch) (dC : Nat → ClassId) (dI : Nat → Nat → Nat) (a : Nat → Nat) (k : Nat → ClassId) (st : XS) (t2 : Int32) (i2 : Int32) (N : Nat) (hN : gI st 0 = nI N) (h64 : N ≤ 64) : Met l yX10_operand wsX10_operand ({ frames := 1, cells := 0, slots := 0, locals := 21 }) (va_Pc [.ref (a 0), .int t2, .int i2] (wl_prR (dC, dI) vwCl (mt k) (mw a k st))) (vp_Si (fun r9 => r9 = fm_Mod_operand st t2 i2)) 0 0 (fun _ => False) := by
  refine Met.ofW (cc := cX10_operand) (maxL := 4) (ret := (some .int)) (by decide) rfl ?_
  intro p e s m args below meth c s₁ B hml hv
  obtain ⟨rfl, hP, hK⟩ := hv
  have hx := B.exec
  have hb := B.bytes
  have hr := B.returns
  have hta := aw_hts (atoms_spec (ws := wsX10_operand) B.pre)
  have hown : s.vm.findClass RX10 = some m.cls := findClass_of_methodNamed B.named
  have hlocks := B.notSynchronized
  have hf31 := hta _ mw_640
  have hf41 := hta _ mw_643
  have hf38 := hta _ mw_642
  have hf35 := hta _ mw_641
  have hl := lv_entry ([.ref (a 0), .int t2, .int i2]) (n := 4) (Nat.le_of_ble_eq_true rfl)
  rw [lg_entry_eq]
  generalize (lg_sl ([.ref (a 0), .int t2, .int i2]) ++ List.replicate (4 - (lg_sl ([.ref (a 0), .int t2, .int i2])).length) Slot.unset).toArray = ls at hl ⊢
  have hl : lv_has ls 4 [(0, .ref (a 0)), (1, .int t2), (2, .int i2)] := hl
  generalize hR : fm_Mod_operand st t2 i2 = R
  rw [fm_Mod_operand] at hR
  refine lv_aload_n hx hb dX10_operand_0 rfl (lv_at hl 0 rfl) ?_
  refine lv_iload_n hx hb dX10_operand_1 rfl (lv_at hl 1 rfl) ?_
  refine wl_ci (va_runV (As := [.int t2]) (rest := []) ⟨hx, hb, hml, hown, hta⟩ (km_Mod_none l dC dI a k st t2) (cwV 1 hta gX10_114 rfl rfl rfl (by decide +kernel) ⟨Nat.le_of_ble_eq_true rfl, Nat.le_of_ble_eq_true rfl⟩) (wl_pR (C := RX10) (ci := 8) (q0 := 0) hK hP rfl (mr_0 a k st)) rfl rfl hl.1 rfl (lv_room (Nat.le_of_ble_eq_true rfl)) dX10_operand_2 ⟨Nat.zero_le _, Nat.zero_le _⟩) ?_
  refine lv_if_ne (tgt := 23) hx hb dX10_operand_5 (by decide) (fun c5 => ?_) (fun c5 => ?_)
  · skip
    rw [if_neg c5] at hR
    refine lv_iconst (v := (-1 : Int32)) hx hb dX10_operand_23 (by decide) ?_
    exact W.iret (v := (-1 : Int32)) hx hb hr (fun t ht hW => ⟨_, rfl, hR, ht⟩) (fun q h => by cases h) dX10_operand_24
  · skip
    rw [if_pos c5] at hR
    refine lv_aload_n hx hb dX10_operand_8 rfl (lv_at hl 0 rfl) ?_
    refine va_get (D := (dC, dI)) (ci := 8) (v := .ref (a 1)) (C := RX10) (T := TX10) (N := 21) hx hb hta inX10 hown hK hP 0 (mr_0 a k st) rfl 7 (by decide) hf31 (fun _ h9 => h9) rfl dX10_operand_9 ?_
    refine lv_iload_n hx hb dX10_operand_12 rfl (lv_at hl 1 rfl) ?_
    refine va_iald hx hb hK hP 1 0 (mr_1 a k st) rfl (wm_none hN h64 c5) dX10_operand_13 ?_
    refine lv_bipush (v := (20 : Int32)) hx hb dX10_operand_14 (by decide) ?_
    refine lv_icmp_gt (tgt := 23) hx hb dX10_operand_16 (by decide) (fun c16 => ?_) (fun c16 => ?_)
    · skip
      rw [if_pos c16] at hR
      refine lv_iconst (v := (-1 : Int32)) hx hb dX10_operand_23 (by decide) ?_
      exact W.iret (v := (-1 : Int32)) hx hb hr (fun t ht hW => ⟨_, rfl, hR, ht⟩) (fun q h => by cases h) dX10_operand_24
    · skip
      rw [if_neg c16] at hR
      refine lv_iload_n hx hb dX10_operand_19 rfl (lv_at hl 2 rfl) ?_
      refine lv_if_ge (tgt := 25) hx hb dX10_operand_20 (by decide) (fun c20 => ?_) (fun c20 => ?_)
      · skip
        rw [if_pos c20] at hR
        refine lv_aload_n hx hb dX10_operand_25 rfl (lv_at hl 0 rfl) ?_
        refine va_get (D := (dC, dI)) (ci := 8) (v := .ref (a 1)) (C := RX10) (T := TX10) (N := 21) hx hb hta inX10 hown hK hP 0 (mr_0 a k st) rfl 7 (by decide) hf31 (fun _ h9 => h9) rfl dX10_operand_26 ?_
        refine lv_iload_n hx hb dX10_operand_29 rfl (lv_at hl 1 rfl) ?_
        refine va_iald hx hb hK hP 1 0 (mr_1 a k st) rfl (wm_none hN h64 c5) dX10_operand_30 ?_
        refine lv_iconst (v := (2 : Int32)) hx hb dX10_operand_31 (by decide) ?_
        refine lv_icmp_ge (tgt := 39) hx hb dX10_operand_32 (by decide) (fun c32 => ?_) (fun c32 => ?_)
        · skip
          rw [if_pos c32] at hR
          refine lv_aload_n hx hb dX10_operand_39 rfl (lv_at hl 0 rfl) ?_
          refine va_get (D := (dC, dI)) (ci := 8) (v := .ref (a 1)) (C := RX10) (T := TX10) (N := 21) hx hb hta inX10 hown hK hP 0 (mr_0 a k st) rfl 7 (by decide) hf31 (fun _ h9 => h9) rfl dX10_operand_40 ?_
          refine lv_iload_n hx hb dX10_operand_43 rfl (lv_at hl 1 rfl) ?_
          refine va_iald hx hb hK hP 1 0 (mr_1 a k st) rfl (wm_none hN h64 c5) dX10_operand_44 ?_
          refine lv_bipush (v := (16 : Int32)) hx hb dX10_operand_45 (by decide) ?_
          refine lv_icmp_ne (tgt := 54) hx hb dX10_operand_47 (by decide) (fun c47 => ?_) (fun c47 => ?_)
          · skip
            rw [if_neg c47] at hR
            refine lv_iconst (v := (2 : Int32)) hx hb dX10_operand_54 (by decide) ?_
            refine lv_istore_n (lv' := [(3, .int (2 : Int32)), (0, .ref (a 0)), (1, .int t2), (2, .int i2)]) hx hb dX10_operand_55 rfl hl (by decide) rfl (fun ls hl => ?_)
            refine lv_iload_n hx hb dX10_operand_56 rfl (lv_at hl 3 rfl) ?_
            refine lv_iload_n hx hb dX10_operand_57 rfl (lv_at hl 0 rfl) ?_
            refine lv_icmp_lt (tgt := 65) hx hb dX10_operand_58 (by decide) (fun c58 => ?_) (fun c58 => ?_)
            · skip
              rw [if_pos c58] at hR
              refine lv_iload_n hx hb dX10_operand_65 rfl (lv_at hl 3 rfl) ?_
              refine lv_if_ne (tgt := 78) hx hb dX10_operand_66 (by decide) (fun c66 => ?_) (fun c66 => ?_)
              · skip
                rw [if_neg c66] at hR
                refine lv_iload_n hx hb dX10_operand_78 rfl (lv_at hl 3 rfl) ?_
                refine lv_iconst (v := (1 : Int32)) hx hb dX10_operand_79 (by decide) ?_
                refine lv_icmp_ne (tgt := 92) hx hb dX10_operand_80 (by decide) (fun c80 => ?_) (fun c80 => ?_)
                · skip
                  rw [if_neg c80] at hR
                  refine lv_aload_n hx hb dX10_operand_92 rfl (lv_at hl 1 rfl) ?_
                  refine va_get (D := (dC, dI)) (ci := 8) (v := .ref (a 4)) (C := RX10) (T := TX10) (N := 21) hx hb hta inX10 hown hK hP 0 (mr_0 a k st) rfl 10 (by decide) hf41 (fun _ h9 => h9) rfl dX10_operand_93 ?_
                  refine lv_iload_n hx hb dX10_operand_96 rfl (lv_at hl 2 rfl) ?_
                  refine va_iald hx hb hK hP 4 3 (mr_4 a k st) rfl (wm_none hN h64 c5) dX10_operand_97 ?_
                  exact W.iret (v := fA st 3 t2.toNatClampNeg) hx hb hr (fun t ht hW => ⟨_, rfl, hR, ht⟩) (fun q h => by cases h) dX10_operand_98
                · skip
                  rw [if_pos c80] at hR
                  refine lv_aload_n hx hb dX10_operand_83 rfl (lv_at hl 1 rfl) ?_
                  refine va_get (D := (dC, dI)) (ci := 8) (v := .ref (a 3)) (C := RX10) (T := TX10) (N := 21) hx hb hta inX10 hown hK hP 0 (mr_0 a k st) rfl 9 (by decide) hf38 (fun _ h9 => h9) rfl dX10_operand_84 ?_
                  refine lv_iload_n hx hb dX10_operand_87 rfl (lv_at hl 2 rfl) ?_
                  refine va_iald hx hb hK hP 3 2 (mr_3 a k st) rfl (wm_none hN h64 c5) dX10_operand_88 ?_
                  refine lv_goto (tgt := 98) hx hb dX10_operand_89 (by decide) ?_
                  exact W.iret (v := fA st 2 t2.toNatClampNeg) hx hb hr (fun t ht hW => ⟨_, rfl, hR, ht⟩) (fun q h => by cases h) dX10_operand_98
              · skip
                rw [if_pos c66] at hR
                refine lv_aload_n hx hb dX10_operand_69 rfl (lv_at hl 1 rfl) ?_
                refine va_get (D := (dC, dI)) (ci := 8) (v := .ref (a 2)) (C := RX10) (T := TX10) (N := 21) hx hb hta inX10 hown hK hP 0 (mr_0 a k st) rfl 8 (by decide) hf35 (fun _ h9 => h9) rfl dX10_operand_70 ?_
                refine lv_iload_n hx hb dX10_operand_73 rfl (lv_at hl 2 rfl) ?_
                refine va_iald hx hb hK hP 2 1 (mr_2 a k st) rfl (wm_none hN h64 c5) dX10_operand_74 ?_
                refine lv_goto (tgt := 98) hx hb dX10_operand_75 (by decide) ?_
                exact W.iret (v := fA st 1 t2.toNatClampNeg) hx hb hr (fun t ht hW => ⟨_, rfl, hR, ht⟩) (fun q h => by cases h) dX10_operand_98
            · skip
              rw [if_neg c58] at hR
              refine lv_iconst (v := (-1 : Int32)) hx hb dX10_operand_61 (by decide) ?_
              refine lv_goto (tgt := 98) hx hb dX10_operand_62 (by decide) ?_
              exact W.iret (v := (-1 : Int32)) hx hb hr (fun t ht hW => ⟨_, rfl, hR, ht⟩) (fun q h => by cases h) dX10_operand_98
          · skip
            rw [if_pos c47] at hR
            refine lv_iconst (v := (3 : Int32)) hx hb dX10_operand_50 (by decide) ?_
            refine lv_goto (tgt := 55) hx hb dX10_operand_51 (by decide) ?_
            refine lv_istore_n (lv' := [(3, .int (3 : Int32)), (0, .ref (a 0)), (1, .int t2), (2, .int i2)]) hx hb dX10_operand_55 rfl hl (by decide) rfl (fun ls hl => ?_)
            refine lv_iload_n hx hb dX10_operand_56 rfl (lv_at hl 3 rfl) ?_
            refine lv_iload_n hx hb dX10_operand_57 rfl (lv_at hl 0 rfl) ?_
            refine lv_icmp_lt (tgt := 65) hx hb dX10_operand_58 (by decide) (fun c58 => ?_) (fun c58 => ?_)
            · skip
              rw [if_pos c58] at hR
              refine lv_iload_n hx hb dX10_operand_65 rfl (lv_at hl 3 rfl) ?_
              refine lv_if_ne (tgt := 78) hx hb dX10_operand_66 (by decide) (fun c66 => ?_) (fun c66 => ?_)
              · skip
                rw [if_neg c66] at hR
                refine lv_iload_n hx hb dX10_operand_78 rfl (lv_at hl 3 rfl) ?_
                refine lv_iconst (v := (1 : Int32)) hx hb dX10_operand_79 (by decide) ?_
                refine lv_icmp_ne (tgt := 92) hx hb dX10_operand_80 (by decide) (fun c80 => ?_) (fun c80 => ?_)
                · skip
                  rw [if_neg c80] at hR
                  refine lv_aload_n hx hb dX10_operand_92 rfl (lv_at hl 1 rfl) ?_
                  refine va_get (D := (dC, dI)) (ci := 8) (v := .ref (a 4)) (C := RX10) (T := TX10) (N := 21) hx hb hta inX10 hown hK hP 0 (mr_0 a k st) rfl 10 (by decide) hf41 (fun _ h9 => h9) rfl dX10_operand_93 ?_
                  refine lv_iload_n hx hb dX10_operand_96 rfl (lv_at hl 2 rfl) ?_
                  refine va_iald hx hb hK hP 4 3 (mr_4 a k st) rfl (wm_none hN h64 c5) dX10_operand_97 ?_
                  exact W.iret (v := fA st 3 t2.toNatClampNeg) hx hb hr (fun t ht hW => ⟨_, rfl, hR, ht⟩) (fun q h => by cases h) dX10_operand_98
                · skip
                  rw [if_pos c80] at hR
                  refine lv_aload_n hx hb dX10_operand_83 rfl (lv_at hl 1 rfl) ?_
                  refine va_get (D := (dC, dI)) (ci := 8) (v := .ref (a 3)) (C := RX10) (T := TX10) (N := 21) hx hb hta inX10 hown hK hP 0 (mr_0 a k st) rfl 9 (by decide) hf38 (fun _ h9 => h9) rfl dX10_operand_84 ?_
                  refine lv_iload_n hx hb dX10_operand_87 rfl (lv_at hl 2 rfl) ?_
                  refine va_iald hx hb hK hP 3 2 (mr_3 a k st) rfl (wm_none hN h64 c5) dX10_operand_88 ?_
                  refine lv_goto (tgt := 98) hx hb dX10_operand_89 (by decide) ?_
                  exact W.iret (v := fA st 2 t2.toNatClampNeg) hx hb hr (fun t ht hW => ⟨_, rfl, hR, ht⟩) (fun q h => by cases h) dX10_operand_98
              · skip
                rw [if_pos c66] at hR
                refine lv_aload_n hx hb dX10_operand_69 rfl (lv_at hl 1 rfl) ?_
                refine va_get (D := (dC, dI)) (ci := 8) (v := .ref (a 2)) (C := RX10) (T := TX10) (N := 21) hx hb hta inX10 hown hK hP 0 (mr_0 a k st) rfl 8 (by decide) hf35 (fun _ h9 => h9) rfl dX10_operand_70 ?_
                refine lv_iload_n hx hb dX10_operand_73 rfl (lv_at hl 2 rfl) ?_
                refine va_iald hx hb hK hP 2 1 (mr_2 a k st) rfl (wm_none hN h64 c5) dX10_operand_74 ?_
                refine lv_goto (tgt := 98) hx hb dX10_operand_75 (by decide) ?_
                exact W.iret (v := fA st 1 t2.toNatClampNeg) hx hb hr (fun t ht hW => ⟨_, rfl, hR, ht⟩) (fun q h => by cases h) dX10_operand_98
            · skip
              rw [if_neg c58] at hR
              refine lv_iconst (v := (-1 : Int32)) hx hb dX10_operand_61 (by decide) ?_
              refine lv_goto (tgt := 98) hx hb dX10_operand_62 (by decide) ?_
              exact W.iret (v := (-1 : Int32)) hx hb hr (fun t ht hW => ⟨_, rfl, hR, ht⟩) (fun q h => by cases h) dX10_operand_98
        · skip
          rw [if_neg c32] at hR
          refine lv_iconst (v := (1 : Int32)) hx hb dX10_operand_35 (by decide) ?_
          refine lv_goto (tgt := 55) hx hb dX10_operand_36 (by decide) ?_
          refine lv_istore_n (lv' := [(3, .int (1 : Int32)), (0, .ref (a 0)), (1, .int t2), (2, .int i2)]) hx hb dX10_operand_55 rfl hl (by decide) rfl (fun ls hl => ?_)
          refine lv_iload_n hx hb dX10_operand_56 rfl (lv_at hl 3 rfl) ?_
          refine lv_iload_n hx hb dX10_operand_57 rfl (lv_at hl 0 rfl) ?_
          refine lv_icmp_lt (tgt := 65) hx hb dX10_operand_58 (by decide) (fun c58 => ?_) (fun c58 => ?_)
          · skip
            rw [if_pos c58] at hR
            refine lv_iload_n hx hb dX10_operand_65 rfl (lv_at hl 3 rfl) ?_
            refine lv_if_ne (tgt := 78) hx hb dX10_operand_66 (by decide) (fun c66 => ?_) (fun c66 => ?_)
            · skip
              rw [if_neg c66] at hR
              refine lv_iload_n hx hb dX10_operand_78 rfl (lv_at hl 3 rfl) ?_
              refine lv_iconst (v := (1 : Int32)) hx hb dX10_operand_79 (by decide) ?_
              refine lv_icmp_ne (tgt := 92) hx hb dX10_operand_80 (by decide) (fun c80 => ?_) (fun c80 => ?_)
              · skip
                rw [if_neg c80] at hR
                refine lv_aload_n hx hb dX10_operand_92 rfl (lv_at hl 1 rfl) ?_
                refine va_get (D := (dC, dI)) (ci := 8) (v := .ref (a 4)) (C := RX10) (T := TX10) (N := 21) hx hb hta inX10 hown hK hP 0 (mr_0 a k st) rfl 10 (by decide) hf41 (fun _ h9 => h9) rfl dX10_operand_93 ?_
                refine lv_iload_n hx hb dX10_operand_96 rfl (lv_at hl 2 rfl) ?_
                refine va_iald hx hb hK hP 4 3 (mr_4 a k st) rfl (wm_none hN h64 c5) dX10_operand_97 ?_
                exact W.iret (v := fA st 3 t2.toNatClampNeg) hx hb hr (fun t ht hW => ⟨_, rfl, hR, ht⟩) (fun q h => by cases h) dX10_operand_98
              · skip
                rw [if_pos c80] at hR
                refine lv_aload_n hx hb dX10_operand_83 rfl (lv_at hl 1 rfl) ?_
                refine va_get (D := (dC, dI)) (ci := 8) (v := .ref (a 3)) (C := RX10) (T := TX10) (N := 21) hx hb hta inX10 hown hK hP 0 (mr_0 a k st) rfl 9 (by decide) hf38 (fun _ h9 => h9) rfl dX10_operand_84 ?_
                refine lv_iload_n hx hb dX10_operand_87 rfl (lv_at hl 2 rfl) ?_
                refine va_iald hx hb hK hP 3 2 (mr_3 a k st) rfl (wm_none hN h64 c5) dX10_operand_88 ?_
                refine lv_goto (tgt := 98) hx hb dX10_operand_89 (by decide) ?_
                exact W.iret (v := fA st 2 t2.toNatClampNeg) hx hb hr (fun t ht hW => ⟨_, rfl, hR, ht⟩) (fun q h => by cases h) dX10_operand_98
            · skip
              rw [if_pos c66] at hR
              refine lv_aload_n hx hb dX10_operand_69 rfl (lv_at hl 1 rfl) ?_
              refine va_get (D := (dC, dI)) (ci := 8) (v := .ref (a 2)) (C := RX10) (T := TX10) (N := 21) hx hb hta inX10 hown hK hP 0 (mr_0 a k st) rfl 8 (by decide) hf35 (fun _ h9 => h9) rfl dX10_operand_70 ?_
              refine lv_iload_n hx hb dX10_operand_73 rfl (lv_at hl 2 rfl) ?_
              refine va_iald hx hb hK hP 2 1 (mr_2 a k st) rfl (wm_none hN h64 c5) dX10_operand_74 ?_
              refine lv_goto (tgt := 98) hx hb dX10_operand_75 (by decide) ?_
              exact W.iret (v := fA st 1 t2.toNatClampNeg) hx hb hr (fun t ht hW => ⟨_, rfl, hR, ht⟩) (fun q h => by cases h) dX10_operand_98
          · skip
            rw [if_neg c58] at hR
            refine lv_iconst (v := (-1 : Int32)) hx hb dX10_operand_61 (by decide) ?_
            refine lv_goto (tgt := 98) hx hb dX10_operand_62 (by decide) ?_
            exact W.iret (v := (-1 : Int32)) hx hb hr (fun t ht hW => ⟨_, rfl, hR, ht⟩) (fun q h => by cases h) dX10_operand_98
      · skip
        rw [if_neg c20] at hR
        refine lv_iconst (v := (-1 : Int32)) hx hb dX10_operand_23 (by decide) ?_
        exact W.iret (v := (-1 : Int32)) hx hb hr (fun t ht hW => ⟨_, rfl, hR, ht⟩) (fun q h => by cases h) dX10_operand_24

theorem mw_639 : (.fieldLink RX10 28 RX10 "modelled" "I" : Cond) ∈ AW := List.mem_filter.mpr ⟨List.mem_of_getElem? (i := 639) (by decide +kernel), rfl⟩
theorem mw_650 : (.fieldLink RX10 63 RX10 "model" "[I" : Cond) ∈ AW := List.mem_filter.mpr ⟨List.mem_of_getElem? (i := 650) (by decide +kernel), rfl⟩
theorem dX10_model_0 : decode cX10_model 0 = .ok (.iload_n 1, 1) := by decide +kernel
theorem dX10_model_1 : decode cX10_model 1 = .ok (.ifCond .lt 11, 3) := by decide +kernel
theorem dX10_model_4 : decode cX10_model 4 = .ok (.iload_n 1, 1) := by decide +kernel
theorem dX10_model_5 : decode cX10_model 5 = .ok (.aload_n 0, 1) := by decide +kernel
theorem dX10_model_6 : decode cX10_model 6 = .ok (.getfield 28, 3) := by decide +kernel
theorem dX10_model_9 : decode cX10_model 9 = .ok (.if_icmp .lt 7, 3) := by decide +kernel
theorem dX10_model_12 : decode cX10_model 12 = .ok (.iconst (-1), 1) := by decide +kernel
theorem dX10_model_13 : decode cX10_model 13 = .ok (.goto 9, 3) := by decide +kernel
theorem dX10_model_16 : decode cX10_model 16 = .ok (.aload_n 0, 1) := by decide +kernel
theorem dX10_model_17 : decode cX10_model 17 = .ok (.getfield 63, 3) := by decide +kernel
theorem dX10_model_20 : decode cX10_model 20 = .ok (.iload_n 1, 1) := by decide +kernel
theorem dX10_model_21 : decode cX10_model 21 = .ok (.iaload, 1) := by decide +kernel
theorem dX10_model_22 : decode cX10_model 22 = .ok (.ireturn, 1) := by decide +kernel
def fm_Mod_model (st : XS) (vx : Int32) : Int32 := 
  if vx < (0 : Int32) then (-1 : Int32)
  else 
    if vx < gI st 6 then fA st 8 vx.toNatClampNeg
    else (-1 : Int32)
set_option maxHeartbeats 4000000 in
set_option maxRecDepth 100000 in
theorem km_Mod_model (l : Launch) (dC : Nat → ClassId) (dI : Nat → Nat → Nat) (a : Nat → Nat) (k : Nat → ClassId) (st : XS) (vx : Int32) (MV : Nat) (hMV : gI st 6 = nI MV ∨ gI st 6 = -1) (hMV4 : MV ≤ 4) : Met l yX10_model wsX10_model ({ frames := 0, cells := 0, slots := 0, locals := 0 }) (va_Pc [.ref (a 0), .int vx] (wl_prR (dC, dI) vwCl (mt k) (mw a k st))) (vp_Si (fun r9 => r9 = fm_Mod_model st vx)) 0 0 (fun _ => False) := by
  refine Met.ofW (cc := cX10_model) (maxL := 2) (ret := (some .int)) (by decide) rfl ?_
  intro p e s m args below meth c s₁ B hml hv
  obtain ⟨rfl, hP, hK⟩ := hv
  have hx := B.exec
  have hb := B.bytes
  have hr := B.returns
  have hta := aw_hts (atoms_spec (ws := wsX10_model) B.pre)
  have hown : s.vm.findClass RX10 = some m.cls := findClass_of_methodNamed B.named
  have hlocks := B.notSynchronized
  have hf28 := hta _ mw_639
  have hf63 := hta _ mw_650
  have hl := lv_entry ([.ref (a 0), .int vx]) (n := 2) (Nat.le_of_ble_eq_true rfl)
  rw [lg_entry_eq]
  generalize (lg_sl ([.ref (a 0), .int vx]) ++ List.replicate (2 - (lg_sl ([.ref (a 0), .int vx])).length) Slot.unset).toArray = ls at hl ⊢
  have hl : lv_has ls 2 [(0, .ref (a 0)), (1, .int vx)] := hl
  generalize hR : fm_Mod_model st vx = R
  rw [fm_Mod_model] at hR
  refine lv_iload_n hx hb dX10_model_0 rfl (lv_at hl 1 rfl) ?_
  refine lv_if_lt (tgt := 12) hx hb dX10_model_1 (by decide) (fun c1 => ?_) (fun c1 => ?_)
  · skip
    rw [if_pos c1] at hR
    refine lv_iconst (v := (-1 : Int32)) hx hb dX10_model_12 (by decide) ?_
    refine lv_goto (tgt := 22) hx hb dX10_model_13 (by decide) ?_
    exact W.iret (v := (-1 : Int32)) hx hb hr (fun t ht hW => ⟨_, rfl, hR, ht⟩) (fun q h => by cases h) dX10_model_22
  · skip
    rw [if_neg c1] at hR
    refine lv_iload_n hx hb dX10_model_4 rfl (lv_at hl 1 rfl) ?_
    refine lv_aload_n hx hb dX10_model_5 rfl (lv_at hl 0 rfl) ?_
    refine va_get (D := (dC, dI)) (ci := 8) (v := .int (gI st 6)) (C := RX10) (T := TX10) (N := 21) hx hb hta inX10 hown hK hP 0 (mr_0 a k st) rfl 6 (by decide) hf28 (fun _ h9 => h9) rfl dX10_model_6 ?_
    refine lv_icmp_lt (tgt := 16) hx hb dX10_model_9 (by decide) (fun c9 => ?_) (fun c9 => ?_)
    · skip
      rw [if_pos c9] at hR
      refine lv_aload_n hx hb dX10_model_16 rfl (lv_at hl 0 rfl) ?_
      refine va_get (D := (dC, dI)) (ci := 8) (v := .ref (a 11)) (C := RX10) (T := TX10) (N := 21) hx hb hta inX10 hown hK hP 0 (mr_0 a k st) rfl 17 (by decide) hf63 (fun _ h9 => h9) rfl dX10_model_17 ?_
      refine lv_iload_n hx hb dX10_model_20 rfl (lv_at hl 1 rfl) ?_
      refine va_iald hx hb hK hP 11 10 (mr_11 a k st) rfl (wm_mv hMV4 hMV c1 c9) dX10_model_21 ?_
      exact W.iret (v := fA st 8 vx.toNatClampNeg) hx hb hr (fun t ht hW => ⟨_, rfl, hR, ht⟩) (fun q h => by cases h) dX10_model_22
    · skip
      rw [if_neg c9] at hR
      refine lv_iconst (v := (-1 : Int32)) hx hb dX10_model_12 (by decide) ?_
      refine lv_goto (tgt := 22) hx hb dX10_model_13 (by decide) ?_
      exact W.iret (v := (-1 : Int32)) hx hb hr (fun t ht hW => ⟨_, rfl, hR, ht⟩) (fun q h => by cases h) dX10_model_22
