abbrev XS : Type := (Nat → Int32) × (Nat → Nat → Int32) × (Nat → Nat → Int64)
def gI (S : XS) (k : Nat) : Int32 := S.1 k
def fA (S : XS) (k : Nat) : Nat → Int32 := S.2.1 k
def fL (S : XS) (k : Nat) : Nat → Int64 := S.2.2 k
def wI (S : XS) (k : Nat) (v : Int32) : XS := (va_up S.1 k v, S.2)
def wA (S : XS) (k n : Nat) (v : Int32) : XS := (S.1, va_up S.2.1 k (upd (S.2.1 k) n v), S.2.2)
def wL (S : XS) (k n : Nat) (v : Int64) : XS := (S.1, S.2.1, va_up S.2.2 k (vp_updL (S.2.2 k) n v))
abbrev wl_prR (D : va_G) (cl : List vw_C) (tys : List (ClassId × FieldType)) (ws : va_W) (U : State) : Prop := va_P D cl ws U.heap ∧ va_K D cl tys U
abbrev wl_pre {S : Type} (D : va_G) (cl : List vw_C) (tys : List (ClassId × FieldType)) (wf : S → va_W) (st : S) (sz : Nat) (U : State) : Prop := U.heap.size = sz ∧ va_P D cl (wf st) U.heap ∧ va_K D cl tys U ∧ va_D (fun _ => True) (wf st)
abbrev wl_at {S : Type} (D : va_G) (cl : List vw_C) (tys : List (ClassId × FieldType)) (wf : S → va_W) (A : Nat → Prop) (u : S) (t : State) : Prop := va_P D cl (wf u) t.heap ∧ va_K D cl tys t ∧ va_D A (wf u)
theorem wl_pR {s : State} {H : Heap} {D : va_G} {cl : List vw_C} {tys : List (ClassId × FieldType)} {ws : va_W} {b q0 ci : Nat} {C : String} {T : u_T} {N : Nat} {fs : List Value} {As : List Value} (hK : va_K D cl tys s) (hP : va_P D cl ws H) (hc : cl[ci]? = some (C, T, N)) (he : ws[q0]? = some (b, .inr (ci, fs))) : PreV s H C b (va_Pc (.ref b :: As) (wl_prR D cl tys ws)) As :=
  ⟨fun a U g mk q => ⟨q.1, q.2.1, va_K.moved (u := U) (U := U.calling g mk a) (Vm.Alike.refl U.vm) q.2.2⟩, va_recv hK hP hc he, fun U hU hW => ⟨rfl, by rw [hU]; exact hP, va_K.moved hW.alike hK⟩⟩
theorem wl_pM {S : Type} {s : State} {H : Heap} {D : va_G} {cl : List vw_C} {tys : List (ClassId × FieldType)} {A : Nat → Prop} {wf : S → va_W} {st : S} {b q0 ci : Nat} {C : String} {T : u_T} {N : Nat} {fs : List Value} {As : List Value} (hK : va_K D cl tys s) (hP : va_P D cl (wf st) H) (hD : va_D A (wf st)) (hc : cl[ci]? = some (C, T, N)) (he : (wf st)[q0]? = some (b, .inr (ci, fs))) : PreV s H C b (va_Pc (.ref b :: As) (wl_pre D cl tys wf st H.size)) As :=
  ⟨fun a U g mk q => ⟨q.1, q.2.1, q.2.2.1, va_K.moved (u := U) (U := U.calling g mk a) (Vm.Alike.refl U.vm) q.2.2.2.1, q.2.2.2.2⟩, va_recv hK hP hc he, fun U hU hW => ⟨rfl, by rw [hU], by rw [hU]; exact hP, va_K.moved hW.alike hK, hD.weaken (fun _ _ _ _ => trivial)⟩⟩
section WL
variable {p : Program} {l : Launch} {e : Env} {R : Room} {s : State} {m : MethodId} {args : Array Value} {below : List Frame} {meth : Method} {c : Code} {H : Heap} {locs : List Loc} {cells slots : Nat} {Q : State → Prop} {pc : Nat} {ls : Array Slot} {st0 rest : List Value} {a : Array Value} {A : Nat → Prop} {D : va_G} {cl : List vw_C} {tys : List (ClassId × FieldType)}
theorem wl_ci {F : Int32} (hr : va_Run p l e R s m args below meth c H locs cells slots 0 0 (F0 m pc ls st0) rest (vp_Si (fun r => r = F) a) (fun _ => False)) (kk : W p l e R s m args below meth c H locs cells slots Q (F0 m (pc + 3) ls (.int F :: rest))) : W p l e R s m args below meth c H locs cells slots Q (F0 m pc ls st0) :=
  vp_callSi hr.run (fun r h => by subst h; exact kk)
theorem wl_cl {F : Int64} (hr : va_Run p l e R s m args below meth c H locs cells slots 0 0 (F0 m pc ls st0) rest (vp_Sl (fun r => r = F) a) (fun _ => False)) (kk : W p l e R s m args below meth c H locs cells slots Q (F0 m (pc + 3) ls (.long F :: rest))) : W p l e R s m args below meth c H locs cells slots Q (F0 m pc ls st0) :=
  vp_callSl hr.run (fun r h => by subst h; exact kk)
theorem wl_cr {v : Value} (hr : va_Run p l e R s m args below meth c H locs cells slots 0 0 (F0 m pc ls st0) rest (va_Sr (fun _ => True) (fun _ => v) a) (fun _ => False)) (kk : W p l e R s m args below meth c H locs cells slots Q (F0 m (pc + 3) ls (v :: rest))) : W p l e R s m args below meth c H locs cells slots Q (F0 m pc ls st0) :=
  va_csr hr.run (fun _ _ => kk)
theorem wl_cu (hr : va_Run p l e R s m args below meth c H locs cells slots 0 0 (F0 m pc ls st0) rest (va_Sv (fun _ => True) a) (fun _ => False)) (kk : W p l e R s m args below meth c H locs cells slots Q (F0 m (pc + 3) ls rest)) : W p l e R s m args below meth c H locs cells slots Q (F0 m pc ls st0) :=
  va_csv hr.run (fun _ => kk)
theorem wl_fr {S : Type} {wf : S → va_W} {st : S} {H0 : Heap} (hD : va_D A (wf st)) (hS : va_S A H0 H locs) (hA : ∀ q, H0.size ≤ q → A q) : ∀ q, va_A (wf st) H.size q → A q := by
  intro q h
  rcases h with ⟨k, x, h⟩ | h
  · exact hD.2 k (q, x) h
  · exact hA q (Nat.le_trans hS.1 h)
theorem wl_mi {S : Type} {wf : S → va_W} {st : S} {F : Int32 × S} (hr : va_Run p l e R s m args below meth c H locs cells slots 0 0 (F0 m pc ls st0) rest (va_Qi (fun r u => (r, u) = F) (wl_at D cl tys wf (va_A (wf st) H.size)) (va_A (wf st) H.size) a) (va_A (wf st) H.size)) (hP : va_P D cl (wf st) H) (hD : va_D A (wf st)) (hS : va_S A s.heap H locs) (hA : ∀ q, s.heap.size ≤ q → A q) (kk : ∀ (r : Int32) (u : S) (H1 : Heap) (locs1 : List Loc), (r, u) = F → va_P D cl (wf u) H1 → va_D A (wf u) → va_S A s.heap H1 locs1 → W p l e R s m args below meth c H1 locs1 cells slots Q (F0 m (pc + 3) ls (.int r :: rest))) : W p l e R s m args below meth c H locs cells slots Q (F0 m pc ls st0) := by
  have hF := wl_fr hD hS hA
  refine va_calli hr hS (fun q _ h => hF q h) hF (fun r u t H1 locs1 ht hvm hw hB hz1 hk1 hS1 => ?_)
  obtain ⟨hP1, hK1, hD1⟩ := hB
  exact kk r u H1 locs1 hw (by rw [← ht]; exact hP1) (hD1.weaken (fun k q _ h => hF q.1 h)) hS1
theorem wl_ml {S : Type} {wf : S → va_W} {st : S} {F : Int64 × S} (hr : va_Run p l e R s m args below meth c H locs cells slots 0 0 (F0 m pc ls st0) rest (va_Ql (fun r u => (r, u) = F) (wl_at D cl tys wf (va_A (wf st) H.size)) (va_A (wf st) H.size) a) (va_A (wf st) H.size)) (hP : va_P D cl (wf st) H) (hD : va_D A (wf st)) (hS : va_S A s.heap H locs) (hA : ∀ q, s.heap.size ≤ q → A q) (kk : ∀ (r : Int64) (u : S) (H1 : Heap) (locs1 : List Loc), (r, u) = F → va_P D cl (wf u) H1 → va_D A (wf u) → va_S A s.heap H1 locs1 → W p l e R s m args below meth c H1 locs1 cells slots Q (F0 m (pc + 3) ls (.long r :: rest))) : W p l e R s m args below meth c H locs cells slots Q (F0 m pc ls st0) := by
  have hF := wl_fr hD hS hA
  refine va_calll hr hS (fun q _ h => hF q h) hF (fun r u t H1 locs1 ht hvm hw hB hz1 hk1 hS1 => ?_)
  obtain ⟨hP1, hK1, hD1⟩ := hB
  exact kk r u H1 locs1 hw (by rw [← ht]; exact hP1) (hD1.weaken (fun k q _ h => hF q.1 h)) hS1
theorem wl_mv {S : Type} {wf : S → va_W} {st : S} {F : S} (hr : va_Run p l e R s m args below meth c H locs cells slots 0 0 (F0 m pc ls st0) rest (va_Qv (fun u => u = F) (wl_at D cl tys wf (va_A (wf st) H.size)) (va_A (wf st) H.size) a) (va_A (wf st) H.size)) (hP : va_P D cl (wf st) H) (hD : va_D A (wf st)) (hS : va_S A s.heap H locs) (hA : ∀ q, s.heap.size ≤ q → A q) (kk : ∀ (u : S) (H1 : Heap) (locs1 : List Loc), u = F → va_P D cl (wf u) H1 → va_D A (wf u) → va_S A s.heap H1 locs1 → W p l e R s m args below meth c H1 locs1 cells slots Q (F0 m (pc + 3) ls rest)) : W p l e R s m args below meth c H locs cells slots Q (F0 m pc ls st0) := by
  have hF := wl_fr hD hS hA
  refine va_callv hr hS (fun q _ h => hF q h) hF (fun u t H1 locs1 ht hvm hw hB hz1 hk1 hS1 => ?_)
  obtain ⟨hP1, hK1, hD1⟩ := hB
  exact kk u H1 locs1 hw (by rw [← ht]; exact hP1) (hD1.weaken (fun k q _ h => hF q.1 h)) hS1
end WL
theorem wl_lt {N i : Nat} (h : ¬ nI N ≤ nI i) (hi : i < 2147483648) : i < N := by
  rcases Nat.lt_or_ge i N with q | q
  · exact q
  · exact absurd (nI_le q hi) h
theorem wl_ge {N i : Nat} (h : nI N ≤ nI i) (hN : N < 2147483648) : N ≤ i := by
  rcases Nat.lt_or_ge i N with q | q
  · exact absurd h (nI_ge q hN)
  · exact q
theorem wl_in {j N : Nat} (h : j < N) (hN : N < 2147483648) : vp_in (nI j) N := vp_in_nI h hN
theorem wl_tabD {p : Program} {l : Launch} {e : Env} {R : Room} {s : State} {m : MethodId} {args : Array Value} {below : List Frame} {meth : Method} {c : Code} {H : Heap} {locs : List Loc} {cells slots : Nat} {Q : State → Prop} {pc : Nat} {ls : Array Slot} {rest : List Value} {cc : ByteArray} (hexec : p.tables.exec = Jvm.exec) (hb : c.code = cc) {dflt lo hi : Int} {offs : Array Int} {len : Nat} {x : Int32} {tgt : Nat} {ks : List Int} (hdg : decode cc pc = .ok (.tableswitch dflt lo hi offs, len)) (hN : hi - lo + 1 = (offs.size : Int)) (hoff : ∀ j : Fin offs.size, lo + ((j.1 : Nat) : Int) ∈ ks ∨ offs[j.1] = dflt) (hks : ∀ k ∈ ks, ¬ x.toInt = k) (ht : (pc : Int) + dflt = (tgt : Int)) (k : W p l e R s m args below meth c H locs cells slots Q (F0 m tgt ls rest)) : W p l e R s m args below meth c H locs cells slots Q (F0 m pc ls (.int x :: rest)) := by
  by_cases h1 : x.toInt < lo
  · exact lv_tableOut hexec hb hdg (Or.inl h1) ht k
  · by_cases h2 : hi < x.toInt
    · exact lv_tableOut hexec hb hdg (Or.inr h2) ht k
    · have hj : (x.toInt - lo).toNat < offs.size := by omega
      refine lv_tableIn hexec hb hdg h1 h2 (off := dflt) ?_ ht k
      rcases hoff ⟨_, hj⟩ with h | h
      · exact absurd (by show x.toInt = lo + ((x.toInt - lo).toNat : Int); omega) (hks _ h)
      · rw [Array.getElem?_eq_getElem hj]
        exact congrArg some h

theorem wl_i3 {t : Nat} (j : Nat) (ht : t < 64) (hj : j < 3) : vp_in (nI t * (3 : Int32) + nI j) 192 := by
  rw [show (3 : Int32) = nI 3 from rfl, pk_mul, nI_add]; exact vp_in_nI (by omega) (by decide)
theorem wl_i30 {t : Nat} (ht : t < 64) : vp_in (nI t * (3 : Int32)) 192 := by
  rw [show (3 : Int32) = nI 3 from rfl, pk_mul]; exact vp_in_nI (by omega) (by decide)
theorem wl_c3 {t : Nat} (j : Nat) (ht : t < 64) (hj : j < 3) : (nI t * (3 : Int32) + nI j).toNatClampNeg = 3 * t + j := by
  rw [show (3 : Int32) = nI 3 from rfl, pk_mul, nI_add, nI_clamp (by omega)]; omega
theorem wl_c30 {t : Nat} (ht : t < 64) : (nI t * (3 : Int32)).toNatClampNeg = 3 * t := by
  rw [show (3 : Int32) = nI 3 from rfl, pk_mul, nI_clamp (by omega)]; omega
theorem wl_i16 {x : Int32} {j : Nat} (h : vp_in x 64) (hj : j < 16) : vp_in (x * (16 : Int32) + nI j) 1024 := by
  obtain ⟨t, ht, rfl⟩ := vp_in_of h (by decide)
  rw [show (16 : Int32) = nI 16 from rfl, pk_mul, nI_add]; exact vp_in_nI (by omega) (by decide)
theorem wl_c16 {t j : Nat} (ht : t < 64) (hj : j < 16) : (nI t * (16 : Int32) + nI j).toNatClampNeg = 16 * t + j := by
  rw [show (16 : Int32) = nI 16 from rfl, pk_mul, nI_add, nI_clamp (by omega)]; omega
theorem wl_sb {x : Int32} {i : Nat} (h : vp_in x 64) (hi : i < 1024) : vp_in (x * (16 : Int32) + nI i / (64 : Int32)) 1024 := by
  rw [show (64 : Int32) = nI 64 from rfl, pk_div (by omega) (by decide) (by decide)]
  exact wl_i16 h (by omega)
def XF (Is As Ls : List Nat) (st S : XS) : Prop := (∀ k, k ∉ Is → S.1 k = st.1 k) ∧ (∀ k, k ∉ As → S.2.1 k = st.2.1 k) ∧ ∀ k, k ∉ Ls → S.2.2 k = st.2.2 k
theorem XF.rf {Is As Ls : List Nat} {st : XS} : XF Is As Ls st st := ⟨fun _ _ => rfl, fun _ _ => rfl, fun _ _ => rfl⟩
theorem XF.wI {Is As Ls : List Nat} {st S : XS} {k : Nat} {v : Int32} (hk : k ∈ Is) (h : XF Is As Ls st S) : XF Is As Ls st (wI S k v) := by
  refine ⟨fun j hj => ?_, h.2.1, h.2.2⟩
  show va_up S.1 k v j = _
  unfold va_up
  rw [if_neg (fun q => hj (by rw [q]; exact hk))]
  exact h.1 j hj
theorem XF.wA {Is As Ls : List Nat} {st S : XS} {k n : Nat} {v : Int32} (hk : k ∈ As) (h : XF Is As Ls st S) : XF Is As Ls st (wA S k n v) := by
  refine ⟨h.1, fun j hj => ?_, h.2.2⟩
  show va_up S.2.1 k _ j = _
  unfold va_up
  rw [if_neg (fun q => hj (by rw [q]; exact hk))]
  exact h.2.1 j hj
theorem XF.wL {Is As Ls : List Nat} {st S : XS} {k n : Nat} {v : Int64} (hk : k ∈ Ls) (h : XF Is As Ls st S) : XF Is As Ls st (wL S k n v) := by
  refine ⟨h.1, h.2.1, fun j hj => ?_⟩
  show va_up S.2.2 k _ j = _
  unfold va_up
  rw [if_neg (fun q => hj (by rw [q]; exact hk))]
  exact h.2.2 j hj
theorem XF.tr {Is As Ls : List Nat} {st S T : XS} (h : XF Is As Ls st S) (g : XF Is As Ls S T) : XF Is As Ls st T :=
  ⟨fun k hk => (g.1 k hk).trans (h.1 k hk), fun k hk => (g.2.1 k hk).trans (h.2.1 k hk), fun k hk => (g.2.2 k hk).trans (h.2.2 k hk)⟩
theorem XF.mono {I1 A1 L1 I2 A2 L2 : List Nat} {st S : XS} (h : XF I1 A1 L1 st S) (h1 : ∀ k ∈ I1, k ∈ I2) (h2 : ∀ k ∈ A1, k ∈ A2) (h3 : ∀ k ∈ L1, k ∈ L2) : XF I2 A2 L2 st S :=
  ⟨fun k hk => h.1 k (fun q => hk (h1 k q)), fun k hk => h.2.1 k (fun q => hk (h2 k q)), fun k hk => h.2.2 k (fun q => hk (h3 k q))⟩
theorem XF.I {Is As Ls : List Nat} {st S : XS} (h : XF Is As Ls st S) (k : Nat) (hk : k ∉ Is) : gI S k = gI st k := h.1 k hk
theorem XF.A {Is As Ls : List Nat} {st S : XS} (h : XF Is As Ls st S) (k : Nat) (hk : k ∉ As) : fA S k = fA st k := h.2.1 k hk
theorem XF.L {Is As Ls : List Nat} {st S : XS} (h : XF Is As Ls st S) (k : Nat) (hk : k ∉ Ls) : fL S k = fL st k := h.2.2 k hk
theorem wl_ite {c : Prop} [Decidable c] {α : Type} {P : α → Prop} {a b : α} (ha : P a) (hb : P b) : P (if c then a else b) := by
  split
  · exact ha
  · exact hb

def xw (a : Nat → Nat) (k : Nat → ClassId) (st : XS) : va_W := [(a 0, .inr (7, [.ref (a 1), .ref (a 5), .ref (a 7), .ref (a 13), .ref (a 16), .ref (a 17), .ref (a 21), .int (gI st 0), .int (gI st 1), .int (gI st 2), .int (gI st 3)])), (a 1, .inr (0, [.ref (a 2), .ref (a 3), .ref (a 4), .int (gI st 4), .int (gI st 5)])), (a 2, .inl (k 2, 4, .inl (fA st 0))), (a 3, .inl (k 3, 4, .inl (fA st 1))), (a 4, .inl (k 4, 4, .inl (fA st 2))), (a 5, .inr (1, [.ref (a 6)])), (a 6, .inl (k 6, 16, .inr (.inl (fL st 0)))), (a 7, .inr (2, [.ref (a 8), .ref (a 9), .ref (a 10), .ref (a 11), .ref (a 12), .int (gI st 6), .int (gI st 7)])), (a 8, .inl (k 8, 64, .inl (fA st 3))), (a 9, .inl (k 9, 64, .inl (fA st 4))), (a 10, .inl (k 10, 192, .inl (fA st 5))), (a 11, .inl (k 11, 64, .inl (fA st 6))), (a 12, .inl (k 12, 64, .inr (.inl (fL st 1)))), (a 13, .inr (3, [.ref (a 7), .ref (a 1), .ref (a 5), .ref (a 14), .ref (a 15)])), (a 14, .inl (k 14, 64, .inr (.inl (fL st 2)))), (a 15, .inl (k 15, 64, .inl (fA st 7))), (a 16, .inr (4, [.ref (a 7), .ref (a 13)])), (a 17, .inr (5, [.ref (a 7), .ref (a 1), .ref (a 13), .ref (a 18), .ref (a 19), .ref (a 20), .int (gI st 8)])), (a 18, .inl (k 18, 1024, .inr (.inl (fL st 3)))), (a 19, .inl (k 19, 64, .inl (fA st 8))), (a 20, .inl (k 20, 64, .inl (fA st 9))), (a 21, .inr (6, [.ref (a 17), .ref (a 22), .int (gI st 9)])), (a 22, .inl (k 22, 16, .inl (fA st 10)))]
def xt (k : Nat → ClassId) : List (ClassId × FieldType) := [(k 2, .int), (k 3, .int), (k 4, .boolean), (k 6, .long), (k 8, .int), (k 9, .int), (k 10, .int), (k 11, .int), (k 12, .long), (k 14, .long), (k 15, .boolean), (k 18, .long), (k 19, .boolean), (k 20, .int), (k 22, .int)]
theorem xr_0 (a : Nat → Nat) (k : Nat → ClassId) (S : XS) : (xw a k S)[0]? = some (a 0, .inr (7, [.ref (a 1), .ref (a 5), .ref (a 7), .ref (a 13), .ref (a 16), .ref (a 17), .ref (a 21), .int (gI S 0), .int (gI S 1), .int (gI S 2), .int (gI S 3)])) := rfl
theorem xp_I0 {D : va_G} {cl : List vw_C} {H : Heap} {a : Nat → Nat} {k : Nat → ClassId} {S : XS} {v : Int32} (h : va_P D cl ((xw a k S).set 0 (a 0, .inr (7, ([.ref (a 1), .ref (a 5), .ref (a 7), .ref (a 13), .ref (a 16), .ref (a 17), .ref (a 21), .int (gI S 0), .int (gI S 1), .int (gI S 2), .int (gI S 3)] : List Value).set 7 (.int v)))) H) : va_P D cl (xw a k (wI S 0 v)) H := h
theorem xd_I0 {A : Nat → Prop} {a : Nat → Nat} {k : Nat → ClassId} {S : XS} {v : Int32} (h : va_D A ((xw a k S).set 0 (a 0, .inr (7, ([.ref (a 1), .ref (a 5), .ref (a 7), .ref (a 13), .ref (a 16), .ref (a 17), .ref (a 21), .int (gI S 0), .int (gI S 1), .int (gI S 2), .int (gI S 3)] : List Value).set 7 (.int v))))) : va_D A (xw a k (wI S 0 v)) := h
theorem xp_I1 {D : va_G} {cl : List vw_C} {H : Heap} {a : Nat → Nat} {k : Nat → ClassId} {S : XS} {v : Int32} (h : va_P D cl ((xw a k S).set 0 (a 0, .inr (7, ([.ref (a 1), .ref (a 5), .ref (a 7), .ref (a 13), .ref (a 16), .ref (a 17), .ref (a 21), .int (gI S 0), .int (gI S 1), .int (gI S 2), .int (gI S 3)] : List Value).set 8 (.int v)))) H) : va_P D cl (xw a k (wI S 1 v)) H := h
theorem xd_I1 {A : Nat → Prop} {a : Nat → Nat} {k : Nat → ClassId} {S : XS} {v : Int32} (h : va_D A ((xw a k S).set 0 (a 0, .inr (7, ([.ref (a 1), .ref (a 5), .ref (a 7), .ref (a 13), .ref (a 16), .ref (a 17), .ref (a 21), .int (gI S 0), .int (gI S 1), .int (gI S 2), .int (gI S 3)] : List Value).set 8 (.int v))))) : va_D A (xw a k (wI S 1 v)) := h
theorem xp_I2 {D : va_G} {cl : List vw_C} {H : Heap} {a : Nat → Nat} {k : Nat → ClassId} {S : XS} {v : Int32} (h : va_P D cl ((xw a k S).set 0 (a 0, .inr (7, ([.ref (a 1), .ref (a 5), .ref (a 7), .ref (a 13), .ref (a 16), .ref (a 17), .ref (a 21), .int (gI S 0), .int (gI S 1), .int (gI S 2), .int (gI S 3)] : List Value).set 9 (.int v)))) H) : va_P D cl (xw a k (wI S 2 v)) H := h
theorem xd_I2 {A : Nat → Prop} {a : Nat → Nat} {k : Nat → ClassId} {S : XS} {v : Int32} (h : va_D A ((xw a k S).set 0 (a 0, .inr (7, ([.ref (a 1), .ref (a 5), .ref (a 7), .ref (a 13), .ref (a 16), .ref (a 17), .ref (a 21), .int (gI S 0), .int (gI S 1), .int (gI S 2), .int (gI S 3)] : List Value).set 9 (.int v))))) : va_D A (xw a k (wI S 2 v)) := h
theorem xp_I3 {D : va_G} {cl : List vw_C} {H : Heap} {a : Nat → Nat} {k : Nat → ClassId} {S : XS} {v : Int32} (h : va_P D cl ((xw a k S).set 0 (a 0, .inr (7, ([.ref (a 1), .ref (a 5), .ref (a 7), .ref (a 13), .ref (a 16), .ref (a 17), .ref (a 21), .int (gI S 0), .int (gI S 1), .int (gI S 2), .int (gI S 3)] : List Value).set 10 (.int v)))) H) : va_P D cl (xw a k (wI S 3 v)) H := h
theorem xd_I3 {A : Nat → Prop} {a : Nat → Nat} {k : Nat → ClassId} {S : XS} {v : Int32} (h : va_D A ((xw a k S).set 0 (a 0, .inr (7, ([.ref (a 1), .ref (a 5), .ref (a 7), .ref (a 13), .ref (a 16), .ref (a 17), .ref (a 21), .int (gI S 0), .int (gI S 1), .int (gI S 2), .int (gI S 3)] : List Value).set 10 (.int v))))) : va_D A (xw a k (wI S 3 v)) := h
theorem xr_1 (a : Nat → Nat) (k : Nat → ClassId) (S : XS) : (xw a k S)[1]? = some (a 1, .inr (0, [.ref (a 2), .ref (a 3), .ref (a 4), .int (gI S 4), .int (gI S 5)])) := rfl
theorem xp_I4 {D : va_G} {cl : List vw_C} {H : Heap} {a : Nat → Nat} {k : Nat → ClassId} {S : XS} {v : Int32} (h : va_P D cl ((xw a k S).set 1 (a 1, .inr (0, ([.ref (a 2), .ref (a 3), .ref (a 4), .int (gI S 4), .int (gI S 5)] : List Value).set 3 (.int v)))) H) : va_P D cl (xw a k (wI S 4 v)) H := h
theorem xd_I4 {A : Nat → Prop} {a : Nat → Nat} {k : Nat → ClassId} {S : XS} {v : Int32} (h : va_D A ((xw a k S).set 1 (a 1, .inr (0, ([.ref (a 2), .ref (a 3), .ref (a 4), .int (gI S 4), .int (gI S 5)] : List Value).set 3 (.int v))))) : va_D A (xw a k (wI S 4 v)) := h
theorem xp_I5 {D : va_G} {cl : List vw_C} {H : Heap} {a : Nat → Nat} {k : Nat → ClassId} {S : XS} {v : Int32} (h : va_P D cl ((xw a k S).set 1 (a 1, .inr (0, ([.ref (a 2), .ref (a 3), .ref (a 4), .int (gI S 4), .int (gI S 5)] : List Value).set 4 (.int v)))) H) : va_P D cl (xw a k (wI S 5 v)) H := h
theorem xd_I5 {A : Nat → Prop} {a : Nat → Nat} {k : Nat → ClassId} {S : XS} {v : Int32} (h : va_D A ((xw a k S).set 1 (a 1, .inr (0, ([.ref (a 2), .ref (a 3), .ref (a 4), .int (gI S 4), .int (gI S 5)] : List Value).set 4 (.int v))))) : va_D A (xw a k (wI S 5 v)) := h
theorem xr_2 (a : Nat → Nat) (k : Nat → ClassId) (S : XS) : (xw a k S)[2]? = some (a 2, .inl (k 2, 4, .inl (fA S 0))) := rfl
theorem xp_A0 {D : va_G} {cl : List vw_C} {H : Heap} {a : Nat → Nat} {k : Nat → ClassId} {S : XS} {n : Nat} {v : Int32} (h : va_P D cl ((xw a k S).set 2 (a 2, .inl (k 2, 4, .inl (upd (fA S 0) n v)))) H) : va_P D cl (xw a k (wA S 0 n v)) H := h
theorem xd_A0 {A : Nat → Prop} {a : Nat → Nat} {k : Nat → ClassId} {S : XS} {n : Nat} {v : Int32} (h : va_D A ((xw a k S).set 2 (a 2, .inl (k 2, 4, .inl (upd (fA S 0) n v))))) : va_D A (xw a k (wA S 0 n v)) := h
theorem xr_3 (a : Nat → Nat) (k : Nat → ClassId) (S : XS) : (xw a k S)[3]? = some (a 3, .inl (k 3, 4, .inl (fA S 1))) := rfl
theorem xp_A1 {D : va_G} {cl : List vw_C} {H : Heap} {a : Nat → Nat} {k : Nat → ClassId} {S : XS} {n : Nat} {v : Int32} (h : va_P D cl ((xw a k S).set 3 (a 3, .inl (k 3, 4, .inl (upd (fA S 1) n v)))) H) : va_P D cl (xw a k (wA S 1 n v)) H := h
theorem xd_A1 {A : Nat → Prop} {a : Nat → Nat} {k : Nat → ClassId} {S : XS} {n : Nat} {v : Int32} (h : va_D A ((xw a k S).set 3 (a 3, .inl (k 3, 4, .inl (upd (fA S 1) n v))))) : va_D A (xw a k (wA S 1 n v)) := h
theorem xr_4 (a : Nat → Nat) (k : Nat → ClassId) (S : XS) : (xw a k S)[4]? = some (a 4, .inl (k 4, 4, .inl (fA S 2))) := rfl
theorem xp_A2 {D : va_G} {cl : List vw_C} {H : Heap} {a : Nat → Nat} {k : Nat → ClassId} {S : XS} {n : Nat} {v : Int32} (h : va_P D cl ((xw a k S).set 4 (a 4, .inl (k 4, 4, .inl (upd (fA S 2) n v)))) H) : va_P D cl (xw a k (wA S 2 n v)) H := h
theorem xd_A2 {A : Nat → Prop} {a : Nat → Nat} {k : Nat → ClassId} {S : XS} {n : Nat} {v : Int32} (h : va_D A ((xw a k S).set 4 (a 4, .inl (k 4, 4, .inl (upd (fA S 2) n v))))) : va_D A (xw a k (wA S 2 n v)) := h
theorem xr_5 (a : Nat → Nat) (k : Nat → ClassId) (S : XS) : (xw a k S)[5]? = some (a 5, .inr (1, [.ref (a 6)])) := rfl
theorem xr_6 (a : Nat → Nat) (k : Nat → ClassId) (S : XS) : (xw a k S)[6]? = some (a 6, .inl (k 6, 16, .inr (.inl (fL S 0)))) := rfl
theorem xp_L0 {D : va_G} {cl : List vw_C} {H : Heap} {a : Nat → Nat} {k : Nat → ClassId} {S : XS} {n : Nat} {v : Int64} (h : va_P D cl ((xw a k S).set 6 (a 6, .inl (k 6, 16, .inr (.inl (vp_updL (fL S 0) n v))))) H) : va_P D cl (xw a k (wL S 0 n v)) H := h
theorem xd_L0 {A : Nat → Prop} {a : Nat → Nat} {k : Nat → ClassId} {S : XS} {n : Nat} {v : Int64} (h : va_D A ((xw a k S).set 6 (a 6, .inl (k 6, 16, .inr (.inl (vp_updL (fL S 0) n v)))))) : va_D A (xw a k (wL S 0 n v)) := h
theorem xr_7 (a : Nat → Nat) (k : Nat → ClassId) (S : XS) : (xw a k S)[7]? = some (a 7, .inr (2, [.ref (a 8), .ref (a 9), .ref (a 10), .ref (a 11), .ref (a 12), .int (gI S 6), .int (gI S 7)])) := rfl
theorem xp_I6 {D : va_G} {cl : List vw_C} {H : Heap} {a : Nat → Nat} {k : Nat → ClassId} {S : XS} {v : Int32} (h : va_P D cl ((xw a k S).set 7 (a 7, .inr (2, ([.ref (a 8), .ref (a 9), .ref (a 10), .ref (a 11), .ref (a 12), .int (gI S 6), .int (gI S 7)] : List Value).set 5 (.int v)))) H) : va_P D cl (xw a k (wI S 6 v)) H := h
theorem xd_I6 {A : Nat → Prop} {a : Nat → Nat} {k : Nat → ClassId} {S : XS} {v : Int32} (h : va_D A ((xw a k S).set 7 (a 7, .inr (2, ([.ref (a 8), .ref (a 9), .ref (a 10), .ref (a 11), .ref (a 12), .int (gI S 6), .int (gI S 7)] : List Value).set 5 (.int v))))) : va_D A (xw a k (wI S 6 v)) := h
theorem xp_I7 {D : va_G} {cl : List vw_C} {H : Heap} {a : Nat → Nat} {k : Nat → ClassId} {S : XS} {v : Int32} (h : va_P D cl ((xw a k S).set 7 (a 7, .inr (2, ([.ref (a 8), .ref (a 9), .ref (a 10), .ref (a 11), .ref (a 12), .int (gI S 6), .int (gI S 7)] : List Value).set 6 (.int v)))) H) : va_P D cl (xw a k (wI S 7 v)) H := h
theorem xd_I7 {A : Nat → Prop} {a : Nat → Nat} {k : Nat → ClassId} {S : XS} {v : Int32} (h : va_D A ((xw a k S).set 7 (a 7, .inr (2, ([.ref (a 8), .ref (a 9), .ref (a 10), .ref (a 11), .ref (a 12), .int (gI S 6), .int (gI S 7)] : List Value).set 6 (.int v))))) : va_D A (xw a k (wI S 7 v)) := h
theorem xr_8 (a : Nat → Nat) (k : Nat → ClassId) (S : XS) : (xw a k S)[8]? = some (a 8, .inl (k 8, 64, .inl (fA S 3))) := rfl
theorem xp_A3 {D : va_G} {cl : List vw_C} {H : Heap} {a : Nat → Nat} {k : Nat → ClassId} {S : XS} {n : Nat} {v : Int32} (h : va_P D cl ((xw a k S).set 8 (a 8, .inl (k 8, 64, .inl (upd (fA S 3) n v)))) H) : va_P D cl (xw a k (wA S 3 n v)) H := h
theorem xd_A3 {A : Nat → Prop} {a : Nat → Nat} {k : Nat → ClassId} {S : XS} {n : Nat} {v : Int32} (h : va_D A ((xw a k S).set 8 (a 8, .inl (k 8, 64, .inl (upd (fA S 3) n v))))) : va_D A (xw a k (wA S 3 n v)) := h
theorem xr_9 (a : Nat → Nat) (k : Nat → ClassId) (S : XS) : (xw a k S)[9]? = some (a 9, .inl (k 9, 64, .inl (fA S 4))) := rfl
theorem xp_A4 {D : va_G} {cl : List vw_C} {H : Heap} {a : Nat → Nat} {k : Nat → ClassId} {S : XS} {n : Nat} {v : Int32} (h : va_P D cl ((xw a k S).set 9 (a 9, .inl (k 9, 64, .inl (upd (fA S 4) n v)))) H) : va_P D cl (xw a k (wA S 4 n v)) H := h
theorem xd_A4 {A : Nat → Prop} {a : Nat → Nat} {k : Nat → ClassId} {S : XS} {n : Nat} {v : Int32} (h : va_D A ((xw a k S).set 9 (a 9, .inl (k 9, 64, .inl (upd (fA S 4) n v))))) : va_D A (xw a k (wA S 4 n v)) := h
theorem xr_10 (a : Nat → Nat) (k : Nat → ClassId) (S : XS) : (xw a k S)[10]? = some (a 10, .inl (k 10, 192, .inl (fA S 5))) := rfl
theorem xp_A5 {D : va_G} {cl : List vw_C} {H : Heap} {a : Nat → Nat} {k : Nat → ClassId} {S : XS} {n : Nat} {v : Int32} (h : va_P D cl ((xw a k S).set 10 (a 10, .inl (k 10, 192, .inl (upd (fA S 5) n v)))) H) : va_P D cl (xw a k (wA S 5 n v)) H := h
theorem xd_A5 {A : Nat → Prop} {a : Nat → Nat} {k : Nat → ClassId} {S : XS} {n : Nat} {v : Int32} (h : va_D A ((xw a k S).set 10 (a 10, .inl (k 10, 192, .inl (upd (fA S 5) n v))))) : va_D A (xw a k (wA S 5 n v)) := h
theorem xr_11 (a : Nat → Nat) (k : Nat → ClassId) (S : XS) : (xw a k S)[11]? = some (a 11, .inl (k 11, 64, .inl (fA S 6))) := rfl
theorem xp_A6 {D : va_G} {cl : List vw_C} {H : Heap} {a : Nat → Nat} {k : Nat → ClassId} {S : XS} {n : Nat} {v : Int32} (h : va_P D cl ((xw a k S).set 11 (a 11, .inl (k 11, 64, .inl (upd (fA S 6) n v)))) H) : va_P D cl (xw a k (wA S 6 n v)) H := h
theorem xd_A6 {A : Nat → Prop} {a : Nat → Nat} {k : Nat → ClassId} {S : XS} {n : Nat} {v : Int32} (h : va_D A ((xw a k S).set 11 (a 11, .inl (k 11, 64, .inl (upd (fA S 6) n v))))) : va_D A (xw a k (wA S 6 n v)) := h
theorem xr_12 (a : Nat → Nat) (k : Nat → ClassId) (S : XS) : (xw a k S)[12]? = some (a 12, .inl (k 12, 64, .inr (.inl (fL S 1)))) := rfl
theorem xp_L1 {D : va_G} {cl : List vw_C} {H : Heap} {a : Nat → Nat} {k : Nat → ClassId} {S : XS} {n : Nat} {v : Int64} (h : va_P D cl ((xw a k S).set 12 (a 12, .inl (k 12, 64, .inr (.inl (vp_updL (fL S 1) n v))))) H) : va_P D cl (xw a k (wL S 1 n v)) H := h
theorem xd_L1 {A : Nat → Prop} {a : Nat → Nat} {k : Nat → ClassId} {S : XS} {n : Nat} {v : Int64} (h : va_D A ((xw a k S).set 12 (a 12, .inl (k 12, 64, .inr (.inl (vp_updL (fL S 1) n v)))))) : va_D A (xw a k (wL S 1 n v)) := h
theorem xr_13 (a : Nat → Nat) (k : Nat → ClassId) (S : XS) : (xw a k S)[13]? = some (a 13, .inr (3, [.ref (a 7), .ref (a 1), .ref (a 5), .ref (a 14), .ref (a 15)])) := rfl
theorem xr_14 (a : Nat → Nat) (k : Nat → ClassId) (S : XS) : (xw a k S)[14]? = some (a 14, .inl (k 14, 64, .inr (.inl (fL S 2)))) := rfl
theorem xp_L2 {D : va_G} {cl : List vw_C} {H : Heap} {a : Nat → Nat} {k : Nat → ClassId} {S : XS} {n : Nat} {v : Int64} (h : va_P D cl ((xw a k S).set 14 (a 14, .inl (k 14, 64, .inr (.inl (vp_updL (fL S 2) n v))))) H) : va_P D cl (xw a k (wL S 2 n v)) H := h
theorem xd_L2 {A : Nat → Prop} {a : Nat → Nat} {k : Nat → ClassId} {S : XS} {n : Nat} {v : Int64} (h : va_D A ((xw a k S).set 14 (a 14, .inl (k 14, 64, .inr (.inl (vp_updL (fL S 2) n v)))))) : va_D A (xw a k (wL S 2 n v)) := h
theorem xr_15 (a : Nat → Nat) (k : Nat → ClassId) (S : XS) : (xw a k S)[15]? = some (a 15, .inl (k 15, 64, .inl (fA S 7))) := rfl
theorem xp_A7 {D : va_G} {cl : List vw_C} {H : Heap} {a : Nat → Nat} {k : Nat → ClassId} {S : XS} {n : Nat} {v : Int32} (h : va_P D cl ((xw a k S).set 15 (a 15, .inl (k 15, 64, .inl (upd (fA S 7) n v)))) H) : va_P D cl (xw a k (wA S 7 n v)) H := h
theorem xd_A7 {A : Nat → Prop} {a : Nat → Nat} {k : Nat → ClassId} {S : XS} {n : Nat} {v : Int32} (h : va_D A ((xw a k S).set 15 (a 15, .inl (k 15, 64, .inl (upd (fA S 7) n v))))) : va_D A (xw a k (wA S 7 n v)) := h
theorem xr_16 (a : Nat → Nat) (k : Nat → ClassId) (S : XS) : (xw a k S)[16]? = some (a 16, .inr (4, [.ref (a 7), .ref (a 13)])) := rfl
theorem xr_17 (a : Nat → Nat) (k : Nat → ClassId) (S : XS) : (xw a k S)[17]? = some (a 17, .inr (5, [.ref (a 7), .ref (a 1), .ref (a 13), .ref (a 18), .ref (a 19), .ref (a 20), .int (gI S 8)])) := rfl
theorem xp_I8 {D : va_G} {cl : List vw_C} {H : Heap} {a : Nat → Nat} {k : Nat → ClassId} {S : XS} {v : Int32} (h : va_P D cl ((xw a k S).set 17 (a 17, .inr (5, ([.ref (a 7), .ref (a 1), .ref (a 13), .ref (a 18), .ref (a 19), .ref (a 20), .int (gI S 8)] : List Value).set 6 (.int v)))) H) : va_P D cl (xw a k (wI S 8 v)) H := h
theorem xd_I8 {A : Nat → Prop} {a : Nat → Nat} {k : Nat → ClassId} {S : XS} {v : Int32} (h : va_D A ((xw a k S).set 17 (a 17, .inr (5, ([.ref (a 7), .ref (a 1), .ref (a 13), .ref (a 18), .ref (a 19), .ref (a 20), .int (gI S 8)] : List Value).set 6 (.int v))))) : va_D A (xw a k (wI S 8 v)) := h
theorem xr_18 (a : Nat → Nat) (k : Nat → ClassId) (S : XS) : (xw a k S)[18]? = some (a 18, .inl (k 18, 1024, .inr (.inl (fL S 3)))) := rfl
theorem xp_L3 {D : va_G} {cl : List vw_C} {H : Heap} {a : Nat → Nat} {k : Nat → ClassId} {S : XS} {n : Nat} {v : Int64} (h : va_P D cl ((xw a k S).set 18 (a 18, .inl (k 18, 1024, .inr (.inl (vp_updL (fL S 3) n v))))) H) : va_P D cl (xw a k (wL S 3 n v)) H := h
theorem xd_L3 {A : Nat → Prop} {a : Nat → Nat} {k : Nat → ClassId} {S : XS} {n : Nat} {v : Int64} (h : va_D A ((xw a k S).set 18 (a 18, .inl (k 18, 1024, .inr (.inl (vp_updL (fL S 3) n v)))))) : va_D A (xw a k (wL S 3 n v)) := h
theorem xr_19 (a : Nat → Nat) (k : Nat → ClassId) (S : XS) : (xw a k S)[19]? = some (a 19, .inl (k 19, 64, .inl (fA S 8))) := rfl
theorem xp_A8 {D : va_G} {cl : List vw_C} {H : Heap} {a : Nat → Nat} {k : Nat → ClassId} {S : XS} {n : Nat} {v : Int32} (h : va_P D cl ((xw a k S).set 19 (a 19, .inl (k 19, 64, .inl (upd (fA S 8) n v)))) H) : va_P D cl (xw a k (wA S 8 n v)) H := h
theorem xd_A8 {A : Nat → Prop} {a : Nat → Nat} {k : Nat → ClassId} {S : XS} {n : Nat} {v : Int32} (h : va_D A ((xw a k S).set 19 (a 19, .inl (k 19, 64, .inl (upd (fA S 8) n v))))) : va_D A (xw a k (wA S 8 n v)) := h
theorem xr_20 (a : Nat → Nat) (k : Nat → ClassId) (S : XS) : (xw a k S)[20]? = some (a 20, .inl (k 20, 64, .inl (fA S 9))) := rfl
theorem xp_A9 {D : va_G} {cl : List vw_C} {H : Heap} {a : Nat → Nat} {k : Nat → ClassId} {S : XS} {n : Nat} {v : Int32} (h : va_P D cl ((xw a k S).set 20 (a 20, .inl (k 20, 64, .inl (upd (fA S 9) n v)))) H) : va_P D cl (xw a k (wA S 9 n v)) H := h
theorem xd_A9 {A : Nat → Prop} {a : Nat → Nat} {k : Nat → ClassId} {S : XS} {n : Nat} {v : Int32} (h : va_D A ((xw a k S).set 20 (a 20, .inl (k 20, 64, .inl (upd (fA S 9) n v))))) : va_D A (xw a k (wA S 9 n v)) := h
theorem xr_21 (a : Nat → Nat) (k : Nat → ClassId) (S : XS) : (xw a k S)[21]? = some (a 21, .inr (6, [.ref (a 17), .ref (a 22), .int (gI S 9)])) := rfl
theorem xp_I9 {D : va_G} {cl : List vw_C} {H : Heap} {a : Nat → Nat} {k : Nat → ClassId} {S : XS} {v : Int32} (h : va_P D cl ((xw a k S).set 21 (a 21, .inr (6, ([.ref (a 17), .ref (a 22), .int (gI S 9)] : List Value).set 2 (.int v)))) H) : va_P D cl (xw a k (wI S 9 v)) H := h
theorem xd_I9 {A : Nat → Prop} {a : Nat → Nat} {k : Nat → ClassId} {S : XS} {v : Int32} (h : va_D A ((xw a k S).set 21 (a 21, .inr (6, ([.ref (a 17), .ref (a 22), .int (gI S 9)] : List Value).set 2 (.int v))))) : va_D A (xw a k (wI S 9 v)) := h
theorem xr_22 (a : Nat → Nat) (k : Nat → ClassId) (S : XS) : (xw a k S)[22]? = some (a 22, .inl (k 22, 16, .inl (fA S 10))) := rfl
theorem xp_A10 {D : va_G} {cl : List vw_C} {H : Heap} {a : Nat → Nat} {k : Nat → ClassId} {S : XS} {n : Nat} {v : Int32} (h : va_P D cl ((xw a k S).set 22 (a 22, .inl (k 22, 16, .inl (upd (fA S 10) n v)))) H) : va_P D cl (xw a k (wA S 10 n v)) H := h
theorem xd_A10 {A : Nat → Prop} {a : Nat → Nat} {k : Nat → ClassId} {S : XS} {n : Nat} {v : Int32} (h : va_D A ((xw a k S).set 22 (a 22, .inl (k 22, 16, .inl (upd (fA S 10) n v))))) : va_D A (xw a k (wA S 10 n v)) := h
