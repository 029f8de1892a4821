def R_law : String := "PathSolverLaw"
def lw_P (b : Addr) (xs : List Int32) (args : Array Value) (s : State) : Prop := args = #[.ref b] ∧ s.IntsAt b xs ∧ xs.length ≤ 2560 ∧ (Jvm.Cond.and given_1 narrow_1).before args s = true
def lw_Q (_ : Array Value) (s : State) (o : Outcome) (t : State) : Prop := o = .returned (some (.int 1)) ∧ Framed s o t [] 38 2334
def lw_Z (below : List Frame) (a : Array Value) (s : State) : State → Prop := fun t => ∃ o, t.status = .running ∧ Ended t below o ∧ lw_Q a s o t
theorem lw_ret {p : Program} {l : Launch} {e : Env} {s : State} {m : MethodId} {below : List Frame} {meth : Method} {c : Code} {b : Nat} (hx : p.tables.exec = Jvm.exec) (hb : c.code = code) (hr : meth.sig.returnType = ret) (hlocks : meth.locks = false) {pc : Nat} {H : Heap} {ls : Array Slot} (hdg : decode code pc = .ok (.ireturn, 1)) : W p l e room_1 s m #[Value.ref b] below meth c H [] 38 2334 (lw_Z below #[Value.ref b] s) (F0 m pc ls [.int 1]) := by
  intro T hT X
  obtain ⟨fs, hret, hrun, hended, hW, hframe⟩ := X.leave (v := some (.int 1)) (hlocks := hlocks) (fun h => by rw [hr] at h; cases h)
  have hmeth' : T.vm.method? m = some meth := X.method'
  refine ⟨T.setFrames fs, ?_, .returned (some (.int 1)), hrun, hended, rfl, ⟨_, rfl⟩, hW, hframe⟩
  jvm_step X.here [X.here.top, hx, hb, hdg, hmeth', hr, ret, narrow_b1]
  (try refine ⟨rfl, ?_⟩); (try refine ⟨rfl, ?_⟩)
  first | (intro acts; rw [hret _ acts rfl rfl rfl]) | rw [hret _ _ rfl rfl rfl]
  exact Steps.refl _
def lw_At (p : Program) (s : State) (m : MethodId) (meth : Method) (c : Code) (b L : Nat) (xs : Nat → Int32) : Prop :=
  p.tables.exec = Jvm.exec ∧ c.code = code ∧ meth.sig.returnType = ret ∧ c.maxLocals = 4 ∧ s.vm.findClass R_law = some m.cls ∧ (∀ w ∈ lw_tbl, w.before #[Value.ref b] s = true) ∧ va_X b L xs s s.heap ∧ b < s.heap.size ∧ meth.locks = false ∧ (Jvm.Cond.and given_1 narrow_1).before #[Value.ref b] s = true
section WL2
variable {p : Program} {l : Launch} {e : Env} {R : Room} {s : State} {m : MethodId} {args : Array Value} {below : List Frame} {meth : Method} {c : Code} {H : Heap} {locs : List Loc} {cells slots : Nat} {Q : State → Prop} {pc : Nat} {ls : Array Slot} {st0 rest : List Value} {a : Array Value} {A : Nat → Prop} {D : va_G} {cl : List vw_C} {tys : List (ClassId × FieldType)}
theorem wl_2i {S : Type} {wf : S → va_W} {st : S} {ws wr : va_W} {F : Int32 × S} (isC isR : List Nat) (hC : isC.map (fun i => ws[i]?) = (wf st).map some) (hRr : isR.map (fun i => ws[i]?) = wr.map some) (hn : va_nd isR = true) (hdis : ∀ i ∈ isR, i ∉ isC) (hr : va_Run p l e R s m args below meth c H locs cells slots 0 0 (F0 m pc ls st0) rest (va_Qi (fun r u => (r, u) = F) (wl_at D cl tys wf (va_A (wf st) H.size)) (va_A (wf st) H.size) a) (va_A (wf st) H.size)) (hP : va_P D cl ws H) (hD : va_D A ws) (hS : va_S A s.heap H locs) (hA : ∀ q, s.heap.size ≤ q → A q) (kk : ∀ (r : Int32) (u : S) (H1 : Heap) (locs1 : List Loc), (r, u) = F → va_P D cl (wr ++ wf u) H1 → va_D A (wr ++ wf u) → va_S A s.heap H1 locs1 → W p l e R s m args below meth c H1 locs1 cells slots Q (F0 m (pc + 3) ls (.int r :: rest))) : W p l e R s m args below meth c H locs cells slots Q (F0 m pc ls st0) := by
  have hF := va_free (wc := wf st) hD hS hA isC hC
  refine va_calli hr hS (fun q _ h => hF q h) hF (fun r u t H1 locs1 ht hvm hw hB hz1 hk1 hS1 => ?_)
  obtain ⟨hP1, hK1, hD1⟩ := hB
  rw [ht] at hP1
  obtain ⟨hP2, hD2⟩ := va_join (wr := wr) (w1 := wf u) hP hD isC isR hC hRr hn hdis hk1 hF hP1 hD1
  exact kk r u H1 locs1 hw hP2 hD2 hS1
theorem wl_2l {S : Type} {wf : S → va_W} {st : S} {ws wr : va_W} {F : Int64 × S} (isC isR : List Nat) (hC : isC.map (fun i => ws[i]?) = (wf st).map some) (hRr : isR.map (fun i => ws[i]?) = wr.map some) (hn : va_nd isR = true) (hdis : ∀ i ∈ isR, i ∉ isC) (hr : va_Run p l e R s m args below meth c H locs cells slots 0 0 (F0 m pc ls st0) rest (va_Ql (fun r u => (r, u) = F) (wl_at D cl tys wf (va_A (wf st) H.size)) (va_A (wf st) H.size) a) (va_A (wf st) H.size)) (hP : va_P D cl ws H) (hD : va_D A ws) (hS : va_S A s.heap H locs) (hA : ∀ q, s.heap.size ≤ q → A q) (kk : ∀ (r : Int64) (u : S) (H1 : Heap) (locs1 : List Loc), (r, u) = F → va_P D cl (wr ++ wf u) H1 → va_D A (wr ++ wf u) → va_S A s.heap H1 locs1 → W p l e R s m args below meth c H1 locs1 cells slots Q (F0 m (pc + 3) ls (.long r :: rest))) : W p l e R s m args below meth c H locs cells slots Q (F0 m pc ls st0) := by
  have hF := va_free (wc := wf st) hD hS hA isC hC
  refine va_calll hr hS (fun q _ h => hF q h) hF (fun r u t H1 locs1 ht hvm hw hB hz1 hk1 hS1 => ?_)
  obtain ⟨hP1, hK1, hD1⟩ := hB
  rw [ht] at hP1
  obtain ⟨hP2, hD2⟩ := va_join (wr := wr) (w1 := wf u) hP hD isC isR hC hRr hn hdis hk1 hF hP1 hD1
  exact kk r u H1 locs1 hw hP2 hD2 hS1
end WL2
theorem Rel.e16 {st ms : XS} {V N E Bt : Nat} (h : Rel st ms V N E Bt) : E ≤ 16 := h.1.2.2.2.2.2.2.2.1
theorem Rel.b10 {st ms : XS} {V N E Bt : Nat} (h : Rel st ms V N E Bt) : Bt ≤ 10 := h.1.2.2.2.1
theorem Rel.bsm {st ms : XS} {V N E Bt : Nat} (h : Rel st ms V N E Bt) : bsum (fA ms 5) V = nI Bt := by
  have vb : VB st ms V Bt := h.2.2.2.2.1
  rw [vb.sum V (Nat.le_refl _), vb.2]
theorem Rel.r64 {st ms : XS} {V N E Bt : Nat} (h : Rel st ms V N E Bt) : ∀ j : Nat, j < E → vp_in (fA ms 11 j) 64 := by
  intro j hj
  rw [(h.row hj).1]
  exact vp_up (h.1.2.2.2.2.2.2.2.2.2.2.1 j hj) h.n64
theorem Rel.mdl {st ms : XS} {V N E Bt : Nat} (h : Rel st ms V N E Bt) : ∃ MV : Nat, (gI ms 6 = nI MV ∨ gI ms 6 = -1) ∧ MV ≤ 4 := by
  have mo : MO st ms V Bt := h.2.2.2.2.2.2.2.2.1
  have hV4 := h.v4
  rcases mo with ⟨_, m2⟩ | ⟨n, MV, _, _, _, _, m6, mV, _⟩
  · exact ⟨0, Or.inr m2, by omega⟩
  · exact ⟨MV, Or.inl m6, by omega⟩
theorem Rel.mt {st ms : XS} {V N E Bt : Nat} (h : Rel st ms V N E Bt) : MT ms N := by
  intro t ht
  have h64 := h.n64
  have hV4 := h.v4
  obtain ⟨s0, s4, s21, s1, s23⟩ := h.sr t ht
  have hT := h.xt.1 t ht
  have ops := wl_opsX h.xt h64 t
  rw [s0]
  refine ⟨fun k => ?_, fun k1 k2 => ?_⟩
  · rw [s1 (by rw [k]; decide)]; exact vp_up (hT.o22 k).2 hV4
  · rw [s1 k1, (s23 k1 k2).1, (s23 k1 k2).2]
    obtain ⟨l0, l20⟩ := hT.op k1 k2
    refine ⟨ops 0 ht (by decide) (nt_0 hT k1 k2), fun q1 q2 => ops 1 ht (by decide) ?_, fun q => ops 2 ht (by decide) (by rw [q]; decide), fun q => ?_⟩
    · rcases op_cases l0 l20 with e | e | e | e | e | e | e | e | e | e | e | e | e | e | e | e | e | e | e | e | e
      · rw [e] at q1; exact absurd (by decide) q1
      · rw [e] at q1; exact absurd (by decide) q1
      · rw [e]; decide
      · rw [e]; decide
      · rw [e]; decide
      · rw [e]; decide
      · rw [e]; decide
      · rw [e]; decide
      · rw [e]; decide
      · rw [e]; decide
      · rw [e]; decide
      · rw [e]; decide
      · rw [e]; decide
      · rw [e]; decide
      · rw [e]; decide
      · rw [e]; decide
      · rw [e]; decide
      · exact absurd (Or.inl e) q2
      · exact absurd (Or.inr (Or.inl e)) q2
      · exact absurd (Or.inr (Or.inr (Or.inl e))) q2
      · exact absurd (Or.inr (Or.inr (Or.inr e))) q2
    · have ty := hT.ty (by omega) (fun j hj => (h.xt.1 j (by omega)).1) k1 k2
      rw [q] at ty
      exact ty.t20
theorem lawIx {i L : Nat} (hi : i < 4000) (hL : L ≤ 2560) (c : ¬ nI L - (5 : Int32) < nI i) : i + 5 ≤ L := by
  rcases Nat.lt_or_ge L 5 with q | q
  · have key : ∀ L, L < 5 → nI L - (5 : Int32) < 0 := by decide
    exact absurd (Int32.lt_of_lt_of_le (key L q) (nI_pos' (by omega))) c
  · rw [show nI L - (5 : Int32) = nI (L - 5) from nI_sb (b := 5) q] at c
    rcases Nat.lt_or_ge (L - 5) i with z | z
    · exact absurd (nI_lt z (by omega)) c
    · omega
theorem law15 (x : Int32) : ∃ j : Nat, j < 16 ∧ x &&& (15 : Int32) = nI j := pk_andE x 4 (by decide)
def xs0 : XS := (fun j => if j = 0 then -1 else 0, fun _ _ => 0, fun _ _ => 0)
def ms0 : XS := (fun j => if j = 6 then -1 else 0, fun _ _ => 0, fun _ _ => 0)
theorem rel0 : Rel xs0 ms0 0 0 0 0 := by
  have z : ∀ {P : Prop} {t : Nat}, t < 0 → P := fun h => absurd h (Nat.not_lt_zero _)
  have tb : TabOK (fL xs0 0) (fA ms0 10) := fun j hj => ⟨0, by decide, rfl, by show (0 : Int64) = rs 8 (lN 0); decide +kernel⟩
  refine ⟨⟨rfl, by decide, rfl, by decide, rfl, by decide, rfl, by decide, ⟨fun t ht => z ht, fun j hj => tb.n hj, fun v hv => z hv⟩, fun t ht => z ht, fun i hi => z hi, 0, rfl, by decide⟩, ⟨rfl, rfl, rfl, rfl, rfl, rfl⟩, fun t ht => z ht, tb, ⟨fun v hv => z hv, rfl⟩, fun t _ _ => rfl, fun t _ _ => rfl, fun i hi => z hi, Or.inl ⟨rfl, rfl⟩, fun t m ht => z ht, fun t ht => z ht, fun i j hi => z hi⟩
