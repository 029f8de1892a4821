theorem mw_51 : (.instantiable RX9 11 : Cond) ∈ AW := List.mem_filter.mpr ⟨List.mem_of_getElem? (i := 51) (by decide +kernel), rfl⟩
theorem mw_628 : (.instantiable RX10 21 : Cond) ∈ AW := List.mem_filter.mpr ⟨List.mem_of_getElem? (i := 628) (by decide +kernel), rfl⟩
theorem mw_50 : (.classLink RL 7 RX9 : Cond) ∈ AW := List.mem_filter.mpr ⟨List.mem_of_getElem? (i := 50) (by decide +kernel), rfl⟩
theorem mw_54 : (.code yX9_init cX9_init 1 none : Cond) ∈ AW := List.mem_filter.mpr ⟨List.mem_of_getElem? (i := 54) (by decide +kernel), rfl⟩
theorem mw_52 : (.methodLink RL 9 yX9_init : Cond) ∈ AW := List.mem_filter.mpr ⟨List.mem_of_getElem? (i := 52) (by decide +kernel), rfl⟩
theorem mw_53 : (.instanceMethod yX9_init : Cond) ∈ AW := List.mem_filter.mpr ⟨List.mem_of_getElem? (i := 53) (by decide +kernel), rfl⟩
theorem mw_627 : (.classLink RL 10 RX10 : Cond) ∈ AW := List.mem_filter.mpr ⟨List.mem_of_getElem? (i := 627) (by decide +kernel), rfl⟩
theorem mw_631 : (.code yX10_init cX10_init 1 none : Cond) ∈ AW := List.mem_filter.mpr ⟨List.mem_of_getElem? (i := 631) (by decide +kernel), rfl⟩
theorem mw_629 : (.methodLink RL 12 yX10_init : Cond) ∈ AW := List.mem_filter.mpr ⟨List.mem_of_getElem? (i := 629) (by decide +kernel), rfl⟩
theorem mw_630 : (.instanceMethod yX10_init : Cond) ∈ AW := List.mem_filter.mpr ⟨List.mem_of_getElem? (i := 630) (by decide +kernel), rfl⟩
set_option maxHeartbeats 4000000 in
set_option maxRecDepth 100000 in
theorem whole_start {p : Program} {e : Env} {s : State} {m : MethodId} {below : List Frame} {meth : Method} {c : Code} (l : Launch) {b L : Nat} {xs : Nat → Int32} (hL : L ≤ 2560) (C0 : lw_At p s m meth c b L xs) : W p l e room_1 s m #[Value.ref b] below meth c s.heap [] 0 0 (lw_Z below #[Value.ref b] s) (entryFrame m ([Value.ref b] : List Value).toArray 4) := by
  obtain ⟨hx, hb, hr, hml, hown0, hts, hX, hbl, hlocks, hgv⟩ := id C0
  have hta := aw_law hts
  have hown : s.vm.findClass RL = some m.cls := hown0
  have hA : ∀ q : Nat, s.heap.size ≤ q → (fun q : Nat => s.heap.size ≤ q) q := fun _ h => h
  obtain ⟨c0, iS0, hKn0⟩ := u_known (C := RX2) (T := TX2) (N := 5) (n := 5) hta inX2 (hta _ mw_59)
  obtain ⟨c1, iS1, hKn1⟩ := u_known (C := RX3) (T := TX3) (N := 1) (n := 1) hta inX3 (hta _ mw_83)
  obtain ⟨c2, iS2, hKn2⟩ := u_known (C := RX4) (T := TX4) (N := 7) (n := 7) hta inX4 (hta _ mw_94)
  obtain ⟨c3, iS3, hKn3⟩ := u_known (C := RX5) (T := TX5) (N := 5) (n := 5) hta inX5 (hta _ mw_122)
  obtain ⟨c4, iS4, hKn4⟩ := u_known (C := RX6) (T := TX6) (N := 2) (n := 2) hta inX6 (hta _ mw_144)
  obtain ⟨c5, iS5, hKn5⟩ := u_known (C := RX7) (T := TX7) (N := 7) (n := 7) hta inX7 (hta _ mw_157)
  obtain ⟨c6, iS6, hKn6⟩ := u_known (C := RX8) (T := TX8) (N := 3) (n := 3) hta inX8 (hta _ mw_185)
  obtain ⟨c7, iS7, hKn7⟩ := u_known (C := RX9) (T := TX9) (N := 11) (n := 11) hta inX9 (hta _ mw_51)
  obtain ⟨c8, iS8, hKn8⟩ := u_known (C := RX10) (T := TX10) (N := 21) (n := 21) hta inX10 (hta _ mw_628)
  obtain ⟨dC, dI, hKc⟩ : ∃ (dC : Nat → ClassId) (dI : Nat → Nat → Nat), ∀ (j : Nat) (q : vw_C), vwCl[j]? = some q → u_Kn s q.1 q.2.1 q.2.2 (dC j) (dI j) := by
    refine ⟨fun j => if j = 0 then c0 else if j = 1 then c1 else if j = 2 then c2 else if j = 3 then c3 else if j = 4 then c4 else if j = 5 then c5 else if j = 6 then c6 else if j = 7 then c7 else c8, fun j => if j = 0 then iS0 else if j = 1 then iS1 else if j = 2 then iS2 else if j = 3 then iS3 else if j = 4 then iS4 else if j = 5 then iS5 else if j = 6 then iS6 else if j = 7 then iS7 else iS8, ?_⟩
    intro j q hq
    match j, hq with
    | 0, hq => cases hq; exact hKn0
    | 1, hq => cases hq; exact hKn1
    | 2, hq => cases hq; exact hKn2
    | 3, hq => cases hq; exact hKn3
    | 4, hq => cases hq; exact hKn4
    | 5, hq => cases hq; exact hKn5
    | 6, hq => cases hq; exact hKn6
    | 7, hq => cases hq; exact hKn7
    | 8, hq => cases hq; exact hKn8
    | j + 9, hq => simp [vwCl] at hq
  have hS : va_S (fun q : Nat => s.heap.size ≤ q) s.heap s.heap [] := va_S.rf
  have hK : va_K (dC, dI) vwCl [] s := ⟨hKc, fun j q h => by simp at h⟩
  have hP : va_P (dC, dI) vwCl [] s.heap := fun j q h => by simp at h
  have hD : va_D (fun q : Nat => s.heap.size ≤ q) [] := ⟨fun i j p q h => by simp at h, fun j q h => by simp at h⟩
  have hl := lv_entry ([.ref b]) (n := 4) (Nat.le_of_ble_eq_true rfl)
  rw [lg_entry_eq]
  generalize (lg_sl ([.ref b]) ++ List.replicate (4 - (lg_sl ([.ref b])).length) Slot.unset).toArray = ls at hl ⊢
  have hl : lv_has ls 4 [(0, .ref b)] := hl
  refine va_new (ci := 7) (fs := [.null, .null, .null, .null, .null, .null, .null, .int 0, .int 0, .int 0, .int 0]) (C := RX9) (T := TX9) (N := 11) hx hb hta inX9 tyX9 tyX9_ok hown (hta _ mw_50) (hta _ mw_51) (hta _ mw_38) hK hP hD hS hA rfl (fun j hj => by rcases (show j = 0 ∨ j = 1 ∨ j = 2 ∨ j = 3 ∨ j = 4 ∨ j = 5 ∨ j = 6 ∨ j = 7 ∨ j = 8 ∨ j = 9 ∨ j = 10 by omega) with rfl | rfl | rfl | rfl | rfl | rfl | rfl | rfl | rfl | rfl | rfl <;> rfl) (Nat.le_of_ble_eq_true rfl) (Nat.le_of_ble_eq_true rfl) d_law_0 (fun h1 H hP hD hS => ?_)
  have hP : va_P (dC, dI) vwCl [(h1, .inr (7, [.null, .null, .null, .null, .null, .null, .null, .int 0, .int 0, .int 0, .int 0]))] H := hP
  have hD : va_D (fun q : Nat => s.heap.size ≤ q) [(h1, .inr (7, [.null, .null, .null, .null, .null, .null, .null, .int 0, .int 0, .int 0, .int 0]))] := hD
  refine W.widen (k := 1) (n := 11) (by omega) (by omega) ?_
  refine lv_dup hx hb d_law_3 rfl ?_
  have hPc := hP.sub (ws' := [(h1, .inr (7, [.null, .null, .null, .null, .null, .null, .null, .int 0, .int 0, .int 0, .int 0]))]) [0] rfl
  have hDc := hD.sub (ws' := [(h1, .inr (7, [.null, .null, .null, .null, .null, .null, .null, .int 0, .int 0, .int 0, .int 0]))]) [0] (by decide) rfl
  have hKc2 := hK.sub (tys' := []) [] rfl
  have hFc := va_free (wc := [(h1, .inr (7, [.null, .null, .null, .null, .null, .null, .null, .int 0, .int 0, .int 0, .int 0]))]) hD hS hA [0] rfl
  refine va_callv (va_runI (As := []) (rest := [.ref h1]) ⟨hx, hb, hml, hown, hta⟩ (kc_PS l dC dI h1 H.size) (cwI 0 hta (aw_I mw_54) rfl rfl rfl (hta _ mw_38) (hta _ mw_52) (hta _ mw_53) rfl (by decide +kernel) ⟨Nat.le_of_ble_eq_true rfl, Nat.le_of_ble_eq_true rfl⟩) ⟨fun a U g mk q => by obtain ⟨q0, q1, qP, qK, qD⟩ := q; exact ⟨q0, q1, qP, va_K.moved (u := U) (U := U.calling g mk a) (Vm.Alike.refl U.vm) qK, qD⟩, fun U hU hW => ⟨rfl, by rw [hU], by rw [hU]; exact hPc, va_K.moved hW.alike hKc2, hDc.weaken (fun _ _ _ _ => trivial)⟩⟩ rfl rfl hl.1 rfl (lv_room (Nat.le_of_ble_eq_true rfl)) d_law_4 ⟨Nat.le_of_ble_eq_true rfl, Nat.le_of_ble_eq_true rfl⟩) hS (fun q _ h => hFc q h) hFc (fun u t H1 locs ht hvm hw hB hz1 hk1 hS => ?_)
  obtain ⟨x1, x2, x3, x4, x5, x6, x7, x8, x9, x10, x11, x12, x13, x14, x15, x16, x17, x18, x19, x20, x21, x22, k2, k3, k4, k6, k8, k9, k10, k11, k12, k14, k15, k18, k19, k20, k22, hP1, hK1, hD1⟩ := hB
  rw [ht] at hP1
  have hKx0 := va_K.moved hvm.symm hK1
  obtain ⟨ax, hax⟩ : ∃ f : Nat → Nat, f = fun j => [h1, x1, x2, x3, x4, x5, x6, x7, x8, x9, x10, x11, x12, x13, x14, x15, x16, x17, x18, x19, x20, x21, x22].getD j 0 := ⟨_, rfl⟩
  obtain ⟨kx, hkx⟩ : ∃ f : Nat → ClassId, f = fun j => [k2, k2, k2, k3, k4, k2, k6, k2, k8, k9, k10, k11, k12, k2, k14, k15, k2, k2, k18, k19, k20, k2, k22].getD j k2 := ⟨_, rfl⟩
  have hPx : va_P (dC, dI) vwCl (xw ax kx xs0) H1 := by rw [hax, hkx]; exact hP1
  have hDx : va_D (va_A [(h1, .inr (7, [.null, .null, .null, .null, .null, .null, .null, .int 0, .int 0, .int 0, .int 0]))] H.size) (xw ax kx xs0) := by rw [hax, hkx]; exact hD1
  have hKx : va_K (dC, dI) vwCl (xt kx) s := by rw [hkx]; exact hKx0
  have h1e : h1 = ax 0 := by rw [hax]; rfl
  obtain ⟨hP, hD⟩ := va_join (wr := []) (w1 := xw ax kx xs0) hP hD [0] [] rfl rfl (by decide) (by decide) hk1 hFc hPx hDx
  generalize H1 = H at hP hS ⊢
  have hP : va_P (dC, dI) vwCl (xw ax kx xs0) H := hP
  have hD : va_D (fun q : Nat => s.heap.size ≤ q) (xw ax kx xs0) := hD
  refine W.widen (k := 23) (n := 1813) (by omega) (by omega) ?_
  refine lv_astore_n (lv' := [(1, .ref h1), (0, .ref b)]) hx hb d_law_7 rfl hl (by decide) rfl (fun ls hl => ?_)
  refine va_new (ci := 8) (fs := [.int 0, .int 0, .int 0, .int 0, .int 0, .int 0, .int 0, .null, .null, .null, .null, .null, .null, .null, .null, .null, .null, .null, .null, .null, .null]) (C := RX10) (T := TX10) (N := 21) hx hb hta inX10 tyX10 tyX10_ok hown (hta _ mw_627) (hta _ mw_628) (hta _ mw_46) hK hP hD hS hA rfl (fun j hj => by rcases (show j = 0 ∨ j = 1 ∨ j = 2 ∨ j = 3 ∨ j = 4 ∨ j = 5 ∨ j = 6 ∨ j = 7 ∨ j = 8 ∨ j = 9 ∨ j = 10 ∨ j = 11 ∨ j = 12 ∨ j = 13 ∨ j = 14 ∨ j = 15 ∨ j = 16 ∨ j = 17 ∨ j = 18 ∨ j = 19 ∨ j = 20 by omega) with rfl | rfl | rfl | rfl | rfl | rfl | rfl | rfl | rfl | rfl | rfl | rfl | rfl | rfl | rfl | rfl | rfl | rfl | rfl | rfl | rfl <;> rfl) (Nat.le_of_ble_eq_true rfl) (Nat.le_of_ble_eq_true rfl) d_law_8 (fun h2 H hP hD hS => ?_)
  have hP : va_P (dC, dI) vwCl (xw ax kx xs0 ++ [(h2, .inr (8, [.int 0, .int 0, .int 0, .int 0, .int 0, .int 0, .int 0, .null, .null, .null, .null, .null, .null, .null, .null, .null, .null, .null, .null, .null, .null]))]) H := hP
  have hD : va_D (fun q : Nat => s.heap.size ≤ q) (xw ax kx xs0 ++ [(h2, .inr (8, [.int 0, .int 0, .int 0, .int 0, .int 0, .int 0, .int 0, .null, .null, .null, .null, .null, .null, .null, .null, .null, .null, .null, .null, .null, .null]))]) := hD
  refine W.widen (k := 24) (n := 1834) (by omega) (by omega) ?_
  refine lv_dup hx hb d_law_11 rfl ?_
  have hPc := hP.sub (ws' := [(h2, .inr (8, [.int 0, .int 0, .int 0, .int 0, .int 0, .int 0, .int 0, .null, .null, .null, .null, .null, .null, .null, .null, .null, .null, .null, .null, .null, .null]))]) [23] rfl
  have hDc := hD.sub (ws' := [(h2, .inr (8, [.int 0, .int 0, .int 0, .int 0, .int 0, .int 0, .int 0, .null, .null, .null, .null, .null, .null, .null, .null, .null, .null, .null, .null, .null, .null]))]) [23] (by decide) rfl
  have hKc2 := hK.sub (tys' := []) [] rfl
  have hFc := va_free (wc := [(h2, .inr (8, [.int 0, .int 0, .int 0, .int 0, .int 0, .int 0, .int 0, .null, .null, .null, .null, .null, .null, .null, .null, .null, .null, .null, .null, .null, .null]))]) hD hS hA [23] rfl
  refine va_callv (va_runI (As := []) (rest := [.ref h2]) ⟨hx, hb, hml, hown, hta⟩ (kc_Mod l dC dI h2 H.size) (cwI 0 hta (aw_I mw_631) rfl rfl rfl (hta _ mw_46) (hta _ mw_629) (hta _ mw_630) rfl (by decide +kernel) ⟨Nat.le_of_ble_eq_true rfl, Nat.le_of_ble_eq_true rfl⟩) ⟨fun a U g mk q => by obtain ⟨q0, q1, qP, qK, qD⟩ := q; exact ⟨q0, q1, qP, va_K.moved (u := U) (U := U.calling g mk a) (Vm.Alike.refl U.vm) qK, qD⟩, fun U hU hW => ⟨rfl, by rw [hU], by rw [hU]; exact hPc, va_K.moved hW.alike hKc2, hDc.weaken (fun _ _ _ _ => trivial)⟩⟩ rfl rfl hl.1 rfl (lv_room (Nat.le_of_ble_eq_true rfl)) d_law_12 ⟨Nat.le_of_ble_eq_true rfl, Nat.le_of_ble_eq_true rfl⟩) hS (fun q _ h => hFc q h) hFc (fun u t H1 locs ht hvm hw hB hz1 hk1 hS => ?_)
  obtain ⟨y1, y2, y3, y4, y5, y6, y7, y8, y9, y10, y11, y12, y13, y14, j1, j2, j3, j4, j5, j6, j7, j8, j9, j10, j11, j12, j13, j14, hP1, hK1, hD1⟩ := hB
  rw [ht] at hP1
  have hKm0 := va_K.moved hvm.symm hK1
  obtain ⟨am, ham⟩ : ∃ f : Nat → Nat, f = fun j => [h2, y1, y2, y3, y4, y5, y6, y7, y8, y9, y10, y11, y12, y13, y14].getD j 0 := ⟨_, rfl⟩
  obtain ⟨km, hkm⟩ : ∃ f : Nat → ClassId, f = fun j => [j1, j1, j2, j3, j4, j5, j6, j7, j8, j9, j10, j11, j12, j13, j14].getD j j1 := ⟨_, rfl⟩
  have hPm : va_P (dC, dI) vwCl (mw am km ms0) H1 := by rw [ham, hkm]; exact hP1
  have hDm : va_D (va_A [(h2, .inr (8, [.int 0, .int 0, .int 0, .int 0, .int 0, .int 0, .int 0, .null, .null, .null, .null, .null, .null, .null, .null, .null, .null, .null, .null, .null, .null]))] H.size) (mw am km ms0) := by rw [ham, hkm]; exact hD1
  have hKm : va_K (dC, dI) vwCl (mt km) s := by rw [hkm]; exact hKm0
  have h2e : h2 = am 0 := by rw [ham]; rfl
  obtain ⟨hP, hD⟩ := va_join (wr := xw ax kx xs0) (w1 := mw am km ms0) hP hD [23] [0, 1, 2, 3, 4, 5, 6, 7, 8, 9, 10, 11, 12, 13, 14, 15, 16, 17, 18, 19, 20, 21, 22] rfl rfl (by decide) (by decide) hk1 hFc hPm hDm
  generalize H1 = H at hP hS ⊢
  refine W.widen (k := 38) (n := 2334) (by omega) (by omega) ?_
  refine lv_astore_n (lv' := [(2, .ref h2), (1, .ref h1), (0, .ref b)]) hx hb d_law_15 rfl hl (by decide) rfl (fun ls hl => ?_)
  refine lv_iconst (v := 0) hx hb d_law_16 (by decide) ?_
  refine lv_istore_n (lv' := [(3, .int 0), (2, .ref h2), (1, .ref h1), (0, .ref b)]) hx hb d_law_17 rfl hl (by decide) rfl (fun ls hl => ?_)
  have hl2 := lv_sub hl [3, 2, 1, 0] rfl
  rw [h1e, h2e] at hl2
  exact law_loop hL C0 hKx hKm 2601 0 xs0 ms0 0 0 0 0 H _ ls (by omega) (by omega) rel0 hP hD hS hl2
