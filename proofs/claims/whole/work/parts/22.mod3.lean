theorem dX10_solve_0 : decode cX10_solve 0 = .ok (.iconst 0, 1) := by decide +kernel
theorem dX10_solve_1 : decode cX10_solve 1 = .ok (.istore_n 3, 1) := by decide +kernel
theorem dX10_solve_2 : decode cX10_solve 2 = .ok (.iconst 0, 1) := by decide +kernel
theorem dX10_solve_3 : decode cX10_solve 3 = .ok (.istore 4, 2) := by decide +kernel
theorem dX10_solve_5 : decode cX10_solve 5 = .ok (.iload 4, 2) := by decide +kernel
theorem dX10_solve_7 : decode cX10_solve 7 = .ok (.aload_n 0, 1) := by decide +kernel
theorem dX10_solve_8 : decode cX10_solve 8 = .ok (.getfield 16, 3) := by decide +kernel
theorem dX10_solve_11 : decode cX10_solve 11 = .ok (.if_icmp .ge 19, 3) := by decide +kernel
theorem dX10_solve_14 : decode cX10_solve 14 = .ok (.iload_n 3, 1) := by decide +kernel
theorem dX10_solve_15 : decode cX10_solve 15 = .ok (.aload_n 0, 1) := by decide +kernel
theorem dX10_solve_16 : decode cX10_solve 16 = .ok (.getfield 54, 3) := by decide +kernel
theorem dX10_solve_19 : decode cX10_solve 19 = .ok (.iload 4, 2) := by decide +kernel
theorem dX10_solve_21 : decode cX10_solve 21 = .ok (.iaload, 1) := by decide +kernel
theorem dX10_solve_22 : decode cX10_solve 22 = .ok (.iadd, 1) := by decide +kernel
theorem dX10_solve_23 : decode cX10_solve 23 = .ok (.istore_n 3, 1) := by decide +kernel
theorem dX10_solve_24 : decode cX10_solve 24 = .ok (.iinc 4 1, 3) := by decide +kernel
theorem dX10_solve_27 : decode cX10_solve 27 = .ok (.goto (-22), 3) := by decide +kernel
theorem dX10_solve_30 : decode cX10_solve 30 = .ok (.iconst 0, 1) := by decide +kernel
theorem dX10_solve_31 : decode cX10_solve 31 = .ok (.istore 4, 2) := by decide +kernel
theorem dX10_solve_33 : decode cX10_solve 33 = .ok (.iload 4, 2) := by decide +kernel
theorem dX10_solve_35 : decode cX10_solve 35 = .ok (.iconst 1, 1) := by decide +kernel
theorem dX10_solve_36 : decode cX10_solve 36 = .ok (.iload_n 3, 1) := by decide +kernel
theorem dX10_solve_37 : decode cX10_solve 37 = .ok (.ishl, 1) := by decide +kernel
theorem dX10_solve_38 : decode cX10_solve 38 = .ok (.if_icmp .ge 148, 3) := by decide +kernel
theorem dX10_solve_41 : decode cX10_solve 41 = .ok (.iload_n 3, 1) := by decide +kernel
theorem dX10_solve_42 : decode cX10_solve 42 = .ok (.istore 5, 2) := by decide +kernel
theorem dX10_solve_44 : decode cX10_solve 44 = .ok (.iconst 0, 1) := by decide +kernel
theorem dX10_solve_45 : decode cX10_solve 45 = .ok (.istore 6, 2) := by decide +kernel
theorem dX10_solve_47 : decode cX10_solve 47 = .ok (.iload 6, 2) := by decide +kernel
theorem dX10_solve_49 : decode cX10_solve 49 = .ok (.aload_n 0, 1) := by decide +kernel
theorem dX10_solve_50 : decode cX10_solve 50 = .ok (.getfield 16, 3) := by decide +kernel
theorem dX10_solve_53 : decode cX10_solve 53 = .ok (.if_icmp .ge 45, 3) := by decide +kernel
theorem dX10_solve_56 : decode cX10_solve 56 = .ok (.iload 5, 2) := by decide +kernel
theorem dX10_solve_58 : decode cX10_solve 58 = .ok (.aload_n 0, 1) := by decide +kernel
theorem dX10_solve_59 : decode cX10_solve 59 = .ok (.getfield 54, 3) := by decide +kernel
theorem dX10_solve_62 : decode cX10_solve 62 = .ok (.iload 6, 2) := by decide +kernel
theorem dX10_solve_64 : decode cX10_solve 64 = .ok (.iaload, 1) := by decide +kernel
theorem dX10_solve_65 : decode cX10_solve 65 = .ok (.isub, 1) := by decide +kernel
theorem dX10_solve_66 : decode cX10_solve 66 = .ok (.istore 5, 2) := by decide +kernel
theorem dX10_solve_68 : decode cX10_solve 68 = .ok (.aload_n 0, 1) := by decide +kernel
theorem dX10_solve_69 : decode cX10_solve 69 = .ok (.getfield 60, 3) := by decide +kernel
theorem dX10_solve_72 : decode cX10_solve 72 = .ok (.iload 6, 2) := by decide +kernel
theorem dX10_solve_74 : decode cX10_solve 74 = .ok (.iload 4, 2) := by decide +kernel
theorem dX10_solve_76 : decode cX10_solve 76 = .ok (.iload 5, 2) := by decide +kernel
theorem dX10_solve_78 : decode cX10_solve 78 = .ok (.ishr, 1) := by decide +kernel
theorem dX10_solve_79 : decode cX10_solve 79 = .ok (.iconst 1, 1) := by decide +kernel
theorem dX10_solve_80 : decode cX10_solve 80 = .ok (.aload_n 0, 1) := by decide +kernel
theorem dX10_solve_81 : decode cX10_solve 81 = .ok (.getfield 54, 3) := by decide +kernel
theorem dX10_solve_84 : decode cX10_solve 84 = .ok (.iload 6, 2) := by decide +kernel
theorem dX10_solve_86 : decode cX10_solve 86 = .ok (.iaload, 1) := by decide +kernel
theorem dX10_solve_87 : decode cX10_solve 87 = .ok (.ishl, 1) := by decide +kernel
theorem dX10_solve_88 : decode cX10_solve 88 = .ok (.iconst 1, 1) := by decide +kernel
theorem dX10_solve_89 : decode cX10_solve 89 = .ok (.isub, 1) := by decide +kernel
theorem dX10_solve_90 : decode cX10_solve 90 = .ok (.iand, 1) := by decide +kernel
theorem dX10_solve_91 : decode cX10_solve 91 = .ok (.iastore, 1) := by decide +kernel
theorem dX10_solve_92 : decode cX10_solve 92 = .ok (.iinc 6 1, 3) := by decide +kernel
theorem dX10_solve_95 : decode cX10_solve 95 = .ok (.goto (-48), 3) := by decide +kernel
theorem dX10_solve_98 : decode cX10_solve 98 = .ok (.aload_n 0, 1) := by decide +kernel
theorem dX10_solve_99 : decode cX10_solve 99 = .ok (.invokevirtual 146, 3) := by decide +kernel
theorem dX10_solve_102 : decode cX10_solve 102 = .ok (.iload_n 2, 1) := by decide +kernel
theorem dX10_solve_103 : decode cX10_solve 103 = .ok (.ifCond .eq 19, 3) := by decide +kernel
theorem dX10_solve_106 : decode cX10_solve 106 = .ok (.aload_n 0, 1) := by decide +kernel
theorem dX10_solve_107 : decode cX10_solve 107 = .ok (.getfield 51, 3) := by decide +kernel
theorem dX10_solve_110 : decode cX10_solve 110 = .ok (.aload_n 0, 1) := by decide +kernel
theorem dX10_solve_111 : decode cX10_solve 111 = .ok (.getfield 73, 3) := by decide +kernel
theorem dX10_solve_114 : decode cX10_solve 114 = .ok (.iload_n 1, 1) := by decide +kernel
theorem dX10_solve_115 : decode cX10_solve 115 = .ok (.iaload, 1) := by decide +kernel
theorem dX10_solve_116 : decode cX10_solve 116 = .ok (.laload, 1) := by decide +kernel
theorem dX10_solve_117 : decode cX10_solve 117 = .ok (.lconst 0, 1) := by decide +kernel
theorem dX10_solve_118 : decode cX10_solve 118 = .ok (.lcmp, 1) := by decide +kernel
theorem dX10_solve_119 : decode cX10_solve 119 = .ok (.ifCond .ne 7, 3) := by decide +kernel
theorem dX10_solve_122 : decode cX10_solve 122 = .ok (.iconst 1, 1) := by decide +kernel
theorem dX10_solve_123 : decode cX10_solve 123 = .ok (.goto 4, 3) := by decide +kernel
theorem dX10_solve_126 : decode cX10_solve 126 = .ok (.iconst 0, 1) := by decide +kernel
theorem dX10_solve_127 : decode cX10_solve 127 = .ok (.istore 6, 2) := by decide +kernel
theorem dX10_solve_129 : decode cX10_solve 129 = .ok (.iconst 0, 1) := by decide +kernel
theorem dX10_solve_130 : decode cX10_solve 130 = .ok (.istore 7, 2) := by decide +kernel
theorem dX10_solve_132 : decode cX10_solve 132 = .ok (.iload 7, 2) := by decide +kernel
theorem dX10_solve_134 : decode cX10_solve 134 = .ok (.iload_n 1, 1) := by decide +kernel
theorem dX10_solve_135 : decode cX10_solve 135 = .ok (.if_icmp .ge 38, 3) := by decide +kernel
theorem dX10_solve_138 : decode cX10_solve 138 = .ok (.iload 6, 2) := by decide +kernel
theorem dX10_solve_140 : decode cX10_solve 140 = .ok (.ifCond .eq 33, 3) := by decide +kernel
theorem dX10_solve_143 : decode cX10_solve 143 = .ok (.aload_n 0, 1) := by decide +kernel
theorem dX10_solve_144 : decode cX10_solve 144 = .ok (.getfield 51, 3) := by decide +kernel
theorem dX10_solve_147 : decode cX10_solve 147 = .ok (.aload_n 0, 1) := by decide +kernel
theorem dX10_solve_148 : decode cX10_solve 148 = .ok (.getfield 73, 3) := by decide +kernel
theorem dX10_solve_151 : decode cX10_solve 151 = .ok (.iload 7, 2) := by decide +kernel
theorem dX10_solve_153 : decode cX10_solve 153 = .ok (.iaload, 1) := by decide +kernel
theorem dX10_solve_154 : decode cX10_solve 154 = .ok (.laload, 1) := by decide +kernel
theorem dX10_solve_155 : decode cX10_solve 155 = .ok (.lconst 1, 1) := by decide +kernel
theorem dX10_solve_156 : decode cX10_solve 156 = .ok (.lcmp, 1) := by decide +kernel
theorem dX10_solve_157 : decode cX10_solve 157 = .ok (.ifCond .ne 7, 3) := by decide +kernel
theorem dX10_solve_160 : decode cX10_solve 160 = .ok (.iconst 1, 1) := by decide +kernel
theorem dX10_solve_161 : decode cX10_solve 161 = .ok (.goto 4, 3) := by decide +kernel
theorem dX10_solve_164 : decode cX10_solve 164 = .ok (.iconst 0, 1) := by decide +kernel
theorem dX10_solve_165 : decode cX10_solve 165 = .ok (.istore 6, 2) := by decide +kernel
theorem dX10_solve_167 : decode cX10_solve 167 = .ok (.iinc 7 1, 3) := by decide +kernel
theorem dX10_solve_170 : decode cX10_solve 170 = .ok (.goto (-38), 3) := by decide +kernel
theorem dX10_solve_173 : decode cX10_solve 173 = .ok (.iload 6, 2) := by decide +kernel
theorem dX10_solve_175 : decode cX10_solve 175 = .ok (.ifCond .eq 5, 3) := by decide +kernel
theorem dX10_solve_178 : decode cX10_solve 178 = .ok (.iconst 1, 1) := by decide +kernel
theorem dX10_solve_179 : decode cX10_solve 179 = .ok (.ireturn, 1) := by decide +kernel
theorem dX10_solve_180 : decode cX10_solve 180 = .ok (.iinc 4 1, 3) := by decide +kernel
theorem dX10_solve_183 : decode cX10_solve 183 = .ok (.goto (-150), 3) := by decide +kernel
theorem dX10_solve_186 : decode cX10_solve 186 = .ok (.iconst 0, 1) := by decide +kernel
theorem dX10_solve_187 : decode cX10_solve 187 = .ok (.ireturn, 1) := by decide +kernel
def fm_Mod_solve_L5 (st : XS) (kq : Int32) (tu : Int32) : Nat → Int32 → Nat → Int32 × Nat
  | 0, all, i => (all, i)
  | n + 1, all, i => 
    if gI st 2 ≤ nI i then (all, i)
    else fm_Mod_solve_L5 st kq tu n (all + (fA st 5 (nI i).toNatClampNeg)) (i + 1)
def fm_Mod_solve_L47 (st : XS) (kq : Int32) (tu : Int32) (cd : Nat) (S1 : XS) : Nat → Int32 → Nat → XS → Int32 × Nat × XS
  | 0, lf, j, S2 => (lf, j, S2)
  | n + 1, lf, j, S2 => 
    if gI S2 2 ≤ nI j then (lf, j, S2)
    else fm_Mod_solve_L47 st kq tu cd S1 n (lf - (fA S2 5 (nI j).toNatClampNeg)) (j + 1) (wA S2 7 ((nI j).toNatClampNeg) (((nI cd) >>> ((lf - (fA S2 5 (nI j).toNatClampNeg)) &&& 31)) &&& (((1 : Int32) <<< ((fA S2 5 (nI j).toNatClampNeg) &&& 31)) - (1 : Int32))))
def fm_Mod_solve_L132 (st : XS) (kq : Int32) (tu : Int32) (cd : Nat) (S1 : XS) : Nat → Int32 → Nat → Int32 × Nat
  | 0, hd, j => (hd, j)
  | n + 1, hd, j => 
    if kq ≤ nI j then (hd, j)
    else 
      if hd = (0 : Int32) then (hd, j)
      else 
        if lg_cmp (fL ((fm_Mod_work (((fm_Mod_solve_L47 st kq tu cd S1 5 (((fm_Mod_solve_L5 st kq tu 5 (0 : Int32) 0).1)) 0 S1).2.2)))) 1 ((fA ((fm_Mod_work (((fm_Mod_solve_L47 st kq tu cd S1 5 (((fm_Mod_solve_L5 st kq tu 5 (0 : Int32) 0).1)) 0 S1).2.2)))) 11 (nI j).toNatClampNeg)).toNatClampNeg) (1 : Int64) = (0 : Int32) then fm_Mod_solve_L132 st kq tu cd S1 n (1 : Int32) (j + 1)
        else fm_Mod_solve_L132 st kq tu cd S1 n (0 : Int32) (j + 1)
def fm_Mod_solve_L33 (st : XS) (kq : Int32) (tu : Int32) : Nat → Nat → XS → Int32 × XS
  | 0, cd, S1 => (0, S1)
  | n + 1, cd, S1 => 
    if ((1 : Int32) <<< ((((fm_Mod_solve_L5 st kq tu 5 (0 : Int32) 0).1)) &&& 31)) ≤ nI cd then ((0 : Int32), S1)
    else 
      if tu = (0 : Int32) then 
        if ((fm_Mod_solve_L132 st kq tu cd S1 17 (1 : Int32) 0).1) = (0 : Int32) then fm_Mod_solve_L33 st kq tu n (cd + 1) ((fm_Mod_work (((fm_Mod_solve_L47 st kq tu cd S1 5 (((fm_Mod_solve_L5 st kq tu 5 (0 : Int32) 0).1)) 0 S1).2.2))))
        else ((1 : Int32), (fm_Mod_work (((fm_Mod_solve_L47 st kq tu cd S1 5 (((fm_Mod_solve_L5 st kq tu 5 (0 : Int32) 0).1)) 0 S1).2.2))))
      else 
        if lg_cmp (fL ((fm_Mod_work (((fm_Mod_solve_L47 st kq tu cd S1 5 (((fm_Mod_solve_L5 st kq tu 5 (0 : Int32) 0).1)) 0 S1).2.2)))) 1 ((fA ((fm_Mod_work (((fm_Mod_solve_L47 st kq tu cd S1 5 (((fm_Mod_solve_L5 st kq tu 5 (0 : Int32) 0).1)) 0 S1).2.2)))) 11 (kq).toNatClampNeg)).toNatClampNeg) (0 : Int64) = (0 : Int32) then 
          if ((fm_Mod_solve_L132 st kq tu cd S1 17 (1 : Int32) 0).1) = (0 : Int32) then fm_Mod_solve_L33 st kq tu n (cd + 1) ((fm_Mod_work (((fm_Mod_solve_L47 st kq tu cd S1 5 (((fm_Mod_solve_L5 st kq tu 5 (0 : Int32) 0).1)) 0 S1).2.2))))
          else ((1 : Int32), (fm_Mod_work (((fm_Mod_solve_L47 st kq tu cd S1 5 (((fm_Mod_solve_L5 st kq tu 5 (0 : Int32) 0).1)) 0 S1).2.2))))
        else 
          if ((fm_Mod_solve_L132 st kq tu cd S1 17 (0 : Int32) 0).1) = (0 : Int32) then fm_Mod_solve_L33 st kq tu n (cd + 1) ((fm_Mod_work (((fm_Mod_solve_L47 st kq tu cd S1 5 (((fm_Mod_solve_L5 st kq tu 5 (0 : Int32) 0).1)) 0 S1).2.2))))
          else ((1 : Int32), (fm_Mod_work (((fm_Mod_solve_L47 st kq tu cd S1 5 (((fm_Mod_solve_L5 st kq tu 5 (0 : Int32) 0).1)) 0 S1).2.2))))
def fm_Mod_solve (st : XS) (kq : Int32) (tu : Int32) : Int32 × XS := fm_Mod_solve_L33 st kq tu 1025 0 st
theorem fr_Mod_solve_L47 {S0 : XS} (st : XS) (kq : Int32) (tu : Int32) (cd : Nat) (S1 : XS) : ∀ (n : Nat) (lf : Int32) (j : Nat) (S2 : XS), XF [] [7] [1] S0 S2 → XF [] [7] [1] S0 (fm_Mod_solve_L47 st kq tu cd S1 n lf j S2).2.2 := by
  intro n
  induction n with
  | zero => intro lf j S2 h; exact h
  | succ n ih =>
    intro lf j S2 h
    rw [fm_Mod_solve_L47]
    exact (wl_ite (P := fun (q : Int32 × Nat × XS) => XF [] [7] [1] _ (q.2.2)) h (ih _ _ _ (XF.wA (by decide) h)))
theorem fr_Mod_solve_L33 {S0 : XS} (st : XS) (kq : Int32) (tu : Int32) : ∀ (n : Nat) (cd : Nat) (S1 : XS), XF [] [7] [1] S0 S1 → XF [] [7] [1] S0 (fm_Mod_solve_L33 st kq tu n cd S1).2 := by
  intro n
  induction n with
  | zero => intro cd S1 h; exact h
  | succ n ih =>
    intro cd S1 h
    rw [fm_Mod_solve_L33]
    exact (wl_ite (P := fun (q : Int32 × XS) => XF [] [7] [1] _ (q.2)) (wl_snd h) (wl_ite (P := fun (q : Int32 × XS) => XF [] [7] [1] _ (q.2)) (wl_ite (P := fun (q : Int32 × XS) => XF [] [7] [1] _ (q.2)) (ih _ _ (XF.tr (fr_Mod_solve_L47 _ _ _ _ _ _ _ _ _ h) (XF.mono (ff_Mod_work _) (by decide) (by decide) (by decide)))) (wl_snd (XF.tr (fr_Mod_solve_L47 _ _ _ _ _ _ _ _ _ h) (XF.mono (ff_Mod_work _) (by decide) (by decide) (by decide))))) (wl_ite (P := fun (q : Int32 × XS) => XF [] [7] [1] _ (q.2)) (wl_ite (P := fun (q : Int32 × XS) => XF [] [7] [1] _ (q.2)) (ih _ _ (XF.tr (fr_Mod_solve_L47 _ _ _ _ _ _ _ _ _ h) (XF.mono (ff_Mod_work _) (by decide) (by decide) (by decide)))) (wl_snd (XF.tr (fr_Mod_solve_L47 _ _ _ _ _ _ _ _ _ h) (XF.mono (ff_Mod_work _) (by decide) (by decide) (by decide))))) (wl_ite (P := fun (q : Int32 × XS) => XF [] [7] [1] _ (q.2)) (ih _ _ (XF.tr (fr_Mod_solve_L47 _ _ _ _ _ _ _ _ _ h) (XF.mono (ff_Mod_work _) (by decide) (by decide) (by decide)))) (wl_snd (XF.tr (fr_Mod_solve_L47 _ _ _ _ _ _ _ _ _ h) (XF.mono (ff_Mod_work _) (by decide) (by decide) (by decide))))))))
theorem ff_Mod_solve (st : XS) (kq : Int32) (tu : Int32) : XF [] [7] [1] st (fm_Mod_solve st kq tu).2 := by
  rw [fm_Mod_solve]
  exact (fr_Mod_solve_L33 _ _ _ _ _ _ XF.rf)
theorem wm_sumL {st : XS} {kq tu : Int32} {V : Nat} (hV : gI st 2 = nI V) (hV4 : V ≤ 4) : ∀ (n : Nat) (all : Int32) (i : Nat), i ≤ V → V - i < n → all = bsum (fA st 5) i → (fm_Mod_solve_L5 st kq tu n all i).1 = bsum (fA st 5) V := by
  intro n
  induction n with
  | zero => intro all i _ h; exact absurd h (Nat.not_lt_zero _)
  | succ n ih =>
    intro all i hi hm e
    rw [fm_Mod_solve_L5]
    by_cases c : gI st 2 ≤ nI i
    · rw [if_pos c]
      have : V ≤ i := wl_ge (by rw [← hV]; exact c) (by omega)
      rw [show V = i by omega]; exact e
    · rw [if_neg c]
      have hlt : i < V := wl_lt (by rw [← hV]; exact c) (by omega)
      refine ih _ _ (by omega) (by omega) ?_
      rw [nI_clamp (by omega), e]; rfl
theorem wm_sum {st : XS} {kq tu : Int32} {V : Nat} (hV : gI st 2 = nI V) (hV4 : V ≤ 4) : (fm_Mod_solve_L5 st kq tu 5 (0 : Int32) 0).1 = bsum (fA st 5) V := wm_sumL hV hV4 5 0 0 (Nat.zero_le _) (by omega) rfl
set_option maxHeartbeats 4000000 in
set_option maxRecDepth 100000 in
theorem km_Mod_solve (l : Launch) (dC : Nat → ClassId) (dI : Nat → Nat → Nat) (a : Nat → Nat) (k : Nat → ClassId) (st : XS) (KQ : Nat) (tu : Int32) (sz : Nat) (N : Nat) (hN : gI st 0 = nI N) (h64 : N ≤ 64) (V : Nat) (hV : gI st 2 = nI V) (hV4 : V ≤ 4) (hT : MT st N) (Bt : Nat) (hBt : bsum (fA st 5) V = nI Bt) (hBt10 : Bt ≤ 10) (hK : KQ ≤ 16) (hKt : ¬ tu = 0 → KQ < 16) (hrow : ∀ j : Nat, j < KQ → vp_in (fA st 11 j) 64) (hrowk : ¬ tu = 0 → vp_in (fA st 11 KQ) 64) : Met l yX10_solve wsX10_solve ({ frames := 5, cells := 0, slots := 0, locals := 121 }) (va_Pc [.ref (a 0), .int (nI KQ), .int tu] (wl_pre (dC, dI) vwCl (mt k) (mw a k) st sz)) (va_Qi (fun r9 u9 => (r9, u9) = fm_Mod_solve st (nI KQ) tu) (wl_at (dC, dI) vwCl (mt k) (mw a k) (va_A (mw a k st) sz)) (va_A (mw a k st) sz)) 0 0 (va_A (mw a k st) sz) := by
  refine Met.ofW (cc := cX10_solve) (maxL := 8) (ret := (some .boolean)) (by decide) rfl ?_
  intro p e s m args below meth c s₁ B hml hv
  obtain ⟨rfl, hsz, hP, hK, hD0⟩ := hv
  have hx := B.exec
  have hb := B.bytes
  have hr := B.returns
  have hta := aw_hts (atoms_spec (ws := wsX10_solve) B.pre)
  have hown : s.vm.findClass RX10 = some m.cls := findClass_of_methodNamed B.named
  have hlocks := B.notSynchronized
  have hf16 := hta _ mw_635
  have hf54 := hta _ mw_647
  have hf60 := hta _ mw_649
  have hf51 := hta _ mw_646
  have hf73 := hta _ mw_653
  subst hsz
  have hD := hD0.self (sz := s.heap.size)
  generalize hAe : va_A (mw a k st) s.heap.size = A at hD ⊢
  have hAz : ∀ q : Nat, s.heap.size ≤ q → A q := fun q h => by rw [← hAe]; exact Or.inr h
  have hS : va_S A s.heap s.heap [] := va_S.rf
  have hl := lv_entry ([.ref (a 0), .int (nI KQ), .int tu]) (n := 8) (Nat.le_of_ble_eq_true rfl)
  rw [lg_entry_eq]
  generalize (lg_sl ([.ref (a 0), .int (nI KQ), .int tu]) ++ List.replicate (8 - (lg_sl ([.ref (a 0), .int (nI KQ), .int tu])).length) Slot.unset).toArray = ls at hl ⊢
  have hl : lv_has ls 8 [(0, .ref (a 0)), (1, .int ((nI KQ))), (2, .int tu)] := hl
  generalize hR : fm_Mod_solve st (nI KQ) tu = R
  rw [fm_Mod_solve] at hR
  refine lv_iconst (v := (0 : Int32)) hx hb dX10_solve_0 (by decide) ?_
  refine lv_istore_n (lv' := [(3, .int (0 : Int32)), (0, .ref (a 0)), (1, .int ((nI KQ))), (2, .int tu)]) hx hb dX10_solve_1 rfl hl (by decide) rfl (fun ls hl => ?_)
  refine lv_iconst (v := (0 : Int32)) hx hb dX10_solve_2 (by decide) ?_
  refine lv_istore (lv' := [(4, .int (0 : Int32)), (3, .int (0 : Int32)), (0, .ref (a 0)), (1, .int ((nI KQ))), (2, .int tu)]) hx hb dX10_solve_3 hl (by decide) rfl (fun ls hl => ?_)
  have L5 : ∀ (n : Nat) (all : Int32) (i : Nat) (H : Heap) (locs : List Loc) (ls : Array Slot) (RR : Int32 × Nat), fm_Mod_solve_L5 st (nI KQ) tu n all i = RR → (i ≤ V) → V - i < n → va_P (dC, dI) vwCl (mw a k st) H → va_D A (mw a k st) → va_S A s.heap H locs → lv_has ls 8 [(4, .int (nI i)), (3, .int all), (0, .ref (a 0)), (1, .int ((nI KQ))), (2, .int tu)] → (∀ (H : Heap) (locs : List Loc) (ls : Array Slot), va_P (dC, dI) vwCl (mw a k st) H → va_D A (mw a k st) → va_S A s.heap H locs → lv_has ls 8 [(4, .int (nI RR.2)), (3, .int RR.1), (0, .ref (a 0)), (1, .int ((nI KQ))), (2, .int tu)] → W p l e (headSpec wsX10_solve ({ frames := 5, cells := 0, slots := 0, locals := 121 })).room s m ([.ref (a 0), .int (nI KQ), .int tu] : List Value).toArray below meth c H locs 0 0 (MQ below (va_Qi (fun r9 u9 => (r9, u9) = R) (wl_at (dC, dI) vwCl (mt k) (mw a k) A) A) ([.ref (a 0), .int (nI KQ), .int tu] : List Value).toArray s 0 0 A) (F0 m 30 ls [])) → W p l e (headSpec wsX10_solve ({ frames := 5, cells := 0, slots := 0, locals := 121 })).room s m ([.ref (a 0), .int (nI KQ), .int tu] : List Value).toArray below meth c H locs 0 0 (MQ below (va_Qi (fun r9 u9 => (r9, u9) = R) (wl_at (dC, dI) vwCl (mt k) (mw a k) A) A) ([.ref (a 0), .int (nI KQ), .int tu] : List Value).toArray s 0 0 A) (F0 m 5 ls []) := by
    intro n
    induction n with
    | zero =>
      intro all i H locs ls RR hR hi hm hP hD hS hl kk
      exact absurd hm (Nat.not_lt_zero _)
    | succ n ih =>
      intro all i H locs ls RR hR hi hm hP hD hS hl kk
      rw [fm_Mod_solve_L5] at hR
      refine lv_iload hx hb dX10_solve_5 (lv_at hl 0 rfl) ?_
      refine lv_aload_n hx hb dX10_solve_7 rfl (lv_at hl 2 rfl) ?_
      refine va_get (D := (dC, dI)) (ci := 8) (v := .int (gI st 2)) (C := RX10) (T := TX10) (N := 21) hx hb hta inX10 hown hK hP 0 (mr_0 a k st) rfl 2 (by decide) hf16 (fun _ h9 => h9) rfl dX10_solve_8 ?_
      refine lv_icmp_ge (tgt := 30) hx hb dX10_solve_11 (by decide) (fun c11 => ?_) (fun c11 => ?_)
      · skip
        rw [if_pos c11] at hR
        subst hR
        exact kk _ _ ls hP hD hS (lv_sub hl [0, 1, 2, 3, 4] rfl)
      · skip
        rw [if_neg c11] at hR
        have hlt : i < V := wl_lt (by rw [← hV]; exact c11) (by omega)
        refine lv_iload_n hx hb dX10_solve_14 rfl (lv_at hl 1 rfl) ?_
        refine lv_aload_n hx hb dX10_solve_15 rfl (lv_at hl 2 rfl) ?_
        refine va_get (D := (dC, dI)) (ci := 8) (v := .ref (a 8)) (C := RX10) (T := TX10) (N := 21) hx hb hta inX10 hown hK hP 0 (mr_0 a k st) rfl 14 (by decide) hf54 (fun _ h9 => h9) rfl dX10_solve_16 ?_
        refine lv_iload hx hb dX10_solve_19 (lv_at hl 0 rfl) ?_
        refine va_iald hx hb hK hP 8 7 (mr_8 a k st) rfl (wl_in (by omega) (by decide)) dX10_solve_21 ?_
        refine lv_iadd hx hb dX10_solve_22 ?_
        refine lv_istore_n (lv' := [(3, .int (all + (fA st 5 (nI i).toNatClampNeg))), (4, .int (nI i)), (0, .ref (a 0)), (1, .int ((nI KQ))), (2, .int tu)]) hx hb dX10_solve_23 rfl hl (by decide) rfl (fun ls hl => ?_)
        refine lv_iinc (v := nI (i + 1)) (lv' := [(4, .int (nI (i + 1))), (3, .int (all + (fA st 5 (nI i).toNatClampNeg))), (0, .ref (a 0)), (1, .int ((nI KQ))), (2, .int tu)]) hx hb dX10_solve_24 hl (k := 1) rfl (nI_1 _) (by decide) rfl (fun ls hl => ?_)
        refine lv_goto (tgt := 5) hx hb dX10_solve_27 (by decide) ?_
        exact ih (all + (fA st 5 (nI i).toNatClampNeg)) (i + 1) _ _ ls RR hR (by omega) (by omega) hP hD hS (lv_sub hl [0, 1, 2, 3, 4] rfl) kk
  obtain ⟨q5, e5⟩ : ∃ z, (fm_Mod_solve_L5 st (nI KQ) tu 5 (0 : Int32) 0) = z := ⟨_, rfl⟩
  try rw [e5] at hR
  refine L5 5 (0 : Int32) 0 _ _ ls q5 e5 (Nat.zero_le _) (by omega) hP hD hS (lv_sub hl [0, 1, 2, 3, 4] rfl) (fun H locs ls hP hD hS hl => ?_)
  have eb : q5.1 = nI Bt := by rw [← e5]; exact (wm_sum hV hV4).trans hBt
  refine lv_iconst (v := (0 : Int32)) hx hb dX10_solve_30 (by decide) ?_
  refine lv_istore (lv' := [(4, .int (0 : Int32)), (3, .int (q5.1)), (0, .ref (a 0)), (1, .int ((nI KQ))), (2, .int tu)]) hx hb dX10_solve_31 hl (by decide) rfl (fun ls hl => ?_)
  have L33 : ∀ (n : Nat) (cd : Nat) (S1 : XS) (H : Heap) (locs : List Loc) (ls : Array Slot), fm_Mod_solve_L33 st (nI KQ) tu n cd S1 = R → (cd ≤ 2 ^ Bt) → (XF [] [7] [1] st S1) → 2 ^ Bt - cd < n → va_P (dC, dI) vwCl (mw a k S1) H → va_D A (mw a k S1) → va_S A s.heap H locs → lv_has ls 8 [(4, .int (nI cd)), (3, .int (q5.1)), (0, .ref (a 0)), (1, .int ((nI KQ))), (2, .int tu)] → W p l e (headSpec wsX10_solve ({ frames := 5, cells := 0, slots := 0, locals := 121 })).room s m ([.ref (a 0), .int (nI KQ), .int tu] : List Value).toArray below meth c H locs 0 0 (MQ below (va_Qi (fun r9 u9 => (r9, u9) = R) (wl_at (dC, dI) vwCl (mt k) (mw a k) A) A) ([.ref (a 0), .int (nI KQ), .int tu] : List Value).toArray s 0 0 A) (F0 m 33 ls []) := by
    intro n
    induction n with
    | zero =>
      intro cd S1 H locs ls hR hi hF hm hP hD hS hl
      exact absurd hm (Nat.not_lt_zero _)
    | succ n ih =>
      intro cd S1 H locs ls hR hi hF hm hP hD hS hl
      rw [fm_Mod_solve_L33] at hR
      try rw [e5] at hR
      refine lv_iload hx hb dX10_solve_33 (lv_at hl 0 rfl) ?_
      refine lv_iconst (v := (1 : Int32)) hx hb dX10_solve_35 (by decide) ?_
      refine lv_iload_n hx hb dX10_solve_36 rfl (lv_at hl 1 rfl) ?_
      refine lv_ishl hx hb dX10_solve_37 ?_
      have e37 : ((1 : Int32) <<< ((q5.1) &&& 31)) = nI (2 ^ Bt) := (by rw [eb]; exact wm_sh hBt10)
      rw [e37]
      try rw [e37] at hR
      refine lv_icmp_ge (tgt := 186) hx hb dX10_solve_38 (by decide) (fun c38 => ?_) (fun c38 => ?_)
      · skip
        rw [if_pos c38] at hR
        refine lv_iconst (v := (0 : Int32)) hx hb dX10_solve_186 (by decide) ?_
        exact W.zret (v := (0 : Int32)) (ty := .boolean) hx hb hr rfl (fun t ht hW => ⟨⟨_, _, rfl, hR, by rw [ht]; exact hP, va_K.moved hW.alike hK, hD⟩, hS.F ht⟩) hS.2.2 dX10_solve_187
      · skip
        rw [if_neg c38] at hR
        have hlt : cd < 2 ^ Bt := wl_lt c38 (wl_plt hBt10 hi)
        refine lv_iload_n hx hb dX10_solve_41 rfl (lv_at hl 1 rfl) ?_
        refine lv_istore (lv' := [(5, .int (q5.1)), (4, .int (nI cd)), (3, .int (q5.1)), (0, .ref (a 0)), (1, .int ((nI KQ))), (2, .int tu)]) hx hb dX10_solve_42 hl (by decide) rfl (fun ls hl => ?_)
        refine lv_iconst (v := (0 : Int32)) hx hb dX10_solve_44 (by decide) ?_
        refine lv_istore (lv' := [(6, .int (0 : Int32)), (5, .int (q5.1)), (4, .int (nI cd)), (3, .int (q5.1)), (0, .ref (a 0)), (1, .int ((nI KQ))), (2, .int tu)]) hx hb dX10_solve_45 hl (by decide) rfl (fun ls hl => ?_)
        have L47 : ∀ (n : Nat) (lf : Int32) (j : Nat) (S2 : XS) (H : Heap) (locs : List Loc) (ls : Array Slot) (RR : Int32 × Nat × XS), fm_Mod_solve_L47 st (nI KQ) tu cd S1 n lf j S2 = RR → (j ≤ V) → (XF [] [7] [1] st S2) → V - j < n → va_P (dC, dI) vwCl (mw a k S2) H → va_D A (mw a k S2) → va_S A s.heap H locs → lv_has ls 8 [(6, .int (nI j)), (5, .int lf), (4, .int (nI cd)), (3, .int (q5.1)), (0, .ref (a 0)), (1, .int ((nI KQ))), (2, .int tu)] → (∀ (H : Heap) (locs : List Loc) (ls : Array Slot), va_P (dC, dI) vwCl (mw a k RR.2.2) H → va_D A (mw a k RR.2.2) → va_S A s.heap H locs → lv_has ls 8 [(6, .int (nI RR.2.1)), (5, .int RR.1), (4, .int (nI cd)), (3, .int (q5.1)), (0, .ref (a 0)), (1, .int ((nI KQ))), (2, .int tu)] → W p l e (headSpec wsX10_solve ({ frames := 5, cells := 0, slots := 0, locals := 121 })).room s m ([.ref (a 0), .int (nI KQ), .int tu] : List Value).toArray below meth c H locs 0 0 (MQ below (va_Qi (fun r9 u9 => (r9, u9) = R) (wl_at (dC, dI) vwCl (mt k) (mw a k) A) A) ([.ref (a 0), .int (nI KQ), .int tu] : List Value).toArray s 0 0 A) (F0 m 98 ls [])) → W p l e (headSpec wsX10_solve ({ frames := 5, cells := 0, slots := 0, locals := 121 })).room s m ([.ref (a 0), .int (nI KQ), .int tu] : List Value).toArray below meth c H locs 0 0 (MQ below (va_Qi (fun r9 u9 => (r9, u9) = R) (wl_at (dC, dI) vwCl (mt k) (mw a k) A) A) ([.ref (a 0), .int (nI KQ), .int tu] : List Value).toArray s 0 0 A) (F0 m 47 ls []) := by
          intro n
          induction n with
          | zero =>
            intro lf j S2 H locs ls RR hR hj hF2 hm hP hD hS hl kk
            exact absurd hm (Nat.not_lt_zero _)
          | succ n ih =>
            intro lf j S2 H locs ls RR hR hj hF2 hm hP hD hS hl kk
            rw [fm_Mod_solve_L47] at hR
            try rw [e5] at hR
            try rw [e37] at hR
            refine lv_iload hx hb dX10_solve_47 (lv_at hl 0 rfl) ?_
            refine lv_aload_n hx hb dX10_solve_49 rfl (lv_at hl 4 rfl) ?_
            refine va_get (D := (dC, dI)) (ci := 8) (v := .int (gI S2 2)) (C := RX10) (T := TX10) (N := 21) hx hb hta inX10 hown hK hP 0 (mr_0 a k S2) rfl 2 (by decide) hf16 (fun _ h9 => h9) rfl dX10_solve_50 ?_
            refine lv_icmp_ge (tgt := 98) hx hb dX10_solve_53 (by decide) (fun c53 => ?_) (fun c53 => ?_)
            · skip
              rw [if_pos c53] at hR
              subst hR
              exact kk _ _ ls hP hD hS (lv_sub hl [0, 1, 2, 3, 4, 5, 6] rfl)
            · skip
              rw [if_neg c53] at hR
              have hj4 : j < V := wl_lt (by rw [← hV, ← hF2.I 2 (by decide)]; exact c53) (by omega)
              refine lv_iload hx hb dX10_solve_56 (lv_at hl 1 rfl) ?_
              refine lv_aload_n hx hb dX10_solve_58 rfl (lv_at hl 4 rfl) ?_
              refine va_get (D := (dC, dI)) (ci := 8) (v := .ref (a 8)) (C := RX10) (T := TX10) (N := 21) hx hb hta inX10 hown hK hP 0 (mr_0 a k S2) rfl 14 (by decide) hf54 (fun _ h9 => h9) rfl dX10_solve_59 ?_
              refine lv_iload hx hb dX10_solve_62 (lv_at hl 0 rfl) ?_
              refine va_iald hx hb hK hP 8 7 (mr_8 a k S2) rfl (wl_in (by omega) (by decide)) dX10_solve_64 ?_
              refine lv_isub hx hb dX10_solve_65 ?_
              refine lv_istore (lv' := [(5, .int (lf - (fA S2 5 (nI j).toNatClampNeg))), (6, .int (nI j)), (4, .int (nI cd)), (3, .int (q5.1)), (0, .ref (a 0)), (1, .int ((nI KQ))), (2, .int tu)]) hx hb dX10_solve_66 hl (by decide) rfl (fun ls hl => ?_)
              refine lv_aload_n hx hb dX10_solve_68 rfl (lv_at hl 4 rfl) ?_
              refine va_get (D := (dC, dI)) (ci := 8) (v := .ref (a 10)) (C := RX10) (T := TX10) (N := 21) hx hb hta inX10 hown hK hP 0 (mr_0 a k S2) rfl 16 (by decide) hf60 (fun _ h9 => h9) rfl dX10_solve_69 ?_
              refine lv_iload hx hb dX10_solve_72 (lv_at hl 1 rfl) ?_
              refine lv_iload hx hb dX10_solve_74 (lv_at hl 2 rfl) ?_
              refine lv_iload hx hb dX10_solve_76 (lv_at hl 0 rfl) ?_
              refine lv_ishr hx hb dX10_solve_78 ?_
              refine lv_iconst (v := (1 : Int32)) hx hb dX10_solve_79 (by decide) ?_
              refine lv_aload_n hx hb dX10_solve_80 rfl (lv_at hl 4 rfl) ?_
              refine va_get (D := (dC, dI)) (ci := 8) (v := .ref (a 8)) (C := RX10) (T := TX10) (N := 21) hx hb hta inX10 hown hK hP 0 (mr_0 a k S2) rfl 14 (by decide) hf54 (fun _ h9 => h9) rfl dX10_solve_81 ?_
              refine lv_iload hx hb dX10_solve_84 (lv_at hl 1 rfl) ?_
              refine va_iald hx hb hK hP 8 7 (mr_8 a k S2) rfl (wl_in (by omega) (by decide)) dX10_solve_86 ?_
              refine lv_ishl hx hb dX10_solve_87 ?_
              refine lv_iconst (v := (1 : Int32)) hx hb dX10_solve_88 (by decide) ?_
              refine lv_isub hx hb dX10_solve_89 ?_
              refine lv_iand hx hb dX10_solve_90 ?_
              refine va_iast hx hb hK hP hD hS 10 9 (mr_10 a k S2) rfl (wl_in (by omega) (by decide)) dX10_solve_91 (fun H locs hP hD hS => ?_)
              have hP := mp_A7 hP
              have hD := md_A7 hD
              refine lv_iinc (v := nI (j + 1)) (lv' := [(6, .int (nI (j + 1))), (5, .int (lf - (fA S2 5 (nI j).toNatClampNeg))), (4, .int (nI cd)), (3, .int (q5.1)), (0, .ref (a 0)), (1, .int ((nI KQ))), (2, .int tu)]) hx hb dX10_solve_92 hl (k := 1) rfl (nI_1 _) (by decide) rfl (fun ls hl => ?_)
              refine lv_goto (tgt := 47) hx hb dX10_solve_95 (by decide) ?_
              exact ih (lf - (fA S2 5 (nI j).toNatClampNeg)) (j + 1) (wA S2 7 ((nI j).toNatClampNeg) (((nI cd) >>> ((lf - (fA S2 5 (nI j).toNatClampNeg)) &&& 31)) &&& (((1 : Int32) <<< ((fA S2 5 (nI j).toNatClampNeg) &&& 31)) - (1 : Int32)))) _ _ ls RR hR (by omega) (XF.wA (by decide) hF2) (by omega) hP hD hS (lv_sub hl [0, 1, 2, 3, 4, 5, 6] rfl) kk
        obtain ⟨q47, e47⟩ : ∃ z, (fm_Mod_solve_L47 st (nI KQ) tu cd S1 5 (q5.1) 0 S1) = z := ⟨_, rfl⟩
        try rw [e47] at hR
        refine L47 5 (q5.1) 0 S1 _ _ ls q47 e47 (Nat.zero_le _) hF (by omega) hP hD hS (lv_sub hl [0, 1, 2, 3, 4, 5, 6] rfl) (fun H locs ls hP hD hS hl => ?_)
        have hF2 : XF [] [7] [1] st q47.2.2 := by rw [← e47]; exact (fr_Mod_solve_L47 _ _ _ _ _ _ _ _ _ hF)
        refine lv_aload_n hx hb dX10_solve_98 rfl (lv_at hl 4 rfl) ?_
        refine wl_mv (va_runV (As := []) (rest := []) ⟨hx, hb, hml, hown, hta⟩ (km_Mod_work l dC dI a k (q47.2.2) _ N ((hF2.I 0 (by decide)).trans hN) h64 (hT.fr hF2 (by decide))) (cwV 0 hta gX10_146 rfl rfl rfl (by decide +kernel) ⟨Nat.le_of_ble_eq_true rfl, Nat.le_of_ble_eq_true rfl⟩) (wl_pM (C := RX10) (ci := 8) (q0 := 0) hK hP hD rfl (mr_0 a k (q47.2.2))) rfl rfl hl.1 rfl (lv_room (Nat.le_of_ble_eq_true rfl)) dX10_solve_99 ⟨Nat.zero_le _, Nat.zero_le _⟩) hP hD hS hAz (fun u99 H locs hw99 hP hD hS => ?_)
        have w99 : fm_Mod_work (q47.2.2) = u99 := hw99.symm
        have hf99 : XF [] [] [1] (q47.2.2) u99 := by rw [← w99]; exact ff_Mod_work (q47.2.2)
        try rw [w99] at hR
        have hF3 : XF [] [7] [1] st u99 := XF.tr hF2 (hf99.mono (by decide) (by decide) (by decide))
        refine lv_iload_n hx hb dX10_solve_102 rfl (lv_at hl 6 rfl) ?_
        refine lv_if_eq (tgt := 122) hx hb dX10_solve_103 (by decide) (fun c103 => ?_) (fun c103 => ?_)
        · skip
          rw [if_pos c103] at hR
          refine lv_iconst (v := (1 : Int32)) hx hb dX10_solve_122 (by decide) ?_
          refine lv_goto (tgt := 127) hx hb dX10_solve_123 (by decide) ?_
          refine lv_istore (lv' := [(6, .int (1 : Int32)), (5, .int (q47.1)), (4, .int (nI cd)), (3, .int (q5.1)), (0, .ref (a 0)), (1, .int ((nI KQ))), (2, .int tu)]) hx hb dX10_solve_127 hl (by decide) rfl (fun ls hl => ?_)
          refine lv_iconst (v := (0 : Int32)) hx hb dX10_solve_129 (by decide) ?_
          refine lv_istore (lv' := [(7, .int (0 : Int32)), (6, .int (1 : Int32)), (5, .int (q47.1)), (4, .int (nI cd)), (3, .int (q5.1)), (0, .ref (a 0)), (1, .int ((nI KQ))), (2, .int tu)]) hx hb dX10_solve_130 hl (by decide) rfl (fun ls hl => ?_)
          have L132 : ∀ (n : Nat) (hd : Int32) (j : Nat) (H : Heap) (locs : List Loc) (ls : Array Slot) (RR : Int32 × Nat), fm_Mod_solve_L132 st (nI KQ) tu cd S1 n hd j = RR → (j ≤ KQ) → KQ - j < n → va_P (dC, dI) vwCl (mw a k (u99)) H → va_D A (mw a k (u99)) → va_S A s.heap H locs → lv_has ls 8 [(7, .int (nI j)), (6, .int hd), (5, .int (q47.1)), (4, .int (nI cd)), (3, .int (q5.1)), (0, .ref (a 0)), (1, .int ((nI KQ))), (2, .int tu)] → (∀ (H : Heap) (locs : List Loc) (ls : Array Slot), va_P (dC, dI) vwCl (mw a k (u99)) H → va_D A (mw a k (u99)) → va_S A s.heap H locs → lv_has ls 8 [(7, .int (nI RR.2)), (6, .int RR.1), (5, .int (q47.1)), (4, .int (nI cd)), (3, .int (q5.1)), (0, .ref (a 0)), (1, .int ((nI KQ))), (2, .int tu)] → W p l e (headSpec wsX10_solve ({ frames := 5, cells := 0, slots := 0, locals := 121 })).room s m ([.ref (a 0), .int (nI KQ), .int tu] : List Value).toArray below meth c H locs 0 0 (MQ below (va_Qi (fun r9 u9 => (r9, u9) = R) (wl_at (dC, dI) vwCl (mt k) (mw a k) A) A) ([.ref (a 0), .int (nI KQ), .int tu] : List Value).toArray s 0 0 A) (F0 m 173 ls [])) → W p l e (headSpec wsX10_solve ({ frames := 5, cells := 0, slots := 0, locals := 121 })).room s m ([.ref (a 0), .int (nI KQ), .int tu] : List Value).toArray below meth c H locs 0 0 (MQ below (va_Qi (fun r9 u9 => (r9, u9) = R) (wl_at (dC, dI) vwCl (mt k) (mw a k) A) A) ([.ref (a 0), .int (nI KQ), .int tu] : List Value).toArray s 0 0 A) (F0 m 132 ls []) := by
            intro n
            induction n with
            | zero =>
              intro hd j H locs ls RR hR hj hm hP hD hS hl kk
              exact absurd hm (Nat.not_lt_zero _)
            | succ n ih =>
              intro hd j H locs ls RR hR hj hm hP hD hS hl kk
              rw [fm_Mod_solve_L132] at hR
              try rw [e5] at hR
              try rw [e37] at hR
              try rw [e47] at hR
              try rw [w99] at hR
              refine lv_iload hx hb dX10_solve_132 (lv_at hl 0 rfl) ?_
              refine lv_iload_n hx hb dX10_solve_134 rfl (lv_at hl 6 rfl) ?_
              refine lv_icmp_ge (tgt := 173) hx hb dX10_solve_135 (by decide) (fun c135 => ?_) (fun c135 => ?_)
              · skip
                rw [if_pos c135] at hR
                subst hR
                exact kk _ _ ls hP hD hS (lv_sub hl [0, 1, 2, 3, 4, 5, 6, 7] rfl)
              · skip
                rw [if_neg c135] at hR
                have hjK : j < KQ := wl_lt c135 (by omega)
                refine lv_iload hx hb dX10_solve_138 (lv_at hl 1 rfl) ?_
                refine lv_if_eq (tgt := 173) hx hb dX10_solve_140 (by decide) (fun c140 => ?_) (fun c140 => ?_)
                · skip
                  rw [if_pos c140] at hR
                  subst hR
                  exact kk _ _ ls hP hD hS (lv_sub hl [0, 1, 2, 3, 4, 5, 6, 7] rfl)
                · skip
                  rw [if_neg c140] at hR
                  refine lv_aload_n hx hb dX10_solve_143 rfl (lv_at hl 5 rfl) ?_
                  refine va_get (D := (dC, dI)) (ci := 8) (v := .ref (a 7)) (C := RX10) (T := TX10) (N := 21) hx hb hta inX10 hown hK hP 0 (mr_0 a k (u99)) rfl 13 (by decide) hf51 (fun _ h9 => h9) rfl dX10_solve_144 ?_
                  refine lv_aload_n hx hb dX10_solve_147 rfl (lv_at hl 5 rfl) ?_
                  refine va_get (D := (dC, dI)) (ci := 8) (v := .ref (a 14)) (C := RX10) (T := TX10) (N := 21) hx hb hta inX10 hown hK hP 0 (mr_0 a k (u99)) rfl 20 (by decide) hf73 (fun _ h9 => h9) rfl dX10_solve_148 ?_
                  refine lv_iload hx hb dX10_solve_151 (lv_at hl 0 rfl) ?_
                  refine va_iald hx hb hK hP 14 13 (mr_14 a k (u99)) rfl (wl_in (by omega) (by decide)) dX10_solve_153 ?_
                  have e153 : (fA (u99) 11 (nI j).toNatClampNeg) = fA st 11 j := (by rw [hF3.A 11 (by decide), nI_clamp (by omega)])
                  rw [e153]
                  try rw [e153] at hR
                  refine va_lald hx hb hK hP 7 6 (mr_7 a k (u99)) rfl (hrow j hjK) dX10_solve_154 ?_
                  refine lv_lconst (v := (1 : Int64)) hx hb dX10_solve_155 (by decide) ?_
                  refine W.lcmp hx hb dX10_solve_156 ?_
                  refine lv_if_ne (tgt := 164) hx hb dX10_solve_157 (by decide) (fun c157 => ?_) (fun c157 => ?_)
                  · skip
                    rw [if_neg c157] at hR
                    refine lv_iconst (v := (0 : Int32)) hx hb dX10_solve_164 (by decide) ?_
                    refine lv_istore (lv' := [(6, .int (0 : Int32)), (7, .int (nI j)), (5, .int (q47.1)), (4, .int (nI cd)), (3, .int (q5.1)), (0, .ref (a 0)), (1, .int ((nI KQ))), (2, .int tu)]) hx hb dX10_solve_165 hl (by decide) rfl (fun ls hl => ?_)
                    refine lv_iinc (v := nI (j + 1)) (lv' := [(7, .int (nI (j + 1))), (6, .int (0 : Int32)), (5, .int (q47.1)), (4, .int (nI cd)), (3, .int (q5.1)), (0, .ref (a 0)), (1, .int ((nI KQ))), (2, .int tu)]) hx hb dX10_solve_167 hl (k := 1) rfl (nI_1 _) (by decide) rfl (fun ls hl => ?_)
                    refine lv_goto (tgt := 132) hx hb dX10_solve_170 (by decide) ?_
                    exact ih (0 : Int32) (j + 1) _ _ ls RR hR (by omega) (by omega) hP hD hS (lv_sub hl [0, 1, 2, 3, 4, 5, 6, 7] rfl) kk
                  · skip
                    rw [if_pos c157] at hR
                    refine lv_iconst (v := (1 : Int32)) hx hb dX10_solve_160 (by decide) ?_
                    refine lv_goto (tgt := 165) hx hb dX10_solve_161 (by decide) ?_
                    refine lv_istore (lv' := [(6, .int (1 : Int32)), (7, .int (nI j)), (5, .int (q47.1)), (4, .int (nI cd)), (3, .int (q5.1)), (0, .ref (a 0)), (1, .int ((nI KQ))), (2, .int tu)]) hx hb dX10_solve_165 hl (by decide) rfl (fun ls hl => ?_)
                    refine lv_iinc (v := nI (j + 1)) (lv' := [(7, .int (nI (j + 1))), (6, .int (1 : Int32)), (5, .int (q47.1)), (4, .int (nI cd)), (3, .int (q5.1)), (0, .ref (a 0)), (1, .int ((nI KQ))), (2, .int tu)]) hx hb dX10_solve_167 hl (k := 1) rfl (nI_1 _) (by decide) rfl (fun ls hl => ?_)
                    refine lv_goto (tgt := 132) hx hb dX10_solve_170 (by decide) ?_
                    exact ih (1 : Int32) (j + 1) _ _ ls RR hR (by omega) (by omega) hP hD hS (lv_sub hl [0, 1, 2, 3, 4, 5, 6, 7] rfl) kk
          obtain ⟨q132, e132⟩ : ∃ z, (fm_Mod_solve_L132 st (nI KQ) tu cd S1 17 (1 : Int32) 0) = z := ⟨_, rfl⟩
          try rw [e132] at hR
          refine L132 17 (1 : Int32) 0 _ _ ls q132 e132 (Nat.zero_le _) (by omega) hP hD hS (lv_sub hl [0, 1, 2, 3, 4, 5, 6, 7] rfl) (fun H locs ls hP hD hS hl => ?_)
          refine lv_iload hx hb dX10_solve_173 (lv_at hl 1 rfl) ?_
          refine lv_if_eq (tgt := 180) hx hb dX10_solve_175 (by decide) (fun c175 => ?_) (fun c175 => ?_)
          · skip
            rw [if_pos c175] at hR
            refine lv_iinc (v := nI (cd + 1)) (lv' := [(4, .int (nI (cd + 1))), (7, .int ((nI q132.2))), (6, .int (q132.1)), (5, .int (q47.1)), (3, .int (q5.1)), (0, .ref (a 0)), (1, .int ((nI KQ))), (2, .int tu)]) hx hb dX10_solve_180 hl (k := 3) rfl (nI_1 _) (by decide) rfl (fun ls hl => ?_)
            refine lv_goto (tgt := 33) hx hb dX10_solve_183 (by decide) ?_
            exact ih (cd + 1) (u99) _ _ ls hR (by omega) hF3 (by omega) hP hD hS (lv_sub hl [0, 4, 5, 6, 7] rfl)
          · skip
            rw [if_neg c175] at hR
            refine lv_iconst (v := (1 : Int32)) hx hb dX10_solve_178 (by decide) ?_
            exact W.zret (v := (1 : Int32)) (ty := .boolean) hx hb hr rfl (fun t ht hW => ⟨⟨_, _, rfl, hR, by rw [ht]; exact hP, va_K.moved hW.alike hK, hD⟩, hS.F ht⟩) hS.2.2 dX10_solve_179
        · skip
          rw [if_neg c103] at hR
          refine lv_aload_n hx hb dX10_solve_106 rfl (lv_at hl 4 rfl) ?_
          refine va_get (D := (dC, dI)) (ci := 8) (v := .ref (a 7)) (C := RX10) (T := TX10) (N := 21) hx hb hta inX10 hown hK hP 0 (mr_0 a k (u99)) rfl 13 (by decide) hf51 (fun _ h9 => h9) rfl dX10_solve_107 ?_
          refine lv_aload_n hx hb dX10_solve_110 rfl (lv_at hl 4 rfl) ?_
          refine va_get (D := (dC, dI)) (ci := 8) (v := .ref (a 14)) (C := RX10) (T := TX10) (N := 21) hx hb hta inX10 hown hK hP 0 (mr_0 a k (u99)) rfl 20 (by decide) hf73 (fun _ h9 => h9) rfl dX10_solve_111 ?_
          refine lv_iload_n hx hb dX10_solve_114 rfl (lv_at hl 5 rfl) ?_
          refine va_iald hx hb hK hP 14 13 (mr_14 a k (u99)) rfl (wl_in (hKt c103) (by decide)) dX10_solve_115 ?_
          have e115 : (fA (u99) 11 ((nI KQ)).toNatClampNeg) = fA st 11 KQ := (by rw [hF3.A 11 (by decide), nI_clamp (by omega)])
          rw [e115]
          try rw [e115] at hR
          refine va_lald hx hb hK hP 7 6 (mr_7 a k (u99)) rfl (hrowk c103) dX10_solve_116 ?_
          refine lv_lconst (v := (0 : Int64)) hx hb dX10_solve_117 (by decide) ?_
          refine W.lcmp hx hb dX10_solve_118 ?_
          refine lv_if_ne (tgt := 126) hx hb dX10_solve_119 (by decide) (fun c119 => ?_) (fun c119 => ?_)
          · skip
            rw [if_neg c119] at hR
            refine lv_iconst (v := (0 : Int32)) hx hb dX10_solve_126 (by decide) ?_
            refine lv_istore (lv' := [(6, .int (0 : Int32)), (5, .int (q47.1)), (4, .int (nI cd)), (3, .int (q5.1)), (0, .ref (a 0)), (1, .int ((nI KQ))), (2, .int tu)]) hx hb dX10_solve_127 hl (by decide) rfl (fun ls hl => ?_)
            refine lv_iconst (v := (0 : Int32)) hx hb dX10_solve_129 (by decide) ?_
            refine lv_istore (lv' := [(7, .int (0 : Int32)), (6, .int (0 : Int32)), (5, .int (q47.1)), (4, .int (nI cd)), (3, .int (q5.1)), (0, .ref (a 0)), (1, .int ((nI KQ))), (2, .int tu)]) hx hb dX10_solve_130 hl (by decide) rfl (fun ls hl => ?_)
            have L132 : ∀ (n : Nat) (hd : Int32) (j : Nat) (H : Heap) (locs : List Loc) (ls : Array Slot) (RR : Int32 × Nat), fm_Mod_solve_L132 st (nI KQ) tu cd S1 n hd j = RR → (j ≤ KQ) → KQ - j < n → va_P (dC, dI) vwCl (mw a k (u99)) H → va_D A (mw a k (u99)) → va_S A s.heap H locs → lv_has ls 8 [(7, .int (nI j)), (6, .int hd), (5, .int (q47.1)), (4, .int (nI cd)), (3, .int (q5.1)), (0, .ref (a 0)), (1, .int ((nI KQ))), (2, .int tu)] → (∀ (H : Heap) (locs : List Loc) (ls : Array Slot), va_P (dC, dI) vwCl (mw a k (u99)) H → va_D A (mw a k (u99)) → va_S A s.heap H locs → lv_has ls 8 [(7, .int (nI RR.2)), (6, .int RR.1), (5, .int (q47.1)), (4, .int (nI cd)), (3, .int (q5.1)), (0, .ref (a 0)), (1, .int ((nI KQ))), (2, .int tu)] → W p l e (headSpec wsX10_solve ({ frames := 5, cells := 0, slots := 0, locals := 121 })).room s m ([.ref (a 0), .int (nI KQ), .int tu] : List Value).toArray below meth c H locs 0 0 (MQ below (va_Qi (fun r9 u9 => (r9, u9) = R) (wl_at (dC, dI) vwCl (mt k) (mw a k) A) A) ([.ref (a 0), .int (nI KQ), .int tu] : List Value).toArray s 0 0 A) (F0 m 173 ls [])) → W p l e (headSpec wsX10_solve ({ frames := 5, cells := 0, slots := 0, locals := 121 })).room s m ([.ref (a 0), .int (nI KQ), .int tu] : List Value).toArray below meth c H locs 0 0 (MQ below (va_Qi (fun r9 u9 => (r9, u9) = R) (wl_at (dC, dI) vwCl (mt k) (mw a k) A) A) ([.ref (a 0), .int (nI KQ), .int tu] : List Value).toArray s 0 0 A) (F0 m 132 ls []) := by
              intro n
              induction n with
              | zero =>
                intro hd j H locs ls RR hR hj hm hP hD hS hl kk
                exact absurd hm (Nat.not_lt_zero _)
              | succ n ih =>
                intro hd j H locs ls RR hR hj hm hP hD hS hl kk
                rw [fm_Mod_solve_L132] at hR
                try rw [e5] at hR
                try rw [e37] at hR
                try rw [e47] at hR
                try rw [w99] at hR
                try rw [e115] at hR
                refine lv_iload hx hb dX10_solve_132 (lv_at hl 0 rfl) ?_
                refine lv_iload_n hx hb dX10_solve_134 rfl (lv_at hl 6 rfl) ?_
                refine lv_icmp_ge (tgt := 173) hx hb dX10_solve_135 (by decide) (fun c135 => ?_) (fun c135 => ?_)
                · skip
                  rw [if_pos c135] at hR
                  subst hR
                  exact kk _ _ ls hP hD hS (lv_sub hl [0, 1, 2, 3, 4, 5, 6, 7] rfl)
                · skip
                  rw [if_neg c135] at hR
                  have hjK : j < KQ := wl_lt c135 (by omega)
                  refine lv_iload hx hb dX10_solve_138 (lv_at hl 1 rfl) ?_
                  refine lv_if_eq (tgt := 173) hx hb dX10_solve_140 (by decide) (fun c140 => ?_) (fun c140 => ?_)
                  · skip
                    rw [if_pos c140] at hR
                    subst hR
                    exact kk _ _ ls hP hD hS (lv_sub hl [0, 1, 2, 3, 4, 5, 6, 7] rfl)
                  · skip
                    rw [if_neg c140] at hR
                    refine lv_aload_n hx hb dX10_solve_143 rfl (lv_at hl 5 rfl) ?_
                    refine va_get (D := (dC, dI)) (ci := 8) (v := .ref (a 7)) (C := RX10) (T := TX10) (N := 21) hx hb hta inX10 hown hK hP 0 (mr_0 a k (u99)) rfl 13 (by decide) hf51 (fun _ h9 => h9) rfl dX10_solve_144 ?_
                    refine lv_aload_n hx hb dX10_solve_147 rfl (lv_at hl 5 rfl) ?_
                    refine va_get (D := (dC, dI)) (ci := 8) (v := .ref (a 14)) (C := RX10) (T := TX10) (N := 21) hx hb hta inX10 hown hK hP 0 (mr_0 a k (u99)) rfl 20 (by decide) hf73 (fun _ h9 => h9) rfl dX10_solve_148 ?_
                    refine lv_iload hx hb dX10_solve_151 (lv_at hl 0 rfl) ?_
                    refine va_iald hx hb hK hP 14 13 (mr_14 a k (u99)) rfl (wl_in (by omega) (by decide)) dX10_solve_153 ?_
                    have e153 : (fA (u99) 11 (nI j).toNatClampNeg) = fA st 11 j := (by rw [hF3.A 11 (by decide), nI_clamp (by omega)])
                    rw [e153]
                    try rw [e153] at hR
                    refine va_lald hx hb hK hP 7 6 (mr_7 a k (u99)) rfl (hrow j hjK) dX10_solve_154 ?_
                    refine lv_lconst (v := (1 : Int64)) hx hb dX10_solve_155 (by decide) ?_
                    refine W.lcmp hx hb dX10_solve_156 ?_
                    refine lv_if_ne (tgt := 164) hx hb dX10_solve_157 (by decide) (fun c157 => ?_) (fun c157 => ?_)
                    · skip
                      rw [if_neg c157] at hR
                      refine lv_iconst (v := (0 : Int32)) hx hb dX10_solve_164 (by decide) ?_
                      refine lv_istore (lv' := [(6, .int (0 : Int32)), (7, .int (nI j)), (5, .int (q47.1)), (4, .int (nI cd)), (3, .int (q5.1)), (0, .ref (a 0)), (1, .int ((nI KQ))), (2, .int tu)]) hx hb dX10_solve_165 hl (by decide) rfl (fun ls hl => ?_)
                      refine lv_iinc (v := nI (j + 1)) (lv' := [(7, .int (nI (j + 1))), (6, .int (0 : Int32)), (5, .int (q47.1)), (4, .int (nI cd)), (3, .int (q5.1)), (0, .ref (a 0)), (1, .int ((nI KQ))), (2, .int tu)]) hx hb dX10_solve_167 hl (k := 1) rfl (nI_1 _) (by decide) rfl (fun ls hl => ?_)
                      refine lv_goto (tgt := 132) hx hb dX10_solve_170 (by decide) ?_
                      exact ih (0 : Int32) (j + 1) _ _ ls RR hR (by omega) (by omega) hP hD hS (lv_sub hl [0, 1, 2, 3, 4, 5, 6, 7] rfl) kk
                    · skip
                      rw [if_pos c157] at hR
                      refine lv_iconst (v := (1 : Int32)) hx hb dX10_solve_160 (by decide) ?_
                      refine lv_goto (tgt := 165) hx hb dX10_solve_161 (by decide) ?_
                      refine lv_istore (lv' := [(6, .int (1 : Int32)), (7, .int (nI j)), (5, .int (q47.1)), (4, .int (nI cd)), (3, .int (q5.1)), (0, .ref (a 0)), (1, .int ((nI KQ))), (2, .int tu)]) hx hb dX10_solve_165 hl (by decide) rfl (fun ls hl => ?_)
                      refine lv_iinc (v := nI (j + 1)) (lv' := [(7, .int (nI (j + 1))), (6, .int (1 : Int32)), (5, .int (q47.1)), (4, .int (nI cd)), (3, .int (q5.1)), (0, .ref (a 0)), (1, .int ((nI KQ))), (2, .int tu)]) hx hb dX10_solve_167 hl (k := 1) rfl (nI_1 _) (by decide) rfl (fun ls hl => ?_)
                      refine lv_goto (tgt := 132) hx hb dX10_solve_170 (by decide) ?_
                      exact ih (1 : Int32) (j + 1) _ _ ls RR hR (by omega) (by omega) hP hD hS (lv_sub hl [0, 1, 2, 3, 4, 5, 6, 7] rfl) kk
            obtain ⟨q132, e132⟩ : ∃ z, (fm_Mod_solve_L132 st (nI KQ) tu cd S1 17 (0 : Int32) 0) = z := ⟨_, rfl⟩
            try rw [e132] at hR
            refine L132 17 (0 : Int32) 0 _ _ ls q132 e132 (Nat.zero_le _) (by omega) hP hD hS (lv_sub hl [0, 1, 2, 3, 4, 5, 6, 7] rfl) (fun H locs ls hP hD hS hl => ?_)
            refine lv_iload hx hb dX10_solve_173 (lv_at hl 1 rfl) ?_
            refine lv_if_eq (tgt := 180) hx hb dX10_solve_175 (by decide) (fun c175 => ?_) (fun c175 => ?_)
            · skip
              rw [if_pos c175] at hR
              refine lv_iinc (v := nI (cd + 1)) (lv' := [(4, .int (nI (cd + 1))), (7, .int ((nI q132.2))), (6, .int (q132.1)), (5, .int (q47.1)), (3, .int (q5.1)), (0, .ref (a 0)), (1, .int ((nI KQ))), (2, .int tu)]) hx hb dX10_solve_180 hl (k := 3) rfl (nI_1 _) (by decide) rfl (fun ls hl => ?_)
              refine lv_goto (tgt := 33) hx hb dX10_solve_183 (by decide) ?_
              exact ih (cd + 1) (u99) _ _ ls hR (by omega) hF3 (by omega) hP hD hS (lv_sub hl [0, 4, 5, 6, 7] rfl)
            · skip
              rw [if_neg c175] at hR
              refine lv_iconst (v := (1 : Int32)) hx hb dX10_solve_178 (by decide) ?_
              exact W.zret (v := (1 : Int32)) (ty := .boolean) hx hb hr rfl (fun t ht hW => ⟨⟨_, _, rfl, hR, by rw [ht]; exact hP, va_K.moved hW.alike hK, hD⟩, hS.F ht⟩) hS.2.2 dX10_solve_179
          · skip
            rw [if_pos c119] at hR
            refine lv_iconst (v := (1 : Int32)) hx hb dX10_solve_122 (by decide) ?_
            refine lv_goto (tgt := 127) hx hb dX10_solve_123 (by decide) ?_
            refine lv_istore (lv' := [(6, .int (1 : Int32)), (5, .int (q47.1)), (4, .int (nI cd)), (3, .int (q5.1)), (0, .ref (a 0)), (1, .int ((nI KQ))), (2, .int tu)]) hx hb dX10_solve_127 hl (by decide) rfl (fun ls hl => ?_)
            refine lv_iconst (v := (0 : Int32)) hx hb dX10_solve_129 (by decide) ?_
            refine lv_istore (lv' := [(7, .int (0 : Int32)), (6, .int (1 : Int32)), (5, .int (q47.1)), (4, .int (nI cd)), (3, .int (q5.1)), (0, .ref (a 0)), (1, .int ((nI KQ))), (2, .int tu)]) hx hb dX10_solve_130 hl (by decide) rfl (fun ls hl => ?_)
            have L132 : ∀ (n : Nat) (hd : Int32) (j : Nat) (H : Heap) (locs : List Loc) (ls : Array Slot) (RR : Int32 × Nat), fm_Mod_solve_L132 st (nI KQ) tu cd S1 n hd j = RR → (j ≤ KQ) → KQ - j < n → va_P (dC, dI) vwCl (mw a k (u99)) H → va_D A (mw a k (u99)) → va_S A s.heap H locs → lv_has ls 8 [(7, .int (nI j)), (6, .int hd), (5, .int (q47.1)), (4, .int (nI cd)), (3, .int (q5.1)), (0, .ref (a 0)), (1, .int ((nI KQ))), (2, .int tu)] → (∀ (H : Heap) (locs : List Loc) (ls : Array Slot), va_P (dC, dI) vwCl (mw a k (u99)) H → va_D A (mw a k (u99)) → va_S A s.heap H locs → lv_has ls 8 [(7, .int (nI RR.2)), (6, .int RR.1), (5, .int (q47.1)), (4, .int (nI cd)), (3, .int (q5.1)), (0, .ref (a 0)), (1, .int ((nI KQ))), (2, .int tu)] → W p l e (headSpec wsX10_solve ({ frames := 5, cells := 0, slots := 0, locals := 121 })).room s m ([.ref (a 0), .int (nI KQ), .int tu] : List Value).toArray below meth c H locs 0 0 (MQ below (va_Qi (fun r9 u9 => (r9, u9) = R) (wl_at (dC, dI) vwCl (mt k) (mw a k) A) A) ([.ref (a 0), .int (nI KQ), .int tu] : List Value).toArray s 0 0 A) (F0 m 173 ls [])) → W p l e (headSpec wsX10_solve ({ frames := 5, cells := 0, slots := 0, locals := 121 })).room s m ([.ref (a 0), .int (nI KQ), .int tu] : List Value).toArray below meth c H locs 0 0 (MQ below (va_Qi (fun r9 u9 => (r9, u9) = R) (wl_at (dC, dI) vwCl (mt k) (mw a k) A) A) ([.ref (a 0), .int (nI KQ), .int tu] : List Value).toArray s 0 0 A) (F0 m 132 ls []) := by
              intro n
              induction n with
              | zero =>
                intro hd j H locs ls RR hR hj hm hP hD hS hl kk
                exact absurd hm (Nat.not_lt_zero _)
              | succ n ih =>
                intro hd j H locs ls RR hR hj hm hP hD hS hl kk
                rw [fm_Mod_solve_L132] at hR
                try rw [e5] at hR
                try rw [e37] at hR
                try rw [e47] at hR
                try rw [w99] at hR
                try rw [e115] at hR
                refine lv_iload hx hb dX10_solve_132 (lv_at hl 0 rfl) ?_
                refine lv_iload_n hx hb dX10_solve_134 rfl (lv_at hl 6 rfl) ?_
                refine lv_icmp_ge (tgt := 173) hx hb dX10_solve_135 (by decide) (fun c135 => ?_) (fun c135 => ?_)
                · skip
                  rw [if_pos c135] at hR
                  subst hR
                  exact kk _ _ ls hP hD hS (lv_sub hl [0, 1, 2, 3, 4, 5, 6, 7] rfl)
                · skip
                  rw [if_neg c135] at hR
                  have hjK : j < KQ := wl_lt c135 (by omega)
                  refine lv_iload hx hb dX10_solve_138 (lv_at hl 1 rfl) ?_
                  refine lv_if_eq (tgt := 173) hx hb dX10_solve_140 (by decide) (fun c140 => ?_) (fun c140 => ?_)
                  · skip
                    rw [if_pos c140] at hR
                    subst hR
                    exact kk _ _ ls hP hD hS (lv_sub hl [0, 1, 2, 3, 4, 5, 6, 7] rfl)
                  · skip
                    rw [if_neg c140] at hR
                    refine lv_aload_n hx hb dX10_solve_143 rfl (lv_at hl 5 rfl) ?_
                    refine va_get (D := (dC, dI)) (ci := 8) (v := .ref (a 7)) (C := RX10) (T := TX10) (N := 21) hx hb hta inX10 hown hK hP 0 (mr_0 a k (u99)) rfl 13 (by decide) hf51 (fun _ h9 => h9) rfl dX10_solve_144 ?_
                    refine lv_aload_n hx hb dX10_solve_147 rfl (lv_at hl 5 rfl) ?_
                    refine va_get (D := (dC, dI)) (ci := 8) (v := .ref (a 14)) (C := RX10) (T := TX10) (N := 21) hx hb hta inX10 hown hK hP 0 (mr_0 a k (u99)) rfl 20 (by decide) hf73 (fun _ h9 => h9) rfl dX10_solve_148 ?_
                    refine lv_iload hx hb dX10_solve_151 (lv_at hl 0 rfl) ?_
                    refine va_iald hx hb hK hP 14 13 (mr_14 a k (u99)) rfl (wl_in (by omega) (by decide)) dX10_solve_153 ?_
                    have e153 : (fA (u99) 11 (nI j).toNatClampNeg) = fA st 11 j := (by rw [hF3.A 11 (by decide), nI_clamp (by omega)])
                    rw [e153]
                    try rw [e153] at hR
                    refine va_lald hx hb hK hP 7 6 (mr_7 a k (u99)) rfl (hrow j hjK) dX10_solve_154 ?_
                    refine lv_lconst (v := (1 : Int64)) hx hb dX10_solve_155 (by decide) ?_
                    refine W.lcmp hx hb dX10_solve_156 ?_
                    refine lv_if_ne (tgt := 164) hx hb dX10_solve_157 (by decide) (fun c157 => ?_) (fun c157 => ?_)
                    · skip
                      rw [if_neg c157] at hR
                      refine lv_iconst (v := (0 : Int32)) hx hb dX10_solve_164 (by decide) ?_
                      refine lv_istore (lv' := [(6, .int (0 : Int32)), (7, .int (nI j)), (5, .int (q47.1)), (4, .int (nI cd)), (3, .int (q5.1)), (0, .ref (a 0)), (1, .int ((nI KQ))), (2, .int tu)]) hx hb dX10_solve_165 hl (by decide) rfl (fun ls hl => ?_)
                      refine lv_iinc (v := nI (j + 1)) (lv' := [(7, .int (nI (j + 1))), (6, .int (0 : Int32)), (5, .int (q47.1)), (4, .int (nI cd)), (3, .int (q5.1)), (0, .ref (a 0)), (1, .int ((nI KQ))), (2, .int tu)]) hx hb dX10_solve_167 hl (k := 1) rfl (nI_1 _) (by decide) rfl (fun ls hl => ?_)
                      refine lv_goto (tgt := 132) hx hb dX10_solve_170 (by decide) ?_
                      exact ih (0 : Int32) (j + 1) _ _ ls RR hR (by omega) (by omega) hP hD hS (lv_sub hl [0, 1, 2, 3, 4, 5, 6, 7] rfl) kk
                    · skip
                      rw [if_pos c157] at hR
                      refine lv_iconst (v := (1 : Int32)) hx hb dX10_solve_160 (by decide) ?_
                      refine lv_goto (tgt := 165) hx hb dX10_solve_161 (by decide) ?_
                      refine lv_istore (lv' := [(6, .int (1 : Int32)), (7, .int (nI j)), (5, .int (q47.1)), (4, .int (nI cd)), (3, .int (q5.1)), (0, .ref (a 0)), (1, .int ((nI KQ))), (2, .int tu)]) hx hb dX10_solve_165 hl (by decide) rfl (fun ls hl => ?_)
                      refine lv_iinc (v := nI (j + 1)) (lv' := [(7, .int (nI (j + 1))), (6, .int (1 : Int32)), (5, .int (q47.1)), (4, .int (nI cd)), (3, .int (q5.1)), (0, .ref (a 0)), (1, .int ((nI KQ))), (2, .int tu)]) hx hb dX10_solve_167 hl (k := 1) rfl (nI_1 _) (by decide) rfl (fun ls hl => ?_)
                      refine lv_goto (tgt := 132) hx hb dX10_solve_170 (by decide) ?_
                      exact ih (1 : Int32) (j + 1) _ _ ls RR hR (by omega) (by omega) hP hD hS (lv_sub hl [0, 1, 2, 3, 4, 5, 6, 7] rfl) kk
            obtain ⟨q132, e132⟩ : ∃ z, (fm_Mod_solve_L132 st (nI KQ) tu cd S1 17 (1 : Int32) 0) = z := ⟨_, rfl⟩
            try rw [e132] at hR
            refine L132 17 (1 : Int32) 0 _ _ ls q132 e132 (Nat.zero_le _) (by omega) hP hD hS (lv_sub hl [0, 1, 2, 3, 4, 5, 6, 7] rfl) (fun H locs ls hP hD hS hl => ?_)
            refine lv_iload hx hb dX10_solve_173 (lv_at hl 1 rfl) ?_
            refine lv_if_eq (tgt := 180) hx hb dX10_solve_175 (by decide) (fun c175 => ?_) (fun c175 => ?_)
            · skip
              rw [if_pos c175] at hR
              refine lv_iinc (v := nI (cd + 1)) (lv' := [(4, .int (nI (cd + 1))), (7, .int ((nI q132.2))), (6, .int (q132.1)), (5, .int (q47.1)), (3, .int (q5.1)), (0, .ref (a 0)), (1, .int ((nI KQ))), (2, .int tu)]) hx hb dX10_solve_180 hl (k := 3) rfl (nI_1 _) (by decide) rfl (fun ls hl => ?_)
              refine lv_goto (tgt := 33) hx hb dX10_solve_183 (by decide) ?_
              exact ih (cd + 1) (u99) _ _ ls hR (by omega) hF3 (by omega) hP hD hS (lv_sub hl [0, 4, 5, 6, 7] rfl)
            · skip
              rw [if_neg c175] at hR
              refine lv_iconst (v := (1 : Int32)) hx hb dX10_solve_178 (by decide) ?_
              exact W.zret (v := (1 : Int32)) (ty := .boolean) hx hb hr rfl (fun t ht hW => ⟨⟨_, _, rfl, hR, by rw [ht]; exact hP, va_K.moved hW.alike hK, hD⟩, hS.F ht⟩) hS.2.2 dX10_solve_179
  exact L33 1025 0 st _ _ ls hR (Nat.zero_le _) XF.rf (wl_p1025 hBt10) hP hD hS (lv_sub hl [0, 1, 2, 3, 4] rfl)

theorem mw_800 : (.code yX10_solve cX10_solve 8 (some .boolean) : Cond) ∈ AW := List.mem_filter.mpr ⟨List.mem_of_getElem? (i := 800) (by decide +kernel), rfl⟩
theorem mw_797 : (.methodLink RX10 149 yX10_solve : Cond) ∈ AW := List.mem_filter.mpr ⟨List.mem_of_getElem? (i := 797) (by decide +kernel), rfl⟩
theorem mw_799 : (.instanceMethod yX10_solve : Cond) ∈ AW := List.mem_filter.mpr ⟨List.mem_of_getElem? (i := 799) (by decide +kernel), rfl⟩
theorem mw_33 : (.selects RX10 yX10_solve yX10_solve : Cond) ∈ AW := List.mem_filter.mpr ⟨List.mem_of_getElem? (i := 33) (by decide +kernel), rfl⟩
theorem mw_808 : (.code yX10_answer cX10_answer 3 (some .int) : Cond) ∈ AW := List.mem_filter.mpr ⟨List.mem_of_getElem? (i := 808) (by decide +kernel), rfl⟩
theorem mw_805 : (.methodLink RX10 153 yX10_answer : Cond) ∈ AW := List.mem_filter.mpr ⟨List.mem_of_getElem? (i := 805) (by decide +kernel), rfl⟩
theorem mw_807 : (.instanceMethod yX10_answer : Cond) ∈ AW := List.mem_filter.mpr ⟨List.mem_of_getElem? (i := 807) (by decide +kernel), rfl⟩
theorem mw_35 : (.selects RX10 yX10_answer yX10_answer : Cond) ∈ AW := List.mem_filter.mpr ⟨List.mem_of_getElem? (i := 35) (by decide +kernel), rfl⟩
theorem gX10_149 : GoodIn AW (wsV RX10 149 RX10 yX10_solve wsX10_solve) := aw_V mw_797 mw_799 mw_33 mw_46 mw_800
theorem gX10_153 : GoodIn AW (wsV RX10 153 RX10 yX10_answer wsX10_answer) := aw_V mw_805 mw_807 mw_35 mw_46 mw_808
theorem dX10_check_0 : decode cX10_check 0 = .ok (.aload_n 0, 1) := by decide +kernel
theorem dX10_check_1 : decode cX10_check 1 = .ok (.aload_n 0, 1) := by decide +kernel
theorem dX10_check_2 : decode cX10_check 2 = .ok (.aload_n 0, 1) := by decide +kernel
theorem dX10_check_3 : decode cX10_check 3 = .ok (.getfield 19, 3) := by decide +kernel
theorem dX10_check_6 : decode cX10_check 6 = .ok (.iconst 0, 1) := by decide +kernel
theorem dX10_check_7 : decode cX10_check 7 = .ok (.invokevirtual 149, 3) := by decide +kernel
theorem dX10_check_10 : decode cX10_check 10 = .ok (.invokevirtual 153, 3) := by decide +kernel
theorem dX10_check_13 : decode cX10_check 13 = .ok (.ireturn, 1) := by decide +kernel
def fm_Mod_check (st : XS) : Int32 × XS := (((fm_Mod_answer (((fm_Mod_solve st ((gI st 3)) (0 : Int32)).2)) (((fm_Mod_solve st ((gI st 3)) (0 : Int32)).1))).1), ((fm_Mod_answer (((fm_Mod_solve st ((gI st 3)) (0 : Int32)).2)) (((fm_Mod_solve st ((gI st 3)) (0 : Int32)).1))).2))
theorem ff_Mod_check (st : XS) : XF [4, 5, 6] [7, 8] [1] st (fm_Mod_check st).2 := by
  rw [fm_Mod_check]
  exact (wl_snd (XF.tr (XF.tr XF.rf (XF.mono (ff_Mod_solve _ _ _) (by decide) (by decide) (by decide))) (XF.mono (ff_Mod_answer _ _) (by decide) (by decide) (by decide))))
set_option maxHeartbeats 4000000 in
set_option maxRecDepth 100000 in
theorem km_Mod_check (l : Launch) (dC : Nat → ClassId) (dI : Nat → Nat → Nat) (a : Nat → Nat) (k : Nat → ClassId) (st : XS) (sz : Nat) (N : Nat) (hN : gI st 0 = nI N) (h64 : N ≤ 64) (V : Nat) (hV : gI st 2 = nI V) (hV4 : V ≤ 4) (hT : MT st N) (Bt : Nat) (hBt : bsum (fA st 5) V = nI Bt) (hBt10 : Bt ≤ 10) (E : Nat) (hEl : gI st 3 = nI E) (hE16 : E ≤ 16) (hcd : ∀ j : Nat, j < E → vp_in (fA st 11 j) 64) : Met l yX10_check wsX10_check ({ frames := 6, cells := 0, slots := 0, locals := 148 }) (va_Pc [.ref (a 0)] (wl_pre (dC, dI) vwCl (mt k) (mw a k) st sz)) (va_Qi (fun r9 u9 => (r9, u9) = fm_Mod_check st) (wl_at (dC, dI) vwCl (mt k) (mw a k) (va_A (mw a k st) sz)) (va_A (mw a k st) sz)) 0 0 (va_A (mw a k st) sz) := by
  refine Met.ofW (cc := cX10_check) (maxL := 1) (ret := (some .int)) (by decide) rfl ?_
  intro p e s m args below meth c s₁ B hml hv
  obtain ⟨rfl, hsz, hP, hK, hD0⟩ := hv
  have hx := B.exec
  have hb := B.bytes
  have hr := B.returns
  have hta := aw_hts (atoms_spec (ws := wsX10_check) B.pre)
  have hown : s.vm.findClass RX10 = some m.cls := findClass_of_methodNamed B.named
  have hlocks := B.notSynchronized
  have hf19 := hta _ mw_636
  subst hsz
  have hD := hD0.self (sz := s.heap.size)
  generalize hAe : va_A (mw a k st) s.heap.size = A at hD ⊢
  have hAz : ∀ q : Nat, s.heap.size ≤ q → A q := fun q h => by rw [← hAe]; exact Or.inr h
  have hS : va_S A s.heap s.heap [] := va_S.rf
  have hl := lv_entry ([.ref (a 0)]) (n := 1) (Nat.le_of_ble_eq_true rfl)
  rw [lg_entry_eq]
  generalize (lg_sl ([.ref (a 0)]) ++ List.replicate (1 - (lg_sl ([.ref (a 0)])).length) Slot.unset).toArray = ls at hl ⊢
  have hl : lv_has ls 1 [(0, .ref (a 0))] := hl
  generalize hR : fm_Mod_check st = R
  rw [fm_Mod_check] at hR
  refine lv_aload_n hx hb dX10_check_0 rfl (lv_at hl 0 rfl) ?_
  refine lv_aload_n hx hb dX10_check_1 rfl (lv_at hl 0 rfl) ?_
  refine lv_aload_n hx hb dX10_check_2 rfl (lv_at hl 0 rfl) ?_
  refine va_get (D := (dC, dI)) (ci := 8) (v := .int (gI st 3)) (C := RX10) (T := TX10) (N := 21) hx hb hta inX10 hown hK hP 0 (mr_0 a k st) rfl 3 (by decide) hf19 (fun _ h9 => h9) rfl dX10_check_3 ?_
  have e3 : (gI st 3) = nI E := hEl
  rw [e3]
  try rw [e3] at hR
  refine lv_iconst (v := (0 : Int32)) hx hb dX10_check_6 (by decide) ?_
  refine wl_mi (va_runV (As := [.int ((nI E)), .int (0 : Int32)]) (rest := [.ref (a 0)]) ⟨hx, hb, hml, hown, hta⟩ (km_Mod_solve l dC dI a k st E (0 : Int32) _ N hN h64 V hV hV4 hT Bt hBt hBt10 hE16 (fun h => absurd rfl h) hcd (fun h => absurd rfl h)) (cwV 2 hta gX10_149 rfl rfl rfl (by decide +kernel) ⟨Nat.le_of_ble_eq_true rfl, Nat.le_of_ble_eq_true rfl⟩) (wl_pM (C := RX10) (ci := 8) (q0 := 0) hK hP hD rfl (mr_0 a k st)) rfl rfl hl.1 rfl (lv_room (Nat.le_of_ble_eq_true rfl)) dX10_check_7 ⟨Nat.zero_le _, Nat.zero_le _⟩) hP hD hS hAz (fun r7 u7 H locs hw7 hP hD hS => ?_)
  have v7 : (fm_Mod_solve st ((nI E)) (0 : Int32)).1 = r7 := congrArg Prod.fst hw7.symm
  have w7 : (fm_Mod_solve st ((nI E)) (0 : Int32)).2 = u7 := congrArg Prod.snd hw7.symm
  have hf7 : XF [] [7] [1] st u7 := by rw [← w7]; exact ff_Mod_solve st ((nI E)) (0 : Int32)
  try rw [v7] at hR
  try rw [w7] at hR
  refine wl_mi (va_runV (As := [.int (r7)]) (rest := []) ⟨hx, hb, hml, hown, hta⟩ (km_Mod_answer l dC dI a k (u7) (r7) _) (cwV 1 hta gX10_153 rfl rfl rfl (by decide +kernel) ⟨Nat.le_of_ble_eq_true rfl, Nat.le_of_ble_eq_true rfl⟩) (wl_pM (C := RX10) (ci := 8) (q0 := 0) hK hP hD rfl (mr_0 a k (u7))) rfl rfl hl.1 rfl (lv_room (Nat.le_of_ble_eq_true rfl)) dX10_check_10 ⟨Nat.zero_le _, Nat.zero_le _⟩) hP hD hS hAz (fun r10 u10 H locs hw10 hP hD hS => ?_)
  have v10 : (fm_Mod_answer (u7) (r7)).1 = r10 := congrArg Prod.fst hw10.symm
  have w10 : (fm_Mod_answer (u7) (r7)).2 = u10 := congrArg Prod.snd hw10.symm
  have hf10 : XF [4, 5, 6] [8] [] (u7) u10 := by rw [← w10]; exact ff_Mod_answer (u7) (r7)
  try rw [v10] at hR
  try rw [w10] at hR
  exact W.iret (v := r10) hx hb hr (fun t ht hW => ⟨⟨_, _, rfl, hR, by rw [ht]; exact hP, va_K.moved hW.alike hK, hD⟩, hS.F ht⟩) hS.2.2 dX10_check_13

theorem dX10_flip_0 : decode cX10_flip 0 = .ok (.iload_n 1, 1) := by decide +kernel
theorem dX10_flip_1 : decode cX10_flip 1 = .ok (.ifCond .lt 11, 3) := by decide +kernel
theorem dX10_flip_4 : decode cX10_flip 4 = .ok (.iload_n 1, 1) := by decide +kernel
theorem dX10_flip_5 : decode cX10_flip 5 = .ok (.aload_n 0, 1) := by decide +kernel
theorem dX10_flip_6 : decode cX10_flip 6 = .ok (.getfield 19, 3) := by decide +kernel
theorem dX10_flip_9 : decode cX10_flip 9 = .ok (.if_icmp .lt 7, 3) := by decide +kernel
theorem dX10_flip_12 : decode cX10_flip 12 = .ok (.iconst (-1), 1) := by decide +kernel
theorem dX10_flip_13 : decode cX10_flip 13 = .ok (.goto 13, 3) := by decide +kernel
theorem dX10_flip_16 : decode cX10_flip 16 = .ok (.aload_n 0, 1) := by decide +kernel
theorem dX10_flip_17 : decode cX10_flip 17 = .ok (.aload_n 0, 1) := by decide +kernel
theorem dX10_flip_18 : decode cX10_flip 18 = .ok (.iload_n 1, 1) := by decide +kernel
theorem dX10_flip_19 : decode cX10_flip 19 = .ok (.iconst 1, 1) := by decide +kernel
theorem dX10_flip_20 : decode cX10_flip 20 = .ok (.invokevirtual 149, 3) := by decide +kernel
theorem dX10_flip_23 : decode cX10_flip 23 = .ok (.invokevirtual 153, 3) := by decide +kernel
theorem dX10_flip_26 : decode cX10_flip 26 = .ok (.ireturn, 1) := by decide +kernel
def fm_Mod_flip (st : XS) (kx : Int32) : Int32 × XS := 
  if kx < (0 : Int32) then ((-1 : Int32), st)
  else 
    if kx < gI st 3 then (((fm_Mod_answer (((fm_Mod_solve st (kx) (1 : Int32)).2)) (((fm_Mod_solve st (kx) (1 : Int32)).1))).1), ((fm_Mod_answer (((fm_Mod_solve st (kx) (1 : Int32)).2)) (((fm_Mod_solve st (kx) (1 : Int32)).1))).2))
    else ((-1 : Int32), st)
theorem ff_Mod_flip (st : XS) (kx : Int32) : XF [4, 5, 6] [7, 8] [1] st (fm_Mod_flip st kx).2 := by
  rw [fm_Mod_flip]
  exact (wl_ite (P := fun (q : Int32 × XS) => XF [4, 5, 6] [7, 8] [1] _ (q.2)) (wl_snd XF.rf) (wl_ite (P := fun (q : Int32 × XS) => XF [4, 5, 6] [7, 8] [1] _ (q.2)) (wl_snd (XF.tr (XF.tr XF.rf (XF.mono (ff_Mod_solve _ _ _) (by decide) (by decide) (by decide))) (XF.mono (ff_Mod_answer _ _) (by decide) (by decide) (by decide)))) (wl_snd XF.rf)))
set_option maxHeartbeats 4000000 in
set_option maxRecDepth 100000 in
theorem km_Mod_flip (l : Launch) (dC : Nat → ClassId) (dI : Nat → Nat → Nat) (a : Nat → Nat) (k : Nat → ClassId) (st : XS) (kx : Int32) (sz : Nat) (N : Nat) (hN : gI st 0 = nI N) (h64 : N ≤ 64) (V : Nat) (hV : gI st 2 = nI V) (hV4 : V ≤ 4) (hT : MT st N) (Bt : Nat) (hBt : bsum (fA st 5) V = nI Bt) (hBt10 : Bt ≤ 10) (E : Nat) (hEl : gI st 3 = nI E) (hE16 : E ≤ 16) (hcd : ∀ j : Nat, j < E → vp_in (fA st 11 j) 64) : Met l yX10_flip wsX10_flip ({ frames := 6, cells := 0, slots := 0, locals := 148 }) (va_Pc [.ref (a 0), .int kx] (wl_pre (dC, dI) vwCl (mt k) (mw a k) st sz)) (va_Qi (fun r9 u9 => (r9, u9) = fm_Mod_flip st kx) (wl_at (dC, dI) vwCl (mt k) (mw a k) (va_A (mw a k st) sz)) (va_A (mw a k st) sz)) 0 0 (va_A (mw a k st) sz) := by
  refine Met.ofW (cc := cX10_flip) (maxL := 2) (ret := (some .int)) (by decide) rfl ?_
  intro p e s m args below meth c s₁ B hml hv
  obtain ⟨rfl, hsz, hP, hK, hD0⟩ := hv
  have hx := B.exec
  have hb := B.bytes
  have hr := B.returns
  have hta := aw_hts (atoms_spec (ws := wsX10_flip) B.pre)
  have hown : s.vm.findClass RX10 = some m.cls := findClass_of_methodNamed B.named
  have hlocks := B.notSynchronized
  have hf19 := hta _ mw_636
  subst hsz
  have hD := hD0.self (sz := s.heap.size)
  generalize hAe : va_A (mw a k st) s.heap.size = A at hD ⊢
  have hAz : ∀ q : Nat, s.heap.size ≤ q → A q := fun q h => by rw [← hAe]; exact Or.inr h
  have hS : va_S A s.heap s.heap [] := va_S.rf
  have hl := lv_entry ([.ref (a 0), .int kx]) (n := 2) (Nat.le_of_ble_eq_true rfl)
  rw [lg_entry_eq]
  generalize (lg_sl ([.ref (a 0), .int kx]) ++ List.replicate (2 - (lg_sl ([.ref (a 0), .int kx])).length) Slot.unset).toArray = ls at hl ⊢
  have hl : lv_has ls 2 [(0, .ref (a 0)), (1, .int kx)] := hl
  generalize hR : fm_Mod_flip st kx = R
  rw [fm_Mod_flip] at hR
  refine lv_iload_n hx hb dX10_flip_0 rfl (lv_at hl 1 rfl) ?_
  refine lv_if_lt (tgt := 12) hx hb dX10_flip_1 (by decide) (fun c1 => ?_) (fun c1 => ?_)
  · skip
    rw [if_pos c1] at hR
    refine lv_iconst (v := (-1 : Int32)) hx hb dX10_flip_12 (by decide) ?_
    refine lv_goto (tgt := 26) hx hb dX10_flip_13 (by decide) ?_
    exact W.iret (v := (-1 : Int32)) hx hb hr (fun t ht hW => ⟨⟨_, _, rfl, hR, by rw [ht]; exact hP, va_K.moved hW.alike hK, hD⟩, hS.F ht⟩) hS.2.2 dX10_flip_26
  · skip
    rw [if_neg c1] at hR
    refine lv_iload_n hx hb dX10_flip_4 rfl (lv_at hl 1 rfl) ?_
    refine lv_aload_n hx hb dX10_flip_5 rfl (lv_at hl 0 rfl) ?_
    refine va_get (D := (dC, dI)) (ci := 8) (v := .int (gI st 3)) (C := RX10) (T := TX10) (N := 21) hx hb hta inX10 hown hK hP 0 (mr_0 a k st) rfl 3 (by decide) hf19 (fun _ h9 => h9) rfl dX10_flip_6 ?_
    refine lv_icmp_lt (tgt := 16) hx hb dX10_flip_9 (by decide) (fun c9 => ?_) (fun c9 => ?_)
    · skip
      rw [if_pos c9] at hR
      obtain ⟨KK, hKK, rfl⟩ := wl_ixn (by omega) hEl c1 c9
      refine lv_aload_n hx hb dX10_flip_16 rfl (lv_at hl 0 rfl) ?_
      refine lv_aload_n hx hb dX10_flip_17 rfl (lv_at hl 0 rfl) ?_
      refine lv_iload_n hx hb dX10_flip_18 rfl (lv_at hl 1 rfl) ?_
      refine lv_iconst (v := (1 : Int32)) hx hb dX10_flip_19 (by decide) ?_
      refine wl_mi (va_runV (As := [.int ((nI KK)), .int (1 : Int32)]) (rest := [.ref (a 0)]) ⟨hx, hb, hml, hown, hta⟩ (km_Mod_solve l dC dI a k st KK (1 : Int32) _ N hN h64 V hV hV4 hT Bt hBt hBt10 (by omega) (fun _ => by omega) (fun j hj => hcd j (by omega)) (fun _ => hcd KK hKK)) (cwV 2 hta gX10_149 rfl rfl rfl (by decide +kernel) ⟨Nat.le_of_ble_eq_true rfl, Nat.le_of_ble_eq_true rfl⟩) (wl_pM (C := RX10) (ci := 8) (q0 := 0) hK hP hD rfl (mr_0 a k st)) rfl rfl hl.1 rfl (lv_room (Nat.le_of_ble_eq_true rfl)) dX10_flip_20 ⟨Nat.zero_le _, Nat.zero_le _⟩) hP hD hS hAz (fun r20 u20 H locs hw20 hP hD hS => ?_)
      have v20 : (fm_Mod_solve st ((nI KK)) (1 : Int32)).1 = r20 := congrArg Prod.fst hw20.symm
      have w20 : (fm_Mod_solve st ((nI KK)) (1 : Int32)).2 = u20 := congrArg Prod.snd hw20.symm
      have hf20 : XF [] [7] [1] st u20 := by rw [← w20]; exact ff_Mod_solve st ((nI KK)) (1 : Int32)
      try rw [v20] at hR
      try rw [w20] at hR
      refine wl_mi (va_runV (As := [.int (r20)]) (rest := []) ⟨hx, hb, hml, hown, hta⟩ (km_Mod_answer l dC dI a k (u20) (r20) _) (cwV 1 hta gX10_153 rfl rfl rfl (by decide +kernel) ⟨Nat.le_of_ble_eq_true rfl, Nat.le_of_ble_eq_true rfl⟩) (wl_pM (C := RX10) (ci := 8) (q0 := 0) hK hP hD rfl (mr_0 a k (u20))) rfl rfl hl.1 rfl (lv_room (Nat.le_of_ble_eq_true rfl)) dX10_flip_23 ⟨Nat.zero_le _, Nat.zero_le _⟩) hP hD hS hAz (fun r23 u23 H locs hw23 hP hD hS => ?_)
      have v23 : (fm_Mod_answer (u20) (r20)).1 = r23 := congrArg Prod.fst hw23.symm
      have w23 : (fm_Mod_answer (u20) (r20)).2 = u23 := congrArg Prod.snd hw23.symm
      have hf23 : XF [4, 5, 6] [8] [] (u20) u23 := by rw [← w23]; exact ff_Mod_answer (u20) (r20)
      try rw [v23] at hR
      try rw [w23] at hR
      exact W.iret (v := r23) hx hb hr (fun t ht hW => ⟨⟨_, _, rfl, hR, by rw [ht]; exact hP, va_K.moved hW.alike hK, hD⟩, hS.F ht⟩) hS.2.2 dX10_flip_26
    · skip
      rw [if_neg c9] at hR
      refine lv_iconst (v := (-1 : Int32)) hx hb dX10_flip_12 (by decide) ?_
      refine lv_goto (tgt := 26) hx hb dX10_flip_13 (by decide) ?_
      exact W.iret (v := (-1 : Int32)) hx hb hr (fun t ht hW => ⟨⟨_, _, rfl, hR, by rw [ht]; exact hP, va_K.moved hW.alike hK, hD⟩, hS.F ht⟩) hS.2.2 dX10_flip_26
