theorem wm_fit {st : XS} {N : Nat} {o x1 y1 z1 : Int32} (hN : gI st 0 = nI N) (h64 : N ≤ 64) (c : ¬ fm_Mod_fits st o x1 y1 z1 = 0) :
    vp_in x1 64 ∧ (¬ o < 2 → ¬ (o = 17 ∨ o = 18 ∨ o = 19 ∨ o = 20) → vp_in y1 64) ∧ (o = 16 → vp_in z1 64) ∧ (o = 20 → vp_in y1 2) := by
  rw [fm_Mod_fits] at c
  by_cases h1 : o < (0 : Int32)
  · rw [if_pos h1] at c; exact absurd rfl c
  rw [if_neg h1] at c
  by_cases h2 : (20 : Int32) < o
  · rw [if_pos h2] at c; exact absurd rfl c
  rw [if_neg h2] at c
  by_cases h3 : fm_Mod_none st x1 = (0 : Int32)
  · rw [if_pos h3] at c
    refine ⟨wm_none hN h64 h3, ?_⟩
    by_cases h4 : (2 : Int32) ≤ o
    · rw [if_pos h4] at c
      by_cases h5 : o = (20 : Int32)
      · rw [if_pos h5] at c
        refine ⟨fun _ q => absurd (Or.inr (Or.inr (Or.inr h5))) q, fun q => absurd (h5.symm.trans q) (by decide), fun _ => ?_⟩
        by_cases h6 : fA st 4 x1.toNatClampNeg = (8 : Int32)
        · rw [if_pos h6] at c
          by_cases h7 : y1 = (0 : Int32)
          · rw [h7]; exact wl_in02
          · rw [if_neg h7] at c
            by_cases h8 : y1 = (1 : Int32)
            · rw [h8]; exact wl_in (j := 1) (by decide) (by decide)
            · rw [if_neg h8] at c; exact absurd rfl c
        · rw [if_neg h6] at c; exact absurd rfl c
      · rw [if_neg h5] at c
        by_cases h6 : o ≤ (16 : Int32)
        · rw [if_pos h6] at c
          by_cases h7 : fm_Mod_none st y1 = (0 : Int32)
          · rw [if_pos h7] at c
            refine ⟨fun _ _ => wm_none hN h64 h7, fun h8 => ?_, fun q => absurd q h5⟩
            rw [if_pos h8] at c
            by_cases h9 : fA st 4 x1.toNatClampNeg = (1 : Int32)
            · rw [if_pos h9] at c
              by_cases h10 : fm_Mod_none st z1 = (0 : Int32)
              · exact wm_none hN h64 h10
              · rw [if_neg h10] at c; exact absurd rfl c
            · rw [if_neg h9] at c; exact absurd rfl c
          · rw [if_neg h7] at c; exact absurd rfl c
        · have up : o = 17 ∨ o = 18 ∨ o = 19 ∨ o = 20 := by
            have key : ∀ k, k < 21 → ¬ nI k ≤ (16 : Int32) → (nI k = 17 ∨ nI k = 18 ∨ nI k = 19 ∨ nI k = 20) := by decide +kernel
            obtain ⟨k, hk, e⟩ := nI_of2 (x := o) (M := 20) (n := 20) (by decide) h1 (Int32.not_lt.mp h2)
            rw [e] at h6 ⊢
            exact key k (by omega) h6
          exact ⟨fun _ q => absurd up q, fun q => absurd (by rw [q]; decide) h6, fun q => absurd q h5⟩
    · exact ⟨fun q => absurd (Int32.not_lt.mp q) h4, fun q => absurd (by rw [q]; decide) h4, fun q => absurd (by rw [q]; decide) h4⟩
  · rw [if_neg h3] at c; exact absurd rfl c

theorem mw_776 : (.code yX10_shorter cX10_shorter 6 (some .int) : Cond) ∈ AW := List.mem_filter.mpr ⟨List.mem_of_getElem? (i := 776) (by decide +kernel), rfl⟩
theorem mw_773 : (.methodLink RX10 139 yX10_shorter : Cond) ∈ AW := List.mem_filter.mpr ⟨List.mem_of_getElem? (i := 773) (by decide +kernel), rfl⟩
theorem mw_775 : (.instanceMethod yX10_shorter : Cond) ∈ AW := List.mem_filter.mpr ⟨List.mem_of_getElem? (i := 775) (by decide +kernel), rfl⟩
theorem mw_30 : (.selects RX10 yX10_shorter yX10_shorter : Cond) ∈ AW := List.mem_filter.mpr ⟨List.mem_of_getElem? (i := 30) (by decide +kernel), rfl⟩
theorem mw_744 : (.code yX10_widthOf cX10_widthOf 4 (some .int) : Cond) ∈ AW := List.mem_filter.mpr ⟨List.mem_of_getElem? (i := 744) (by decide +kernel), rfl⟩
theorem mw_741 : (.methodLink RX10 124 yX10_widthOf : Cond) ∈ AW := List.mem_filter.mpr ⟨List.mem_of_getElem? (i := 741) (by decide +kernel), rfl⟩
theorem mw_743 : (.instanceMethod yX10_widthOf : Cond) ∈ AW := List.mem_filter.mpr ⟨List.mem_of_getElem? (i := 743) (by decide +kernel), rfl⟩
theorem mw_23 : (.selects RX10 yX10_widthOf yX10_widthOf : Cond) ∈ AW := List.mem_filter.mpr ⟨List.mem_of_getElem? (i := 23) (by decide +kernel), rfl⟩
theorem mw_784 : (.code yX10_cost cX10_cost 3 (some .int) : Cond) ∈ AW := List.mem_filter.mpr ⟨List.mem_of_getElem? (i := 784) (by decide +kernel), rfl⟩
theorem mw_781 : (.methodLink RX10 142 yX10_cost : Cond) ∈ AW := List.mem_filter.mpr ⟨List.mem_of_getElem? (i := 781) (by decide +kernel), rfl⟩
theorem mw_783 : (.instanceMethod yX10_cost : Cond) ∈ AW := List.mem_filter.mpr ⟨List.mem_of_getElem? (i := 783) (by decide +kernel), rfl⟩
theorem mw_32 : (.selects RX10 yX10_cost yX10_cost : Cond) ∈ AW := List.mem_filter.mpr ⟨List.mem_of_getElem? (i := 32) (by decide +kernel), rfl⟩
theorem gX10_139 : GoodIn AW (wsV RX10 139 RX10 yX10_shorter wsX10_shorter) := aw_V mw_773 mw_775 mw_30 mw_46 mw_776
theorem gX10_124 : GoodIn AW (wsV RX10 124 RX10 yX10_widthOf wsX10_widthOf) := aw_V mw_741 mw_743 mw_23 mw_46 mw_744
theorem gX10_142 : GoodIn AW (wsV RX10 142 RX10 yX10_cost wsX10_cost) := aw_V mw_781 mw_783 mw_32 mw_46 mw_784
theorem dX10_simple_0 : decode cX10_simple 0 = .ok (.aload_n 0, 1) := by decide +kernel
theorem dX10_simple_1 : decode cX10_simple 1 = .ok (.iload_n 1, 1) := by decide +kernel
theorem dX10_simple_2 : decode cX10_simple 2 = .ok (.iload_n 2, 1) := by decide +kernel
theorem dX10_simple_3 : decode cX10_simple 3 = .ok (.iload_n 3, 1) := by decide +kernel
theorem dX10_simple_4 : decode cX10_simple 4 = .ok (.iload 4, 2) := by decide +kernel
theorem dX10_simple_6 : decode cX10_simple 6 = .ok (.invokevirtual 139, 3) := by decide +kernel
theorem dX10_simple_9 : decode cX10_simple 9 = .ok (.istore 5, 2) := by decide +kernel
theorem dX10_simple_11 : decode cX10_simple 11 = .ok (.aload_n 0, 1) := by decide +kernel
theorem dX10_simple_12 : decode cX10_simple 12 = .ok (.iload_n 1, 1) := by decide +kernel
theorem dX10_simple_13 : decode cX10_simple 13 = .ok (.iload_n 2, 1) := by decide +kernel
theorem dX10_simple_14 : decode cX10_simple 14 = .ok (.iload_n 3, 1) := by decide +kernel
theorem dX10_simple_15 : decode cX10_simple 15 = .ok (.invokevirtual 124, 3) := by decide +kernel
theorem dX10_simple_18 : decode cX10_simple 18 = .ok (.istore 6, 2) := by decide +kernel
theorem dX10_simple_20 : decode cX10_simple 20 = .ok (.iload 5, 2) := by decide +kernel
theorem dX10_simple_22 : decode cX10_simple 22 = .ok (.bipush (-9), 2) := by decide +kernel
theorem dX10_simple_24 : decode cX10_simple 24 = .ok (.if_icmp .eq 6, 3) := by decide +kernel
theorem dX10_simple_27 : decode cX10_simple 27 = .ok (.iload 5, 2) := by decide +kernel
theorem dX10_simple_29 : decode cX10_simple 29 = .ok (.ireturn, 1) := by decide +kernel
theorem dX10_simple_30 : decode cX10_simple 30 = .ok (.iload_n 1, 1) := by decide +kernel
theorem dX10_simple_31 : decode cX10_simple 31 = .ok (.iconst 2, 1) := by decide +kernel
theorem dX10_simple_32 : decode cX10_simple 32 = .ok (.if_icmp .ge 7, 3) := by decide +kernel
theorem dX10_simple_35 : decode cX10_simple 35 = .ok (.iconst 0, 1) := by decide +kernel
theorem dX10_simple_36 : decode cX10_simple 36 = .ok (.goto 4, 3) := by decide +kernel
theorem dX10_simple_39 : decode cX10_simple 39 = .ok (.iload_n 3, 1) := by decide +kernel
theorem dX10_simple_40 : decode cX10_simple 40 = .ok (.istore 7, 2) := by decide +kernel
theorem dX10_simple_42 : decode cX10_simple 42 = .ok (.iload_n 1, 1) := by decide +kernel
theorem dX10_simple_43 : decode cX10_simple 43 = .ok (.bipush 16, 2) := by decide +kernel
theorem dX10_simple_45 : decode cX10_simple 45 = .ok (.if_icmp .ne 8, 3) := by decide +kernel
theorem dX10_simple_48 : decode cX10_simple 48 = .ok (.iload 4, 2) := by decide +kernel
theorem dX10_simple_50 : decode cX10_simple 50 = .ok (.goto 4, 3) := by decide +kernel
theorem dX10_simple_53 : decode cX10_simple 53 = .ok (.iconst 0, 1) := by decide +kernel
theorem dX10_simple_54 : decode cX10_simple 54 = .ok (.istore 8, 2) := by decide +kernel
theorem dX10_simple_56 : decode cX10_simple 56 = .ok (.iconst 0, 1) := by decide +kernel
theorem dX10_simple_57 : decode cX10_simple 57 = .ok (.istore 9, 2) := by decide +kernel
theorem dX10_simple_59 : decode cX10_simple 59 = .ok (.iload 9, 2) := by decide +kernel
theorem dX10_simple_61 : decode cX10_simple 61 = .ok (.aload_n 0, 1) := by decide +kernel
theorem dX10_simple_62 : decode cX10_simple 62 = .ok (.getfield 7, 3) := by decide +kernel
theorem dX10_simple_65 : decode cX10_simple 65 = .ok (.if_icmp .ge 58, 3) := by decide +kernel
theorem dX10_simple_68 : decode cX10_simple 68 = .ok (.aload_n 0, 1) := by decide +kernel
theorem dX10_simple_69 : decode cX10_simple 69 = .ok (.getfield 31, 3) := by decide +kernel
theorem dX10_simple_72 : decode cX10_simple 72 = .ok (.iload 9, 2) := by decide +kernel
theorem dX10_simple_74 : decode cX10_simple 74 = .ok (.iaload, 1) := by decide +kernel
theorem dX10_simple_75 : decode cX10_simple 75 = .ok (.iload_n 1, 1) := by decide +kernel
theorem dX10_simple_76 : decode cX10_simple 76 = .ok (.if_icmp .ne 41, 3) := by decide +kernel
theorem dX10_simple_79 : decode cX10_simple 79 = .ok (.aload_n 0, 1) := by decide +kernel
theorem dX10_simple_80 : decode cX10_simple 80 = .ok (.getfield 35, 3) := by decide +kernel
theorem dX10_simple_83 : decode cX10_simple 83 = .ok (.iload 9, 2) := by decide +kernel
theorem dX10_simple_85 : decode cX10_simple 85 = .ok (.iaload, 1) := by decide +kernel
theorem dX10_simple_86 : decode cX10_simple 86 = .ok (.iload_n 2, 1) := by decide +kernel
theorem dX10_simple_87 : decode cX10_simple 87 = .ok (.if_icmp .ne 30, 3) := by decide +kernel
theorem dX10_simple_90 : decode cX10_simple 90 = .ok (.aload_n 0, 1) := by decide +kernel
theorem dX10_simple_91 : decode cX10_simple 91 = .ok (.getfield 38, 3) := by decide +kernel
theorem dX10_simple_94 : decode cX10_simple 94 = .ok (.iload 9, 2) := by decide +kernel
theorem dX10_simple_96 : decode cX10_simple 96 = .ok (.iaload, 1) := by decide +kernel
theorem dX10_simple_97 : decode cX10_simple 97 = .ok (.iload 7, 2) := by decide +kernel
theorem dX10_simple_99 : decode cX10_simple 99 = .ok (.if_icmp .ne 18, 3) := by decide +kernel
theorem dX10_simple_102 : decode cX10_simple 102 = .ok (.aload_n 0, 1) := by decide +kernel
theorem dX10_simple_103 : decode cX10_simple 103 = .ok (.getfield 41, 3) := by decide +kernel
theorem dX10_simple_106 : decode cX10_simple 106 = .ok (.iload 9, 2) := by decide +kernel
theorem dX10_simple_108 : decode cX10_simple 108 = .ok (.iaload, 1) := by decide +kernel
theorem dX10_simple_109 : decode cX10_simple 109 = .ok (.iload 8, 2) := by decide +kernel
theorem dX10_simple_111 : decode cX10_simple 111 = .ok (.if_icmp .ne 6, 3) := by decide +kernel
theorem dX10_simple_114 : decode cX10_simple 114 = .ok (.iload 9, 2) := by decide +kernel
theorem dX10_simple_116 : decode cX10_simple 116 = .ok (.ireturn, 1) := by decide +kernel
theorem dX10_simple_117 : decode cX10_simple 117 = .ok (.iinc 9 1, 3) := by decide +kernel
theorem dX10_simple_120 : decode cX10_simple 120 = .ok (.goto (-61), 3) := by decide +kernel
theorem dX10_simple_123 : decode cX10_simple 123 = .ok (.aload_n 0, 1) := by decide +kernel
theorem dX10_simple_124 : decode cX10_simple 124 = .ok (.iload_n 1, 1) := by decide +kernel
theorem dX10_simple_125 : decode cX10_simple 125 = .ok (.iload_n 1, 1) := by decide +kernel
theorem dX10_simple_126 : decode cX10_simple 126 = .ok (.bipush 16, 2) := by decide +kernel
theorem dX10_simple_128 : decode cX10_simple 128 = .ok (.if_icmp .ne 12, 3) := by decide +kernel
theorem dX10_simple_131 : decode cX10_simple 131 = .ok (.aload_n 0, 1) := by decide +kernel
theorem dX10_simple_132 : decode cX10_simple 132 = .ok (.getfield 44, 3) := by decide +kernel
theorem dX10_simple_135 : decode cX10_simple 135 = .ok (.iload_n 3, 1) := by decide +kernel
theorem dX10_simple_136 : decode cX10_simple 136 = .ok (.iaload, 1) := by decide +kernel
theorem dX10_simple_137 : decode cX10_simple 137 = .ok (.goto 9, 3) := by decide +kernel
theorem dX10_simple_140 : decode cX10_simple 140 = .ok (.aload_n 0, 1) := by decide +kernel
theorem dX10_simple_141 : decode cX10_simple 141 = .ok (.getfield 44, 3) := by decide +kernel
theorem dX10_simple_144 : decode cX10_simple 144 = .ok (.iload_n 2, 1) := by decide +kernel
theorem dX10_simple_145 : decode cX10_simple 145 = .ok (.iaload, 1) := by decide +kernel
theorem dX10_simple_146 : decode cX10_simple 146 = .ok (.invokevirtual 142, 3) := by decide +kernel
theorem dX10_simple_149 : decode cX10_simple 149 = .ok (.istore 9, 2) := by decide +kernel
theorem dX10_simple_151 : decode cX10_simple 151 = .ok (.aload_n 0, 1) := by decide +kernel
theorem dX10_simple_152 : decode cX10_simple 152 = .ok (.getfield 7, 3) := by decide +kernel
theorem dX10_simple_155 : decode cX10_simple 155 = .ok (.bipush 64, 2) := by decide +kernel
theorem dX10_simple_157 : decode cX10_simple 157 = .ok (.if_icmp .eq 16, 3) := by decide +kernel
theorem dX10_simple_160 : decode cX10_simple 160 = .ok (.aload_n 0, 1) := by decide +kernel
theorem dX10_simple_161 : decode cX10_simple 161 = .ok (.getfield 13, 3) := by decide +kernel
theorem dX10_simple_164 : decode cX10_simple 164 = .ok (.iload 9, 2) := by decide +kernel
theorem dX10_simple_166 : decode cX10_simple 166 = .ok (.iadd, 1) := by decide +kernel
theorem dX10_simple_167 : decode cX10_simple 167 = .ok (.sipush 400, 3) := by decide +kernel
theorem dX10_simple_170 : decode cX10_simple 170 = .ok (.if_icmp .le 6, 3) := by decide +kernel
theorem dX10_simple_173 : decode cX10_simple 173 = .ok (.bipush (-2), 2) := by decide +kernel
theorem dX10_simple_175 : decode cX10_simple 175 = .ok (.ireturn, 1) := by decide +kernel
theorem dX10_simple_176 : decode cX10_simple 176 = .ok (.aload_n 0, 1) := by decide +kernel
theorem dX10_simple_177 : decode cX10_simple 177 = .ok (.dup, 1) := by decide +kernel
theorem dX10_simple_178 : decode cX10_simple 178 = .ok (.getfield 13, 3) := by decide +kernel
theorem dX10_simple_181 : decode cX10_simple 181 = .ok (.iload 9, 2) := by decide +kernel
theorem dX10_simple_183 : decode cX10_simple 183 = .ok (.iadd, 1) := by decide +kernel
theorem dX10_simple_184 : decode cX10_simple 184 = .ok (.putfield 13, 3) := by decide +kernel
theorem dX10_simple_187 : decode cX10_simple 187 = .ok (.aload_n 0, 1) := by decide +kernel
theorem dX10_simple_188 : decode cX10_simple 188 = .ok (.iload_n 1, 1) := by decide +kernel
theorem dX10_simple_189 : decode cX10_simple 189 = .ok (.iload_n 2, 1) := by decide +kernel
theorem dX10_simple_190 : decode cX10_simple 190 = .ok (.iload 7, 2) := by decide +kernel
theorem dX10_simple_192 : decode cX10_simple 192 = .ok (.iload 8, 2) := by decide +kernel
theorem dX10_simple_194 : decode cX10_simple 194 = .ok (.iload 6, 2) := by decide +kernel
theorem dX10_simple_196 : decode cX10_simple 196 = .ok (.invokevirtual 76, 3) := by decide +kernel
theorem dX10_simple_199 : decode cX10_simple 199 = .ok (.ireturn, 1) := by decide +kernel
def fm_Mod_simple_L59 (st : XS) (o : Int32) (x1 : Int32) (y1 : Int32) (z1 : Int32) : Nat → Int32 → Int32 → Nat → Int32 × XS
  | 0, sc, td, i => (0, st)
  | n + 1, sc, td, i => 
    if gI (((fm_Mod_shorter st o x1 y1 z1).2)) 0 ≤ nI i then 
      if o = (16 : Int32) then 
        if gI (((fm_Mod_shorter st o x1 y1 z1).2)) 0 = (64 : Int32) then ((-2 : Int32), ((fm_Mod_shorter st o x1 y1 z1).2))
        else 
          if (gI (((fm_Mod_shorter st o x1 y1 z1).2)) 1) + (fm_Mod_cost (((fm_Mod_shorter st o x1 y1 z1).2)) o (fA (((fm_Mod_shorter st o x1 y1 z1).2)) 4 y1.toNatClampNeg)) ≤ (400 : Int32) then (((fm_Mod_fresh (wI (((fm_Mod_shorter st o x1 y1 z1).2)) 1 ((gI (((fm_Mod_shorter st o x1 y1 z1).2)) 1) + (fm_Mod_cost (((fm_Mod_shorter st o x1 y1 z1).2)) o (fA (((fm_Mod_shorter st o x1 y1 z1).2)) 4 y1.toNatClampNeg)))) o x1 sc td (fm_Mod_widthOf (((fm_Mod_shorter st o x1 y1 z1).2)) o x1 y1)).1), ((fm_Mod_fresh (wI (((fm_Mod_shorter st o x1 y1 z1).2)) 1 ((gI (((fm_Mod_shorter st o x1 y1 z1).2)) 1) + (fm_Mod_cost (((fm_Mod_shorter st o x1 y1 z1).2)) o (fA (((fm_Mod_shorter st o x1 y1 z1).2)) 4 y1.toNatClampNeg)))) o x1 sc td (fm_Mod_widthOf (((fm_Mod_shorter st o x1 y1 z1).2)) o x1 y1)).2))
          else ((-2 : Int32), ((fm_Mod_shorter st o x1 y1 z1).2))
      else 
        if gI (((fm_Mod_shorter st o x1 y1 z1).2)) 0 = (64 : Int32) then ((-2 : Int32), ((fm_Mod_shorter st o x1 y1 z1).2))
        else 
          if (gI (((fm_Mod_shorter st o x1 y1 z1).2)) 1) + (fm_Mod_cost (((fm_Mod_shorter st o x1 y1 z1).2)) o (fA (((fm_Mod_shorter st o x1 y1 z1).2)) 4 x1.toNatClampNeg)) ≤ (400 : Int32) then (((fm_Mod_fresh (wI (((fm_Mod_shorter st o x1 y1 z1).2)) 1 ((gI (((fm_Mod_shorter st o x1 y1 z1).2)) 1) + (fm_Mod_cost (((fm_Mod_shorter st o x1 y1 z1).2)) o (fA (((fm_Mod_shorter st o x1 y1 z1).2)) 4 x1.toNatClampNeg)))) o x1 sc td (fm_Mod_widthOf (((fm_Mod_shorter st o x1 y1 z1).2)) o x1 y1)).1), ((fm_Mod_fresh (wI (((fm_Mod_shorter st o x1 y1 z1).2)) 1 ((gI (((fm_Mod_shorter st o x1 y1 z1).2)) 1) + (fm_Mod_cost (((fm_Mod_shorter st o x1 y1 z1).2)) o (fA (((fm_Mod_shorter st o x1 y1 z1).2)) 4 x1.toNatClampNeg)))) o x1 sc td (fm_Mod_widthOf (((fm_Mod_shorter st o x1 y1 z1).2)) o x1 y1)).2))
          else ((-2 : Int32), ((fm_Mod_shorter st o x1 y1 z1).2))
    else 
      if fA (((fm_Mod_shorter st o x1 y1 z1).2)) 0 (nI i).toNatClampNeg = o then 
        if fA (((fm_Mod_shorter st o x1 y1 z1).2)) 1 (nI i).toNatClampNeg = x1 then 
          if fA (((fm_Mod_shorter st o x1 y1 z1).2)) 2 (nI i).toNatClampNeg = sc then 
            if fA (((fm_Mod_shorter st o x1 y1 z1).2)) 3 (nI i).toNatClampNeg = td then (nI i, ((fm_Mod_shorter st o x1 y1 z1).2))
            else fm_Mod_simple_L59 st o x1 y1 z1 n sc td (i + 1)
          else fm_Mod_simple_L59 st o x1 y1 z1 n sc td (i + 1)
        else fm_Mod_simple_L59 st o x1 y1 z1 n sc td (i + 1)
      else fm_Mod_simple_L59 st o x1 y1 z1 n sc td (i + 1)
def fm_Mod_simple (st : XS) (o : Int32) (x1 : Int32) (y1 : Int32) (z1 : Int32) : Int32 × XS := 
  if ((fm_Mod_shorter st o x1 y1 z1).1) = (-9 : Int32) then 
    if (2 : Int32) ≤ o then 
      if o = (16 : Int32) then fm_Mod_simple_L59 st o x1 y1 z1 65 y1 z1 0
      else fm_Mod_simple_L59 st o x1 y1 z1 65 y1 (0 : Int32) 0
    else 
      if o = (16 : Int32) then fm_Mod_simple_L59 st o x1 y1 z1 65 (0 : Int32) z1 0
      else fm_Mod_simple_L59 st o x1 y1 z1 65 (0 : Int32) (0 : Int32) 0
  else (((fm_Mod_shorter st o x1 y1 z1).1), ((fm_Mod_shorter st o x1 y1 z1).2))
theorem fr_Mod_simple_L59 (st : XS) (o : Int32) (x1 : Int32) (y1 : Int32) (z1 : Int32) : ∀ (n : Nat) (sc : Int32) (td : Int32) (i : Nat), XF [0, 1] [0, 1, 2, 3, 4] [0] st (fm_Mod_simple_L59 st o x1 y1 z1 n sc td i).2 := by
  intro n
  induction n with
  | zero => intro sc td i; exact XF.rf
  | succ n ih =>
    intro sc td i
    rw [fm_Mod_simple_L59]
    exact (wl_ite (P := fun (q : Int32 × XS) => XF [0, 1] [0, 1, 2, 3, 4] [0] _ (q.2)) (wl_ite (P := fun (q : Int32 × XS) => XF [0, 1] [0, 1, 2, 3, 4] [0] _ (q.2)) (wl_ite (P := fun (q : Int32 × XS) => XF [0, 1] [0, 1, 2, 3, 4] [0] _ (q.2)) (wl_snd (XF.tr XF.rf (XF.mono (ff_Mod_shorter _ _ _ _ _) (by decide) (by decide) (by decide)))) (wl_ite (P := fun (q : Int32 × XS) => XF [0, 1] [0, 1, 2, 3, 4] [0] _ (q.2)) (wl_snd (XF.tr (XF.wI (by decide) (XF.tr XF.rf (XF.mono (ff_Mod_shorter _ _ _ _ _) (by decide) (by decide) (by decide)))) (XF.mono (ff_Mod_fresh _ _ _ _ _ _) (by decide) (by decide) (by decide)))) (wl_snd (XF.tr XF.rf (XF.mono (ff_Mod_shorter _ _ _ _ _) (by decide) (by decide) (by decide)))))) (wl_ite (P := fun (q : Int32 × XS) => XF [0, 1] [0, 1, 2, 3, 4] [0] _ (q.2)) (wl_snd (XF.tr XF.rf (XF.mono (ff_Mod_shorter _ _ _ _ _) (by decide) (by decide) (by decide)))) (wl_ite (P := fun (q : Int32 × XS) => XF [0, 1] [0, 1, 2, 3, 4] [0] _ (q.2)) (wl_snd (XF.tr (XF.wI (by decide) (XF.tr XF.rf (XF.mono (ff_Mod_shorter _ _ _ _ _) (by decide) (by decide) (by decide)))) (XF.mono (ff_Mod_fresh _ _ _ _ _ _) (by decide) (by decide) (by decide)))) (wl_snd (XF.tr XF.rf (XF.mono (ff_Mod_shorter _ _ _ _ _) (by decide) (by decide) (by decide))))))) (wl_ite (P := fun (q : Int32 × XS) => XF [0, 1] [0, 1, 2, 3, 4] [0] _ (q.2)) (wl_ite (P := fun (q : Int32 × XS) => XF [0, 1] [0, 1, 2, 3, 4] [0] _ (q.2)) (wl_ite (P := fun (q : Int32 × XS) => XF [0, 1] [0, 1, 2, 3, 4] [0] _ (q.2)) (wl_ite (P := fun (q : Int32 × XS) => XF [0, 1] [0, 1, 2, 3, 4] [0] _ (q.2)) (wl_snd (XF.tr XF.rf (XF.mono (ff_Mod_shorter _ _ _ _ _) (by decide) (by decide) (by decide)))) (ih _ _ _)) (ih _ _ _)) (ih _ _ _)) (ih _ _ _)))
theorem ff_Mod_simple (st : XS) (o : Int32) (x1 : Int32) (y1 : Int32) (z1 : Int32) : XF [0, 1] [0, 1, 2, 3, 4] [0] st (fm_Mod_simple st o x1 y1 z1).2 := by
  rw [fm_Mod_simple]
  exact (wl_ite (P := fun (q : Int32 × XS) => XF [0, 1] [0, 1, 2, 3, 4] [0] _ (q.2)) (wl_ite (P := fun (q : Int32 × XS) => XF [0, 1] [0, 1, 2, 3, 4] [0] _ (q.2)) (wl_ite (P := fun (q : Int32 × XS) => XF [0, 1] [0, 1, 2, 3, 4] [0] _ (q.2)) (fr_Mod_simple_L59 _ _ _ _ _ _ _ _ _) (fr_Mod_simple_L59 _ _ _ _ _ _ _ _ _)) (wl_ite (P := fun (q : Int32 × XS) => XF [0, 1] [0, 1, 2, 3, 4] [0] _ (q.2)) (fr_Mod_simple_L59 _ _ _ _ _ _ _ _ _) (fr_Mod_simple_L59 _ _ _ _ _ _ _ _ _))) (wl_snd (XF.tr XF.rf (XF.mono (ff_Mod_shorter _ _ _ _ _) (by decide) (by decide) (by decide)))))
set_option maxHeartbeats 4000000 in
set_option maxRecDepth 100000 in
theorem km_Mod_simple (l : Launch) (dC : Nat → ClassId) (dI : Nat → Nat → Nat) (a : Nat → Nat) (k : Nat → ClassId) (st : XS) (o : Int32) (x1 : Int32) (y1 : Int32) (z1 : Int32) (sz : Nat) (N : Nat) (hN : gI st 0 = nI N) (h64 : N ≤ 64) (hA : vp_in x1 64) (hY : ¬ o < 2 → o ≤ 16 → ¬ o = 16 → vp_in y1 64) (hY6 : o = 16 → vp_in y1 64) : Met l yX10_simple wsX10_simple ({ frames := 3, cells := 0, slots := 0, locals := 74 }) (va_Pc [.ref (a 0), .int o, .int x1, .int y1, .int z1] (wl_pre (dC, dI) vwCl (mt k) (mw a k) st sz)) (va_Qi (fun r9 u9 => (r9, u9) = fm_Mod_simple st o x1 y1 z1) (wl_at (dC, dI) vwCl (mt k) (mw a k) (va_A (mw a k st) sz)) (va_A (mw a k st) sz)) 0 0 (va_A (mw a k st) sz) := by
  refine Met.ofW (cc := cX10_simple) (maxL := 10) (ret := (some .int)) (by decide) rfl ?_
  intro p e s m args below meth c s₁ B hml hv
  obtain ⟨rfl, hsz, hP, hK, hD0⟩ := hv
  have hx := B.exec
  have hb := B.bytes
  have hr := B.returns
  have hta := aw_hts (atoms_spec (ws := wsX10_simple) B.pre)
  have hown : s.vm.findClass RX10 = some m.cls := findClass_of_methodNamed B.named
  have hlocks := B.notSynchronized
  have hf7 := hta _ mw_633
  have hf44 := hta _ mw_644
  have hf13 := hta _ mw_634
  have hf31 := hta _ mw_640
  have hf35 := hta _ mw_641
  have hf38 := hta _ mw_642
  have hf41 := hta _ mw_643
  subst hsz
  have hD := hD0.self (sz := s.heap.size)
  generalize hAe : va_A (mw a k st) s.heap.size = A at hD ⊢
  have hAz : ∀ q : Nat, s.heap.size ≤ q → A q := fun q h => by rw [← hAe]; exact Or.inr h
  have hS : va_S A s.heap s.heap [] := va_S.rf
  have hl := lv_entry ([.ref (a 0), .int o, .int x1, .int y1, .int z1]) (n := 10) (Nat.le_of_ble_eq_true rfl)
  rw [lg_entry_eq]
  generalize (lg_sl ([.ref (a 0), .int o, .int x1, .int y1, .int z1]) ++ List.replicate (10 - (lg_sl ([.ref (a 0), .int o, .int x1, .int y1, .int z1])).length) Slot.unset).toArray = ls at hl ⊢
  have hl : lv_has ls 10 [(0, .ref (a 0)), (1, .int o), (2, .int x1), (3, .int y1), (4, .int z1)] := hl
  generalize hR : fm_Mod_simple st o x1 y1 z1 = R
  rw [fm_Mod_simple] at hR
  refine lv_aload_n hx hb dX10_simple_0 rfl (lv_at hl 0 rfl) ?_
  refine lv_iload_n hx hb dX10_simple_1 rfl (lv_at hl 1 rfl) ?_
  refine lv_iload_n hx hb dX10_simple_2 rfl (lv_at hl 2 rfl) ?_
  refine lv_iload_n hx hb dX10_simple_3 rfl (lv_at hl 3 rfl) ?_
  refine lv_iload hx hb dX10_simple_4 (lv_at hl 4 rfl) ?_
  refine wl_mi (va_runV (As := [.int o, .int x1, .int y1, .int z1]) (rest := []) ⟨hx, hb, hml, hown, hta⟩ (km_Mod_shorter l dC dI a k st o x1 y1 z1 _ N hN h64 hA hY) (cwV 4 hta gX10_139 rfl rfl rfl (by decide +kernel) ⟨Nat.le_of_ble_eq_true rfl, Nat.le_of_ble_eq_true rfl⟩) (wl_pM (C := RX10) (ci := 8) (q0 := 0) hK hP hD rfl (mr_0 a k st)) rfl rfl hl.1 rfl (lv_room (Nat.le_of_ble_eq_true rfl)) dX10_simple_6 ⟨Nat.zero_le _, Nat.zero_le _⟩) hP hD hS hAz (fun r6 u6 H locs hw6 hP hD hS => ?_)
  have v6 : (fm_Mod_shorter st o x1 y1 z1).1 = r6 := congrArg Prod.fst hw6.symm
  have w6 : (fm_Mod_shorter st o x1 y1 z1).2 = u6 := congrArg Prod.snd hw6.symm
  have hf6 : XF [0] [0, 1, 2, 3, 4] [0] st u6 := by rw [← w6]; exact ff_Mod_shorter st o x1 y1 z1
  try rw [v6] at hR
  try rw [w6] at hR
  obtain ⟨N2, hN2, hN264⟩ := wm_shN (o := o) (x1 := x1) (y1 := y1) (z1 := z1) hN h64
  rw [w6] at hN2
  refine lv_istore (lv' := [(5, .int (r6)), (0, .ref (a 0)), (1, .int o), (2, .int x1), (3, .int y1), (4, .int z1)]) hx hb dX10_simple_9 hl (by decide) rfl (fun ls hl => ?_)
  refine lv_aload_n hx hb dX10_simple_11 rfl (lv_at hl 1 rfl) ?_
  refine lv_iload_n hx hb dX10_simple_12 rfl (lv_at hl 2 rfl) ?_
  refine lv_iload_n hx hb dX10_simple_13 rfl (lv_at hl 3 rfl) ?_
  refine lv_iload_n hx hb dX10_simple_14 rfl (lv_at hl 4 rfl) ?_
  refine wl_ci (va_runV (As := [.int o, .int x1, .int y1]) (rest := []) ⟨hx, hb, hml, hown, hta⟩ (km_Mod_widthOf l dC dI a k (u6) o x1 y1 hA hY6) (cwV 3 hta gX10_124 rfl rfl rfl (by decide +kernel) ⟨Nat.le_of_ble_eq_true rfl, Nat.le_of_ble_eq_true rfl⟩) (wl_pR (C := RX10) (ci := 8) (q0 := 0) hK hP rfl (mr_0 a k (u6))) rfl rfl hl.1 rfl (lv_room (Nat.le_of_ble_eq_true rfl)) dX10_simple_15 ⟨Nat.zero_le _, Nat.zero_le _⟩) ?_
  refine lv_istore (lv' := [(6, .int (fm_Mod_widthOf (u6) o x1 y1)), (5, .int (r6)), (0, .ref (a 0)), (1, .int o), (2, .int x1), (3, .int y1), (4, .int z1)]) hx hb dX10_simple_18 hl (by decide) rfl (fun ls hl => ?_)
  refine lv_iload hx hb dX10_simple_20 (lv_at hl 1 rfl) ?_
  refine lv_bipush (v := (-9 : Int32)) hx hb dX10_simple_22 (by decide) ?_
  refine lv_icmp_eq (tgt := 30) hx hb dX10_simple_24 (by decide) (fun c24 => ?_) (fun c24 => ?_)
  · skip
    rw [if_pos c24] at hR
    refine lv_iload_n hx hb dX10_simple_30 rfl (lv_at hl 3 rfl) ?_
    refine lv_iconst (v := (2 : Int32)) hx hb dX10_simple_31 (by decide) ?_
    refine lv_icmp_ge (tgt := 39) hx hb dX10_simple_32 (by decide) (fun c32 => ?_) (fun c32 => ?_)
    · skip
      rw [if_pos c32] at hR
      refine lv_iload_n hx hb dX10_simple_39 rfl (lv_at hl 5 rfl) ?_
      refine lv_istore (lv' := [(7, .int y1), (6, .int (fm_Mod_widthOf (u6) o x1 y1)), (5, .int (r6)), (0, .ref (a 0)), (1, .int o), (2, .int x1), (3, .int y1), (4, .int z1)]) hx hb dX10_simple_40 hl (by decide) rfl (fun ls hl => ?_)
      refine lv_iload_n hx hb dX10_simple_42 rfl (lv_at hl 4 rfl) ?_
      refine lv_bipush (v := (16 : Int32)) hx hb dX10_simple_43 (by decide) ?_
      refine lv_icmp_ne (tgt := 53) hx hb dX10_simple_45 (by decide) (fun c45 => ?_) (fun c45 => ?_)
      · skip
        rw [if_neg c45] at hR
        refine lv_iconst (v := (0 : Int32)) hx hb dX10_simple_53 (by decide) ?_
        refine lv_istore (lv' := [(8, .int (0 : Int32)), (7, .int y1), (6, .int (fm_Mod_widthOf (u6) o x1 y1)), (5, .int (r6)), (0, .ref (a 0)), (1, .int o), (2, .int x1), (3, .int y1), (4, .int z1)]) hx hb dX10_simple_54 hl (by decide) rfl (fun ls hl => ?_)
        refine lv_iconst (v := (0 : Int32)) hx hb dX10_simple_56 (by decide) ?_
        refine lv_istore (lv' := [(9, .int (0 : Int32)), (8, .int (0 : Int32)), (7, .int y1), (6, .int (fm_Mod_widthOf (u6) o x1 y1)), (5, .int (r6)), (0, .ref (a 0)), (1, .int o), (2, .int x1), (3, .int y1), (4, .int z1)]) hx hb dX10_simple_57 hl (by decide) rfl (fun ls hl => ?_)
        have L59 : ∀ (n : Nat) (sc : Int32) (td : Int32) (i : Nat) (H : Heap) (locs : List Loc) (ls : Array Slot), fm_Mod_simple_L59 st o x1 y1 z1 n sc td i = R → (i ≤ N2) → N2 - i < n → va_P (dC, dI) vwCl (mw a k (u6)) H → va_D A (mw a k (u6)) → va_S A s.heap H locs → lv_has ls 10 [(9, .int (nI i)), (8, .int td), (7, .int sc), (6, .int (fm_Mod_widthOf (u6) o x1 y1)), (5, .int (r6)), (0, .ref (a 0)), (1, .int o), (2, .int x1), (3, .int y1), (4, .int z1)] → W p l e (headSpec wsX10_simple ({ frames := 3, cells := 0, slots := 0, locals := 74 })).room s m ([.ref (a 0), .int o, .int x1, .int y1, .int z1] : List Value).toArray below meth c H locs 0 0 (MQ below (va_Qi (fun r9 u9 => (r9, u9) = R) (wl_at (dC, dI) vwCl (mt k) (mw a k) A) A) ([.ref (a 0), .int o, .int x1, .int y1, .int z1] : List Value).toArray s 0 0 A) (F0 m 59 ls []) := by
          intro n
          induction n with
          | zero =>
            intro sc td i H locs ls hR hi hm hP hD hS hl
            exact absurd hm (Nat.not_lt_zero _)
          | succ n ih =>
            intro sc td i H locs ls hR hi hm hP hD hS hl
            rw [fm_Mod_simple_L59] at hR
            try rw [v6] at hR
            try rw [w6] at hR
            refine lv_iload hx hb dX10_simple_59 (lv_at hl 0 rfl) ?_
            refine lv_aload_n hx hb dX10_simple_61 rfl (lv_at hl 5 rfl) ?_
            refine va_get (D := (dC, dI)) (ci := 8) (v := .int (gI (u6) 0)) (C := RX10) (T := TX10) (N := 21) hx hb hta inX10 hown hK hP 0 (mr_0 a k (u6)) rfl 0 (by decide) hf7 (fun _ h9 => h9) rfl dX10_simple_62 ?_
            refine lv_icmp_ge (tgt := 123) hx hb dX10_simple_65 (by decide) (fun c65 => ?_) (fun c65 => ?_)
            · skip
              rw [if_pos c65] at hR
              refine lv_aload_n hx hb dX10_simple_123 rfl (lv_at hl 5 rfl) ?_
              refine lv_iload_n hx hb dX10_simple_124 rfl (lv_at hl 6 rfl) ?_
              refine lv_iload_n hx hb dX10_simple_125 rfl (lv_at hl 6 rfl) ?_
              refine lv_bipush (v := (16 : Int32)) hx hb dX10_simple_126 (by decide) ?_
              refine lv_icmp_ne (tgt := 140) hx hb dX10_simple_128 (by decide) (fun c128 => ?_) (fun c128 => ?_)
              · skip
                rw [if_neg c128] at hR
                refine lv_aload_n hx hb dX10_simple_140 rfl (lv_at hl 5 rfl) ?_
                refine va_get (D := (dC, dI)) (ci := 8) (v := .ref (a 5)) (C := RX10) (T := TX10) (N := 21) hx hb hta inX10 hown hK hP 0 (mr_0 a k (u6)) rfl 11 (by decide) hf44 (fun _ h9 => h9) rfl dX10_simple_141 ?_
                refine lv_iload_n hx hb dX10_simple_144 rfl (lv_at hl 7 rfl) ?_
                refine va_iald hx hb hK hP 5 4 (mr_5 a k (u6)) rfl hA dX10_simple_145 ?_
                refine wl_ci (va_runV (As := [.int o, .int (fA (u6) 4 x1.toNatClampNeg)]) (rest := []) ⟨hx, hb, hml, hown, hta⟩ (km_Mod_cost l dC dI a k (u6) o (fA (u6) 4 x1.toNatClampNeg)) (cwV 2 hta gX10_142 rfl rfl rfl (by decide +kernel) ⟨Nat.le_of_ble_eq_true rfl, Nat.le_of_ble_eq_true rfl⟩) (wl_pR (C := RX10) (ci := 8) (q0 := 0) hK hP rfl (mr_0 a k (u6))) rfl rfl hl.1 rfl (lv_room (Nat.le_of_ble_eq_true rfl)) dX10_simple_146 ⟨Nat.zero_le _, Nat.zero_le _⟩) ?_
                refine lv_istore (lv' := [(9, .int (fm_Mod_cost (u6) o (fA (u6) 4 x1.toNatClampNeg))), (8, .int td), (7, .int sc), (6, .int (fm_Mod_widthOf (u6) o x1 y1)), (5, .int (r6)), (0, .ref (a 0)), (1, .int o), (2, .int x1), (3, .int y1), (4, .int z1)]) hx hb dX10_simple_149 hl (by decide) rfl (fun ls hl => ?_)
                refine lv_aload_n hx hb dX10_simple_151 rfl (lv_at hl 5 rfl) ?_
                refine va_get (D := (dC, dI)) (ci := 8) (v := .int (gI (u6) 0)) (C := RX10) (T := TX10) (N := 21) hx hb hta inX10 hown hK hP 0 (mr_0 a k (u6)) rfl 0 (by decide) hf7 (fun _ h9 => h9) rfl dX10_simple_152 ?_
                refine lv_bipush (v := (64 : Int32)) hx hb dX10_simple_155 (by decide) ?_
                refine lv_icmp_eq (tgt := 173) hx hb dX10_simple_157 (by decide) (fun c157 => ?_) (fun c157 => ?_)
                · skip
                  rw [if_pos c157] at hR
                  refine lv_bipush (v := (-2 : Int32)) hx hb dX10_simple_173 (by decide) ?_
                  exact W.iret (v := (-2 : Int32)) hx hb hr (fun t ht hW => ⟨⟨_, _, rfl, hR, by rw [ht]; exact hP, va_K.moved hW.alike hK, hD⟩, hS.F ht⟩) hS.2.2 dX10_simple_175
                · skip
                  rw [if_neg c157] at hR
                  have hN64 : N2 < 64 := wm_n64 hN2 hN264 c157
                  refine lv_aload_n hx hb dX10_simple_160 rfl (lv_at hl 5 rfl) ?_
                  refine va_get (D := (dC, dI)) (ci := 8) (v := .int (gI (u6) 1)) (C := RX10) (T := TX10) (N := 21) hx hb hta inX10 hown hK hP 0 (mr_0 a k (u6)) rfl 1 (by decide) hf13 (fun _ h9 => h9) rfl dX10_simple_161 ?_
                  refine lv_iload hx hb dX10_simple_164 (lv_at hl 0 rfl) ?_
                  refine lv_iadd hx hb dX10_simple_166 ?_
                  refine lv_sipush (v := (400 : Int32)) hx hb dX10_simple_167 (by decide) ?_
                  refine lv_icmp_le (tgt := 176) hx hb dX10_simple_170 (by decide) (fun c170 => ?_) (fun c170 => ?_)
                  · skip
                    rw [if_pos c170] at hR
                    refine lv_aload_n hx hb dX10_simple_176 rfl (lv_at hl 5 rfl) ?_
                    refine lv_dup hx hb dX10_simple_177 rfl ?_
                    refine va_get (D := (dC, dI)) (ci := 8) (v := .int (gI (u6) 1)) (C := RX10) (T := TX10) (N := 21) hx hb hta inX10 hown hK hP 0 (mr_0 a k (u6)) rfl 1 (by decide) hf13 (fun _ h9 => h9) rfl dX10_simple_178 ?_
                    refine lv_iload hx hb dX10_simple_181 (lv_at hl 0 rfl) ?_
                    refine lv_iadd hx hb dX10_simple_183 ?_
                    refine va_put (D := (dC, dI)) (ci := 8) (v := .int ((gI (u6) 1) + (fm_Mod_cost (u6) o (fA (u6) 4 x1.toNatClampNeg)))) (ty := .int) (C := RX10) (T := TX10) (N := 21) hx hb hta inX10 tyX10 tyX10_ok nmX10 hown hK hP hD hS 0 (mr_0 a k (u6)) rfl 1 (by decide) hf13 (fun _ h9 => h9) rfl (by decide +kernel) rfl rfl (Nat.le_of_ble_eq_true rfl) dX10_simple_184 (fun H locs hP hD hS => ?_)
                    have hP := mp_I1 hP
                    have hD := md_I1 hD
                    refine lv_aload_n hx hb dX10_simple_187 rfl (lv_at hl 5 rfl) ?_
                    refine lv_iload_n hx hb dX10_simple_188 rfl (lv_at hl 6 rfl) ?_
                    refine lv_iload_n hx hb dX10_simple_189 rfl (lv_at hl 7 rfl) ?_
                    refine lv_iload hx hb dX10_simple_190 (lv_at hl 2 rfl) ?_
                    refine lv_iload hx hb dX10_simple_192 (lv_at hl 1 rfl) ?_
                    refine lv_iload hx hb dX10_simple_194 (lv_at hl 3 rfl) ?_
                    refine wl_mi (va_runV (As := [.int o, .int x1, .int sc, .int td, .int (fm_Mod_widthOf (u6) o x1 y1)]) (rest := []) ⟨hx, hb, hml, hown, hta⟩ (km_Mod_fresh l dC dI a k (wI (u6) 1 ((gI (u6) 1) + (fm_Mod_cost (u6) o (fA (u6) 4 x1.toNatClampNeg)))) o x1 sc td (fm_Mod_widthOf (u6) o x1 y1) _ (show vp_in (gI u6 0) 64 from by rw [hN2]; exact wl_in hN64 (by decide))) (cwV 5 hta gX10_76 rfl rfl rfl (by decide +kernel) ⟨Nat.le_of_ble_eq_true rfl, Nat.le_of_ble_eq_true rfl⟩) (wl_pM (C := RX10) (ci := 8) (q0 := 0) hK hP hD rfl (mr_0 a k (wI (u6) 1 ((gI (u6) 1) + (fm_Mod_cost (u6) o (fA (u6) 4 x1.toNatClampNeg)))))) rfl rfl hl.1 rfl (lv_room (Nat.le_of_ble_eq_true rfl)) dX10_simple_196 ⟨Nat.zero_le _, Nat.zero_le _⟩) hP hD hS hAz (fun r196 u196 H locs hw196 hP hD hS => ?_)
                    have v196 : (fm_Mod_fresh (wI (u6) 1 ((gI (u6) 1) + (fm_Mod_cost (u6) o (fA (u6) 4 x1.toNatClampNeg)))) o x1 sc td (fm_Mod_widthOf (u6) o x1 y1)).1 = r196 := congrArg Prod.fst hw196.symm
                    have w196 : (fm_Mod_fresh (wI (u6) 1 ((gI (u6) 1) + (fm_Mod_cost (u6) o (fA (u6) 4 x1.toNatClampNeg)))) o x1 sc td (fm_Mod_widthOf (u6) o x1 y1)).2 = u196 := congrArg Prod.snd hw196.symm
                    have hf196 : XF [0] [0, 1, 2, 3, 4] [] (wI (u6) 1 ((gI (u6) 1) + (fm_Mod_cost (u6) o (fA (u6) 4 x1.toNatClampNeg)))) u196 := by rw [← w196]; exact ff_Mod_fresh (wI (u6) 1 ((gI (u6) 1) + (fm_Mod_cost (u6) o (fA (u6) 4 x1.toNatClampNeg)))) o x1 sc td (fm_Mod_widthOf (u6) o x1 y1)
                    try rw [v196] at hR
                    try rw [w196] at hR
                    exact W.iret (v := r196) hx hb hr (fun t ht hW => ⟨⟨_, _, rfl, hR, by rw [ht]; exact hP, va_K.moved hW.alike hK, hD⟩, hS.F ht⟩) hS.2.2 dX10_simple_199
                  · skip
                    rw [if_neg c170] at hR
                    refine lv_bipush (v := (-2 : Int32)) hx hb dX10_simple_173 (by decide) ?_
                    exact W.iret (v := (-2 : Int32)) hx hb hr (fun t ht hW => ⟨⟨_, _, rfl, hR, by rw [ht]; exact hP, va_K.moved hW.alike hK, hD⟩, hS.F ht⟩) hS.2.2 dX10_simple_175
              · skip
                rw [if_pos c128] at hR
                refine lv_aload_n hx hb dX10_simple_131 rfl (lv_at hl 5 rfl) ?_
                refine va_get (D := (dC, dI)) (ci := 8) (v := .ref (a 5)) (C := RX10) (T := TX10) (N := 21) hx hb hta inX10 hown hK hP 0 (mr_0 a k (u6)) rfl 11 (by decide) hf44 (fun _ h9 => h9) rfl dX10_simple_132 ?_
                refine lv_iload_n hx hb dX10_simple_135 rfl (lv_at hl 8 rfl) ?_
                refine va_iald hx hb hK hP 5 4 (mr_5 a k (u6)) rfl (hY6 c128) dX10_simple_136 ?_
                refine lv_goto (tgt := 146) hx hb dX10_simple_137 (by decide) ?_
                refine wl_ci (va_runV (As := [.int o, .int (fA (u6) 4 y1.toNatClampNeg)]) (rest := []) ⟨hx, hb, hml, hown, hta⟩ (km_Mod_cost l dC dI a k (u6) o (fA (u6) 4 y1.toNatClampNeg)) (cwV 2 hta gX10_142 rfl rfl rfl (by decide +kernel) ⟨Nat.le_of_ble_eq_true rfl, Nat.le_of_ble_eq_true rfl⟩) (wl_pR (C := RX10) (ci := 8) (q0 := 0) hK hP rfl (mr_0 a k (u6))) rfl rfl hl.1 rfl (lv_room (Nat.le_of_ble_eq_true rfl)) dX10_simple_146 ⟨Nat.zero_le _, Nat.zero_le _⟩) ?_
                refine lv_istore (lv' := [(9, .int (fm_Mod_cost (u6) o (fA (u6) 4 y1.toNatClampNeg))), (8, .int td), (7, .int sc), (6, .int (fm_Mod_widthOf (u6) o x1 y1)), (5, .int (r6)), (0, .ref (a 0)), (1, .int o), (2, .int x1), (3, .int y1), (4, .int z1)]) hx hb dX10_simple_149 hl (by decide) rfl (fun ls hl => ?_)
                refine lv_aload_n hx hb dX10_simple_151 rfl (lv_at hl 5 rfl) ?_
                refine va_get (D := (dC, dI)) (ci := 8) (v := .int (gI (u6) 0)) (C := RX10) (T := TX10) (N := 21) hx hb hta inX10 hown hK hP 0 (mr_0 a k (u6)) rfl 0 (by decide) hf7 (fun _ h9 => h9) rfl dX10_simple_152 ?_
                refine lv_bipush (v := (64 : Int32)) hx hb dX10_simple_155 (by decide) ?_
                refine lv_icmp_eq (tgt := 173) hx hb dX10_simple_157 (by decide) (fun c157 => ?_) (fun c157 => ?_)
                · skip
                  rw [if_pos c157] at hR
                  refine lv_bipush (v := (-2 : Int32)) hx hb dX10_simple_173 (by decide) ?_
                  exact W.iret (v := (-2 : Int32)) hx hb hr (fun t ht hW => ⟨⟨_, _, rfl, hR, by rw [ht]; exact hP, va_K.moved hW.alike hK, hD⟩, hS.F ht⟩) hS.2.2 dX10_simple_175
                · skip
                  rw [if_neg c157] at hR
                  have hN64 : N2 < 64 := wm_n64 hN2 hN264 c157
                  refine lv_aload_n hx hb dX10_simple_160 rfl (lv_at hl 5 rfl) ?_
                  refine va_get (D := (dC, dI)) (ci := 8) (v := .int (gI (u6) 1)) (C := RX10) (T := TX10) (N := 21) hx hb hta inX10 hown hK hP 0 (mr_0 a k (u6)) rfl 1 (by decide) hf13 (fun _ h9 => h9) rfl dX10_simple_161 ?_
                  refine lv_iload hx hb dX10_simple_164 (lv_at hl 0 rfl) ?_
                  refine lv_iadd hx hb dX10_simple_166 ?_
                  refine lv_sipush (v := (400 : Int32)) hx hb dX10_simple_167 (by decide) ?_
                  refine lv_icmp_le (tgt := 176) hx hb dX10_simple_170 (by decide) (fun c170 => ?_) (fun c170 => ?_)
                  · skip
                    rw [if_pos c170] at hR
                    refine lv_aload_n hx hb dX10_simple_176 rfl (lv_at hl 5 rfl) ?_
                    refine lv_dup hx hb dX10_simple_177 rfl ?_
                    refine va_get (D := (dC, dI)) (ci := 8) (v := .int (gI (u6) 1)) (C := RX10) (T := TX10) (N := 21) hx hb hta inX10 hown hK hP 0 (mr_0 a k (u6)) rfl 1 (by decide) hf13 (fun _ h9 => h9) rfl dX10_simple_178 ?_
                    refine lv_iload hx hb dX10_simple_181 (lv_at hl 0 rfl) ?_
                    refine lv_iadd hx hb dX10_simple_183 ?_
                    refine va_put (D := (dC, dI)) (ci := 8) (v := .int ((gI (u6) 1) + (fm_Mod_cost (u6) o (fA (u6) 4 y1.toNatClampNeg)))) (ty := .int) (C := RX10) (T := TX10) (N := 21) hx hb hta inX10 tyX10 tyX10_ok nmX10 hown hK hP hD hS 0 (mr_0 a k (u6)) rfl 1 (by decide) hf13 (fun _ h9 => h9) rfl (by decide +kernel) rfl rfl (Nat.le_of_ble_eq_true rfl) dX10_simple_184 (fun H locs hP hD hS => ?_)
                    have hP := mp_I1 hP
                    have hD := md_I1 hD
                    refine lv_aload_n hx hb dX10_simple_187 rfl (lv_at hl 5 rfl) ?_
                    refine lv_iload_n hx hb dX10_simple_188 rfl (lv_at hl 6 rfl) ?_
                    refine lv_iload_n hx hb dX10_simple_189 rfl (lv_at hl 7 rfl) ?_
                    refine lv_iload hx hb dX10_simple_190 (lv_at hl 2 rfl) ?_
                    refine lv_iload hx hb dX10_simple_192 (lv_at hl 1 rfl) ?_
                    refine lv_iload hx hb dX10_simple_194 (lv_at hl 3 rfl) ?_
                    refine wl_mi (va_runV (As := [.int o, .int x1, .int sc, .int td, .int (fm_Mod_widthOf (u6) o x1 y1)]) (rest := []) ⟨hx, hb, hml, hown, hta⟩ (km_Mod_fresh l dC dI a k (wI (u6) 1 ((gI (u6) 1) + (fm_Mod_cost (u6) o (fA (u6) 4 y1.toNatClampNeg)))) o x1 sc td (fm_Mod_widthOf (u6) o x1 y1) _ (show vp_in (gI u6 0) 64 from by rw [hN2]; exact wl_in hN64 (by decide))) (cwV 5 hta gX10_76 rfl rfl rfl (by decide +kernel) ⟨Nat.le_of_ble_eq_true rfl, Nat.le_of_ble_eq_true rfl⟩) (wl_pM (C := RX10) (ci := 8) (q0 := 0) hK hP hD rfl (mr_0 a k (wI (u6) 1 ((gI (u6) 1) + (fm_Mod_cost (u6) o (fA (u6) 4 y1.toNatClampNeg)))))) rfl rfl hl.1 rfl (lv_room (Nat.le_of_ble_eq_true rfl)) dX10_simple_196 ⟨Nat.zero_le _, Nat.zero_le _⟩) hP hD hS hAz (fun r196 u196 H locs hw196 hP hD hS => ?_)
                    have v196 : (fm_Mod_fresh (wI (u6) 1 ((gI (u6) 1) + (fm_Mod_cost (u6) o (fA (u6) 4 y1.toNatClampNeg)))) o x1 sc td (fm_Mod_widthOf (u6) o x1 y1)).1 = r196 := congrArg Prod.fst hw196.symm
                    have w196 : (fm_Mod_fresh (wI (u6) 1 ((gI (u6) 1) + (fm_Mod_cost (u6) o (fA (u6) 4 y1.toNatClampNeg)))) o x1 sc td (fm_Mod_widthOf (u6) o x1 y1)).2 = u196 := congrArg Prod.snd hw196.symm
                    have hf196 : XF [0] [0, 1, 2, 3, 4] [] (wI (u6) 1 ((gI (u6) 1) + (fm_Mod_cost (u6) o (fA (u6) 4 y1.toNatClampNeg)))) u196 := by rw [← w196]; exact ff_Mod_fresh (wI (u6) 1 ((gI (u6) 1) + (fm_Mod_cost (u6) o (fA (u6) 4 y1.toNatClampNeg)))) o x1 sc td (fm_Mod_widthOf (u6) o x1 y1)
                    try rw [v196] at hR
                    try rw [w196] at hR
                    exact W.iret (v := r196) hx hb hr (fun t ht hW => ⟨⟨_, _, rfl, hR, by rw [ht]; exact hP, va_K.moved hW.alike hK, hD⟩, hS.F ht⟩) hS.2.2 dX10_simple_199
                  · skip
                    rw [if_neg c170] at hR
                    refine lv_bipush (v := (-2 : Int32)) hx hb dX10_simple_173 (by decide) ?_
                    exact W.iret (v := (-2 : Int32)) hx hb hr (fun t ht hW => ⟨⟨_, _, rfl, hR, by rw [ht]; exact hP, va_K.moved hW.alike hK, hD⟩, hS.F ht⟩) hS.2.2 dX10_simple_175
            · skip
              rw [if_neg c65] at hR
              have hlt : i < N2 := wl_lt (by rw [← hN2]; exact c65) (by omega)
              refine lv_aload_n hx hb dX10_simple_68 rfl (lv_at hl 5 rfl) ?_
              refine va_get (D := (dC, dI)) (ci := 8) (v := .ref (a 1)) (C := RX10) (T := TX10) (N := 21) hx hb hta inX10 hown hK hP 0 (mr_0 a k (u6)) rfl 7 (by decide) hf31 (fun _ h9 => h9) rfl dX10_simple_69 ?_
              refine lv_iload hx hb dX10_simple_72 (lv_at hl 0 rfl) ?_
              refine va_iald hx hb hK hP 1 0 (mr_1 a k (u6)) rfl (wl_in (by omega) (by decide)) dX10_simple_74 ?_
              refine lv_iload_n hx hb dX10_simple_75 rfl (lv_at hl 6 rfl) ?_
              refine lv_icmp_ne (tgt := 117) hx hb dX10_simple_76 (by decide) (fun c76 => ?_) (fun c76 => ?_)
              · skip
                rw [if_neg c76] at hR
                refine lv_iinc (v := nI (i + 1)) (lv' := [(9, .int (nI (i + 1))), (8, .int td), (7, .int sc), (6, .int (fm_Mod_widthOf (u6) o x1 y1)), (5, .int (r6)), (0, .ref (a 0)), (1, .int o), (2, .int x1), (3, .int y1), (4, .int z1)]) hx hb dX10_simple_117 hl (k := 0) rfl (nI_1 _) (by decide) rfl (fun ls hl => ?_)
                refine lv_goto (tgt := 59) hx hb dX10_simple_120 (by decide) ?_
                exact ih sc td (i + 1) _ _ ls hR (by omega) (by omega) hP hD hS (lv_sub hl [0, 1, 2, 3, 4, 5, 6, 7, 8, 9] rfl)
              · skip
                rw [if_pos c76] at hR
                refine lv_aload_n hx hb dX10_simple_79 rfl (lv_at hl 5 rfl) ?_
                refine va_get (D := (dC, dI)) (ci := 8) (v := .ref (a 2)) (C := RX10) (T := TX10) (N := 21) hx hb hta inX10 hown hK hP 0 (mr_0 a k (u6)) rfl 8 (by decide) hf35 (fun _ h9 => h9) rfl dX10_simple_80 ?_
                refine lv_iload hx hb dX10_simple_83 (lv_at hl 0 rfl) ?_
                refine va_iald hx hb hK hP 2 1 (mr_2 a k (u6)) rfl (wl_in (by omega) (by decide)) dX10_simple_85 ?_
                refine lv_iload_n hx hb dX10_simple_86 rfl (lv_at hl 7 rfl) ?_
                refine lv_icmp_ne (tgt := 117) hx hb dX10_simple_87 (by decide) (fun c87 => ?_) (fun c87 => ?_)
                · skip
                  rw [if_neg c87] at hR
                  refine lv_iinc (v := nI (i + 1)) (lv' := [(9, .int (nI (i + 1))), (8, .int td), (7, .int sc), (6, .int (fm_Mod_widthOf (u6) o x1 y1)), (5, .int (r6)), (0, .ref (a 0)), (1, .int o), (2, .int x1), (3, .int y1), (4, .int z1)]) hx hb dX10_simple_117 hl (k := 0) rfl (nI_1 _) (by decide) rfl (fun ls hl => ?_)
                  refine lv_goto (tgt := 59) hx hb dX10_simple_120 (by decide) ?_
                  exact ih sc td (i + 1) _ _ ls hR (by omega) (by omega) hP hD hS (lv_sub hl [0, 1, 2, 3, 4, 5, 6, 7, 8, 9] rfl)
                · skip
                  rw [if_pos c87] at hR
                  refine lv_aload_n hx hb dX10_simple_90 rfl (lv_at hl 5 rfl) ?_
                  refine va_get (D := (dC, dI)) (ci := 8) (v := .ref (a 3)) (C := RX10) (T := TX10) (N := 21) hx hb hta inX10 hown hK hP 0 (mr_0 a k (u6)) rfl 9 (by decide) hf38 (fun _ h9 => h9) rfl dX10_simple_91 ?_
                  refine lv_iload hx hb dX10_simple_94 (lv_at hl 0 rfl) ?_
                  refine va_iald hx hb hK hP 3 2 (mr_3 a k (u6)) rfl (wl_in (by omega) (by decide)) dX10_simple_96 ?_
                  refine lv_iload hx hb dX10_simple_97 (lv_at hl 2 rfl) ?_
                  refine lv_icmp_ne (tgt := 117) hx hb dX10_simple_99 (by decide) (fun c99 => ?_) (fun c99 => ?_)
                  · skip
                    rw [if_neg c99] at hR
                    refine lv_iinc (v := nI (i + 1)) (lv' := [(9, .int (nI (i + 1))), (8, .int td), (7, .int sc), (6, .int (fm_Mod_widthOf (u6) o x1 y1)), (5, .int (r6)), (0, .ref (a 0)), (1, .int o), (2, .int x1), (3, .int y1), (4, .int z1)]) hx hb dX10_simple_117 hl (k := 0) rfl (nI_1 _) (by decide) rfl (fun ls hl => ?_)
                    refine lv_goto (tgt := 59) hx hb dX10_simple_120 (by decide) ?_
                    exact ih sc td (i + 1) _ _ ls hR (by omega) (by omega) hP hD hS (lv_sub hl [0, 1, 2, 3, 4, 5, 6, 7, 8, 9] rfl)
                  · skip
                    rw [if_pos c99] at hR
                    refine lv_aload_n hx hb dX10_simple_102 rfl (lv_at hl 5 rfl) ?_
                    refine va_get (D := (dC, dI)) (ci := 8) (v := .ref (a 4)) (C := RX10) (T := TX10) (N := 21) hx hb hta inX10 hown hK hP 0 (mr_0 a k (u6)) rfl 10 (by decide) hf41 (fun _ h9 => h9) rfl dX10_simple_103 ?_
                    refine lv_iload hx hb dX10_simple_106 (lv_at hl 0 rfl) ?_
                    refine va_iald hx hb hK hP 4 3 (mr_4 a k (u6)) rfl (wl_in (by omega) (by decide)) dX10_simple_108 ?_
                    refine lv_iload hx hb dX10_simple_109 (lv_at hl 1 rfl) ?_
                    refine lv_icmp_ne (tgt := 117) hx hb dX10_simple_111 (by decide) (fun c111 => ?_) (fun c111 => ?_)
                    · skip
                      rw [if_neg c111] at hR
                      refine lv_iinc (v := nI (i + 1)) (lv' := [(9, .int (nI (i + 1))), (8, .int td), (7, .int sc), (6, .int (fm_Mod_widthOf (u6) o x1 y1)), (5, .int (r6)), (0, .ref (a 0)), (1, .int o), (2, .int x1), (3, .int y1), (4, .int z1)]) hx hb dX10_simple_117 hl (k := 0) rfl (nI_1 _) (by decide) rfl (fun ls hl => ?_)
                      refine lv_goto (tgt := 59) hx hb dX10_simple_120 (by decide) ?_
                      exact ih sc td (i + 1) _ _ ls hR (by omega) (by omega) hP hD hS (lv_sub hl [0, 1, 2, 3, 4, 5, 6, 7, 8, 9] rfl)
                    · skip
                      rw [if_pos c111] at hR
                      refine lv_iload hx hb dX10_simple_114 (lv_at hl 0 rfl) ?_
                      exact W.iret (v := nI i) hx hb hr (fun t ht hW => ⟨⟨_, _, rfl, hR, by rw [ht]; exact hP, va_K.moved hW.alike hK, hD⟩, hS.F ht⟩) hS.2.2 dX10_simple_116
        exact L59 65 y1 (0 : Int32) 0 _ _ ls hR (Nat.zero_le _) (by omega) hP hD hS (lv_sub hl [0, 1, 2, 3, 4, 5, 6, 7, 8, 9] rfl)
      · skip
        rw [if_pos c45] at hR
        refine lv_iload hx hb dX10_simple_48 (lv_at hl 7 rfl) ?_
        refine lv_goto (tgt := 54) hx hb dX10_simple_50 (by decide) ?_
        refine lv_istore (lv' := [(8, .int z1), (7, .int y1), (6, .int (fm_Mod_widthOf (u6) o x1 y1)), (5, .int (r6)), (0, .ref (a 0)), (1, .int o), (2, .int x1), (3, .int y1), (4, .int z1)]) hx hb dX10_simple_54 hl (by decide) rfl (fun ls hl => ?_)
        refine lv_iconst (v := (0 : Int32)) hx hb dX10_simple_56 (by decide) ?_
        refine lv_istore (lv' := [(9, .int (0 : Int32)), (8, .int z1), (7, .int y1), (6, .int (fm_Mod_widthOf (u6) o x1 y1)), (5, .int (r6)), (0, .ref (a 0)), (1, .int o), (2, .int x1), (3, .int y1), (4, .int z1)]) hx hb dX10_simple_57 hl (by decide) rfl (fun ls hl => ?_)
        have L59 : ∀ (n : Nat) (sc : Int32) (td : Int32) (i : Nat) (H : Heap) (locs : List Loc) (ls : Array Slot), fm_Mod_simple_L59 st o x1 y1 z1 n sc td i = R → (i ≤ N2) → N2 - i < n → va_P (dC, dI) vwCl (mw a k (u6)) H → va_D A (mw a k (u6)) → va_S A s.heap H locs → lv_has ls 10 [(9, .int (nI i)), (8, .int td), (7, .int sc), (6, .int (fm_Mod_widthOf (u6) o x1 y1)), (5, .int (r6)), (0, .ref (a 0)), (1, .int o), (2, .int x1), (3, .int y1), (4, .int z1)] → W p l e (headSpec wsX10_simple ({ frames := 3, cells := 0, slots := 0, locals := 74 })).room s m ([.ref (a 0), .int o, .int x1, .int y1, .int z1] : List Value).toArray below meth c H locs 0 0 (MQ below (va_Qi (fun r9 u9 => (r9, u9) = R) (wl_at (dC, dI) vwCl (mt k) (mw a k) A) A) ([.ref (a 0), .int o, .int x1, .int y1, .int z1] : List Value).toArray s 0 0 A) (F0 m 59 ls []) := by
          intro n
          induction n with
          | zero =>
            intro sc td i H locs ls hR hi hm hP hD hS hl
            exact absurd hm (Nat.not_lt_zero _)
          | succ n ih =>
            intro sc td i H locs ls hR hi hm hP hD hS hl
            rw [fm_Mod_simple_L59] at hR
            try rw [v6] at hR
            try rw [w6] at hR
            refine lv_iload hx hb dX10_simple_59 (lv_at hl 0 rfl) ?_
            refine lv_aload_n hx hb dX10_simple_61 rfl (lv_at hl 5 rfl) ?_
            refine va_get (D := (dC, dI)) (ci := 8) (v := .int (gI (u6) 0)) (C := RX10) (T := TX10) (N := 21) hx hb hta inX10 hown hK hP 0 (mr_0 a k (u6)) rfl 0 (by decide) hf7 (fun _ h9 => h9) rfl dX10_simple_62 ?_
            refine lv_icmp_ge (tgt := 123) hx hb dX10_simple_65 (by decide) (fun c65 => ?_) (fun c65 => ?_)
            · skip
              rw [if_pos c65] at hR
              refine lv_aload_n hx hb dX10_simple_123 rfl (lv_at hl 5 rfl) ?_
              refine lv_iload_n hx hb dX10_simple_124 rfl (lv_at hl 6 rfl) ?_
              refine lv_iload_n hx hb dX10_simple_125 rfl (lv_at hl 6 rfl) ?_
              refine lv_bipush (v := (16 : Int32)) hx hb dX10_simple_126 (by decide) ?_
              refine lv_icmp_ne (tgt := 140) hx hb dX10_simple_128 (by decide) (fun c128 => ?_) (fun c128 => ?_)
              · skip
                rw [if_neg c128] at hR
                refine lv_aload_n hx hb dX10_simple_140 rfl (lv_at hl 5 rfl) ?_
                refine va_get (D := (dC, dI)) (ci := 8) (v := .ref (a 5)) (C := RX10) (T := TX10) (N := 21) hx hb hta inX10 hown hK hP 0 (mr_0 a k (u6)) rfl 11 (by decide) hf44 (fun _ h9 => h9) rfl dX10_simple_141 ?_
                refine lv_iload_n hx hb dX10_simple_144 rfl (lv_at hl 7 rfl) ?_
                refine va_iald hx hb hK hP 5 4 (mr_5 a k (u6)) rfl hA dX10_simple_145 ?_
                refine wl_ci (va_runV (As := [.int o, .int (fA (u6) 4 x1.toNatClampNeg)]) (rest := []) ⟨hx, hb, hml, hown, hta⟩ (km_Mod_cost l dC dI a k (u6) o (fA (u6) 4 x1.toNatClampNeg)) (cwV 2 hta gX10_142 rfl rfl rfl (by decide +kernel) ⟨Nat.le_of_ble_eq_true rfl, Nat.le_of_ble_eq_true rfl⟩) (wl_pR (C := RX10) (ci := 8) (q0 := 0) hK hP rfl (mr_0 a k (u6))) rfl rfl hl.1 rfl (lv_room (Nat.le_of_ble_eq_true rfl)) dX10_simple_146 ⟨Nat.zero_le _, Nat.zero_le _⟩) ?_
                refine lv_istore (lv' := [(9, .int (fm_Mod_cost (u6) o (fA (u6) 4 x1.toNatClampNeg))), (8, .int td), (7, .int sc), (6, .int (fm_Mod_widthOf (u6) o x1 y1)), (5, .int (r6)), (0, .ref (a 0)), (1, .int o), (2, .int x1), (3, .int y1), (4, .int z1)]) hx hb dX10_simple_149 hl (by decide) rfl (fun ls hl => ?_)
                refine lv_aload_n hx hb dX10_simple_151 rfl (lv_at hl 5 rfl) ?_
                refine va_get (D := (dC, dI)) (ci := 8) (v := .int (gI (u6) 0)) (C := RX10) (T := TX10) (N := 21) hx hb hta inX10 hown hK hP 0 (mr_0 a k (u6)) rfl 0 (by decide) hf7 (fun _ h9 => h9) rfl dX10_simple_152 ?_
                refine lv_bipush (v := (64 : Int32)) hx hb dX10_simple_155 (by decide) ?_
                refine lv_icmp_eq (tgt := 173) hx hb dX10_simple_157 (by decide) (fun c157 => ?_) (fun c157 => ?_)
                · skip
                  rw [if_pos c157] at hR
                  refine lv_bipush (v := (-2 : Int32)) hx hb dX10_simple_173 (by decide) ?_
                  exact W.iret (v := (-2 : Int32)) hx hb hr (fun t ht hW => ⟨⟨_, _, rfl, hR, by rw [ht]; exact hP, va_K.moved hW.alike hK, hD⟩, hS.F ht⟩) hS.2.2 dX10_simple_175
                · skip
                  rw [if_neg c157] at hR
                  have hN64 : N2 < 64 := wm_n64 hN2 hN264 c157
                  refine lv_aload_n hx hb dX10_simple_160 rfl (lv_at hl 5 rfl) ?_
                  refine va_get (D := (dC, dI)) (ci := 8) (v := .int (gI (u6) 1)) (C := RX10) (T := TX10) (N := 21) hx hb hta inX10 hown hK hP 0 (mr_0 a k (u6)) rfl 1 (by decide) hf13 (fun _ h9 => h9) rfl dX10_simple_161 ?_
                  refine lv_iload hx hb dX10_simple_164 (lv_at hl 0 rfl) ?_
                  refine lv_iadd hx hb dX10_simple_166 ?_
                  refine lv_sipush (v := (400 : Int32)) hx hb dX10_simple_167 (by decide) ?_
                  refine lv_icmp_le (tgt := 176) hx hb dX10_simple_170 (by decide) (fun c170 => ?_) (fun c170 => ?_)
                  · skip
                    rw [if_pos c170] at hR
                    refine lv_aload_n hx hb dX10_simple_176 rfl (lv_at hl 5 rfl) ?_
                    refine lv_dup hx hb dX10_simple_177 rfl ?_
                    refine va_get (D := (dC, dI)) (ci := 8) (v := .int (gI (u6) 1)) (C := RX10) (T := TX10) (N := 21) hx hb hta inX10 hown hK hP 0 (mr_0 a k (u6)) rfl 1 (by decide) hf13 (fun _ h9 => h9) rfl dX10_simple_178 ?_
                    refine lv_iload hx hb dX10_simple_181 (lv_at hl 0 rfl) ?_
                    refine lv_iadd hx hb dX10_simple_183 ?_
                    refine va_put (D := (dC, dI)) (ci := 8) (v := .int ((gI (u6) 1) + (fm_Mod_cost (u6) o (fA (u6) 4 x1.toNatClampNeg)))) (ty := .int) (C := RX10) (T := TX10) (N := 21) hx hb hta inX10 tyX10 tyX10_ok nmX10 hown hK hP hD hS 0 (mr_0 a k (u6)) rfl 1 (by decide) hf13 (fun _ h9 => h9) rfl (by decide +kernel) rfl rfl (Nat.le_of_ble_eq_true rfl) dX10_simple_184 (fun H locs hP hD hS => ?_)
                    have hP := mp_I1 hP
                    have hD := md_I1 hD
                    refine lv_aload_n hx hb dX10_simple_187 rfl (lv_at hl 5 rfl) ?_
                    refine lv_iload_n hx hb dX10_simple_188 rfl (lv_at hl 6 rfl) ?_
                    refine lv_iload_n hx hb dX10_simple_189 rfl (lv_at hl 7 rfl) ?_
                    refine lv_iload hx hb dX10_simple_190 (lv_at hl 2 rfl) ?_
                    refine lv_iload hx hb dX10_simple_192 (lv_at hl 1 rfl) ?_
                    refine lv_iload hx hb dX10_simple_194 (lv_at hl 3 rfl) ?_
                    refine wl_mi (va_runV (As := [.int o, .int x1, .int sc, .int td, .int (fm_Mod_widthOf (u6) o x1 y1)]) (rest := []) ⟨hx, hb, hml, hown, hta⟩ (km_Mod_fresh l dC dI a k (wI (u6) 1 ((gI (u6) 1) + (fm_Mod_cost (u6) o (fA (u6) 4 x1.toNatClampNeg)))) o x1 sc td (fm_Mod_widthOf (u6) o x1 y1) _ (show vp_in (gI u6 0) 64 from by rw [hN2]; exact wl_in hN64 (by decide))) (cwV 5 hta gX10_76 rfl rfl rfl (by decide +kernel) ⟨Nat.le_of_ble_eq_true rfl, Nat.le_of_ble_eq_true rfl⟩) (wl_pM (C := RX10) (ci := 8) (q0 := 0) hK hP hD rfl (mr_0 a k (wI (u6) 1 ((gI (u6) 1) + (fm_Mod_cost (u6) o (fA (u6) 4 x1.toNatClampNeg)))))) rfl rfl hl.1 rfl (lv_room (Nat.le_of_ble_eq_true rfl)) dX10_simple_196 ⟨Nat.zero_le _, Nat.zero_le _⟩) hP hD hS hAz (fun r196 u196 H locs hw196 hP hD hS => ?_)
                    have v196 : (fm_Mod_fresh (wI (u6) 1 ((gI (u6) 1) + (fm_Mod_cost (u6) o (fA (u6) 4 x1.toNatClampNeg)))) o x1 sc td (fm_Mod_widthOf (u6) o x1 y1)).1 = r196 := congrArg Prod.fst hw196.symm
                    have w196 : (fm_Mod_fresh (wI (u6) 1 ((gI (u6) 1) + (fm_Mod_cost (u6) o (fA (u6) 4 x1.toNatClampNeg)))) o x1 sc td (fm_Mod_widthOf (u6) o x1 y1)).2 = u196 := congrArg Prod.snd hw196.symm
                    have hf196 : XF [0] [0, 1, 2, 3, 4] [] (wI (u6) 1 ((gI (u6) 1) + (fm_Mod_cost (u6) o (fA (u6) 4 x1.toNatClampNeg)))) u196 := by rw [← w196]; exact ff_Mod_fresh (wI (u6) 1 ((gI (u6) 1) + (fm_Mod_cost (u6) o (fA (u6) 4 x1.toNatClampNeg)))) o x1 sc td (fm_Mod_widthOf (u6) o x1 y1)
                    try rw [v196] at hR
                    try rw [w196] at hR
                    exact W.iret (v := r196) hx hb hr (fun t ht hW => ⟨⟨_, _, rfl, hR, by rw [ht]; exact hP, va_K.moved hW.alike hK, hD⟩, hS.F ht⟩) hS.2.2 dX10_simple_199
                  · skip
                    rw [if_neg c170] at hR
                    refine lv_bipush (v := (-2 : Int32)) hx hb dX10_simple_173 (by decide) ?_
                    exact W.iret (v := (-2 : Int32)) hx hb hr (fun t ht hW => ⟨⟨_, _, rfl, hR, by rw [ht]; exact hP, va_K.moved hW.alike hK, hD⟩, hS.F ht⟩) hS.2.2 dX10_simple_175
              · skip
                rw [if_pos c128] at hR
                refine lv_aload_n hx hb dX10_simple_131 rfl (lv_at hl 5 rfl) ?_
                refine va_get (D := (dC, dI)) (ci := 8) (v := .ref (a 5)) (C := RX10) (T := TX10) (N := 21) hx hb hta inX10 hown hK hP 0 (mr_0 a k (u6)) rfl 11 (by decide) hf44 (fun _ h9 => h9) rfl dX10_simple_132 ?_
                refine lv_iload_n hx hb dX10_simple_135 rfl (lv_at hl 8 rfl) ?_
                refine va_iald hx hb hK hP 5 4 (mr_5 a k (u6)) rfl (hY6 c128) dX10_simple_136 ?_
                refine lv_goto (tgt := 146) hx hb dX10_simple_137 (by decide) ?_
                refine wl_ci (va_runV (As := [.int o, .int (fA (u6) 4 y1.toNatClampNeg)]) (rest := []) ⟨hx, hb, hml, hown, hta⟩ (km_Mod_cost l dC dI a k (u6) o (fA (u6) 4 y1.toNatClampNeg)) (cwV 2 hta gX10_142 rfl rfl rfl (by decide +kernel) ⟨Nat.le_of_ble_eq_true rfl, Nat.le_of_ble_eq_true rfl⟩) (wl_pR (C := RX10) (ci := 8) (q0 := 0) hK hP rfl (mr_0 a k (u6))) rfl rfl hl.1 rfl (lv_room (Nat.le_of_ble_eq_true rfl)) dX10_simple_146 ⟨Nat.zero_le _, Nat.zero_le _⟩) ?_
                refine lv_istore (lv' := [(9, .int (fm_Mod_cost (u6) o (fA (u6) 4 y1.toNatClampNeg))), (8, .int td), (7, .int sc), (6, .int (fm_Mod_widthOf (u6) o x1 y1)), (5, .int (r6)), (0, .ref (a 0)), (1, .int o), (2, .int x1), (3, .int y1), (4, .int z1)]) hx hb dX10_simple_149 hl (by decide) rfl (fun ls hl => ?_)
                refine lv_aload_n hx hb dX10_simple_151 rfl (lv_at hl 5 rfl) ?_
                refine va_get (D := (dC, dI)) (ci := 8) (v := .int (gI (u6) 0)) (C := RX10) (T := TX10) (N := 21) hx hb hta inX10 hown hK hP 0 (mr_0 a k (u6)) rfl 0 (by decide) hf7 (fun _ h9 => h9) rfl dX10_simple_152 ?_
                refine lv_bipush (v := (64 : Int32)) hx hb dX10_simple_155 (by decide) ?_
                refine lv_icmp_eq (tgt := 173) hx hb dX10_simple_157 (by decide) (fun c157 => ?_) (fun c157 => ?_)
                · skip
                  rw [if_pos c157] at hR
                  refine lv_bipush (v := (-2 : Int32)) hx hb dX10_simple_173 (by decide) ?_
                  exact W.iret (v := (-2 : Int32)) hx hb hr (fun t ht hW => ⟨⟨_, _, rfl, hR, by rw [ht]; exact hP, va_K.moved hW.alike hK, hD⟩, hS.F ht⟩) hS.2.2 dX10_simple_175
                · skip
                  rw [if_neg c157] at hR
                  have hN64 : N2 < 64 := wm_n64 hN2 hN264 c157
                  refine lv_aload_n hx hb dX10_simple_160 rfl (lv_at hl 5 rfl) ?_
                  refine va_get (D := (dC, dI)) (ci := 8) (v := .int (gI (u6) 1)) (C := RX10) (T := TX10) (N := 21) hx hb hta inX10 hown hK hP 0 (mr_0 a k (u6)) rfl 1 (by decide) hf13 (fun _ h9 => h9) rfl dX10_simple_161 ?_
                  refine lv_iload hx hb dX10_simple_164 (lv_at hl 0 rfl) ?_
                  refine lv_iadd hx hb dX10_simple_166 ?_
                  refine lv_sipush (v := (400 : Int32)) hx hb dX10_simple_167 (by decide) ?_
                  refine lv_icmp_le (tgt := 176) hx hb dX10_simple_170 (by decide) (fun c170 => ?_) (fun c170 => ?_)
                  · skip
                    rw [if_pos c170] at hR
                    refine lv_aload_n hx hb dX10_simple_176 rfl (lv_at hl 5 rfl) ?_
                    refine lv_dup hx hb dX10_simple_177 rfl ?_
                    refine va_get (D := (dC, dI)) (ci := 8) (v := .int (gI (u6) 1)) (C := RX10) (T := TX10) (N := 21) hx hb hta inX10 hown hK hP 0 (mr_0 a k (u6)) rfl 1 (by decide) hf13 (fun _ h9 => h9) rfl dX10_simple_178 ?_
                    refine lv_iload hx hb dX10_simple_181 (lv_at hl 0 rfl) ?_
                    refine lv_iadd hx hb dX10_simple_183 ?_
                    refine va_put (D := (dC, dI)) (ci := 8) (v := .int ((gI (u6) 1) + (fm_Mod_cost (u6) o (fA (u6) 4 y1.toNatClampNeg)))) (ty := .int) (C := RX10) (T := TX10) (N := 21) hx hb hta inX10 tyX10 tyX10_ok nmX10 hown hK hP hD hS 0 (mr_0 a k (u6)) rfl 1 (by decide) hf13 (fun _ h9 => h9) rfl (by decide +kernel) rfl rfl (Nat.le_of_ble_eq_true rfl) dX10_simple_184 (fun H locs hP hD hS => ?_)
                    have hP := mp_I1 hP
                    have hD := md_I1 hD
                    refine lv_aload_n hx hb dX10_simple_187 rfl (lv_at hl 5 rfl) ?_
                    refine lv_iload_n hx hb dX10_simple_188 rfl (lv_at hl 6 rfl) ?_
                    refine lv_iload_n hx hb dX10_simple_189 rfl (lv_at hl 7 rfl) ?_
                    refine lv_iload hx hb dX10_simple_190 (lv_at hl 2 rfl) ?_
                    refine lv_iload hx hb dX10_simple_192 (lv_at hl 1 rfl) ?_
                    refine lv_iload hx hb dX10_simple_194 (lv_at hl 3 rfl) ?_
                    refine wl_mi (va_runV (As := [.int o, .int x1, .int sc, .int td, .int (fm_Mod_widthOf (u6) o x1 y1)]) (rest := []) ⟨hx, hb, hml, hown, hta⟩ (km_Mod_fresh l dC dI a k (wI (u6) 1 ((gI (u6) 1) + (fm_Mod_cost (u6) o (fA (u6) 4 y1.toNatClampNeg)))) o x1 sc td (fm_Mod_widthOf (u6) o x1 y1) _ (show vp_in (gI u6 0) 64 from by rw [hN2]; exact wl_in hN64 (by decide))) (cwV 5 hta gX10_76 rfl rfl rfl (by decide +kernel) ⟨Nat.le_of_ble_eq_true rfl, Nat.le_of_ble_eq_true rfl⟩) (wl_pM (C := RX10) (ci := 8) (q0 := 0) hK hP hD rfl (mr_0 a k (wI (u6) 1 ((gI (u6) 1) + (fm_Mod_cost (u6) o (fA (u6) 4 y1.toNatClampNeg)))))) rfl rfl hl.1 rfl (lv_room (Nat.le_of_ble_eq_true rfl)) dX10_simple_196 ⟨Nat.zero_le _, Nat.zero_le _⟩) hP hD hS hAz (fun r196 u196 H locs hw196 hP hD hS => ?_)
                    have v196 : (fm_Mod_fresh (wI (u6) 1 ((gI (u6) 1) + (fm_Mod_cost (u6) o (fA (u6) 4 y1.toNatClampNeg)))) o x1 sc td (fm_Mod_widthOf (u6) o x1 y1)).1 = r196 := congrArg Prod.fst hw196.symm
                    have w196 : (fm_Mod_fresh (wI (u6) 1 ((gI (u6) 1) + (fm_Mod_cost (u6) o (fA (u6) 4 y1.toNatClampNeg)))) o x1 sc td (fm_Mod_widthOf (u6) o x1 y1)).2 = u196 := congrArg Prod.snd hw196.symm
                    have hf196 : XF [0] [0, 1, 2, 3, 4] [] (wI (u6) 1 ((gI (u6) 1) + (fm_Mod_cost (u6) o (fA (u6) 4 y1.toNatClampNeg)))) u196 := by rw [← w196]; exact ff_Mod_fresh (wI (u6) 1 ((gI (u6) 1) + (fm_Mod_cost (u6) o (fA (u6) 4 y1.toNatClampNeg)))) o x1 sc td (fm_Mod_widthOf (u6) o x1 y1)
                    try rw [v196] at hR
                    try rw [w196] at hR
                    exact W.iret (v := r196) hx hb hr (fun t ht hW => ⟨⟨_, _, rfl, hR, by rw [ht]; exact hP, va_K.moved hW.alike hK, hD⟩, hS.F ht⟩) hS.2.2 dX10_simple_199
                  · skip
                    rw [if_neg c170] at hR
                    refine lv_bipush (v := (-2 : Int32)) hx hb dX10_simple_173 (by decide) ?_
                    exact W.iret (v := (-2 : Int32)) hx hb hr (fun t ht hW => ⟨⟨_, _, rfl, hR, by rw [ht]; exact hP, va_K.moved hW.alike hK, hD⟩, hS.F ht⟩) hS.2.2 dX10_simple_175
            · skip
              rw [if_neg c65] at hR
              have hlt : i < N2 := wl_lt (by rw [← hN2]; exact c65) (by omega)
              refine lv_aload_n hx hb dX10_simple_68 rfl (lv_at hl 5 rfl) ?_
              refine va_get (D := (dC, dI)) (ci := 8) (v := .ref (a 1)) (C := RX10) (T := TX10) (N := 21) hx hb hta inX10 hown hK hP 0 (mr_0 a k (u6)) rfl 7 (by decide) hf31 (fun _ h9 => h9) rfl dX10_simple_69 ?_
              refine lv_iload hx hb dX10_simple_72 (lv_at hl 0 rfl) ?_
              refine va_iald hx hb hK hP 1 0 (mr_1 a k (u6)) rfl (wl_in (by omega) (by decide)) dX10_simple_74 ?_
              refine lv_iload_n hx hb dX10_simple_75 rfl (lv_at hl 6 rfl) ?_
              refine lv_icmp_ne (tgt := 117) hx hb dX10_simple_76 (by decide) (fun c76 => ?_) (fun c76 => ?_)
              · skip
                rw [if_neg c76] at hR
                refine lv_iinc (v := nI (i + 1)) (lv' := [(9, .int (nI (i + 1))), (8, .int td), (7, .int sc), (6, .int (fm_Mod_widthOf (u6) o x1 y1)), (5, .int (r6)), (0, .ref (a 0)), (1, .int o), (2, .int x1), (3, .int y1), (4, .int z1)]) hx hb dX10_simple_117 hl (k := 0) rfl (nI_1 _) (by decide) rfl (fun ls hl => ?_)
                refine lv_goto (tgt := 59) hx hb dX10_simple_120 (by decide) ?_
                exact ih sc td (i + 1) _ _ ls hR (by omega) (by omega) hP hD hS (lv_sub hl [0, 1, 2, 3, 4, 5, 6, 7, 8, 9] rfl)
              · skip
                rw [if_pos c76] at hR
                refine lv_aload_n hx hb dX10_simple_79 rfl (lv_at hl 5 rfl) ?_
                refine va_get (D := (dC, dI)) (ci := 8) (v := .ref (a 2)) (C := RX10) (T := TX10) (N := 21) hx hb hta inX10 hown hK hP 0 (mr_0 a k (u6)) rfl 8 (by decide) hf35 (fun _ h9 => h9) rfl dX10_simple_80 ?_
                refine lv_iload hx hb dX10_simple_83 (lv_at hl 0 rfl) ?_
                refine va_iald hx hb hK hP 2 1 (mr_2 a k (u6)) rfl (wl_in (by omega) (by decide)) dX10_simple_85 ?_
                refine lv_iload_n hx hb dX10_simple_86 rfl (lv_at hl 7 rfl) ?_
                refine lv_icmp_ne (tgt := 117) hx hb dX10_simple_87 (by decide) (fun c87 => ?_) (fun c87 => ?_)
                · skip
                  rw [if_neg c87] at hR
                  refine lv_iinc (v := nI (i + 1)) (lv' := [(9, .int (nI (i + 1))), (8, .int td), (7, .int sc), (6, .int (fm_Mod_widthOf (u6) o x1 y1)), (5, .int (r6)), (0, .ref (a 0)), (1, .int o), (2, .int x1), (3, .int y1), (4, .int z1)]) hx hb dX10_simple_117 hl (k := 0) rfl (nI_1 _) (by decide) rfl (fun ls hl => ?_)
                  refine lv_goto (tgt := 59) hx hb dX10_simple_120 (by decide) ?_
                  exact ih sc td (i + 1) _ _ ls hR (by omega) (by omega) hP hD hS (lv_sub hl [0, 1, 2, 3, 4, 5, 6, 7, 8, 9] rfl)
                · skip
                  rw [if_pos c87] at hR
                  refine lv_aload_n hx hb dX10_simple_90 rfl (lv_at hl 5 rfl) ?_
                  refine va_get (D := (dC, dI)) (ci := 8) (v := .ref (a 3)) (C := RX10) (T := TX10) (N := 21) hx hb hta inX10 hown hK hP 0 (mr_0 a k (u6)) rfl 9 (by decide) hf38 (fun _ h9 => h9) rfl dX10_simple_91 ?_
                  refine lv_iload hx hb dX10_simple_94 (lv_at hl 0 rfl) ?_
                  refine va_iald hx hb hK hP 3 2 (mr_3 a k (u6)) rfl (wl_in (by omega) (by decide)) dX10_simple_96 ?_
                  refine lv_iload hx hb dX10_simple_97 (lv_at hl 2 rfl) ?_
                  refine lv_icmp_ne (tgt := 117) hx hb dX10_simple_99 (by decide) (fun c99 => ?_) (fun c99 => ?_)
                  · skip
                    rw [if_neg c99] at hR
                    refine lv_iinc (v := nI (i + 1)) (lv' := [(9, .int (nI (i + 1))), (8, .int td), (7, .int sc), (6, .int (fm_Mod_widthOf (u6) o x1 y1)), (5, .int (r6)), (0, .ref (a 0)), (1, .int o), (2, .int x1), (3, .int y1), (4, .int z1)]) hx hb dX10_simple_117 hl (k := 0) rfl (nI_1 _) (by decide) rfl (fun ls hl => ?_)
                    refine lv_goto (tgt := 59) hx hb dX10_simple_120 (by decide) ?_
                    exact ih sc td (i + 1) _ _ ls hR (by omega) (by omega) hP hD hS (lv_sub hl [0, 1, 2, 3, 4, 5, 6, 7, 8, 9] rfl)
                  · skip
                    rw [if_pos c99] at hR
                    refine lv_aload_n hx hb dX10_simple_102 rfl (lv_at hl 5 rfl) ?_
                    refine va_get (D := (dC, dI)) (ci := 8) (v := .ref (a 4)) (C := RX10) (T := TX10) (N := 21) hx hb hta inX10 hown hK hP 0 (mr_0 a k (u6)) rfl 10 (by decide) hf41 (fun _ h9 => h9) rfl dX10_simple_103 ?_
                    refine lv_iload hx hb dX10_simple_106 (lv_at hl 0 rfl) ?_
                    refine va_iald hx hb hK hP 4 3 (mr_4 a k (u6)) rfl (wl_in (by omega) (by decide)) dX10_simple_108 ?_
                    refine lv_iload hx hb dX10_simple_109 (lv_at hl 1 rfl) ?_
                    refine lv_icmp_ne (tgt := 117) hx hb dX10_simple_111 (by decide) (fun c111 => ?_) (fun c111 => ?_)
                    · skip
                      rw [if_neg c111] at hR
                      refine lv_iinc (v := nI (i + 1)) (lv' := [(9, .int (nI (i + 1))), (8, .int td), (7, .int sc), (6, .int (fm_Mod_widthOf (u6) o x1 y1)), (5, .int (r6)), (0, .ref (a 0)), (1, .int o), (2, .int x1), (3, .int y1), (4, .int z1)]) hx hb dX10_simple_117 hl (k := 0) rfl (nI_1 _) (by decide) rfl (fun ls hl => ?_)
                      refine lv_goto (tgt := 59) hx hb dX10_simple_120 (by decide) ?_
                      exact ih sc td (i + 1) _ _ ls hR (by omega) (by omega) hP hD hS (lv_sub hl [0, 1, 2, 3, 4, 5, 6, 7, 8, 9] rfl)
                    · skip
                      rw [if_pos c111] at hR
                      refine lv_iload hx hb dX10_simple_114 (lv_at hl 0 rfl) ?_
                      exact W.iret (v := nI i) hx hb hr (fun t ht hW => ⟨⟨_, _, rfl, hR, by rw [ht]; exact hP, va_K.moved hW.alike hK, hD⟩, hS.F ht⟩) hS.2.2 dX10_simple_116
        exact L59 65 y1 z1 0 _ _ ls hR (Nat.zero_le _) (by omega) hP hD hS (lv_sub hl [0, 1, 2, 3, 4, 5, 6, 7, 8, 9] rfl)
    · skip
      rw [if_neg c32] at hR
      refine lv_iconst (v := (0 : Int32)) hx hb dX10_simple_35 (by decide) ?_
      refine lv_goto (tgt := 40) hx hb dX10_simple_36 (by decide) ?_
      refine lv_istore (lv' := [(7, .int (0 : Int32)), (6, .int (fm_Mod_widthOf (u6) o x1 y1)), (5, .int (r6)), (0, .ref (a 0)), (1, .int o), (2, .int x1), (3, .int y1), (4, .int z1)]) hx hb dX10_simple_40 hl (by decide) rfl (fun ls hl => ?_)
      refine lv_iload_n hx hb dX10_simple_42 rfl (lv_at hl 4 rfl) ?_
      refine lv_bipush (v := (16 : Int32)) hx hb dX10_simple_43 (by decide) ?_
      refine lv_icmp_ne (tgt := 53) hx hb dX10_simple_45 (by decide) (fun c45 => ?_) (fun c45 => ?_)
      · skip
        rw [if_neg c45] at hR
        refine lv_iconst (v := (0 : Int32)) hx hb dX10_simple_53 (by decide) ?_
        refine lv_istore (lv' := [(8, .int (0 : Int32)), (7, .int (0 : Int32)), (6, .int (fm_Mod_widthOf (u6) o x1 y1)), (5, .int (r6)), (0, .ref (a 0)), (1, .int o), (2, .int x1), (3, .int y1), (4, .int z1)]) hx hb dX10_simple_54 hl (by decide) rfl (fun ls hl => ?_)
        refine lv_iconst (v := (0 : Int32)) hx hb dX10_simple_56 (by decide) ?_
        refine lv_istore (lv' := [(9, .int (0 : Int32)), (8, .int (0 : Int32)), (7, .int (0 : Int32)), (6, .int (fm_Mod_widthOf (u6) o x1 y1)), (5, .int (r6)), (0, .ref (a 0)), (1, .int o), (2, .int x1), (3, .int y1), (4, .int z1)]) hx hb dX10_simple_57 hl (by decide) rfl (fun ls hl => ?_)
        have L59 : ∀ (n : Nat) (sc : Int32) (td : Int32) (i : Nat) (H : Heap) (locs : List Loc) (ls : Array Slot), fm_Mod_simple_L59 st o x1 y1 z1 n sc td i = R → (i ≤ N2) → N2 - i < n → va_P (dC, dI) vwCl (mw a k (u6)) H → va_D A (mw a k (u6)) → va_S A s.heap H locs → lv_has ls 10 [(9, .int (nI i)), (8, .int td), (7, .int sc), (6, .int (fm_Mod_widthOf (u6) o x1 y1)), (5, .int (r6)), (0, .ref (a 0)), (1, .int o), (2, .int x1), (3, .int y1), (4, .int z1)] → W p l e (headSpec wsX10_simple ({ frames := 3, cells := 0, slots := 0, locals := 74 })).room s m ([.ref (a 0), .int o, .int x1, .int y1, .int z1] : List Value).toArray below meth c H locs 0 0 (MQ below (va_Qi (fun r9 u9 => (r9, u9) = R) (wl_at (dC, dI) vwCl (mt k) (mw a k) A) A) ([.ref (a 0), .int o, .int x1, .int y1, .int z1] : List Value).toArray s 0 0 A) (F0 m 59 ls []) := by
          intro n
          induction n with
          | zero =>
            intro sc td i H locs ls hR hi hm hP hD hS hl
            exact absurd hm (Nat.not_lt_zero _)
          | succ n ih =>
            intro sc td i H locs ls hR hi hm hP hD hS hl
            rw [fm_Mod_simple_L59] at hR
            try rw [v6] at hR
            try rw [w6] at hR
            refine lv_iload hx hb dX10_simple_59 (lv_at hl 0 rfl) ?_
            refine lv_aload_n hx hb dX10_simple_61 rfl (lv_at hl 5 rfl) ?_
            refine va_get (D := (dC, dI)) (ci := 8) (v := .int (gI (u6) 0)) (C := RX10) (T := TX10) (N := 21) hx hb hta inX10 hown hK hP 0 (mr_0 a k (u6)) rfl 0 (by decide) hf7 (fun _ h9 => h9) rfl dX10_simple_62 ?_
            refine lv_icmp_ge (tgt := 123) hx hb dX10_simple_65 (by decide) (fun c65 => ?_) (fun c65 => ?_)
            · skip
              rw [if_pos c65] at hR
              refine lv_aload_n hx hb dX10_simple_123 rfl (lv_at hl 5 rfl) ?_
              refine lv_iload_n hx hb dX10_simple_124 rfl (lv_at hl 6 rfl) ?_
              refine lv_iload_n hx hb dX10_simple_125 rfl (lv_at hl 6 rfl) ?_
              refine lv_bipush (v := (16 : Int32)) hx hb dX10_simple_126 (by decide) ?_
              refine lv_icmp_ne (tgt := 140) hx hb dX10_simple_128 (by decide) (fun c128 => ?_) (fun c128 => ?_)
              · skip
                rw [if_neg c128] at hR
                refine lv_aload_n hx hb dX10_simple_140 rfl (lv_at hl 5 rfl) ?_
                refine va_get (D := (dC, dI)) (ci := 8) (v := .ref (a 5)) (C := RX10) (T := TX10) (N := 21) hx hb hta inX10 hown hK hP 0 (mr_0 a k (u6)) rfl 11 (by decide) hf44 (fun _ h9 => h9) rfl dX10_simple_141 ?_
                refine lv_iload_n hx hb dX10_simple_144 rfl (lv_at hl 7 rfl) ?_
                refine va_iald hx hb hK hP 5 4 (mr_5 a k (u6)) rfl hA dX10_simple_145 ?_
                refine wl_ci (va_runV (As := [.int o, .int (fA (u6) 4 x1.toNatClampNeg)]) (rest := []) ⟨hx, hb, hml, hown, hta⟩ (km_Mod_cost l dC dI a k (u6) o (fA (u6) 4 x1.toNatClampNeg)) (cwV 2 hta gX10_142 rfl rfl rfl (by decide +kernel) ⟨Nat.le_of_ble_eq_true rfl, Nat.le_of_ble_eq_true rfl⟩) (wl_pR (C := RX10) (ci := 8) (q0 := 0) hK hP rfl (mr_0 a k (u6))) rfl rfl hl.1 rfl (lv_room (Nat.le_of_ble_eq_true rfl)) dX10_simple_146 ⟨Nat.zero_le _, Nat.zero_le _⟩) ?_
                refine lv_istore (lv' := [(9, .int (fm_Mod_cost (u6) o (fA (u6) 4 x1.toNatClampNeg))), (8, .int td), (7, .int sc), (6, .int (fm_Mod_widthOf (u6) o x1 y1)), (5, .int (r6)), (0, .ref (a 0)), (1, .int o), (2, .int x1), (3, .int y1), (4, .int z1)]) hx hb dX10_simple_149 hl (by decide) rfl (fun ls hl => ?_)
                refine lv_aload_n hx hb dX10_simple_151 rfl (lv_at hl 5 rfl) ?_
                refine va_get (D := (dC, dI)) (ci := 8) (v := .int (gI (u6) 0)) (C := RX10) (T := TX10) (N := 21) hx hb hta inX10 hown hK hP 0 (mr_0 a k (u6)) rfl 0 (by decide) hf7 (fun _ h9 => h9) rfl dX10_simple_152 ?_
                refine lv_bipush (v := (64 : Int32)) hx hb dX10_simple_155 (by decide) ?_
                refine lv_icmp_eq (tgt := 173) hx hb dX10_simple_157 (by decide) (fun c157 => ?_) (fun c157 => ?_)
                · skip
                  rw [if_pos c157] at hR
                  refine lv_bipush (v := (-2 : Int32)) hx hb dX10_simple_173 (by decide) ?_
                  exact W.iret (v := (-2 : Int32)) hx hb hr (fun t ht hW => ⟨⟨_, _, rfl, hR, by rw [ht]; exact hP, va_K.moved hW.alike hK, hD⟩, hS.F ht⟩) hS.2.2 dX10_simple_175
                · skip
                  rw [if_neg c157] at hR
                  have hN64 : N2 < 64 := wm_n64 hN2 hN264 c157
                  refine lv_aload_n hx hb dX10_simple_160 rfl (lv_at hl 5 rfl) ?_
                  refine va_get (D := (dC, dI)) (ci := 8) (v := .int (gI (u6) 1)) (C := RX10) (T := TX10) (N := 21) hx hb hta inX10 hown hK hP 0 (mr_0 a k (u6)) rfl 1 (by decide) hf13 (fun _ h9 => h9) rfl dX10_simple_161 ?_
                  refine lv_iload hx hb dX10_simple_164 (lv_at hl 0 rfl) ?_
                  refine lv_iadd hx hb dX10_simple_166 ?_
                  refine lv_sipush (v := (400 : Int32)) hx hb dX10_simple_167 (by decide) ?_
                  refine lv_icmp_le (tgt := 176) hx hb dX10_simple_170 (by decide) (fun c170 => ?_) (fun c170 => ?_)
                  · skip
                    rw [if_pos c170] at hR
                    refine lv_aload_n hx hb dX10_simple_176 rfl (lv_at hl 5 rfl) ?_
                    refine lv_dup hx hb dX10_simple_177 rfl ?_
                    refine va_get (D := (dC, dI)) (ci := 8) (v := .int (gI (u6) 1)) (C := RX10) (T := TX10) (N := 21) hx hb hta inX10 hown hK hP 0 (mr_0 a k (u6)) rfl 1 (by decide) hf13 (fun _ h9 => h9) rfl dX10_simple_178 ?_
                    refine lv_iload hx hb dX10_simple_181 (lv_at hl 0 rfl) ?_
                    refine lv_iadd hx hb dX10_simple_183 ?_
                    refine va_put (D := (dC, dI)) (ci := 8) (v := .int ((gI (u6) 1) + (fm_Mod_cost (u6) o (fA (u6) 4 x1.toNatClampNeg)))) (ty := .int) (C := RX10) (T := TX10) (N := 21) hx hb hta inX10 tyX10 tyX10_ok nmX10 hown hK hP hD hS 0 (mr_0 a k (u6)) rfl 1 (by decide) hf13 (fun _ h9 => h9) rfl (by decide +kernel) rfl rfl (Nat.le_of_ble_eq_true rfl) dX10_simple_184 (fun H locs hP hD hS => ?_)
                    have hP := mp_I1 hP
                    have hD := md_I1 hD
                    refine lv_aload_n hx hb dX10_simple_187 rfl (lv_at hl 5 rfl) ?_
                    refine lv_iload_n hx hb dX10_simple_188 rfl (lv_at hl 6 rfl) ?_
                    refine lv_iload_n hx hb dX10_simple_189 rfl (lv_at hl 7 rfl) ?_
                    refine lv_iload hx hb dX10_simple_190 (lv_at hl 2 rfl) ?_
                    refine lv_iload hx hb dX10_simple_192 (lv_at hl 1 rfl) ?_
                    refine lv_iload hx hb dX10_simple_194 (lv_at hl 3 rfl) ?_
                    refine wl_mi (va_runV (As := [.int o, .int x1, .int sc, .int td, .int (fm_Mod_widthOf (u6) o x1 y1)]) (rest := []) ⟨hx, hb, hml, hown, hta⟩ (km_Mod_fresh l dC dI a k (wI (u6) 1 ((gI (u6) 1) + (fm_Mod_cost (u6) o (fA (u6) 4 x1.toNatClampNeg)))) o x1 sc td (fm_Mod_widthOf (u6) o x1 y1) _ (show vp_in (gI u6 0) 64 from by rw [hN2]; exact wl_in hN64 (by decide))) (cwV 5 hta gX10_76 rfl rfl rfl (by decide +kernel) ⟨Nat.le_of_ble_eq_true rfl, Nat.le_of_ble_eq_true rfl⟩) (wl_pM (C := RX10) (ci := 8) (q0 := 0) hK hP hD rfl (mr_0 a k (wI (u6) 1 ((gI (u6) 1) + (fm_Mod_cost (u6) o (fA (u6) 4 x1.toNatClampNeg)))))) rfl rfl hl.1 rfl (lv_room (Nat.le_of_ble_eq_true rfl)) dX10_simple_196 ⟨Nat.zero_le _, Nat.zero_le _⟩) hP hD hS hAz (fun r196 u196 H locs hw196 hP hD hS => ?_)
                    have v196 : (fm_Mod_fresh (wI (u6) 1 ((gI (u6) 1) + (fm_Mod_cost (u6) o (fA (u6) 4 x1.toNatClampNeg)))) o x1 sc td (fm_Mod_widthOf (u6) o x1 y1)).1 = r196 := congrArg Prod.fst hw196.symm
                    have w196 : (fm_Mod_fresh (wI (u6) 1 ((gI (u6) 1) + (fm_Mod_cost (u6) o (fA (u6) 4 x1.toNatClampNeg)))) o x1 sc td (fm_Mod_widthOf (u6) o x1 y1)).2 = u196 := congrArg Prod.snd hw196.symm
                    have hf196 : XF [0] [0, 1, 2, 3, 4] [] (wI (u6) 1 ((gI (u6) 1) + (fm_Mod_cost (u6) o (fA (u6) 4 x1.toNatClampNeg)))) u196 := by rw [← w196]; exact ff_Mod_fresh (wI (u6) 1 ((gI (u6) 1) + (fm_Mod_cost (u6) o (fA (u6) 4 x1.toNatClampNeg)))) o x1 sc td (fm_Mod_widthOf (u6) o x1 y1)
                    try rw [v196] at hR
                    try rw [w196] at hR
                    exact W.iret (v := r196) hx hb hr (fun t ht hW => ⟨⟨_, _, rfl, hR, by rw [ht]; exact hP, va_K.moved hW.alike hK, hD⟩, hS.F ht⟩) hS.2.2 dX10_simple_199
                  · skip
                    rw [if_neg c170] at hR
                    refine lv_bipush (v := (-2 : Int32)) hx hb dX10_simple_173 (by decide) ?_
                    exact W.iret (v := (-2 : Int32)) hx hb hr (fun t ht hW => ⟨⟨_, _, rfl, hR, by rw [ht]; exact hP, va_K.moved hW.alike hK, hD⟩, hS.F ht⟩) hS.2.2 dX10_simple_175
              · skip
                rw [if_pos c128] at hR
                refine lv_aload_n hx hb dX10_simple_131 rfl (lv_at hl 5 rfl) ?_
                refine va_get (D := (dC, dI)) (ci := 8) (v := .ref (a 5)) (C := RX10) (T := TX10) (N := 21) hx hb hta inX10 hown hK hP 0 (mr_0 a k (u6)) rfl 11 (by decide) hf44 (fun _ h9 => h9) rfl dX10_simple_132 ?_
                refine lv_iload_n hx hb dX10_simple_135 rfl (lv_at hl 8 rfl) ?_
                refine va_iald hx hb hK hP 5 4 (mr_5 a k (u6)) rfl (hY6 c128) dX10_simple_136 ?_
                refine lv_goto (tgt := 146) hx hb dX10_simple_137 (by decide) ?_
                refine wl_ci (va_runV (As := [.int o, .int (fA (u6) 4 y1.toNatClampNeg)]) (rest := []) ⟨hx, hb, hml, hown, hta⟩ (km_Mod_cost l dC dI a k (u6) o (fA (u6) 4 y1.toNatClampNeg)) (cwV 2 hta gX10_142 rfl rfl rfl (by decide +kernel) ⟨Nat.le_of_ble_eq_true rfl, Nat.le_of_ble_eq_true rfl⟩) (wl_pR (C := RX10) (ci := 8) (q0 := 0) hK hP rfl (mr_0 a k (u6))) rfl rfl hl.1 rfl (lv_room (Nat.le_of_ble_eq_true rfl)) dX10_simple_146 ⟨Nat.zero_le _, Nat.zero_le _⟩) ?_
                refine lv_istore (lv' := [(9, .int (fm_Mod_cost (u6) o (fA (u6) 4 y1.toNatClampNeg))), (8, .int td), (7, .int sc), (6, .int (fm_Mod_widthOf (u6) o x1 y1)), (5, .int (r6)), (0, .ref (a 0)), (1, .int o), (2, .int x1), (3, .int y1), (4, .int z1)]) hx hb dX10_simple_149 hl (by decide) rfl (fun ls hl => ?_)
                refine lv_aload_n hx hb dX10_simple_151 rfl (lv_at hl 5 rfl) ?_
                refine va_get (D := (dC, dI)) (ci := 8) (v := .int (gI (u6) 0)) (C := RX10) (T := TX10) (N := 21) hx hb hta inX10 hown hK hP 0 (mr_0 a k (u6)) rfl 0 (by decide) hf7 (fun _ h9 => h9) rfl dX10_simple_152 ?_
                refine lv_bipush (v := (64 : Int32)) hx hb dX10_simple_155 (by decide) ?_
                refine lv_icmp_eq (tgt := 173) hx hb dX10_simple_157 (by decide) (fun c157 => ?_) (fun c157 => ?_)
                · skip
                  rw [if_pos c157] at hR
                  refine lv_bipush (v := (-2 : Int32)) hx hb dX10_simple_173 (by decide) ?_
                  exact W.iret (v := (-2 : Int32)) hx hb hr (fun t ht hW => ⟨⟨_, _, rfl, hR, by rw [ht]; exact hP, va_K.moved hW.alike hK, hD⟩, hS.F ht⟩) hS.2.2 dX10_simple_175
                · skip
                  rw [if_neg c157] at hR
                  have hN64 : N2 < 64 := wm_n64 hN2 hN264 c157
                  refine lv_aload_n hx hb dX10_simple_160 rfl (lv_at hl 5 rfl) ?_
                  refine va_get (D := (dC, dI)) (ci := 8) (v := .int (gI (u6) 1)) (C := RX10) (T := TX10) (N := 21) hx hb hta inX10 hown hK hP 0 (mr_0 a k (u6)) rfl 1 (by decide) hf13 (fun _ h9 => h9) rfl dX10_simple_161 ?_
                  refine lv_iload hx hb dX10_simple_164 (lv_at hl 0 rfl) ?_
                  refine lv_iadd hx hb dX10_simple_166 ?_
                  refine lv_sipush (v := (400 : Int32)) hx hb dX10_simple_167 (by decide) ?_
                  refine lv_icmp_le (tgt := 176) hx hb dX10_simple_170 (by decide) (fun c170 => ?_) (fun c170 => ?_)
                  · skip
                    rw [if_pos c170] at hR
                    refine lv_aload_n hx hb dX10_simple_176 rfl (lv_at hl 5 rfl) ?_
                    refine lv_dup hx hb dX10_simple_177 rfl ?_
                    refine va_get (D := (dC, dI)) (ci := 8) (v := .int (gI (u6) 1)) (C := RX10) (T := TX10) (N := 21) hx hb hta inX10 hown hK hP 0 (mr_0 a k (u6)) rfl 1 (by decide) hf13 (fun _ h9 => h9) rfl dX10_simple_178 ?_
                    refine lv_iload hx hb dX10_simple_181 (lv_at hl 0 rfl) ?_
                    refine lv_iadd hx hb dX10_simple_183 ?_
                    refine va_put (D := (dC, dI)) (ci := 8) (v := .int ((gI (u6) 1) + (fm_Mod_cost (u6) o (fA (u6) 4 y1.toNatClampNeg)))) (ty := .int) (C := RX10) (T := TX10) (N := 21) hx hb hta inX10 tyX10 tyX10_ok nmX10 hown hK hP hD hS 0 (mr_0 a k (u6)) rfl 1 (by decide) hf13 (fun _ h9 => h9) rfl (by decide +kernel) rfl rfl (Nat.le_of_ble_eq_true rfl) dX10_simple_184 (fun H locs hP hD hS => ?_)
                    have hP := mp_I1 hP
                    have hD := md_I1 hD
                    refine lv_aload_n hx hb dX10_simple_187 rfl (lv_at hl 5 rfl) ?_
                    refine lv_iload_n hx hb dX10_simple_188 rfl (lv_at hl 6 rfl) ?_
                    refine lv_iload_n hx hb dX10_simple_189 rfl (lv_at hl 7 rfl) ?_
                    refine lv_iload hx hb dX10_simple_190 (lv_at hl 2 rfl) ?_
                    refine lv_iload hx hb dX10_simple_192 (lv_at hl 1 rfl) ?_
                    refine lv_iload hx hb dX10_simple_194 (lv_at hl 3 rfl) ?_
                    refine wl_mi (va_runV (As := [.int o, .int x1, .int sc, .int td, .int (fm_Mod_widthOf (u6) o x1 y1)]) (rest := []) ⟨hx, hb, hml, hown, hta⟩ (km_Mod_fresh l dC dI a k (wI (u6) 1 ((gI (u6) 1) + (fm_Mod_cost (u6) o (fA (u6) 4 y1.toNatClampNeg)))) o x1 sc td (fm_Mod_widthOf (u6) o x1 y1) _ (show vp_in (gI u6 0) 64 from by rw [hN2]; exact wl_in hN64 (by decide))) (cwV 5 hta gX10_76 rfl rfl rfl (by decide +kernel) ⟨Nat.le_of_ble_eq_true rfl, Nat.le_of_ble_eq_true rfl⟩) (wl_pM (C := RX10) (ci := 8) (q0 := 0) hK hP hD rfl (mr_0 a k (wI (u6) 1 ((gI (u6) 1) + (fm_Mod_cost (u6) o (fA (u6) 4 y1.toNatClampNeg)))))) rfl rfl hl.1 rfl (lv_room (Nat.le_of_ble_eq_true rfl)) dX10_simple_196 ⟨Nat.zero_le _, Nat.zero_le _⟩) hP hD hS hAz (fun r196 u196 H locs hw196 hP hD hS => ?_)
                    have v196 : (fm_Mod_fresh (wI (u6) 1 ((gI (u6) 1) + (fm_Mod_cost (u6) o (fA (u6) 4 y1.toNatClampNeg)))) o x1 sc td (fm_Mod_widthOf (u6) o x1 y1)).1 = r196 := congrArg Prod.fst hw196.symm
                    have w196 : (fm_Mod_fresh (wI (u6) 1 ((gI (u6) 1) + (fm_Mod_cost (u6) o (fA (u6) 4 y1.toNatClampNeg)))) o x1 sc td (fm_Mod_widthOf (u6) o x1 y1)).2 = u196 := congrArg Prod.snd hw196.symm
                    have hf196 : XF [0] [0, 1, 2, 3, 4] [] (wI (u6) 1 ((gI (u6) 1) + (fm_Mod_cost (u6) o (fA (u6) 4 y1.toNatClampNeg)))) u196 := by rw [← w196]; exact ff_Mod_fresh (wI (u6) 1 ((gI (u6) 1) + (fm_Mod_cost (u6) o (fA (u6) 4 y1.toNatClampNeg)))) o x1 sc td (fm_Mod_widthOf (u6) o x1 y1)
                    try rw [v196] at hR
                    try rw [w196] at hR
                    exact W.iret (v := r196) hx hb hr (fun t ht hW => ⟨⟨_, _, rfl, hR, by rw [ht]; exact hP, va_K.moved hW.alike hK, hD⟩, hS.F ht⟩) hS.2.2 dX10_simple_199
                  · skip
                    rw [if_neg c170] at hR
                    refine lv_bipush (v := (-2 : Int32)) hx hb dX10_simple_173 (by decide) ?_
                    exact W.iret (v := (-2 : Int32)) hx hb hr (fun t ht hW => ⟨⟨_, _, rfl, hR, by rw [ht]; exact hP, va_K.moved hW.alike hK, hD⟩, hS.F ht⟩) hS.2.2 dX10_simple_175
            · skip
              rw [if_neg c65] at hR
              have hlt : i < N2 := wl_lt (by rw [← hN2]; exact c65) (by omega)
              refine lv_aload_n hx hb dX10_simple_68 rfl (lv_at hl 5 rfl) ?_
              refine va_get (D := (dC, dI)) (ci := 8) (v := .ref (a 1)) (C := RX10) (T := TX10) (N := 21) hx hb hta inX10 hown hK hP 0 (mr_0 a k (u6)) rfl 7 (by decide) hf31 (fun _ h9 => h9) rfl dX10_simple_69 ?_
              refine lv_iload hx hb dX10_simple_72 (lv_at hl 0 rfl) ?_
              refine va_iald hx hb hK hP 1 0 (mr_1 a k (u6)) rfl (wl_in (by omega) (by decide)) dX10_simple_74 ?_
              refine lv_iload_n hx hb dX10_simple_75 rfl (lv_at hl 6 rfl) ?_
              refine lv_icmp_ne (tgt := 117) hx hb dX10_simple_76 (by decide) (fun c76 => ?_) (fun c76 => ?_)
              · skip
                rw [if_neg c76] at hR
                refine lv_iinc (v := nI (i + 1)) (lv' := [(9, .int (nI (i + 1))), (8, .int td), (7, .int sc), (6, .int (fm_Mod_widthOf (u6) o x1 y1)), (5, .int (r6)), (0, .ref (a 0)), (1, .int o), (2, .int x1), (3, .int y1), (4, .int z1)]) hx hb dX10_simple_117 hl (k := 0) rfl (nI_1 _) (by decide) rfl (fun ls hl => ?_)
                refine lv_goto (tgt := 59) hx hb dX10_simple_120 (by decide) ?_
                exact ih sc td (i + 1) _ _ ls hR (by omega) (by omega) hP hD hS (lv_sub hl [0, 1, 2, 3, 4, 5, 6, 7, 8, 9] rfl)
              · skip
                rw [if_pos c76] at hR
                refine lv_aload_n hx hb dX10_simple_79 rfl (lv_at hl 5 rfl) ?_
                refine va_get (D := (dC, dI)) (ci := 8) (v := .ref (a 2)) (C := RX10) (T := TX10) (N := 21) hx hb hta inX10 hown hK hP 0 (mr_0 a k (u6)) rfl 8 (by decide) hf35 (fun _ h9 => h9) rfl dX10_simple_80 ?_
                refine lv_iload hx hb dX10_simple_83 (lv_at hl 0 rfl) ?_
                refine va_iald hx hb hK hP 2 1 (mr_2 a k (u6)) rfl (wl_in (by omega) (by decide)) dX10_simple_85 ?_
                refine lv_iload_n hx hb dX10_simple_86 rfl (lv_at hl 7 rfl) ?_
                refine lv_icmp_ne (tgt := 117) hx hb dX10_simple_87 (by decide) (fun c87 => ?_) (fun c87 => ?_)
                · skip
                  rw [if_neg c87] at hR
                  refine lv_iinc (v := nI (i + 1)) (lv' := [(9, .int (nI (i + 1))), (8, .int td), (7, .int sc), (6, .int (fm_Mod_widthOf (u6) o x1 y1)), (5, .int (r6)), (0, .ref (a 0)), (1, .int o), (2, .int x1), (3, .int y1), (4, .int z1)]) hx hb dX10_simple_117 hl (k := 0) rfl (nI_1 _) (by decide) rfl (fun ls hl => ?_)
                  refine lv_goto (tgt := 59) hx hb dX10_simple_120 (by decide) ?_
                  exact ih sc td (i + 1) _ _ ls hR (by omega) (by omega) hP hD hS (lv_sub hl [0, 1, 2, 3, 4, 5, 6, 7, 8, 9] rfl)
                · skip
                  rw [if_pos c87] at hR
                  refine lv_aload_n hx hb dX10_simple_90 rfl (lv_at hl 5 rfl) ?_
                  refine va_get (D := (dC, dI)) (ci := 8) (v := .ref (a 3)) (C := RX10) (T := TX10) (N := 21) hx hb hta inX10 hown hK hP 0 (mr_0 a k (u6)) rfl 9 (by decide) hf38 (fun _ h9 => h9) rfl dX10_simple_91 ?_
                  refine lv_iload hx hb dX10_simple_94 (lv_at hl 0 rfl) ?_
                  refine va_iald hx hb hK hP 3 2 (mr_3 a k (u6)) rfl (wl_in (by omega) (by decide)) dX10_simple_96 ?_
                  refine lv_iload hx hb dX10_simple_97 (lv_at hl 2 rfl) ?_
                  refine lv_icmp_ne (tgt := 117) hx hb dX10_simple_99 (by decide) (fun c99 => ?_) (fun c99 => ?_)
                  · skip
                    rw [if_neg c99] at hR
                    refine lv_iinc (v := nI (i + 1)) (lv' := [(9, .int (nI (i + 1))), (8, .int td), (7, .int sc), (6, .int (fm_Mod_widthOf (u6) o x1 y1)), (5, .int (r6)), (0, .ref (a 0)), (1, .int o), (2, .int x1), (3, .int y1), (4, .int z1)]) hx hb dX10_simple_117 hl (k := 0) rfl (nI_1 _) (by decide) rfl (fun ls hl => ?_)
                    refine lv_goto (tgt := 59) hx hb dX10_simple_120 (by decide) ?_
                    exact ih sc td (i + 1) _ _ ls hR (by omega) (by omega) hP hD hS (lv_sub hl [0, 1, 2, 3, 4, 5, 6, 7, 8, 9] rfl)
                  · skip
                    rw [if_pos c99] at hR
                    refine lv_aload_n hx hb dX10_simple_102 rfl (lv_at hl 5 rfl) ?_
                    refine va_get (D := (dC, dI)) (ci := 8) (v := .ref (a 4)) (C := RX10) (T := TX10) (N := 21) hx hb hta inX10 hown hK hP 0 (mr_0 a k (u6)) rfl 10 (by decide) hf41 (fun _ h9 => h9) rfl dX10_simple_103 ?_
                    refine lv_iload hx hb dX10_simple_106 (lv_at hl 0 rfl) ?_
                    refine va_iald hx hb hK hP 4 3 (mr_4 a k (u6)) rfl (wl_in (by omega) (by decide)) dX10_simple_108 ?_
                    refine lv_iload hx hb dX10_simple_109 (lv_at hl 1 rfl) ?_
                    refine lv_icmp_ne (tgt := 117) hx hb dX10_simple_111 (by decide) (fun c111 => ?_) (fun c111 => ?_)
                    · skip
                      rw [if_neg c111] at hR
                      refine lv_iinc (v := nI (i + 1)) (lv' := [(9, .int (nI (i + 1))), (8, .int td), (7, .int sc), (6, .int (fm_Mod_widthOf (u6) o x1 y1)), (5, .int (r6)), (0, .ref (a 0)), (1, .int o), (2, .int x1), (3, .int y1), (4, .int z1)]) hx hb dX10_simple_117 hl (k := 0) rfl (nI_1 _) (by decide) rfl (fun ls hl => ?_)
                      refine lv_goto (tgt := 59) hx hb dX10_simple_120 (by decide) ?_
                      exact ih sc td (i + 1) _ _ ls hR (by omega) (by omega) hP hD hS (lv_sub hl [0, 1, 2, 3, 4, 5, 6, 7, 8, 9] rfl)
                    · skip
                      rw [if_pos c111] at hR
                      refine lv_iload hx hb dX10_simple_114 (lv_at hl 0 rfl) ?_
                      exact W.iret (v := nI i) hx hb hr (fun t ht hW => ⟨⟨_, _, rfl, hR, by rw [ht]; exact hP, va_K.moved hW.alike hK, hD⟩, hS.F ht⟩) hS.2.2 dX10_simple_116
        exact L59 65 (0 : Int32) (0 : Int32) 0 _ _ ls hR (Nat.zero_le _) (by omega) hP hD hS (lv_sub hl [0, 1, 2, 3, 4, 5, 6, 7, 8, 9] rfl)
      · skip
        rw [if_pos c45] at hR
        refine lv_iload hx hb dX10_simple_48 (lv_at hl 7 rfl) ?_
        refine lv_goto (tgt := 54) hx hb dX10_simple_50 (by decide) ?_
        refine lv_istore (lv' := [(8, .int z1), (7, .int (0 : Int32)), (6, .int (fm_Mod_widthOf (u6) o x1 y1)), (5, .int (r6)), (0, .ref (a 0)), (1, .int o), (2, .int x1), (3, .int y1), (4, .int z1)]) hx hb dX10_simple_54 hl (by decide) rfl (fun ls hl => ?_)
        refine lv_iconst (v := (0 : Int32)) hx hb dX10_simple_56 (by decide) ?_
        refine lv_istore (lv' := [(9, .int (0 : Int32)), (8, .int z1), (7, .int (0 : Int32)), (6, .int (fm_Mod_widthOf (u6) o x1 y1)), (5, .int (r6)), (0, .ref (a 0)), (1, .int o), (2, .int x1), (3, .int y1), (4, .int z1)]) hx hb dX10_simple_57 hl (by decide) rfl (fun ls hl => ?_)
        have L59 : ∀ (n : Nat) (sc : Int32) (td : Int32) (i : Nat) (H : Heap) (locs : List Loc) (ls : Array Slot), fm_Mod_simple_L59 st o x1 y1 z1 n sc td i = R → (i ≤ N2) → N2 - i < n → va_P (dC, dI) vwCl (mw a k (u6)) H → va_D A (mw a k (u6)) → va_S A s.heap H locs → lv_has ls 10 [(9, .int (nI i)), (8, .int td), (7, .int sc), (6, .int (fm_Mod_widthOf (u6) o x1 y1)), (5, .int (r6)), (0, .ref (a 0)), (1, .int o), (2, .int x1), (3, .int y1), (4, .int z1)] → W p l e (headSpec wsX10_simple ({ frames := 3, cells := 0, slots := 0, locals := 74 })).room s m ([.ref (a 0), .int o, .int x1, .int y1, .int z1] : List Value).toArray below meth c H locs 0 0 (MQ below (va_Qi (fun r9 u9 => (r9, u9) = R) (wl_at (dC, dI) vwCl (mt k) (mw a k) A) A) ([.ref (a 0), .int o, .int x1, .int y1, .int z1] : List Value).toArray s 0 0 A) (F0 m 59 ls []) := by
          intro n
          induction n with
          | zero =>
            intro sc td i H locs ls hR hi hm hP hD hS hl
            exact absurd hm (Nat.not_lt_zero _)
          | succ n ih =>
            intro sc td i H locs ls hR hi hm hP hD hS hl
            rw [fm_Mod_simple_L59] at hR
            try rw [v6] at hR
            try rw [w6] at hR
            refine lv_iload hx hb dX10_simple_59 (lv_at hl 0 rfl) ?_
            refine lv_aload_n hx hb dX10_simple_61 rfl (lv_at hl 5 rfl) ?_
            refine va_get (D := (dC, dI)) (ci := 8) (v := .int (gI (u6) 0)) (C := RX10) (T := TX10) (N := 21) hx hb hta inX10 hown hK hP 0 (mr_0 a k (u6)) rfl 0 (by decide) hf7 (fun _ h9 => h9) rfl dX10_simple_62 ?_
            refine lv_icmp_ge (tgt := 123) hx hb dX10_simple_65 (by decide) (fun c65 => ?_) (fun c65 => ?_)
            · skip
              rw [if_pos c65] at hR
              refine lv_aload_n hx hb dX10_simple_123 rfl (lv_at hl 5 rfl) ?_
              refine lv_iload_n hx hb dX10_simple_124 rfl (lv_at hl 6 rfl) ?_
              refine lv_iload_n hx hb dX10_simple_125 rfl (lv_at hl 6 rfl) ?_
              refine lv_bipush (v := (16 : Int32)) hx hb dX10_simple_126 (by decide) ?_
              refine lv_icmp_ne (tgt := 140) hx hb dX10_simple_128 (by decide) (fun c128 => ?_) (fun c128 => ?_)
              · skip
                rw [if_neg c128] at hR
                refine lv_aload_n hx hb dX10_simple_140 rfl (lv_at hl 5 rfl) ?_
                refine va_get (D := (dC, dI)) (ci := 8) (v := .ref (a 5)) (C := RX10) (T := TX10) (N := 21) hx hb hta inX10 hown hK hP 0 (mr_0 a k (u6)) rfl 11 (by decide) hf44 (fun _ h9 => h9) rfl dX10_simple_141 ?_
                refine lv_iload_n hx hb dX10_simple_144 rfl (lv_at hl 7 rfl) ?_
                refine va_iald hx hb hK hP 5 4 (mr_5 a k (u6)) rfl hA dX10_simple_145 ?_
                refine wl_ci (va_runV (As := [.int o, .int (fA (u6) 4 x1.toNatClampNeg)]) (rest := []) ⟨hx, hb, hml, hown, hta⟩ (km_Mod_cost l dC dI a k (u6) o (fA (u6) 4 x1.toNatClampNeg)) (cwV 2 hta gX10_142 rfl rfl rfl (by decide +kernel) ⟨Nat.le_of_ble_eq_true rfl, Nat.le_of_ble_eq_true rfl⟩) (wl_pR (C := RX10) (ci := 8) (q0 := 0) hK hP rfl (mr_0 a k (u6))) rfl rfl hl.1 rfl (lv_room (Nat.le_of_ble_eq_true rfl)) dX10_simple_146 ⟨Nat.zero_le _, Nat.zero_le _⟩) ?_
                refine lv_istore (lv' := [(9, .int (fm_Mod_cost (u6) o (fA (u6) 4 x1.toNatClampNeg))), (8, .int td), (7, .int sc), (6, .int (fm_Mod_widthOf (u6) o x1 y1)), (5, .int (r6)), (0, .ref (a 0)), (1, .int o), (2, .int x1), (3, .int y1), (4, .int z1)]) hx hb dX10_simple_149 hl (by decide) rfl (fun ls hl => ?_)
                refine lv_aload_n hx hb dX10_simple_151 rfl (lv_at hl 5 rfl) ?_
                refine va_get (D := (dC, dI)) (ci := 8) (v := .int (gI (u6) 0)) (C := RX10) (T := TX10) (N := 21) hx hb hta inX10 hown hK hP 0 (mr_0 a k (u6)) rfl 0 (by decide) hf7 (fun _ h9 => h9) rfl dX10_simple_152 ?_
                refine lv_bipush (v := (64 : Int32)) hx hb dX10_simple_155 (by decide) ?_
                refine lv_icmp_eq (tgt := 173) hx hb dX10_simple_157 (by decide) (fun c157 => ?_) (fun c157 => ?_)
                · skip
                  rw [if_pos c157] at hR
                  refine lv_bipush (v := (-2 : Int32)) hx hb dX10_simple_173 (by decide) ?_
                  exact W.iret (v := (-2 : Int32)) hx hb hr (fun t ht hW => ⟨⟨_, _, rfl, hR, by rw [ht]; exact hP, va_K.moved hW.alike hK, hD⟩, hS.F ht⟩) hS.2.2 dX10_simple_175
                · skip
                  rw [if_neg c157] at hR
                  have hN64 : N2 < 64 := wm_n64 hN2 hN264 c157
                  refine lv_aload_n hx hb dX10_simple_160 rfl (lv_at hl 5 rfl) ?_
                  refine va_get (D := (dC, dI)) (ci := 8) (v := .int (gI (u6) 1)) (C := RX10) (T := TX10) (N := 21) hx hb hta inX10 hown hK hP 0 (mr_0 a k (u6)) rfl 1 (by decide) hf13 (fun _ h9 => h9) rfl dX10_simple_161 ?_
                  refine lv_iload hx hb dX10_simple_164 (lv_at hl 0 rfl) ?_
                  refine lv_iadd hx hb dX10_simple_166 ?_
                  refine lv_sipush (v := (400 : Int32)) hx hb dX10_simple_167 (by decide) ?_
                  refine lv_icmp_le (tgt := 176) hx hb dX10_simple_170 (by decide) (fun c170 => ?_) (fun c170 => ?_)
                  · skip
                    rw [if_pos c170] at hR
                    refine lv_aload_n hx hb dX10_simple_176 rfl (lv_at hl 5 rfl) ?_
                    refine lv_dup hx hb dX10_simple_177 rfl ?_
                    refine va_get (D := (dC, dI)) (ci := 8) (v := .int (gI (u6) 1)) (C := RX10) (T := TX10) (N := 21) hx hb hta inX10 hown hK hP 0 (mr_0 a k (u6)) rfl 1 (by decide) hf13 (fun _ h9 => h9) rfl dX10_simple_178 ?_
                    refine lv_iload hx hb dX10_simple_181 (lv_at hl 0 rfl) ?_
                    refine lv_iadd hx hb dX10_simple_183 ?_
                    refine va_put (D := (dC, dI)) (ci := 8) (v := .int ((gI (u6) 1) + (fm_Mod_cost (u6) o (fA (u6) 4 x1.toNatClampNeg)))) (ty := .int) (C := RX10) (T := TX10) (N := 21) hx hb hta inX10 tyX10 tyX10_ok nmX10 hown hK hP hD hS 0 (mr_0 a k (u6)) rfl 1 (by decide) hf13 (fun _ h9 => h9) rfl (by decide +kernel) rfl rfl (Nat.le_of_ble_eq_true rfl) dX10_simple_184 (fun H locs hP hD hS => ?_)
                    have hP := mp_I1 hP
                    have hD := md_I1 hD
                    refine lv_aload_n hx hb dX10_simple_187 rfl (lv_at hl 5 rfl) ?_
                    refine lv_iload_n hx hb dX10_simple_188 rfl (lv_at hl 6 rfl) ?_
                    refine lv_iload_n hx hb dX10_simple_189 rfl (lv_at hl 7 rfl) ?_
                    refine lv_iload hx hb dX10_simple_190 (lv_at hl 2 rfl) ?_
                    refine lv_iload hx hb dX10_simple_192 (lv_at hl 1 rfl) ?_
                    refine lv_iload hx hb dX10_simple_194 (lv_at hl 3 rfl) ?_
                    refine wl_mi (va_runV (As := [.int o, .int x1, .int sc, .int td, .int (fm_Mod_widthOf (u6) o x1 y1)]) (rest := []) ⟨hx, hb, hml, hown, hta⟩ (km_Mod_fresh l dC dI a k (wI (u6) 1 ((gI (u6) 1) + (fm_Mod_cost (u6) o (fA (u6) 4 x1.toNatClampNeg)))) o x1 sc td (fm_Mod_widthOf (u6) o x1 y1) _ (show vp_in (gI u6 0) 64 from by rw [hN2]; exact wl_in hN64 (by decide))) (cwV 5 hta gX10_76 rfl rfl rfl (by decide +kernel) ⟨Nat.le_of_ble_eq_true rfl, Nat.le_of_ble_eq_true rfl⟩) (wl_pM (C := RX10) (ci := 8) (q0 := 0) hK hP hD rfl (mr_0 a k (wI (u6) 1 ((gI (u6) 1) + (fm_Mod_cost (u6) o (fA (u6) 4 x1.toNatClampNeg)))))) rfl rfl hl.1 rfl (lv_room (Nat.le_of_ble_eq_true rfl)) dX10_simple_196 ⟨Nat.zero_le _, Nat.zero_le _⟩) hP hD hS hAz (fun r196 u196 H locs hw196 hP hD hS => ?_)
                    have v196 : (fm_Mod_fresh (wI (u6) 1 ((gI (u6) 1) + (fm_Mod_cost (u6) o (fA (u6) 4 x1.toNatClampNeg)))) o x1 sc td (fm_Mod_widthOf (u6) o x1 y1)).1 = r196 := congrArg Prod.fst hw196.symm
                    have w196 : (fm_Mod_fresh (wI (u6) 1 ((gI (u6) 1) + (fm_Mod_cost (u6) o (fA (u6) 4 x1.toNatClampNeg)))) o x1 sc td (fm_Mod_widthOf (u6) o x1 y1)).2 = u196 := congrArg Prod.snd hw196.symm
                    have hf196 : XF [0] [0, 1, 2, 3, 4] [] (wI (u6) 1 ((gI (u6) 1) + (fm_Mod_cost (u6) o (fA (u6) 4 x1.toNatClampNeg)))) u196 := by rw [← w196]; exact ff_Mod_fresh (wI (u6) 1 ((gI (u6) 1) + (fm_Mod_cost (u6) o (fA (u6) 4 x1.toNatClampNeg)))) o x1 sc td (fm_Mod_widthOf (u6) o x1 y1)
                    try rw [v196] at hR
                    try rw [w196] at hR
                    exact W.iret (v := r196) hx hb hr (fun t ht hW => ⟨⟨_, _, rfl, hR, by rw [ht]; exact hP, va_K.moved hW.alike hK, hD⟩, hS.F ht⟩) hS.2.2 dX10_simple_199
                  · skip
                    rw [if_neg c170] at hR
                    refine lv_bipush (v := (-2 : Int32)) hx hb dX10_simple_173 (by decide) ?_
                    exact W.iret (v := (-2 : Int32)) hx hb hr (fun t ht hW => ⟨⟨_, _, rfl, hR, by rw [ht]; exact hP, va_K.moved hW.alike hK, hD⟩, hS.F ht⟩) hS.2.2 dX10_simple_175
              · skip
                rw [if_pos c128] at hR
                refine lv_aload_n hx hb dX10_simple_131 rfl (lv_at hl 5 rfl) ?_
                refine va_get (D := (dC, dI)) (ci := 8) (v := .ref (a 5)) (C := RX10) (T := TX10) (N := 21) hx hb hta inX10 hown hK hP 0 (mr_0 a k (u6)) rfl 11 (by decide) hf44 (fun _ h9 => h9) rfl dX10_simple_132 ?_
                refine lv_iload_n hx hb dX10_simple_135 rfl (lv_at hl 8 rfl) ?_
                refine va_iald hx hb hK hP 5 4 (mr_5 a k (u6)) rfl (hY6 c128) dX10_simple_136 ?_
                refine lv_goto (tgt := 146) hx hb dX10_simple_137 (by decide) ?_
                refine wl_ci (va_runV (As := [.int o, .int (fA (u6) 4 y1.toNatClampNeg)]) (rest := []) ⟨hx, hb, hml, hown, hta⟩ (km_Mod_cost l dC dI a k (u6) o (fA (u6) 4 y1.toNatClampNeg)) (cwV 2 hta gX10_142 rfl rfl rfl (by decide +kernel) ⟨Nat.le_of_ble_eq_true rfl, Nat.le_of_ble_eq_true rfl⟩) (wl_pR (C := RX10) (ci := 8) (q0 := 0) hK hP rfl (mr_0 a k (u6))) rfl rfl hl.1 rfl (lv_room (Nat.le_of_ble_eq_true rfl)) dX10_simple_146 ⟨Nat.zero_le _, Nat.zero_le _⟩) ?_
                refine lv_istore (lv' := [(9, .int (fm_Mod_cost (u6) o (fA (u6) 4 y1.toNatClampNeg))), (8, .int td), (7, .int sc), (6, .int (fm_Mod_widthOf (u6) o x1 y1)), (5, .int (r6)), (0, .ref (a 0)), (1, .int o), (2, .int x1), (3, .int y1), (4, .int z1)]) hx hb dX10_simple_149 hl (by decide) rfl (fun ls hl => ?_)
                refine lv_aload_n hx hb dX10_simple_151 rfl (lv_at hl 5 rfl) ?_
                refine va_get (D := (dC, dI)) (ci := 8) (v := .int (gI (u6) 0)) (C := RX10) (T := TX10) (N := 21) hx hb hta inX10 hown hK hP 0 (mr_0 a k (u6)) rfl 0 (by decide) hf7 (fun _ h9 => h9) rfl dX10_simple_152 ?_
                refine lv_bipush (v := (64 : Int32)) hx hb dX10_simple_155 (by decide) ?_
                refine lv_icmp_eq (tgt := 173) hx hb dX10_simple_157 (by decide) (fun c157 => ?_) (fun c157 => ?_)
                · skip
                  rw [if_pos c157] at hR
                  refine lv_bipush (v := (-2 : Int32)) hx hb dX10_simple_173 (by decide) ?_
                  exact W.iret (v := (-2 : Int32)) hx hb hr (fun t ht hW => ⟨⟨_, _, rfl, hR, by rw [ht]; exact hP, va_K.moved hW.alike hK, hD⟩, hS.F ht⟩) hS.2.2 dX10_simple_175
                · skip
                  rw [if_neg c157] at hR
                  have hN64 : N2 < 64 := wm_n64 hN2 hN264 c157
                  refine lv_aload_n hx hb dX10_simple_160 rfl (lv_at hl 5 rfl) ?_
                  refine va_get (D := (dC, dI)) (ci := 8) (v := .int (gI (u6) 1)) (C := RX10) (T := TX10) (N := 21) hx hb hta inX10 hown hK hP 0 (mr_0 a k (u6)) rfl 1 (by decide) hf13 (fun _ h9 => h9) rfl dX10_simple_161 ?_
                  refine lv_iload hx hb dX10_simple_164 (lv_at hl 0 rfl) ?_
                  refine lv_iadd hx hb dX10_simple_166 ?_
                  refine lv_sipush (v := (400 : Int32)) hx hb dX10_simple_167 (by decide) ?_
                  refine lv_icmp_le (tgt := 176) hx hb dX10_simple_170 (by decide) (fun c170 => ?_) (fun c170 => ?_)
                  · skip
                    rw [if_pos c170] at hR
                    refine lv_aload_n hx hb dX10_simple_176 rfl (lv_at hl 5 rfl) ?_
                    refine lv_dup hx hb dX10_simple_177 rfl ?_
                    refine va_get (D := (dC, dI)) (ci := 8) (v := .int (gI (u6) 1)) (C := RX10) (T := TX10) (N := 21) hx hb hta inX10 hown hK hP 0 (mr_0 a k (u6)) rfl 1 (by decide) hf13 (fun _ h9 => h9) rfl dX10_simple_178 ?_
                    refine lv_iload hx hb dX10_simple_181 (lv_at hl 0 rfl) ?_
                    refine lv_iadd hx hb dX10_simple_183 ?_
                    refine va_put (D := (dC, dI)) (ci := 8) (v := .int ((gI (u6) 1) + (fm_Mod_cost (u6) o (fA (u6) 4 y1.toNatClampNeg)))) (ty := .int) (C := RX10) (T := TX10) (N := 21) hx hb hta inX10 tyX10 tyX10_ok nmX10 hown hK hP hD hS 0 (mr_0 a k (u6)) rfl 1 (by decide) hf13 (fun _ h9 => h9) rfl (by decide +kernel) rfl rfl (Nat.le_of_ble_eq_true rfl) dX10_simple_184 (fun H locs hP hD hS => ?_)
                    have hP := mp_I1 hP
                    have hD := md_I1 hD
                    refine lv_aload_n hx hb dX10_simple_187 rfl (lv_at hl 5 rfl) ?_
                    refine lv_iload_n hx hb dX10_simple_188 rfl (lv_at hl 6 rfl) ?_
                    refine lv_iload_n hx hb dX10_simple_189 rfl (lv_at hl 7 rfl) ?_
                    refine lv_iload hx hb dX10_simple_190 (lv_at hl 2 rfl) ?_
                    refine lv_iload hx hb dX10_simple_192 (lv_at hl 1 rfl) ?_
                    refine lv_iload hx hb dX10_simple_194 (lv_at hl 3 rfl) ?_
                    refine wl_mi (va_runV (As := [.int o, .int x1, .int sc, .int td, .int (fm_Mod_widthOf (u6) o x1 y1)]) (rest := []) ⟨hx, hb, hml, hown, hta⟩ (km_Mod_fresh l dC dI a k (wI (u6) 1 ((gI (u6) 1) + (fm_Mod_cost (u6) o (fA (u6) 4 y1.toNatClampNeg)))) o x1 sc td (fm_Mod_widthOf (u6) o x1 y1) _ (show vp_in (gI u6 0) 64 from by rw [hN2]; exact wl_in hN64 (by decide))) (cwV 5 hta gX10_76 rfl rfl rfl (by decide +kernel) ⟨Nat.le_of_ble_eq_true rfl, Nat.le_of_ble_eq_true rfl⟩) (wl_pM (C := RX10) (ci := 8) (q0 := 0) hK hP hD rfl (mr_0 a k (wI (u6) 1 ((gI (u6) 1) + (fm_Mod_cost (u6) o (fA (u6) 4 y1.toNatClampNeg)))))) rfl rfl hl.1 rfl (lv_room (Nat.le_of_ble_eq_true rfl)) dX10_simple_196 ⟨Nat.zero_le _, Nat.zero_le _⟩) hP hD hS hAz (fun r196 u196 H locs hw196 hP hD hS => ?_)
                    have v196 : (fm_Mod_fresh (wI (u6) 1 ((gI (u6) 1) + (fm_Mod_cost (u6) o (fA (u6) 4 y1.toNatClampNeg)))) o x1 sc td (fm_Mod_widthOf (u6) o x1 y1)).1 = r196 := congrArg Prod.fst hw196.symm
                    have w196 : (fm_Mod_fresh (wI (u6) 1 ((gI (u6) 1) + (fm_Mod_cost (u6) o (fA (u6) 4 y1.toNatClampNeg)))) o x1 sc td (fm_Mod_widthOf (u6) o x1 y1)).2 = u196 := congrArg Prod.snd hw196.symm
                    have hf196 : XF [0] [0, 1, 2, 3, 4] [] (wI (u6) 1 ((gI (u6) 1) + (fm_Mod_cost (u6) o (fA (u6) 4 y1.toNatClampNeg)))) u196 := by rw [← w196]; exact ff_Mod_fresh (wI (u6) 1 ((gI (u6) 1) + (fm_Mod_cost (u6) o (fA (u6) 4 y1.toNatClampNeg)))) o x1 sc td (fm_Mod_widthOf (u6) o x1 y1)
                    try rw [v196] at hR
                    try rw [w196] at hR
                    exact W.iret (v := r196) hx hb hr (fun t ht hW => ⟨⟨_, _, rfl, hR, by rw [ht]; exact hP, va_K.moved hW.alike hK, hD⟩, hS.F ht⟩) hS.2.2 dX10_simple_199
                  · skip
                    rw [if_neg c170] at hR
                    refine lv_bipush (v := (-2 : Int32)) hx hb dX10_simple_173 (by decide) ?_
                    exact W.iret (v := (-2 : Int32)) hx hb hr (fun t ht hW => ⟨⟨_, _, rfl, hR, by rw [ht]; exact hP, va_K.moved hW.alike hK, hD⟩, hS.F ht⟩) hS.2.2 dX10_simple_175
            · skip
              rw [if_neg c65] at hR
              have hlt : i < N2 := wl_lt (by rw [← hN2]; exact c65) (by omega)
              refine lv_aload_n hx hb dX10_simple_68 rfl (lv_at hl 5 rfl) ?_
              refine va_get (D := (dC, dI)) (ci := 8) (v := .ref (a 1)) (C := RX10) (T := TX10) (N := 21) hx hb hta inX10 hown hK hP 0 (mr_0 a k (u6)) rfl 7 (by decide) hf31 (fun _ h9 => h9) rfl dX10_simple_69 ?_
              refine lv_iload hx hb dX10_simple_72 (lv_at hl 0 rfl) ?_
              refine va_iald hx hb hK hP 1 0 (mr_1 a k (u6)) rfl (wl_in (by omega) (by decide)) dX10_simple_74 ?_
              refine lv_iload_n hx hb dX10_simple_75 rfl (lv_at hl 6 rfl) ?_
              refine lv_icmp_ne (tgt := 117) hx hb dX10_simple_76 (by decide) (fun c76 => ?_) (fun c76 => ?_)
              · skip
                rw [if_neg c76] at hR
                refine lv_iinc (v := nI (i + 1)) (lv' := [(9, .int (nI (i + 1))), (8, .int td), (7, .int sc), (6, .int (fm_Mod_widthOf (u6) o x1 y1)), (5, .int (r6)), (0, .ref (a 0)), (1, .int o), (2, .int x1), (3, .int y1), (4, .int z1)]) hx hb dX10_simple_117 hl (k := 0) rfl (nI_1 _) (by decide) rfl (fun ls hl => ?_)
                refine lv_goto (tgt := 59) hx hb dX10_simple_120 (by decide) ?_
                exact ih sc td (i + 1) _ _ ls hR (by omega) (by omega) hP hD hS (lv_sub hl [0, 1, 2, 3, 4, 5, 6, 7, 8, 9] rfl)
              · skip
                rw [if_pos c76] at hR
                refine lv_aload_n hx hb dX10_simple_79 rfl (lv_at hl 5 rfl) ?_
                refine va_get (D := (dC, dI)) (ci := 8) (v := .ref (a 2)) (C := RX10) (T := TX10) (N := 21) hx hb hta inX10 hown hK hP 0 (mr_0 a k (u6)) rfl 8 (by decide) hf35 (fun _ h9 => h9) rfl dX10_simple_80 ?_
                refine lv_iload hx hb dX10_simple_83 (lv_at hl 0 rfl) ?_
                refine va_iald hx hb hK hP 2 1 (mr_2 a k (u6)) rfl (wl_in (by omega) (by decide)) dX10_simple_85 ?_
                refine lv_iload_n hx hb dX10_simple_86 rfl (lv_at hl 7 rfl) ?_
                refine lv_icmp_ne (tgt := 117) hx hb dX10_simple_87 (by decide) (fun c87 => ?_) (fun c87 => ?_)
                · skip
                  rw [if_neg c87] at hR
                  refine lv_iinc (v := nI (i + 1)) (lv' := [(9, .int (nI (i + 1))), (8, .int td), (7, .int sc), (6, .int (fm_Mod_widthOf (u6) o x1 y1)), (5, .int (r6)), (0, .ref (a 0)), (1, .int o), (2, .int x1), (3, .int y1), (4, .int z1)]) hx hb dX10_simple_117 hl (k := 0) rfl (nI_1 _) (by decide) rfl (fun ls hl => ?_)
                  refine lv_goto (tgt := 59) hx hb dX10_simple_120 (by decide) ?_
                  exact ih sc td (i + 1) _ _ ls hR (by omega) (by omega) hP hD hS (lv_sub hl [0, 1, 2, 3, 4, 5, 6, 7, 8, 9] rfl)
                · skip
                  rw [if_pos c87] at hR
                  refine lv_aload_n hx hb dX10_simple_90 rfl (lv_at hl 5 rfl) ?_
                  refine va_get (D := (dC, dI)) (ci := 8) (v := .ref (a 3)) (C := RX10) (T := TX10) (N := 21) hx hb hta inX10 hown hK hP 0 (mr_0 a k (u6)) rfl 9 (by decide) hf38 (fun _ h9 => h9) rfl dX10_simple_91 ?_
                  refine lv_iload hx hb dX10_simple_94 (lv_at hl 0 rfl) ?_
                  refine va_iald hx hb hK hP 3 2 (mr_3 a k (u6)) rfl (wl_in (by omega) (by decide)) dX10_simple_96 ?_
                  refine lv_iload hx hb dX10_simple_97 (lv_at hl 2 rfl) ?_
                  refine lv_icmp_ne (tgt := 117) hx hb dX10_simple_99 (by decide) (fun c99 => ?_) (fun c99 => ?_)
                  · skip
                    rw [if_neg c99] at hR
                    refine lv_iinc (v := nI (i + 1)) (lv' := [(9, .int (nI (i + 1))), (8, .int td), (7, .int sc), (6, .int (fm_Mod_widthOf (u6) o x1 y1)), (5, .int (r6)), (0, .ref (a 0)), (1, .int o), (2, .int x1), (3, .int y1), (4, .int z1)]) hx hb dX10_simple_117 hl (k := 0) rfl (nI_1 _) (by decide) rfl (fun ls hl => ?_)
                    refine lv_goto (tgt := 59) hx hb dX10_simple_120 (by decide) ?_
                    exact ih sc td (i + 1) _ _ ls hR (by omega) (by omega) hP hD hS (lv_sub hl [0, 1, 2, 3, 4, 5, 6, 7, 8, 9] rfl)
                  · skip
                    rw [if_pos c99] at hR
                    refine lv_aload_n hx hb dX10_simple_102 rfl (lv_at hl 5 rfl) ?_
                    refine va_get (D := (dC, dI)) (ci := 8) (v := .ref (a 4)) (C := RX10) (T := TX10) (N := 21) hx hb hta inX10 hown hK hP 0 (mr_0 a k (u6)) rfl 10 (by decide) hf41 (fun _ h9 => h9) rfl dX10_simple_103 ?_
                    refine lv_iload hx hb dX10_simple_106 (lv_at hl 0 rfl) ?_
                    refine va_iald hx hb hK hP 4 3 (mr_4 a k (u6)) rfl (wl_in (by omega) (by decide)) dX10_simple_108 ?_
                    refine lv_iload hx hb dX10_simple_109 (lv_at hl 1 rfl) ?_
                    refine lv_icmp_ne (tgt := 117) hx hb dX10_simple_111 (by decide) (fun c111 => ?_) (fun c111 => ?_)
                    · skip
                      rw [if_neg c111] at hR
                      refine lv_iinc (v := nI (i + 1)) (lv' := [(9, .int (nI (i + 1))), (8, .int td), (7, .int sc), (6, .int (fm_Mod_widthOf (u6) o x1 y1)), (5, .int (r6)), (0, .ref (a 0)), (1, .int o), (2, .int x1), (3, .int y1), (4, .int z1)]) hx hb dX10_simple_117 hl (k := 0) rfl (nI_1 _) (by decide) rfl (fun ls hl => ?_)
                      refine lv_goto (tgt := 59) hx hb dX10_simple_120 (by decide) ?_
                      exact ih sc td (i + 1) _ _ ls hR (by omega) (by omega) hP hD hS (lv_sub hl [0, 1, 2, 3, 4, 5, 6, 7, 8, 9] rfl)
                    · skip
                      rw [if_pos c111] at hR
                      refine lv_iload hx hb dX10_simple_114 (lv_at hl 0 rfl) ?_
                      exact W.iret (v := nI i) hx hb hr (fun t ht hW => ⟨⟨_, _, rfl, hR, by rw [ht]; exact hP, va_K.moved hW.alike hK, hD⟩, hS.F ht⟩) hS.2.2 dX10_simple_116
        exact L59 65 (0 : Int32) z1 0 _ _ ls hR (Nat.zero_le _) (by omega) hP hD hS (lv_sub hl [0, 1, 2, 3, 4, 5, 6, 7, 8, 9] rfl)
  · skip
    rw [if_neg c24] at hR
    refine lv_iload hx hb dX10_simple_27 (lv_at hl 1 rfl) ?_
    exact W.iret (v := r6) hx hb hr (fun t ht hW => ⟨⟨_, _, rfl, hR, by rw [ht]; exact hP, va_K.moved hW.alike hK, hD⟩, hS.F ht⟩) hS.2.2 dX10_simple_29

theorem mw_732 : (.code yX10_fits cX10_fits 6 (some .boolean) : Cond) ∈ AW := List.mem_filter.mpr ⟨List.mem_of_getElem? (i := 732) (by decide +kernel), rfl⟩
theorem mw_729 : (.methodLink RX10 117 yX10_fits : Cond) ∈ AW := List.mem_filter.mpr ⟨List.mem_of_getElem? (i := 729) (by decide +kernel), rfl⟩
theorem mw_731 : (.instanceMethod yX10_fits : Cond) ∈ AW := List.mem_filter.mpr ⟨List.mem_of_getElem? (i := 731) (by decide +kernel), rfl⟩
theorem mw_20 : (.selects RX10 yX10_fits yX10_fits : Cond) ∈ AW := List.mem_filter.mpr ⟨List.mem_of_getElem? (i := 20) (by decide +kernel), rfl⟩
theorem mw_772 : (.code yX10_simple cX10_simple 10 (some .int) : Cond) ∈ AW := List.mem_filter.mpr ⟨List.mem_of_getElem? (i := 772) (by decide +kernel), rfl⟩
theorem mw_769 : (.methodLink RX10 132 yX10_simple : Cond) ∈ AW := List.mem_filter.mpr ⟨List.mem_of_getElem? (i := 769) (by decide +kernel), rfl⟩
theorem mw_771 : (.instanceMethod yX10_simple : Cond) ∈ AW := List.mem_filter.mpr ⟨List.mem_of_getElem? (i := 771) (by decide +kernel), rfl⟩
theorem mw_29 : (.selects RX10 yX10_simple yX10_simple : Cond) ∈ AW := List.mem_filter.mpr ⟨List.mem_of_getElem? (i := 29) (by decide +kernel), rfl⟩
theorem gX10_117 : GoodIn AW (wsV RX10 117 RX10 yX10_fits wsX10_fits) := aw_V mw_729 mw_731 mw_20 mw_46 mw_732
theorem gX10_132 : GoodIn AW (wsV RX10 132 RX10 yX10_simple wsX10_simple) := aw_V mw_769 mw_771 mw_29 mw_46 mw_772
theorem dX10_term_0 : decode cX10_term 0 = .ok (.aload_n 0, 1) := by decide +kernel
theorem dX10_term_1 : decode cX10_term 1 = .ok (.iload_n 1, 1) := by decide +kernel
theorem dX10_term_2 : decode cX10_term 2 = .ok (.iload_n 2, 1) := by decide +kernel
theorem dX10_term_3 : decode cX10_term 3 = .ok (.iload_n 3, 1) := by decide +kernel
theorem dX10_term_4 : decode cX10_term 4 = .ok (.iload 4, 2) := by decide +kernel
theorem dX10_term_6 : decode cX10_term 6 = .ok (.invokevirtual 117, 3) := by decide +kernel
theorem dX10_term_9 : decode cX10_term 9 = .ok (.ifCond .ne 5, 3) := by decide +kernel
theorem dX10_term_12 : decode cX10_term 12 = .ok (.iconst (-1), 1) := by decide +kernel
theorem dX10_term_13 : decode cX10_term 13 = .ok (.ireturn, 1) := by decide +kernel
theorem dX10_term_14 : decode cX10_term 14 = .ok (.iload_n 1, 1) := by decide +kernel
theorem dX10_term_15 : decode cX10_term 15 = .ok (.iconst 1, 1) := by decide +kernel
theorem dX10_term_16 : decode cX10_term 16 = .ok (.if_icmp .le 13, 3) := by decide +kernel
theorem dX10_term_19 : decode cX10_term 19 = .ok (.iload_n 1, 1) := by decide +kernel
theorem dX10_term_20 : decode cX10_term 20 = .ok (.bipush 17, 2) := by decide +kernel
theorem dX10_term_22 : decode cX10_term 22 = .ok (.if_icmp .ge 7, 3) := by decide +kernel
theorem dX10_term_25 : decode cX10_term 25 = .ok (.iconst 1, 1) := by decide +kernel
theorem dX10_term_26 : decode cX10_term 26 = .ok (.goto 4, 3) := by decide +kernel
theorem dX10_term_29 : decode cX10_term 29 = .ok (.iconst 0, 1) := by decide +kernel
theorem dX10_term_30 : decode cX10_term 30 = .ok (.istore 5, 2) := by decide +kernel
theorem dX10_term_32 : decode cX10_term 32 = .ok (.aload_n 0, 1) := by decide +kernel
theorem dX10_term_33 : decode cX10_term 33 = .ok (.iload_n 2, 1) := by decide +kernel
theorem dX10_term_34 : decode cX10_term 34 = .ok (.invokevirtual 121, 3) := by decide +kernel
theorem dX10_term_37 : decode cX10_term 37 = .ok (.ifCond .eq 93, 3) := by decide +kernel
theorem dX10_term_40 : decode cX10_term 40 = .ok (.iload 5, 2) := by decide +kernel
theorem dX10_term_42 : decode cX10_term 42 = .ok (.ifCond .eq 11, 3) := by decide +kernel
theorem dX10_term_45 : decode cX10_term 45 = .ok (.aload_n 0, 1) := by decide +kernel
theorem dX10_term_46 : decode cX10_term 46 = .ok (.iload_n 3, 1) := by decide +kernel
theorem dX10_term_47 : decode cX10_term 47 = .ok (.invokevirtual 121, 3) := by decide +kernel
theorem dX10_term_50 : decode cX10_term 50 = .ok (.ifCond .eq 80, 3) := by decide +kernel
theorem dX10_term_53 : decode cX10_term 53 = .ok (.iload_n 1, 1) := by decide +kernel
theorem dX10_term_54 : decode cX10_term 54 = .ok (.bipush 16, 2) := by decide +kernel
theorem dX10_term_56 : decode cX10_term 56 = .ok (.if_icmp .ne 12, 3) := by decide +kernel
theorem dX10_term_59 : decode cX10_term 59 = .ok (.aload_n 0, 1) := by decide +kernel
theorem dX10_term_60 : decode cX10_term 60 = .ok (.iload 4, 2) := by decide +kernel
theorem dX10_term_62 : decode cX10_term 62 = .ok (.invokevirtual 121, 3) := by decide +kernel
theorem dX10_term_65 : decode cX10_term 65 = .ok (.ifCond .eq 65, 3) := by decide +kernel
theorem dX10_term_68 : decode cX10_term 68 = .ok (.iconst 0, 1) := by decide +kernel
theorem dX10_term_69 : decode cX10_term 69 = .ok (.istore 6, 2) := by decide +kernel
theorem dX10_term_71 : decode cX10_term 71 = .ok (.iload 6, 2) := by decide +kernel
theorem dX10_term_73 : decode cX10_term 73 = .ok (.aload_n 0, 1) := by decide +kernel
theorem dX10_term_74 : decode cX10_term 74 = .ok (.getfield 7, 3) := by decide +kernel
theorem dX10_term_77 : decode cX10_term 77 = .ok (.if_icmp .ge 32, 3) := by decide +kernel
theorem dX10_term_80 : decode cX10_term 80 = .ok (.aload_n 0, 1) := by decide +kernel
theorem dX10_term_81 : decode cX10_term 81 = .ok (.iload 6, 2) := by decide +kernel
theorem dX10_term_83 : decode cX10_term 83 = .ok (.invokevirtual 121, 3) := by decide +kernel
theorem dX10_term_86 : decode cX10_term 86 = .ok (.ifCond .eq 17, 3) := by decide +kernel
theorem dX10_term_89 : decode cX10_term 89 = .ok (.aload_n 0, 1) := by decide +kernel
theorem dX10_term_90 : decode cX10_term 90 = .ok (.getfield 51, 3) := by decide +kernel
theorem dX10_term_93 : decode cX10_term 93 = .ok (.iload 6, 2) := by decide +kernel
theorem dX10_term_95 : decode cX10_term 95 = .ok (.aload_n 0, 1) := by decide +kernel
theorem dX10_term_96 : decode cX10_term 96 = .ok (.getfield 47, 3) := by decide +kernel
theorem dX10_term_99 : decode cX10_term 99 = .ok (.iload 6, 2) := by decide +kernel
theorem dX10_term_101 : decode cX10_term 101 = .ok (.laload, 1) := by decide +kernel
theorem dX10_term_102 : decode cX10_term 102 = .ok (.lastore, 1) := by decide +kernel
theorem dX10_term_103 : decode cX10_term 103 = .ok (.iinc 6 1, 3) := by decide +kernel
theorem dX10_term_106 : decode cX10_term 106 = .ok (.goto (-35), 3) := by decide +kernel
theorem dX10_term_109 : decode cX10_term 109 = .ok (.aload_n 0, 1) := by decide +kernel
theorem dX10_term_110 : decode cX10_term 110 = .ok (.aload_n 0, 1) := by decide +kernel
theorem dX10_term_111 : decode cX10_term 111 = .ok (.iload_n 1, 1) := by decide +kernel
theorem dX10_term_112 : decode cX10_term 112 = .ok (.iload_n 2, 1) := by decide +kernel
theorem dX10_term_113 : decode cX10_term 113 = .ok (.iload_n 3, 1) := by decide +kernel
theorem dX10_term_114 : decode cX10_term 114 = .ok (.invokevirtual 124, 3) := by decide +kernel
theorem dX10_term_117 : decode cX10_term 117 = .ok (.aload_n 0, 1) := by decide +kernel
theorem dX10_term_118 : decode cX10_term 118 = .ok (.iload_n 1, 1) := by decide +kernel
theorem dX10_term_119 : decode cX10_term 119 = .ok (.iload_n 2, 1) := by decide +kernel
theorem dX10_term_120 : decode cX10_term 120 = .ok (.iload_n 3, 1) := by decide +kernel
theorem dX10_term_121 : decode cX10_term 121 = .ok (.iload 4, 2) := by decide +kernel
theorem dX10_term_123 : decode cX10_term 123 = .ok (.invokevirtual 128, 3) := by decide +kernel
theorem dX10_term_126 : decode cX10_term 126 = .ok (.invokevirtual 84, 3) := by decide +kernel
theorem dX10_term_129 : decode cX10_term 129 = .ok (.ireturn, 1) := by decide +kernel
theorem dX10_term_130 : decode cX10_term 130 = .ok (.iload_n 1, 1) := by decide +kernel
theorem dX10_term_131 : decode cX10_term 131 = .ok (.iconst 1, 1) := by decide +kernel
theorem dX10_term_132 : decode cX10_term 132 = .ok (.if_icmp .le 9, 3) := by decide +kernel
theorem dX10_term_135 : decode cX10_term 135 = .ok (.iload_n 1, 1) := by decide +kernel
theorem dX10_term_136 : decode cX10_term 136 = .ok (.bipush 6, 2) := by decide +kernel
theorem dX10_term_138 : decode cX10_term 138 = .ok (.if_icmp .lt 15, 3) := by decide +kernel
theorem dX10_term_141 : decode cX10_term 141 = .ok (.iload_n 1, 1) := by decide +kernel
theorem dX10_term_142 : decode cX10_term 142 = .ok (.bipush 7, 2) := by decide +kernel
theorem dX10_term_144 : decode cX10_term 144 = .ok (.if_icmp .eq 9, 3) := by decide +kernel
theorem dX10_term_147 : decode cX10_term 147 = .ok (.iload_n 1, 1) := by decide +kernel
theorem dX10_term_148 : decode cX10_term 148 = .ok (.bipush 13, 2) := by decide +kernel
theorem dX10_term_150 : decode cX10_term 150 = .ok (.if_icmp .ne 12, 3) := by decide +kernel
theorem dX10_term_153 : decode cX10_term 153 = .ok (.iload_n 2, 1) := by decide +kernel
theorem dX10_term_154 : decode cX10_term 154 = .ok (.iload_n 3, 1) := by decide +kernel
theorem dX10_term_155 : decode cX10_term 155 = .ok (.if_icmp .le 7, 3) := by decide +kernel
theorem dX10_term_158 : decode cX10_term 158 = .ok (.iconst 1, 1) := by decide +kernel
theorem dX10_term_159 : decode cX10_term 159 = .ok (.goto 4, 3) := by decide +kernel
theorem dX10_term_162 : decode cX10_term 162 = .ok (.iconst 0, 1) := by decide +kernel
theorem dX10_term_163 : decode cX10_term 163 = .ok (.istore 6, 2) := by decide +kernel
theorem dX10_term_165 : decode cX10_term 165 = .ok (.iload 6, 2) := by decide +kernel
theorem dX10_term_167 : decode cX10_term 167 = .ok (.ifCond .eq 15, 3) := by decide +kernel
theorem dX10_term_170 : decode cX10_term 170 = .ok (.aload_n 0, 1) := by decide +kernel
theorem dX10_term_171 : decode cX10_term 171 = .ok (.iload_n 1, 1) := by decide +kernel
theorem dX10_term_172 : decode cX10_term 172 = .ok (.iload_n 3, 1) := by decide +kernel
theorem dX10_term_173 : decode cX10_term 173 = .ok (.iload_n 2, 1) := by decide +kernel
theorem dX10_term_174 : decode cX10_term 174 = .ok (.iload 4, 2) := by decide +kernel
theorem dX10_term_176 : decode cX10_term 176 = .ok (.invokevirtual 132, 3) := by decide +kernel
theorem dX10_term_179 : decode cX10_term 179 = .ok (.goto 12, 3) := by decide +kernel
theorem dX10_term_182 : decode cX10_term 182 = .ok (.aload_n 0, 1) := by decide +kernel
theorem dX10_term_183 : decode cX10_term 183 = .ok (.iload_n 1, 1) := by decide +kernel
theorem dX10_term_184 : decode cX10_term 184 = .ok (.iload_n 2, 1) := by decide +kernel
theorem dX10_term_185 : decode cX10_term 185 = .ok (.iload_n 3, 1) := by decide +kernel
theorem dX10_term_186 : decode cX10_term 186 = .ok (.iload 4, 2) := by decide +kernel
theorem dX10_term_188 : decode cX10_term 188 = .ok (.invokevirtual 132, 3) := by decide +kernel
theorem dX10_term_191 : decode cX10_term 191 = .ok (.ireturn, 1) := by decide +kernel
def fm_Mod_term_L71 (st : XS) (o : Int32) (x1 : Int32) (y1 : Int32) (z1 : Int32) : Nat → Nat → XS → Int32 × XS
  | 0, i, S1 => (0, S1)
  | n + 1, i, S1 => 
    if gI S1 0 ≤ nI i then (((fm_Mod_constantOf S1 (fm_Mod_widthOf S1 o x1 y1) (fm_Mod_result S1 o x1 y1 z1)).1), ((fm_Mod_constantOf S1 (fm_Mod_widthOf S1 o x1 y1) (fm_Mod_result S1 o x1 y1 z1)).2))
    else 
      if fm_Mod_isConst S1 (nI i) = (0 : Int32) then fm_Mod_term_L71 st o x1 y1 z1 n (i + 1) S1
      else fm_Mod_term_L71 st o x1 y1 z1 n (i + 1) (wL S1 1 ((nI i).toNatClampNeg) (fL S1 0 (nI i).toNatClampNeg))
def fm_Mod_term (st : XS) (o : Int32) (x1 : Int32) (y1 : Int32) (z1 : Int32) : Int32 × XS := 
  if fm_Mod_fits st o x1 y1 z1 = (0 : Int32) then ((-1 : Int32), st)
  else 
    if o ≤ (1 : Int32) then 
      if fm_Mod_isConst st x1 = (0 : Int32) then 
        if o = (7 : Int32) then 
          if x1 ≤ y1 then (((fm_Mod_simple st o x1 y1 z1).1), ((fm_Mod_simple st o x1 y1 z1).2))
          else (((fm_Mod_simple st o y1 x1 z1).1), ((fm_Mod_simple st o y1 x1 z1).2))
        else 
          if o = (13 : Int32) then 
            if x1 ≤ y1 then (((fm_Mod_simple st o x1 y1 z1).1), ((fm_Mod_simple st o x1 y1 z1).2))
            else (((fm_Mod_simple st o y1 x1 z1).1), ((fm_Mod_simple st o y1 x1 z1).2))
          else (((fm_Mod_simple st o x1 y1 z1).1), ((fm_Mod_simple st o x1 y1 z1).2))
      else 
        if o = (16 : Int32) then 
          if fm_Mod_isConst st z1 = (0 : Int32) then 
            if o = (7 : Int32) then 
              if x1 ≤ y1 then (((fm_Mod_simple st o x1 y1 z1).1), ((fm_Mod_simple st o x1 y1 z1).2))
              else (((fm_Mod_simple st o y1 x1 z1).1), ((fm_Mod_simple st o y1 x1 z1).2))
            else 
              if o = (13 : Int32) then 
                if x1 ≤ y1 then (((fm_Mod_simple st o x1 y1 z1).1), ((fm_Mod_simple st o x1 y1 z1).2))
                else (((fm_Mod_simple st o y1 x1 z1).1), ((fm_Mod_simple st o y1 x1 z1).2))
              else (((fm_Mod_simple st o x1 y1 z1).1), ((fm_Mod_simple st o x1 y1 z1).2))
          else fm_Mod_term_L71 st o x1 y1 z1 65 0 st
        else fm_Mod_term_L71 st o x1 y1 z1 65 0 st
    else 
      if (17 : Int32) ≤ o then 
        if fm_Mod_isConst st x1 = (0 : Int32) then 
          if o < (6 : Int32) then 
            if x1 ≤ y1 then (((fm_Mod_simple st o x1 y1 z1).1), ((fm_Mod_simple st o x1 y1 z1).2))
            else (((fm_Mod_simple st o y1 x1 z1).1), ((fm_Mod_simple st o y1 x1 z1).2))
          else 
            if o = (7 : Int32) then 
              if x1 ≤ y1 then (((fm_Mod_simple st o x1 y1 z1).1), ((fm_Mod_simple st o x1 y1 z1).2))
              else (((fm_Mod_simple st o y1 x1 z1).1), ((fm_Mod_simple st o y1 x1 z1).2))
            else 
              if o = (13 : Int32) then 
                if x1 ≤ y1 then (((fm_Mod_simple st o x1 y1 z1).1), ((fm_Mod_simple st o x1 y1 z1).2))
                else (((fm_Mod_simple st o y1 x1 z1).1), ((fm_Mod_simple st o y1 x1 z1).2))
              else (((fm_Mod_simple st o x1 y1 z1).1), ((fm_Mod_simple st o x1 y1 z1).2))
        else 
          if o = (16 : Int32) then 
            if fm_Mod_isConst st z1 = (0 : Int32) then 
              if o < (6 : Int32) then 
                if x1 ≤ y1 then (((fm_Mod_simple st o x1 y1 z1).1), ((fm_Mod_simple st o x1 y1 z1).2))
                else (((fm_Mod_simple st o y1 x1 z1).1), ((fm_Mod_simple st o y1 x1 z1).2))
              else 
                if o = (7 : Int32) then 
                  if x1 ≤ y1 then (((fm_Mod_simple st o x1 y1 z1).1), ((fm_Mod_simple st o x1 y1 z1).2))
                  else (((fm_Mod_simple st o y1 x1 z1).1), ((fm_Mod_simple st o y1 x1 z1).2))
                else 
                  if o = (13 : Int32) then 
                    if x1 ≤ y1 then (((fm_Mod_simple st o x1 y1 z1).1), ((fm_Mod_simple st o x1 y1 z1).2))
                    else (((fm_Mod_simple st o y1 x1 z1).1), ((fm_Mod_simple st o y1 x1 z1).2))
                  else (((fm_Mod_simple st o x1 y1 z1).1), ((fm_Mod_simple st o x1 y1 z1).2))
            else fm_Mod_term_L71 st o x1 y1 z1 65 0 st
          else fm_Mod_term_L71 st o x1 y1 z1 65 0 st
      else 
        if fm_Mod_isConst st x1 = (0 : Int32) then 
          if o < (6 : Int32) then 
            if x1 ≤ y1 then (((fm_Mod_simple st o x1 y1 z1).1), ((fm_Mod_simple st o x1 y1 z1).2))
            else (((fm_Mod_simple st o y1 x1 z1).1), ((fm_Mod_simple st o y1 x1 z1).2))
          else 
            if o = (7 : Int32) then 
              if x1 ≤ y1 then (((fm_Mod_simple st o x1 y1 z1).1), ((fm_Mod_simple st o x1 y1 z1).2))
              else (((fm_Mod_simple st o y1 x1 z1).1), ((fm_Mod_simple st o y1 x1 z1).2))
            else 
              if o = (13 : Int32) then 
                if x1 ≤ y1 then (((fm_Mod_simple st o x1 y1 z1).1), ((fm_Mod_simple st o x1 y1 z1).2))
                else (((fm_Mod_simple st o y1 x1 z1).1), ((fm_Mod_simple st o y1 x1 z1).2))
              else (((fm_Mod_simple st o x1 y1 z1).1), ((fm_Mod_simple st o x1 y1 z1).2))
        else 
          if fm_Mod_isConst st y1 = (0 : Int32) then 
            if o < (6 : Int32) then 
              if x1 ≤ y1 then (((fm_Mod_simple st o x1 y1 z1).1), ((fm_Mod_simple st o x1 y1 z1).2))
              else (((fm_Mod_simple st o y1 x1 z1).1), ((fm_Mod_simple st o y1 x1 z1).2))
            else 
              if o = (7 : Int32) then 
                if x1 ≤ y1 then (((fm_Mod_simple st o x1 y1 z1).1), ((fm_Mod_simple st o x1 y1 z1).2))
                else (((fm_Mod_simple st o y1 x1 z1).1), ((fm_Mod_simple st o y1 x1 z1).2))
              else 
                if o = (13 : Int32) then 
                  if x1 ≤ y1 then (((fm_Mod_simple st o x1 y1 z1).1), ((fm_Mod_simple st o x1 y1 z1).2))
                  else (((fm_Mod_simple st o y1 x1 z1).1), ((fm_Mod_simple st o y1 x1 z1).2))
                else (((fm_Mod_simple st o x1 y1 z1).1), ((fm_Mod_simple st o x1 y1 z1).2))
          else 
            if o = (16 : Int32) then 
              if fm_Mod_isConst st z1 = (0 : Int32) then 
                if o < (6 : Int32) then 
                  if x1 ≤ y1 then (((fm_Mod_simple st o x1 y1 z1).1), ((fm_Mod_simple st o x1 y1 z1).2))
                  else (((fm_Mod_simple st o y1 x1 z1).1), ((fm_Mod_simple st o y1 x1 z1).2))
                else 
                  if o = (7 : Int32) then 
                    if x1 ≤ y1 then (((fm_Mod_simple st o x1 y1 z1).1), ((fm_Mod_simple st o x1 y1 z1).2))
                    else (((fm_Mod_simple st o y1 x1 z1).1), ((fm_Mod_simple st o y1 x1 z1).2))
                  else 
                    if o = (13 : Int32) then 
                      if x1 ≤ y1 then (((fm_Mod_simple st o x1 y1 z1).1), ((fm_Mod_simple st o x1 y1 z1).2))
                      else (((fm_Mod_simple st o y1 x1 z1).1), ((fm_Mod_simple st o y1 x1 z1).2))
                    else (((fm_Mod_simple st o x1 y1 z1).1), ((fm_Mod_simple st o x1 y1 z1).2))
              else fm_Mod_term_L71 st o x1 y1 z1 65 0 st
            else fm_Mod_term_L71 st o x1 y1 z1 65 0 st
theorem fr_Mod_term_L71 {S0 : XS} (st : XS) (o : Int32) (x1 : Int32) (y1 : Int32) (z1 : Int32) : ∀ (n : Nat) (i : Nat) (S1 : XS), XF [0, 1] [0, 1, 2, 3, 4] [0, 1] S0 S1 → XF [0, 1] [0, 1, 2, 3, 4] [0, 1] S0 (fm_Mod_term_L71 st o x1 y1 z1 n i S1).2 := by
  intro n
  induction n with
  | zero => intro i S1 h; exact h
  | succ n ih =>
    intro i S1 h
    rw [fm_Mod_term_L71]
    exact (wl_ite (P := fun (q : Int32 × XS) => XF [0, 1] [0, 1, 2, 3, 4] [0, 1] _ (q.2)) (wl_snd (XF.tr h (XF.mono (ff_Mod_constantOf _ _ _) (by decide) (by decide) (by decide)))) (wl_ite (P := fun (q : Int32 × XS) => XF [0, 1] [0, 1, 2, 3, 4] [0, 1] _ (q.2)) (ih _ _ h) (ih _ _ (XF.wL (by decide) h))))
theorem ff_Mod_term (st : XS) (o : Int32) (x1 : Int32) (y1 : Int32) (z1 : Int32) : XF [0, 1] [0, 1, 2, 3, 4] [0, 1] st (fm_Mod_term st o x1 y1 z1).2 := by
  rw [fm_Mod_term]
  exact (wl_ite (P := fun (q : Int32 × XS) => XF [0, 1] [0, 1, 2, 3, 4] [0, 1] _ (q.2)) (wl_snd XF.rf) (wl_ite (P := fun (q : Int32 × XS) => XF [0, 1] [0, 1, 2, 3, 4] [0, 1] _ (q.2)) (wl_ite (P := fun (q : Int32 × XS) => XF [0, 1] [0, 1, 2, 3, 4] [0, 1] _ (q.2)) (wl_ite (P := fun (q : Int32 × XS) => XF [0, 1] [0, 1, 2, 3, 4] [0, 1] _ (q.2)) (wl_ite (P := fun (q : Int32 × XS) => XF [0, 1] [0, 1, 2, 3, 4] [0, 1] _ (q.2)) (wl_snd (XF.tr XF.rf (XF.mono (ff_Mod_simple _ _ _ _ _) (by decide) (by decide) (by decide)))) (wl_snd (XF.tr XF.rf (XF.mono (ff_Mod_simple _ _ _ _ _) (by decide) (by decide) (by decide))))) (wl_ite (P := fun (q : Int32 × XS) => XF [0, 1] [0, 1, 2, 3, 4] [0, 1] _ (q.2)) (wl_ite (P := fun (q : Int32 × XS) => XF [0, 1] [0, 1, 2, 3, 4] [0, 1] _ (q.2)) (wl_snd (XF.tr XF.rf (XF.mono (ff_Mod_simple _ _ _ _ _) (by decide) (by decide) (by decide)))) (wl_snd (XF.tr XF.rf (XF.mono (ff_Mod_simple _ _ _ _ _) (by decide) (by decide) (by decide))))) (wl_snd (XF.tr XF.rf (XF.mono (ff_Mod_simple _ _ _ _ _) (by decide) (by decide) (by decide)))))) (wl_ite (P := fun (q : Int32 × XS) => XF [0, 1] [0, 1, 2, 3, 4] [0, 1] _ (q.2)) (wl_ite (P := fun (q : Int32 × XS) => XF [0, 1] [0, 1, 2, 3, 4] [0, 1] _ (q.2)) (wl_ite (P := fun (q : Int32 × XS) => XF [0, 1] [0, 1, 2, 3, 4] [0, 1] _ (q.2)) (wl_ite (P := fun (q : Int32 × XS) => XF [0, 1] [0, 1, 2, 3, 4] [0, 1] _ (q.2)) (wl_snd (XF.tr XF.rf (XF.mono (ff_Mod_simple _ _ _ _ _) (by decide) (by decide) (by decide)))) (wl_snd (XF.tr XF.rf (XF.mono (ff_Mod_simple _ _ _ _ _) (by decide) (by decide) (by decide))))) (wl_ite (P := fun (q : Int32 × XS) => XF [0, 1] [0, 1, 2, 3, 4] [0, 1] _ (q.2)) (wl_ite (P := fun (q : Int32 × XS) => XF [0, 1] [0, 1, 2, 3, 4] [0, 1] _ (q.2)) (wl_snd (XF.tr XF.rf (XF.mono (ff_Mod_simple _ _ _ _ _) (by decide) (by decide) (by decide)))) (wl_snd (XF.tr XF.rf (XF.mono (ff_Mod_simple _ _ _ _ _) (by decide) (by decide) (by decide))))) (wl_snd (XF.tr XF.rf (XF.mono (ff_Mod_simple _ _ _ _ _) (by decide) (by decide) (by decide)))))) (fr_Mod_term_L71 _ _ _ _ _ _ _ _ XF.rf)) (fr_Mod_term_L71 _ _ _ _ _ _ _ _ XF.rf))) (wl_ite (P := fun (q : Int32 × XS) => XF [0, 1] [0, 1, 2, 3, 4] [0, 1] _ (q.2)) (wl_ite (P := fun (q : Int32 × XS) => XF [0, 1] [0, 1, 2, 3, 4] [0, 1] _ (q.2)) (wl_ite (P := fun (q : Int32 × XS) => XF [0, 1] [0, 1, 2, 3, 4] [0, 1] _ (q.2)) (wl_ite (P := fun (q : Int32 × XS) => XF [0, 1] [0, 1, 2, 3, 4] [0, 1] _ (q.2)) (wl_snd (XF.tr XF.rf (XF.mono (ff_Mod_simple _ _ _ _ _) (by decide) (by decide) (by decide)))) (wl_snd (XF.tr XF.rf (XF.mono (ff_Mod_simple _ _ _ _ _) (by decide) (by decide) (by decide))))) (wl_ite (P := fun (q : Int32 × XS) => XF [0, 1] [0, 1, 2, 3, 4] [0, 1] _ (q.2)) (wl_ite (P := fun (q : Int32 × XS) => XF [0, 1] [0, 1, 2, 3, 4] [0, 1] _ (q.2)) (wl_snd (XF.tr XF.rf (XF.mono (ff_Mod_simple _ _ _ _ _) (by decide) (by decide) (by decide)))) (wl_snd (XF.tr XF.rf (XF.mono (ff_Mod_simple _ _ _ _ _) (by decide) (by decide) (by decide))))) (wl_ite (P := fun (q : Int32 × XS) => XF [0, 1] [0, 1, 2, 3, 4] [0, 1] _ (q.2)) (wl_ite (P := fun (q : Int32 × XS) => XF [0, 1] [0, 1, 2, 3, 4] [0, 1] _ (q.2)) (wl_snd (XF.tr XF.rf (XF.mono (ff_Mod_simple _ _ _ _ _) (by decide) (by decide) (by decide)))) (wl_snd (XF.tr XF.rf (XF.mono (ff_Mod_simple _ _ _ _ _) (by decide) (by decide) (by decide))))) (wl_snd (XF.tr XF.rf (XF.mono (ff_Mod_simple _ _ _ _ _) (by decide) (by decide) (by decide))))))) (wl_ite (P := fun (q : Int32 × XS) => XF [0, 1] [0, 1, 2, 3, 4] [0, 1] _ (q.2)) (wl_ite (P := fun (q : Int32 × XS) => XF [0, 1] [0, 1, 2, 3, 4] [0, 1] _ (q.2)) (wl_ite (P := fun (q : Int32 × XS) => XF [0, 1] [0, 1, 2, 3, 4] [0, 1] _ (q.2)) (wl_ite (P := fun (q : Int32 × XS) => XF [0, 1] [0, 1, 2, 3, 4] [0, 1] _ (q.2)) (wl_snd (XF.tr XF.rf (XF.mono (ff_Mod_simple _ _ _ _ _) (by decide) (by decide) (by decide)))) (wl_snd (XF.tr XF.rf (XF.mono (ff_Mod_simple _ _ _ _ _) (by decide) (by decide) (by decide))))) (wl_ite (P := fun (q : Int32 × XS) => XF [0, 1] [0, 1, 2, 3, 4] [0, 1] _ (q.2)) (wl_ite (P := fun (q : Int32 × XS) => XF [0, 1] [0, 1, 2, 3, 4] [0, 1] _ (q.2)) (wl_snd (XF.tr XF.rf (XF.mono (ff_Mod_simple _ _ _ _ _) (by decide) (by decide) (by decide)))) (wl_snd (XF.tr XF.rf (XF.mono (ff_Mod_simple _ _ _ _ _) (by decide) (by decide) (by decide))))) (wl_ite (P := fun (q : Int32 × XS) => XF [0, 1] [0, 1, 2, 3, 4] [0, 1] _ (q.2)) (wl_ite (P := fun (q : Int32 × XS) => XF [0, 1] [0, 1, 2, 3, 4] [0, 1] _ (q.2)) (wl_snd (XF.tr XF.rf (XF.mono (ff_Mod_simple _ _ _ _ _) (by decide) (by decide) (by decide)))) (wl_snd (XF.tr XF.rf (XF.mono (ff_Mod_simple _ _ _ _ _) (by decide) (by decide) (by decide))))) (wl_snd (XF.tr XF.rf (XF.mono (ff_Mod_simple _ _ _ _ _) (by decide) (by decide) (by decide))))))) (fr_Mod_term_L71 _ _ _ _ _ _ _ _ XF.rf)) (fr_Mod_term_L71 _ _ _ _ _ _ _ _ XF.rf))) (wl_ite (P := fun (q : Int32 × XS) => XF [0, 1] [0, 1, 2, 3, 4] [0, 1] _ (q.2)) (wl_ite (P := fun (q : Int32 × XS) => XF [0, 1] [0, 1, 2, 3, 4] [0, 1] _ (q.2)) (wl_ite (P := fun (q : Int32 × XS) => XF [0, 1] [0, 1, 2, 3, 4] [0, 1] _ (q.2)) (wl_snd (XF.tr XF.rf (XF.mono (ff_Mod_simple _ _ _ _ _) (by decide) (by decide) (by decide)))) (wl_snd (XF.tr XF.rf (XF.mono (ff_Mod_simple _ _ _ _ _) (by decide) (by decide) (by decide))))) (wl_ite (P := fun (q : Int32 × XS) => XF [0, 1] [0, 1, 2, 3, 4] [0, 1] _ (q.2)) (wl_ite (P := fun (q : Int32 × XS) => XF [0, 1] [0, 1, 2, 3, 4] [0, 1] _ (q.2)) (wl_snd (XF.tr XF.rf (XF.mono (ff_Mod_simple _ _ _ _ _) (by decide) (by decide) (by decide)))) (wl_snd (XF.tr XF.rf (XF.mono (ff_Mod_simple _ _ _ _ _) (by decide) (by decide) (by decide))))) (wl_ite (P := fun (q : Int32 × XS) => XF [0, 1] [0, 1, 2, 3, 4] [0, 1] _ (q.2)) (wl_ite (P := fun (q : Int32 × XS) => XF [0, 1] [0, 1, 2, 3, 4] [0, 1] _ (q.2)) (wl_snd (XF.tr XF.rf (XF.mono (ff_Mod_simple _ _ _ _ _) (by decide) (by decide) (by decide)))) (wl_snd (XF.tr XF.rf (XF.mono (ff_Mod_simple _ _ _ _ _) (by decide) (by decide) (by decide))))) (wl_snd (XF.tr XF.rf (XF.mono (ff_Mod_simple _ _ _ _ _) (by decide) (by decide) (by decide))))))) (wl_ite (P := fun (q : Int32 × XS) => XF [0, 1] [0, 1, 2, 3, 4] [0, 1] _ (q.2)) (wl_ite (P := fun (q : Int32 × XS) => XF [0, 1] [0, 1, 2, 3, 4] [0, 1] _ (q.2)) (wl_ite (P := fun (q : Int32 × XS) => XF [0, 1] [0, 1, 2, 3, 4] [0, 1] _ (q.2)) (wl_snd (XF.tr XF.rf (XF.mono (ff_Mod_simple _ _ _ _ _) (by decide) (by decide) (by decide)))) (wl_snd (XF.tr XF.rf (XF.mono (ff_Mod_simple _ _ _ _ _) (by decide) (by decide) (by decide))))) (wl_ite (P := fun (q : Int32 × XS) => XF [0, 1] [0, 1, 2, 3, 4] [0, 1] _ (q.2)) (wl_ite (P := fun (q : Int32 × XS) => XF [0, 1] [0, 1, 2, 3, 4] [0, 1] _ (q.2)) (wl_snd (XF.tr XF.rf (XF.mono (ff_Mod_simple _ _ _ _ _) (by decide) (by decide) (by decide)))) (wl_snd (XF.tr XF.rf (XF.mono (ff_Mod_simple _ _ _ _ _) (by decide) (by decide) (by decide))))) (wl_ite (P := fun (q : Int32 × XS) => XF [0, 1] [0, 1, 2, 3, 4] [0, 1] _ (q.2)) (wl_ite (P := fun (q : Int32 × XS) => XF [0, 1] [0, 1, 2, 3, 4] [0, 1] _ (q.2)) (wl_snd (XF.tr XF.rf (XF.mono (ff_Mod_simple _ _ _ _ _) (by decide) (by decide) (by decide)))) (wl_snd (XF.tr XF.rf (XF.mono (ff_Mod_simple _ _ _ _ _) (by decide) (by decide) (by decide))))) (wl_snd (XF.tr XF.rf (XF.mono (ff_Mod_simple _ _ _ _ _) (by decide) (by decide) (by decide))))))) (wl_ite (P := fun (q : Int32 × XS) => XF [0, 1] [0, 1, 2, 3, 4] [0, 1] _ (q.2)) (wl_ite (P := fun (q : Int32 × XS) => XF [0, 1] [0, 1, 2, 3, 4] [0, 1] _ (q.2)) (wl_ite (P := fun (q : Int32 × XS) => XF [0, 1] [0, 1, 2, 3, 4] [0, 1] _ (q.2)) (wl_ite (P := fun (q : Int32 × XS) => XF [0, 1] [0, 1, 2, 3, 4] [0, 1] _ (q.2)) (wl_snd (XF.tr XF.rf (XF.mono (ff_Mod_simple _ _ _ _ _) (by decide) (by decide) (by decide)))) (wl_snd (XF.tr XF.rf (XF.mono (ff_Mod_simple _ _ _ _ _) (by decide) (by decide) (by decide))))) (wl_ite (P := fun (q : Int32 × XS) => XF [0, 1] [0, 1, 2, 3, 4] [0, 1] _ (q.2)) (wl_ite (P := fun (q : Int32 × XS) => XF [0, 1] [0, 1, 2, 3, 4] [0, 1] _ (q.2)) (wl_snd (XF.tr XF.rf (XF.mono (ff_Mod_simple _ _ _ _ _) (by decide) (by decide) (by decide)))) (wl_snd (XF.tr XF.rf (XF.mono (ff_Mod_simple _ _ _ _ _) (by decide) (by decide) (by decide))))) (wl_ite (P := fun (q : Int32 × XS) => XF [0, 1] [0, 1, 2, 3, 4] [0, 1] _ (q.2)) (wl_ite (P := fun (q : Int32 × XS) => XF [0, 1] [0, 1, 2, 3, 4] [0, 1] _ (q.2)) (wl_snd (XF.tr XF.rf (XF.mono (ff_Mod_simple _ _ _ _ _) (by decide) (by decide) (by decide)))) (wl_snd (XF.tr XF.rf (XF.mono (ff_Mod_simple _ _ _ _ _) (by decide) (by decide) (by decide))))) (wl_snd (XF.tr XF.rf (XF.mono (ff_Mod_simple _ _ _ _ _) (by decide) (by decide) (by decide))))))) (fr_Mod_term_L71 _ _ _ _ _ _ _ _ XF.rf)) (fr_Mod_term_L71 _ _ _ _ _ _ _ _ XF.rf)))))))
set_option maxHeartbeats 4000000 in
set_option maxRecDepth 100000 in
theorem km_Mod_term (l : Launch) (dC : Nat → ClassId) (dI : Nat → Nat → Nat) (a : Nat → Nat) (k : Nat → ClassId) (st : XS) (o : Int32) (x1 : Int32) (y1 : Int32) (z1 : Int32) (sz : Nat) (N : Nat) (hN : gI st 0 = nI N) (h64 : N ≤ 64) : Met l yX10_term wsX10_term ({ frames := 4, cells := 0, slots := 0, locals := 103 }) (va_Pc [.ref (a 0), .int o, .int x1, .int y1, .int z1] (wl_pre (dC, dI) vwCl (mt k) (mw a k) st sz)) (va_Qi (fun r9 u9 => (r9, u9) = fm_Mod_term st o x1 y1 z1) (wl_at (dC, dI) vwCl (mt k) (mw a k) (va_A (mw a k st) sz)) (va_A (mw a k st) sz)) 0 0 (va_A (mw a k st) sz) := by
  refine Met.ofW (cc := cX10_term) (maxL := 7) (ret := (some .int)) (by decide) rfl ?_
  intro p e s m args below meth c s₁ B hml hv
  obtain ⟨rfl, hsz, hP, hK, hD0⟩ := hv
  have hx := B.exec
  have hb := B.bytes
  have hr := B.returns
  have hta := aw_hts (atoms_spec (ws := wsX10_term) B.pre)
  have hown : s.vm.findClass RX10 = some m.cls := findClass_of_methodNamed B.named
  have hlocks := B.notSynchronized
  have hf7 := hta _ mw_633
  have hf51 := hta _ mw_646
  have hf47 := hta _ mw_645
  subst hsz
  have hD := hD0.self (sz := s.heap.size)
  generalize hAe : va_A (mw a k st) s.heap.size = A at hD ⊢
  have hAz : ∀ q : Nat, s.heap.size ≤ q → A q := fun q h => by rw [← hAe]; exact Or.inr h
  have hS : va_S A s.heap s.heap [] := va_S.rf
  have hl := lv_entry ([.ref (a 0), .int o, .int x1, .int y1, .int z1]) (n := 7) (Nat.le_of_ble_eq_true rfl)
  rw [lg_entry_eq]
  generalize (lg_sl ([.ref (a 0), .int o, .int x1, .int y1, .int z1]) ++ List.replicate (7 - (lg_sl ([.ref (a 0), .int o, .int x1, .int y1, .int z1])).length) Slot.unset).toArray = ls at hl ⊢
  have hl : lv_has ls 7 [(0, .ref (a 0)), (1, .int o), (2, .int x1), (3, .int y1), (4, .int z1)] := hl
  generalize hR : fm_Mod_term st o x1 y1 z1 = R
  rw [fm_Mod_term] at hR
  refine lv_aload_n hx hb dX10_term_0 rfl (lv_at hl 0 rfl) ?_
  refine lv_iload_n hx hb dX10_term_1 rfl (lv_at hl 1 rfl) ?_
  refine lv_iload_n hx hb dX10_term_2 rfl (lv_at hl 2 rfl) ?_
  refine lv_iload_n hx hb dX10_term_3 rfl (lv_at hl 3 rfl) ?_
  refine lv_iload hx hb dX10_term_4 (lv_at hl 4 rfl) ?_
  refine wl_ci (va_runV (As := [.int o, .int x1, .int y1, .int z1]) (rest := []) ⟨hx, hb, hml, hown, hta⟩ (km_Mod_fits l dC dI a k st o x1 y1 z1 N hN h64) (cwV 4 hta gX10_117 rfl rfl rfl (by decide +kernel) ⟨Nat.le_of_ble_eq_true rfl, Nat.le_of_ble_eq_true rfl⟩) (wl_pR (C := RX10) (ci := 8) (q0 := 0) hK hP rfl (mr_0 a k st)) rfl rfl hl.1 rfl (lv_room (Nat.le_of_ble_eq_true rfl)) dX10_term_6 ⟨Nat.zero_le _, Nat.zero_le _⟩) ?_
  refine lv_if_ne (tgt := 14) hx hb dX10_term_9 (by decide) (fun c9 => ?_) (fun c9 => ?_)
  · skip
    rw [if_neg c9] at hR
    obtain ⟨qA, qB, qC, qT⟩ := wm_fit hN h64 c9
    refine lv_iload_n hx hb dX10_term_14 rfl (lv_at hl 1 rfl) ?_
    refine lv_iconst (v := (1 : Int32)) hx hb dX10_term_15 (by decide) ?_
    refine lv_icmp_le (tgt := 29) hx hb dX10_term_16 (by decide) (fun c16 => ?_) (fun c16 => ?_)
    · skip
      rw [if_pos c16] at hR
      refine lv_iconst (v := (0 : Int32)) hx hb dX10_term_29 (by decide) ?_
      refine lv_istore (lv' := [(5, .int (0 : Int32)), (0, .ref (a 0)), (1, .int o), (2, .int x1), (3, .int y1), (4, .int z1)]) hx hb dX10_term_30 hl (by decide) rfl (fun ls hl => ?_)
      refine lv_aload_n hx hb dX10_term_32 rfl (lv_at hl 1 rfl) ?_
      refine lv_iload_n hx hb dX10_term_33 rfl (lv_at hl 3 rfl) ?_
      refine wl_ci (va_runV (As := [.int x1]) (rest := []) ⟨hx, hb, hml, hown, hta⟩ (km_Mod_isConst l dC dI a k st x1 qA) (cwV 1 hta gX10_121 rfl rfl rfl (by decide +kernel) ⟨Nat.le_of_ble_eq_true rfl, Nat.le_of_ble_eq_true rfl⟩) (wl_pR (C := RX10) (ci := 8) (q0 := 0) hK hP rfl (mr_0 a k st)) rfl rfl hl.1 rfl (lv_room (Nat.le_of_ble_eq_true rfl)) dX10_term_34 ⟨Nat.zero_le _, Nat.zero_le _⟩) ?_
      refine lv_if_eq (tgt := 130) hx hb dX10_term_37 (by decide) (fun c37 => ?_) (fun c37 => ?_)
      · skip
        rw [if_pos c37] at hR
        refine lv_iload_n hx hb dX10_term_130 rfl (lv_at hl 2 rfl) ?_
        refine lv_iconst (v := (1 : Int32)) hx hb dX10_term_131 (by decide) ?_
        refine lv_icmp_le (tgt := 141) hx hb dX10_term_132 (by decide) (fun c132 => ?_) (fun c132 => ?_)
        · skip
          refine lv_iload_n hx hb dX10_term_141 rfl (lv_at hl 2 rfl) ?_
          refine lv_bipush (v := (7 : Int32)) hx hb dX10_term_142 (by decide) ?_
          refine lv_icmp_eq (tgt := 153) hx hb dX10_term_144 (by decide) (fun c144 => ?_) (fun c144 => ?_)
          · skip
            rw [if_pos c144] at hR
            have qy : vp_in y1 64 := qB (by rw [c144]; decide) (by rw [c144]; decide)
            refine lv_iload_n hx hb dX10_term_153 rfl (lv_at hl 3 rfl) ?_
            refine lv_iload_n hx hb dX10_term_154 rfl (lv_at hl 4 rfl) ?_
            refine lv_icmp_le (tgt := 162) hx hb dX10_term_155 (by decide) (fun c155 => ?_) (fun c155 => ?_)
            · skip
              rw [if_pos c155] at hR
              refine lv_iconst (v := (0 : Int32)) hx hb dX10_term_162 (by decide) ?_
              refine lv_istore (lv' := [(6, .int (0 : Int32)), (5, .int (0 : Int32)), (0, .ref (a 0)), (1, .int o), (2, .int x1), (3, .int y1), (4, .int z1)]) hx hb dX10_term_163 hl (by decide) rfl (fun ls hl => ?_)
              refine lv_iload hx hb dX10_term_165 (lv_at hl 0 rfl) ?_
              refine lv_if_eq (tgt := 182) hx hb dX10_term_167 (by decide) (fun c167 => ?_) (fun c167 => ?_)
              · skip
                refine lv_aload_n hx hb dX10_term_182 rfl (lv_at hl 2 rfl) ?_
                refine lv_iload_n hx hb dX10_term_183 rfl (lv_at hl 3 rfl) ?_
                refine lv_iload_n hx hb dX10_term_184 rfl (lv_at hl 4 rfl) ?_
                refine lv_iload_n hx hb dX10_term_185 rfl (lv_at hl 5 rfl) ?_
                refine lv_iload hx hb dX10_term_186 (lv_at hl 6 rfl) ?_
                refine wl_mi (va_runV (As := [.int o, .int x1, .int y1, .int z1]) (rest := []) ⟨hx, hb, hml, hown, hta⟩ (km_Mod_simple l dC dI a k st o x1 y1 z1 _ N hN h64 qA (fun h1 h2 h3 => qB h1 (wm_le16 h2)) (fun h => qB (by rw [h]; decide) (by rw [h]; decide))) (cwV 4 hta gX10_132 rfl rfl rfl (by decide +kernel) ⟨Nat.le_of_ble_eq_true rfl, Nat.le_of_ble_eq_true rfl⟩) (wl_pM (C := RX10) (ci := 8) (q0 := 0) hK hP hD rfl (mr_0 a k st)) rfl rfl hl.1 rfl (lv_room (Nat.le_of_ble_eq_true rfl)) dX10_term_188 ⟨Nat.zero_le _, Nat.zero_le _⟩) hP hD hS hAz (fun r188 u188 H locs hw188 hP hD hS => ?_)
                have v188 : (fm_Mod_simple st o x1 y1 z1).1 = r188 := congrArg Prod.fst hw188.symm
                have w188 : (fm_Mod_simple st o x1 y1 z1).2 = u188 := congrArg Prod.snd hw188.symm
                have hf188 : XF [0, 1] [0, 1, 2, 3, 4] [0] st u188 := by rw [← w188]; exact ff_Mod_simple st o x1 y1 z1
                try rw [v188] at hR
                try rw [w188] at hR
                exact W.iret (v := r188) hx hb hr (fun t ht hW => ⟨⟨_, _, rfl, hR, by rw [ht]; exact hP, va_K.moved hW.alike hK, hD⟩, hS.F ht⟩) hS.2.2 dX10_term_191
              · skip
                exact absurd c167 (by decide)
            · skip
              rw [if_neg c155] at hR
              refine lv_iconst (v := (1 : Int32)) hx hb dX10_term_158 (by decide) ?_
              refine lv_goto (tgt := 163) hx hb dX10_term_159 (by decide) ?_
              refine lv_istore (lv' := [(6, .int (1 : Int32)), (5, .int (0 : Int32)), (0, .ref (a 0)), (1, .int o), (2, .int x1), (3, .int y1), (4, .int z1)]) hx hb dX10_term_163 hl (by decide) rfl (fun ls hl => ?_)
              refine lv_iload hx hb dX10_term_165 (lv_at hl 0 rfl) ?_
              refine lv_if_eq (tgt := 182) hx hb dX10_term_167 (by decide) (fun c167 => ?_) (fun c167 => ?_)
              · skip
                exact absurd c167 (by decide)
              · skip
                refine lv_aload_n hx hb dX10_term_170 rfl (lv_at hl 2 rfl) ?_
                refine lv_iload_n hx hb dX10_term_171 rfl (lv_at hl 3 rfl) ?_
                refine lv_iload_n hx hb dX10_term_172 rfl (lv_at hl 5 rfl) ?_
                refine lv_iload_n hx hb dX10_term_173 rfl (lv_at hl 4 rfl) ?_
                refine lv_iload hx hb dX10_term_174 (lv_at hl 6 rfl) ?_
                refine wl_mi (va_runV (As := [.int o, .int y1, .int x1, .int z1]) (rest := []) ⟨hx, hb, hml, hown, hta⟩ (km_Mod_simple l dC dI a k st o y1 x1 z1 _ N hN h64 qy (fun _ _ _ => qA) (fun _ => qA)) (cwV 4 hta gX10_132 rfl rfl rfl (by decide +kernel) ⟨Nat.le_of_ble_eq_true rfl, Nat.le_of_ble_eq_true rfl⟩) (wl_pM (C := RX10) (ci := 8) (q0 := 0) hK hP hD rfl (mr_0 a k st)) rfl rfl hl.1 rfl (lv_room (Nat.le_of_ble_eq_true rfl)) dX10_term_176 ⟨Nat.zero_le _, Nat.zero_le _⟩) hP hD hS hAz (fun r176 u176 H locs hw176 hP hD hS => ?_)
                have v176 : (fm_Mod_simple st o y1 x1 z1).1 = r176 := congrArg Prod.fst hw176.symm
                have w176 : (fm_Mod_simple st o y1 x1 z1).2 = u176 := congrArg Prod.snd hw176.symm
                have hf176 : XF [0, 1] [0, 1, 2, 3, 4] [0] st u176 := by rw [← w176]; exact ff_Mod_simple st o y1 x1 z1
                try rw [v176] at hR
                try rw [w176] at hR
                refine lv_goto (tgt := 191) hx hb dX10_term_179 (by decide) ?_
                exact W.iret (v := r176) hx hb hr (fun t ht hW => ⟨⟨_, _, rfl, hR, by rw [ht]; exact hP, va_K.moved hW.alike hK, hD⟩, hS.F ht⟩) hS.2.2 dX10_term_191
          · skip
            rw [if_neg c144] at hR
            refine lv_iload_n hx hb dX10_term_147 rfl (lv_at hl 2 rfl) ?_
            refine lv_bipush (v := (13 : Int32)) hx hb dX10_term_148 (by decide) ?_
            refine lv_icmp_ne (tgt := 162) hx hb dX10_term_150 (by decide) (fun c150 => ?_) (fun c150 => ?_)
            · skip
              rw [if_neg c150] at hR
              refine lv_iconst (v := (0 : Int32)) hx hb dX10_term_162 (by decide) ?_
              refine lv_istore (lv' := [(6, .int (0 : Int32)), (5, .int (0 : Int32)), (0, .ref (a 0)), (1, .int o), (2, .int x1), (3, .int y1), (4, .int z1)]) hx hb dX10_term_163 hl (by decide) rfl (fun ls hl => ?_)
              refine lv_iload hx hb dX10_term_165 (lv_at hl 0 rfl) ?_
              refine lv_if_eq (tgt := 182) hx hb dX10_term_167 (by decide) (fun c167 => ?_) (fun c167 => ?_)
              · skip
                refine lv_aload_n hx hb dX10_term_182 rfl (lv_at hl 2 rfl) ?_
                refine lv_iload_n hx hb dX10_term_183 rfl (lv_at hl 3 rfl) ?_
                refine lv_iload_n hx hb dX10_term_184 rfl (lv_at hl 4 rfl) ?_
                refine lv_iload_n hx hb dX10_term_185 rfl (lv_at hl 5 rfl) ?_
                refine lv_iload hx hb dX10_term_186 (lv_at hl 6 rfl) ?_
                refine wl_mi (va_runV (As := [.int o, .int x1, .int y1, .int z1]) (rest := []) ⟨hx, hb, hml, hown, hta⟩ (km_Mod_simple l dC dI a k st o x1 y1 z1 _ N hN h64 qA (fun h1 h2 h3 => qB h1 (wm_le16 h2)) (fun h => qB (by rw [h]; decide) (by rw [h]; decide))) (cwV 4 hta gX10_132 rfl rfl rfl (by decide +kernel) ⟨Nat.le_of_ble_eq_true rfl, Nat.le_of_ble_eq_true rfl⟩) (wl_pM (C := RX10) (ci := 8) (q0 := 0) hK hP hD rfl (mr_0 a k st)) rfl rfl hl.1 rfl (lv_room (Nat.le_of_ble_eq_true rfl)) dX10_term_188 ⟨Nat.zero_le _, Nat.zero_le _⟩) hP hD hS hAz (fun r188 u188 H locs hw188 hP hD hS => ?_)
                have v188 : (fm_Mod_simple st o x1 y1 z1).1 = r188 := congrArg Prod.fst hw188.symm
                have w188 : (fm_Mod_simple st o x1 y1 z1).2 = u188 := congrArg Prod.snd hw188.symm
                have hf188 : XF [0, 1] [0, 1, 2, 3, 4] [0] st u188 := by rw [← w188]; exact ff_Mod_simple st o x1 y1 z1
                try rw [v188] at hR
                try rw [w188] at hR
                exact W.iret (v := r188) hx hb hr (fun t ht hW => ⟨⟨_, _, rfl, hR, by rw [ht]; exact hP, va_K.moved hW.alike hK, hD⟩, hS.F ht⟩) hS.2.2 dX10_term_191
              · skip
                exact absurd c167 (by decide)
            · skip
              rw [if_pos c150] at hR
              have qy : vp_in y1 64 := qB (by rw [c150]; decide) (by rw [c150]; decide)
              refine lv_iload_n hx hb dX10_term_153 rfl (lv_at hl 3 rfl) ?_
              refine lv_iload_n hx hb dX10_term_154 rfl (lv_at hl 4 rfl) ?_
              refine lv_icmp_le (tgt := 162) hx hb dX10_term_155 (by decide) (fun c155 => ?_) (fun c155 => ?_)
              · skip
                rw [if_pos c155] at hR
                refine lv_iconst (v := (0 : Int32)) hx hb dX10_term_162 (by decide) ?_
                refine lv_istore (lv' := [(6, .int (0 : Int32)), (5, .int (0 : Int32)), (0, .ref (a 0)), (1, .int o), (2, .int x1), (3, .int y1), (4, .int z1)]) hx hb dX10_term_163 hl (by decide) rfl (fun ls hl => ?_)
                refine lv_iload hx hb dX10_term_165 (lv_at hl 0 rfl) ?_
                refine lv_if_eq (tgt := 182) hx hb dX10_term_167 (by decide) (fun c167 => ?_) (fun c167 => ?_)
                · skip
                  refine lv_aload_n hx hb dX10_term_182 rfl (lv_at hl 2 rfl) ?_
                  refine lv_iload_n hx hb dX10_term_183 rfl (lv_at hl 3 rfl) ?_
                  refine lv_iload_n hx hb dX10_term_184 rfl (lv_at hl 4 rfl) ?_
                  refine lv_iload_n hx hb dX10_term_185 rfl (lv_at hl 5 rfl) ?_
                  refine lv_iload hx hb dX10_term_186 (lv_at hl 6 rfl) ?_
                  refine wl_mi (va_runV (As := [.int o, .int x1, .int y1, .int z1]) (rest := []) ⟨hx, hb, hml, hown, hta⟩ (km_Mod_simple l dC dI a k st o x1 y1 z1 _ N hN h64 qA (fun h1 h2 h3 => qB h1 (wm_le16 h2)) (fun h => qB (by rw [h]; decide) (by rw [h]; decide))) (cwV 4 hta gX10_132 rfl rfl rfl (by decide +kernel) ⟨Nat.le_of_ble_eq_true rfl, Nat.le_of_ble_eq_true rfl⟩) (wl_pM (C := RX10) (ci := 8) (q0 := 0) hK hP hD rfl (mr_0 a k st)) rfl rfl hl.1 rfl (lv_room (Nat.le_of_ble_eq_true rfl)) dX10_term_188 ⟨Nat.zero_le _, Nat.zero_le _⟩) hP hD hS hAz (fun r188 u188 H locs hw188 hP hD hS => ?_)
                  have v188 : (fm_Mod_simple st o x1 y1 z1).1 = r188 := congrArg Prod.fst hw188.symm
                  have w188 : (fm_Mod_simple st o x1 y1 z1).2 = u188 := congrArg Prod.snd hw188.symm
                  have hf188 : XF [0, 1] [0, 1, 2, 3, 4] [0] st u188 := by rw [← w188]; exact ff_Mod_simple st o x1 y1 z1
                  try rw [v188] at hR
                  try rw [w188] at hR
                  exact W.iret (v := r188) hx hb hr (fun t ht hW => ⟨⟨_, _, rfl, hR, by rw [ht]; exact hP, va_K.moved hW.alike hK, hD⟩, hS.F ht⟩) hS.2.2 dX10_term_191
                · skip
                  exact absurd c167 (by decide)
              · skip
                rw [if_neg c155] at hR
                refine lv_iconst (v := (1 : Int32)) hx hb dX10_term_158 (by decide) ?_
                refine lv_goto (tgt := 163) hx hb dX10_term_159 (by decide) ?_
                refine lv_istore (lv' := [(6, .int (1 : Int32)), (5, .int (0 : Int32)), (0, .ref (a 0)), (1, .int o), (2, .int x1), (3, .int y1), (4, .int z1)]) hx hb dX10_term_163 hl (by decide) rfl (fun ls hl => ?_)
                refine lv_iload hx hb dX10_term_165 (lv_at hl 0 rfl) ?_
                refine lv_if_eq (tgt := 182) hx hb dX10_term_167 (by decide) (fun c167 => ?_) (fun c167 => ?_)
                · skip
                  exact absurd c167 (by decide)
                · skip
                  refine lv_aload_n hx hb dX10_term_170 rfl (lv_at hl 2 rfl) ?_
                  refine lv_iload_n hx hb dX10_term_171 rfl (lv_at hl 3 rfl) ?_
                  refine lv_iload_n hx hb dX10_term_172 rfl (lv_at hl 5 rfl) ?_
                  refine lv_iload_n hx hb dX10_term_173 rfl (lv_at hl 4 rfl) ?_
                  refine lv_iload hx hb dX10_term_174 (lv_at hl 6 rfl) ?_
                  refine wl_mi (va_runV (As := [.int o, .int y1, .int x1, .int z1]) (rest := []) ⟨hx, hb, hml, hown, hta⟩ (km_Mod_simple l dC dI a k st o y1 x1 z1 _ N hN h64 qy (fun _ _ _ => qA) (fun _ => qA)) (cwV 4 hta gX10_132 rfl rfl rfl (by decide +kernel) ⟨Nat.le_of_ble_eq_true rfl, Nat.le_of_ble_eq_true rfl⟩) (wl_pM (C := RX10) (ci := 8) (q0 := 0) hK hP hD rfl (mr_0 a k st)) rfl rfl hl.1 rfl (lv_room (Nat.le_of_ble_eq_true rfl)) dX10_term_176 ⟨Nat.zero_le _, Nat.zero_le _⟩) hP hD hS hAz (fun r176 u176 H locs hw176 hP hD hS => ?_)
                  have v176 : (fm_Mod_simple st o y1 x1 z1).1 = r176 := congrArg Prod.fst hw176.symm
                  have w176 : (fm_Mod_simple st o y1 x1 z1).2 = u176 := congrArg Prod.snd hw176.symm
                  have hf176 : XF [0, 1] [0, 1, 2, 3, 4] [0] st u176 := by rw [← w176]; exact ff_Mod_simple st o y1 x1 z1
                  try rw [v176] at hR
                  try rw [w176] at hR
                  refine lv_goto (tgt := 191) hx hb dX10_term_179 (by decide) ?_
                  exact W.iret (v := r176) hx hb hr (fun t ht hW => ⟨⟨_, _, rfl, hR, by rw [ht]; exact hP, va_K.moved hW.alike hK, hD⟩, hS.F ht⟩) hS.2.2 dX10_term_191
        · skip
          exact absurd c16 c132
      · skip
        rw [if_neg c37] at hR
        refine lv_iload hx hb dX10_term_40 (lv_at hl 0 rfl) ?_
        refine lv_if_eq (tgt := 53) hx hb dX10_term_42 (by decide) (fun c42 => ?_) (fun c42 => ?_)
        · skip
          refine lv_iload_n hx hb dX10_term_53 rfl (lv_at hl 2 rfl) ?_
          refine lv_bipush (v := (16 : Int32)) hx hb dX10_term_54 (by decide) ?_
          refine lv_icmp_ne (tgt := 68) hx hb dX10_term_56 (by decide) (fun c56 => ?_) (fun c56 => ?_)
          · skip
            rw [if_neg c56] at hR
            refine lv_iconst (v := (0 : Int32)) hx hb dX10_term_68 (by decide) ?_
            refine lv_istore (lv' := [(6, .int (0 : Int32)), (5, .int (0 : Int32)), (0, .ref (a 0)), (1, .int o), (2, .int x1), (3, .int y1), (4, .int z1)]) hx hb dX10_term_69 hl (by decide) rfl (fun ls hl => ?_)
            have L71 : ∀ (n : Nat) (i : Nat) (S1 : XS) (H : Heap) (locs : List Loc) (ls : Array Slot), fm_Mod_term_L71 st o x1 y1 z1 n i S1 = R → (i ≤ N) → (XF [] [] [1] st S1) → N - i < n → va_P (dC, dI) vwCl (mw a k S1) H → va_D A (mw a k S1) → va_S A s.heap H locs → lv_has ls 7 [(6, .int (nI i)), (0, .ref (a 0)), (1, .int o), (2, .int x1), (3, .int y1), (4, .int z1)] → W p l e (headSpec wsX10_term ({ frames := 4, cells := 0, slots := 0, locals := 103 })).room s m ([.ref (a 0), .int o, .int x1, .int y1, .int z1] : List Value).toArray below meth c H locs 0 0 (MQ below (va_Qi (fun r9 u9 => (r9, u9) = R) (wl_at (dC, dI) vwCl (mt k) (mw a k) A) A) ([.ref (a 0), .int o, .int x1, .int y1, .int z1] : List Value).toArray s 0 0 A) (F0 m 71 ls []) := by
              intro n
              induction n with
              | zero =>
                intro i S1 H locs ls hR hi hE hm hP hD hS hl
                exact absurd hm (Nat.not_lt_zero _)
              | succ n ih =>
                intro i S1 H locs ls hR hi hE hm hP hD hS hl
                rw [fm_Mod_term_L71] at hR
                refine lv_iload hx hb dX10_term_71 (lv_at hl 0 rfl) ?_
                refine lv_aload_n hx hb dX10_term_73 rfl (lv_at hl 1 rfl) ?_
                refine va_get (D := (dC, dI)) (ci := 8) (v := .int (gI S1 0)) (C := RX10) (T := TX10) (N := 21) hx hb hta inX10 hown hK hP 0 (mr_0 a k S1) rfl 0 (by decide) hf7 (fun _ h9 => h9) rfl dX10_term_74 ?_
                refine lv_icmp_ge (tgt := 109) hx hb dX10_term_77 (by decide) (fun c77 => ?_) (fun c77 => ?_)
                · skip
                  rw [if_pos c77] at hR
                  refine lv_aload_n hx hb dX10_term_109 rfl (lv_at hl 1 rfl) ?_
                  refine lv_aload_n hx hb dX10_term_110 rfl (lv_at hl 1 rfl) ?_
                  refine lv_iload_n hx hb dX10_term_111 rfl (lv_at hl 2 rfl) ?_
                  refine lv_iload_n hx hb dX10_term_112 rfl (lv_at hl 3 rfl) ?_
                  refine lv_iload_n hx hb dX10_term_113 rfl (lv_at hl 4 rfl) ?_
                  refine wl_ci (va_runV (As := [.int o, .int x1, .int y1]) (rest := [.ref (a 0)]) ⟨hx, hb, hml, hown, hta⟩ (km_Mod_widthOf l dC dI a k S1 o x1 y1 qA (fun h => qB (by rw [h]; decide) (by rw [h]; decide))) (cwV 3 hta gX10_124 rfl rfl rfl (by decide +kernel) ⟨Nat.le_of_ble_eq_true rfl, Nat.le_of_ble_eq_true rfl⟩) (wl_pR (C := RX10) (ci := 8) (q0 := 0) hK hP rfl (mr_0 a k S1)) rfl rfl hl.1 rfl (lv_room (Nat.le_of_ble_eq_true rfl)) dX10_term_114 ⟨Nat.zero_le _, Nat.zero_le _⟩) ?_
                  refine lv_aload_n hx hb dX10_term_117 rfl (lv_at hl 1 rfl) ?_
                  refine lv_iload_n hx hb dX10_term_118 rfl (lv_at hl 2 rfl) ?_
                  refine lv_iload_n hx hb dX10_term_119 rfl (lv_at hl 3 rfl) ?_
                  refine lv_iload_n hx hb dX10_term_120 rfl (lv_at hl 4 rfl) ?_
                  refine lv_iload hx hb dX10_term_121 (lv_at hl 5 rfl) ?_
                  refine wl_cl (va_runV (As := [.int o, .int x1, .int y1, .int z1]) (rest := [.int (fm_Mod_widthOf S1 o x1 y1), .ref (a 0)]) ⟨hx, hb, hml, hown, hta⟩ (km_Mod_result l dC dI a k S1 o x1 y1 z1 qA qB qC qT) (cwV 4 hta gX10_128 rfl rfl rfl (by decide +kernel) ⟨Nat.le_of_ble_eq_true rfl, Nat.le_of_ble_eq_true rfl⟩) (wl_pR (C := RX10) (ci := 8) (q0 := 0) hK hP rfl (mr_0 a k S1)) rfl rfl hl.1 rfl (lv_room (Nat.le_of_ble_eq_true rfl)) dX10_term_123 ⟨Nat.zero_le _, Nat.zero_le _⟩) ?_
                  refine wl_mi (va_runV (As := [.int (fm_Mod_widthOf S1 o x1 y1), .long (fm_Mod_result S1 o x1 y1 z1)]) (rest := []) ⟨hx, hb, hml, hown, hta⟩ (km_Mod_constantOf l dC dI a k S1 (fm_Mod_widthOf S1 o x1 y1) (fm_Mod_result S1 o x1 y1 z1) _ N ((hE.I 0 (by decide)).trans hN) h64) (cwV 2 hta gX10_84 rfl rfl rfl (by decide +kernel) ⟨Nat.le_of_ble_eq_true rfl, Nat.le_of_ble_eq_true rfl⟩) (wl_pM (C := RX10) (ci := 8) (q0 := 0) hK hP hD rfl (mr_0 a k S1)) rfl rfl hl.1 rfl (lv_room (Nat.le_of_ble_eq_true rfl)) dX10_term_126 ⟨Nat.zero_le _, Nat.zero_le _⟩) hP hD hS hAz (fun r126 u126 H locs hw126 hP hD hS => ?_)
                  have v126 : (fm_Mod_constantOf S1 (fm_Mod_widthOf S1 o x1 y1) (fm_Mod_result S1 o x1 y1 z1)).1 = r126 := congrArg Prod.fst hw126.symm
                  have w126 : (fm_Mod_constantOf S1 (fm_Mod_widthOf S1 o x1 y1) (fm_Mod_result S1 o x1 y1 z1)).2 = u126 := congrArg Prod.snd hw126.symm
                  have hf126 : XF [0] [0, 1, 2, 3, 4] [0] S1 u126 := by rw [← w126]; exact ff_Mod_constantOf S1 (fm_Mod_widthOf S1 o x1 y1) (fm_Mod_result S1 o x1 y1 z1)
                  try rw [v126] at hR
                  try rw [w126] at hR
                  exact W.iret (v := r126) hx hb hr (fun t ht hW => ⟨⟨_, _, rfl, hR, by rw [ht]; exact hP, va_K.moved hW.alike hK, hD⟩, hS.F ht⟩) hS.2.2 dX10_term_129
                · skip
                  rw [if_neg c77] at hR
                  have hlt : i < N := wl_lt (by rw [← hN, ← hE.I 0 (by decide)]; exact c77) (by omega)
                  refine lv_aload_n hx hb dX10_term_80 rfl (lv_at hl 1 rfl) ?_
                  refine lv_iload hx hb dX10_term_81 (lv_at hl 0 rfl) ?_
                  refine wl_ci (va_runV (As := [.int (nI i)]) (rest := []) ⟨hx, hb, hml, hown, hta⟩ (km_Mod_isConst l dC dI a k S1 (nI i) (wl_in (by omega) (by decide))) (cwV 1 hta gX10_121 rfl rfl rfl (by decide +kernel) ⟨Nat.le_of_ble_eq_true rfl, Nat.le_of_ble_eq_true rfl⟩) (wl_pR (C := RX10) (ci := 8) (q0 := 0) hK hP rfl (mr_0 a k S1)) rfl rfl hl.1 rfl (lv_room (Nat.le_of_ble_eq_true rfl)) dX10_term_83 ⟨Nat.zero_le _, Nat.zero_le _⟩) ?_
                  refine lv_if_eq (tgt := 103) hx hb dX10_term_86 (by decide) (fun c86 => ?_) (fun c86 => ?_)
                  · skip
                    rw [if_pos c86] at hR
                    refine lv_iinc (v := nI (i + 1)) (lv' := [(6, .int (nI (i + 1))), (0, .ref (a 0)), (1, .int o), (2, .int x1), (3, .int y1), (4, .int z1)]) hx hb dX10_term_103 hl (k := 0) rfl (nI_1 _) (by decide) rfl (fun ls hl => ?_)
                    refine lv_goto (tgt := 71) hx hb dX10_term_106 (by decide) ?_
                    exact ih (i + 1) S1 _ _ ls hR (by omega) hE (by omega) hP hD hS (lv_sub hl [0, 1, 2, 3, 4, 5] rfl)
                  · skip
                    rw [if_neg c86] at hR
                    refine lv_aload_n hx hb dX10_term_89 rfl (lv_at hl 1 rfl) ?_
                    refine va_get (D := (dC, dI)) (ci := 8) (v := .ref (a 7)) (C := RX10) (T := TX10) (N := 21) hx hb hta inX10 hown hK hP 0 (mr_0 a k S1) rfl 13 (by decide) hf51 (fun _ h9 => h9) rfl dX10_term_90 ?_
                    refine lv_iload hx hb dX10_term_93 (lv_at hl 0 rfl) ?_
                    refine lv_aload_n hx hb dX10_term_95 rfl (lv_at hl 1 rfl) ?_
                    refine va_get (D := (dC, dI)) (ci := 8) (v := .ref (a 6)) (C := RX10) (T := TX10) (N := 21) hx hb hta inX10 hown hK hP 0 (mr_0 a k S1) rfl 12 (by decide) hf47 (fun _ h9 => h9) rfl dX10_term_96 ?_
                    refine lv_iload hx hb dX10_term_99 (lv_at hl 0 rfl) ?_
                    refine va_lald hx hb hK hP 6 5 (mr_6 a k S1) rfl (wl_in (by omega) (by decide)) dX10_term_101 ?_
                    refine va_last hx hb hK hP hD hS 7 6 (mr_7 a k S1) rfl (wl_in (by omega) (by decide)) dX10_term_102 (fun H locs hP hD hS => ?_)
                    have hP := mp_L1 hP
                    have hD := md_L1 hD
                    refine lv_iinc (v := nI (i + 1)) (lv' := [(6, .int (nI (i + 1))), (0, .ref (a 0)), (1, .int o), (2, .int x1), (3, .int y1), (4, .int z1)]) hx hb dX10_term_103 hl (k := 0) rfl (nI_1 _) (by decide) rfl (fun ls hl => ?_)
                    refine lv_goto (tgt := 71) hx hb dX10_term_106 (by decide) ?_
                    exact ih (i + 1) (wL S1 1 ((nI i).toNatClampNeg) (fL S1 0 (nI i).toNatClampNeg)) _ _ ls hR (by omega) (XF.wL (by decide) hE) (by omega) hP hD hS (lv_sub hl [0, 1, 2, 3, 4, 5] rfl)
            exact L71 65 0 st _ _ ls hR (Nat.zero_le _) XF.rf (by omega) hP hD hS (lv_sub hl [0, 2, 3, 4, 5, 6] rfl)
          · skip
            rw [if_pos c56] at hR
            refine lv_aload_n hx hb dX10_term_59 rfl (lv_at hl 1 rfl) ?_
            refine lv_iload hx hb dX10_term_60 (lv_at hl 5 rfl) ?_
            refine wl_ci (va_runV (As := [.int z1]) (rest := []) ⟨hx, hb, hml, hown, hta⟩ (km_Mod_isConst l dC dI a k st z1 (qC c56)) (cwV 1 hta gX10_121 rfl rfl rfl (by decide +kernel) ⟨Nat.le_of_ble_eq_true rfl, Nat.le_of_ble_eq_true rfl⟩) (wl_pR (C := RX10) (ci := 8) (q0 := 0) hK hP rfl (mr_0 a k st)) rfl rfl hl.1 rfl (lv_room (Nat.le_of_ble_eq_true rfl)) dX10_term_62 ⟨Nat.zero_le _, Nat.zero_le _⟩) ?_
            refine lv_if_eq (tgt := 130) hx hb dX10_term_65 (by decide) (fun c65 => ?_) (fun c65 => ?_)
            · skip
              rw [if_pos c65] at hR
              refine lv_iload_n hx hb dX10_term_130 rfl (lv_at hl 2 rfl) ?_
              refine lv_iconst (v := (1 : Int32)) hx hb dX10_term_131 (by decide) ?_
              refine lv_icmp_le (tgt := 141) hx hb dX10_term_132 (by decide) (fun c132 => ?_) (fun c132 => ?_)
              · skip
                refine lv_iload_n hx hb dX10_term_141 rfl (lv_at hl 2 rfl) ?_
                refine lv_bipush (v := (7 : Int32)) hx hb dX10_term_142 (by decide) ?_
                refine lv_icmp_eq (tgt := 153) hx hb dX10_term_144 (by decide) (fun c144 => ?_) (fun c144 => ?_)
                · skip
                  rw [if_pos c144] at hR
                  have qy : vp_in y1 64 := qB (by rw [c144]; decide) (by rw [c144]; decide)
                  refine lv_iload_n hx hb dX10_term_153 rfl (lv_at hl 3 rfl) ?_
                  refine lv_iload_n hx hb dX10_term_154 rfl (lv_at hl 4 rfl) ?_
                  refine lv_icmp_le (tgt := 162) hx hb dX10_term_155 (by decide) (fun c155 => ?_) (fun c155 => ?_)
                  · skip
                    rw [if_pos c155] at hR
                    refine lv_iconst (v := (0 : Int32)) hx hb dX10_term_162 (by decide) ?_
                    refine lv_istore (lv' := [(6, .int (0 : Int32)), (5, .int (0 : Int32)), (0, .ref (a 0)), (1, .int o), (2, .int x1), (3, .int y1), (4, .int z1)]) hx hb dX10_term_163 hl (by decide) rfl (fun ls hl => ?_)
                    refine lv_iload hx hb dX10_term_165 (lv_at hl 0 rfl) ?_
                    refine lv_if_eq (tgt := 182) hx hb dX10_term_167 (by decide) (fun c167 => ?_) (fun c167 => ?_)
                    · skip
                      refine lv_aload_n hx hb dX10_term_182 rfl (lv_at hl 2 rfl) ?_
                      refine lv_iload_n hx hb dX10_term_183 rfl (lv_at hl 3 rfl) ?_
                      refine lv_iload_n hx hb dX10_term_184 rfl (lv_at hl 4 rfl) ?_
                      refine lv_iload_n hx hb dX10_term_185 rfl (lv_at hl 5 rfl) ?_
                      refine lv_iload hx hb dX10_term_186 (lv_at hl 6 rfl) ?_
                      refine wl_mi (va_runV (As := [.int o, .int x1, .int y1, .int z1]) (rest := []) ⟨hx, hb, hml, hown, hta⟩ (km_Mod_simple l dC dI a k st o x1 y1 z1 _ N hN h64 qA (fun h1 h2 h3 => qB h1 (wm_le16 h2)) (fun h => qB (by rw [h]; decide) (by rw [h]; decide))) (cwV 4 hta gX10_132 rfl rfl rfl (by decide +kernel) ⟨Nat.le_of_ble_eq_true rfl, Nat.le_of_ble_eq_true rfl⟩) (wl_pM (C := RX10) (ci := 8) (q0 := 0) hK hP hD rfl (mr_0 a k st)) rfl rfl hl.1 rfl (lv_room (Nat.le_of_ble_eq_true rfl)) dX10_term_188 ⟨Nat.zero_le _, Nat.zero_le _⟩) hP hD hS hAz (fun r188 u188 H locs hw188 hP hD hS => ?_)
                      have v188 : (fm_Mod_simple st o x1 y1 z1).1 = r188 := congrArg Prod.fst hw188.symm
                      have w188 : (fm_Mod_simple st o x1 y1 z1).2 = u188 := congrArg Prod.snd hw188.symm
                      have hf188 : XF [0, 1] [0, 1, 2, 3, 4] [0] st u188 := by rw [← w188]; exact ff_Mod_simple st o x1 y1 z1
                      try rw [v188] at hR
                      try rw [w188] at hR
                      exact W.iret (v := r188) hx hb hr (fun t ht hW => ⟨⟨_, _, rfl, hR, by rw [ht]; exact hP, va_K.moved hW.alike hK, hD⟩, hS.F ht⟩) hS.2.2 dX10_term_191
                    · skip
                      exact absurd c167 (by decide)
                  · skip
                    rw [if_neg c155] at hR
                    refine lv_iconst (v := (1 : Int32)) hx hb dX10_term_158 (by decide) ?_
                    refine lv_goto (tgt := 163) hx hb dX10_term_159 (by decide) ?_
                    refine lv_istore (lv' := [(6, .int (1 : Int32)), (5, .int (0 : Int32)), (0, .ref (a 0)), (1, .int o), (2, .int x1), (3, .int y1), (4, .int z1)]) hx hb dX10_term_163 hl (by decide) rfl (fun ls hl => ?_)
                    refine lv_iload hx hb dX10_term_165 (lv_at hl 0 rfl) ?_
                    refine lv_if_eq (tgt := 182) hx hb dX10_term_167 (by decide) (fun c167 => ?_) (fun c167 => ?_)
                    · skip
                      exact absurd c167 (by decide)
                    · skip
                      refine lv_aload_n hx hb dX10_term_170 rfl (lv_at hl 2 rfl) ?_
                      refine lv_iload_n hx hb dX10_term_171 rfl (lv_at hl 3 rfl) ?_
                      refine lv_iload_n hx hb dX10_term_172 rfl (lv_at hl 5 rfl) ?_
                      refine lv_iload_n hx hb dX10_term_173 rfl (lv_at hl 4 rfl) ?_
                      refine lv_iload hx hb dX10_term_174 (lv_at hl 6 rfl) ?_
                      refine wl_mi (va_runV (As := [.int o, .int y1, .int x1, .int z1]) (rest := []) ⟨hx, hb, hml, hown, hta⟩ (km_Mod_simple l dC dI a k st o y1 x1 z1 _ N hN h64 qy (fun _ _ _ => qA) (fun _ => qA)) (cwV 4 hta gX10_132 rfl rfl rfl (by decide +kernel) ⟨Nat.le_of_ble_eq_true rfl, Nat.le_of_ble_eq_true rfl⟩) (wl_pM (C := RX10) (ci := 8) (q0 := 0) hK hP hD rfl (mr_0 a k st)) rfl rfl hl.1 rfl (lv_room (Nat.le_of_ble_eq_true rfl)) dX10_term_176 ⟨Nat.zero_le _, Nat.zero_le _⟩) hP hD hS hAz (fun r176 u176 H locs hw176 hP hD hS => ?_)
                      have v176 : (fm_Mod_simple st o y1 x1 z1).1 = r176 := congrArg Prod.fst hw176.symm
                      have w176 : (fm_Mod_simple st o y1 x1 z1).2 = u176 := congrArg Prod.snd hw176.symm
                      have hf176 : XF [0, 1] [0, 1, 2, 3, 4] [0] st u176 := by rw [← w176]; exact ff_Mod_simple st o y1 x1 z1
                      try rw [v176] at hR
                      try rw [w176] at hR
                      refine lv_goto (tgt := 191) hx hb dX10_term_179 (by decide) ?_
                      exact W.iret (v := r176) hx hb hr (fun t ht hW => ⟨⟨_, _, rfl, hR, by rw [ht]; exact hP, va_K.moved hW.alike hK, hD⟩, hS.F ht⟩) hS.2.2 dX10_term_191
                · skip
                  rw [if_neg c144] at hR
                  refine lv_iload_n hx hb dX10_term_147 rfl (lv_at hl 2 rfl) ?_
                  refine lv_bipush (v := (13 : Int32)) hx hb dX10_term_148 (by decide) ?_
                  refine lv_icmp_ne (tgt := 162) hx hb dX10_term_150 (by decide) (fun c150 => ?_) (fun c150 => ?_)
                  · skip
                    rw [if_neg c150] at hR
                    refine lv_iconst (v := (0 : Int32)) hx hb dX10_term_162 (by decide) ?_
                    refine lv_istore (lv' := [(6, .int (0 : Int32)), (5, .int (0 : Int32)), (0, .ref (a 0)), (1, .int o), (2, .int x1), (3, .int y1), (4, .int z1)]) hx hb dX10_term_163 hl (by decide) rfl (fun ls hl => ?_)
                    refine lv_iload hx hb dX10_term_165 (lv_at hl 0 rfl) ?_
                    refine lv_if_eq (tgt := 182) hx hb dX10_term_167 (by decide) (fun c167 => ?_) (fun c167 => ?_)
                    · skip
                      refine lv_aload_n hx hb dX10_term_182 rfl (lv_at hl 2 rfl) ?_
                      refine lv_iload_n hx hb dX10_term_183 rfl (lv_at hl 3 rfl) ?_
                      refine lv_iload_n hx hb dX10_term_184 rfl (lv_at hl 4 rfl) ?_
                      refine lv_iload_n hx hb dX10_term_185 rfl (lv_at hl 5 rfl) ?_
                      refine lv_iload hx hb dX10_term_186 (lv_at hl 6 rfl) ?_
                      refine wl_mi (va_runV (As := [.int o, .int x1, .int y1, .int z1]) (rest := []) ⟨hx, hb, hml, hown, hta⟩ (km_Mod_simple l dC dI a k st o x1 y1 z1 _ N hN h64 qA (fun h1 h2 h3 => qB h1 (wm_le16 h2)) (fun h => qB (by rw [h]; decide) (by rw [h]; decide))) (cwV 4 hta gX10_132 rfl rfl rfl (by decide +kernel) ⟨Nat.le_of_ble_eq_true rfl, Nat.le_of_ble_eq_true rfl⟩) (wl_pM (C := RX10) (ci := 8) (q0 := 0) hK hP hD rfl (mr_0 a k st)) rfl rfl hl.1 rfl (lv_room (Nat.le_of_ble_eq_true rfl)) dX10_term_188 ⟨Nat.zero_le _, Nat.zero_le _⟩) hP hD hS hAz (fun r188 u188 H locs hw188 hP hD hS => ?_)
                      have v188 : (fm_Mod_simple st o x1 y1 z1).1 = r188 := congrArg Prod.fst hw188.symm
                      have w188 : (fm_Mod_simple st o x1 y1 z1).2 = u188 := congrArg Prod.snd hw188.symm
                      have hf188 : XF [0, 1] [0, 1, 2, 3, 4] [0] st u188 := by rw [← w188]; exact ff_Mod_simple st o x1 y1 z1
                      try rw [v188] at hR
                      try rw [w188] at hR
                      exact W.iret (v := r188) hx hb hr (fun t ht hW => ⟨⟨_, _, rfl, hR, by rw [ht]; exact hP, va_K.moved hW.alike hK, hD⟩, hS.F ht⟩) hS.2.2 dX10_term_191
                    · skip
                      exact absurd c167 (by decide)
                  · skip
                    rw [if_pos c150] at hR
                    have qy : vp_in y1 64 := qB (by rw [c150]; decide) (by rw [c150]; decide)
                    refine lv_iload_n hx hb dX10_term_153 rfl (lv_at hl 3 rfl) ?_
                    refine lv_iload_n hx hb dX10_term_154 rfl (lv_at hl 4 rfl) ?_
                    refine lv_icmp_le (tgt := 162) hx hb dX10_term_155 (by decide) (fun c155 => ?_) (fun c155 => ?_)
                    · skip
                      rw [if_pos c155] at hR
                      refine lv_iconst (v := (0 : Int32)) hx hb dX10_term_162 (by decide) ?_
                      refine lv_istore (lv' := [(6, .int (0 : Int32)), (5, .int (0 : Int32)), (0, .ref (a 0)), (1, .int o), (2, .int x1), (3, .int y1), (4, .int z1)]) hx hb dX10_term_163 hl (by decide) rfl (fun ls hl => ?_)
                      refine lv_iload hx hb dX10_term_165 (lv_at hl 0 rfl) ?_
                      refine lv_if_eq (tgt := 182) hx hb dX10_term_167 (by decide) (fun c167 => ?_) (fun c167 => ?_)
                      · skip
                        refine lv_aload_n hx hb dX10_term_182 rfl (lv_at hl 2 rfl) ?_
                        refine lv_iload_n hx hb dX10_term_183 rfl (lv_at hl 3 rfl) ?_
                        refine lv_iload_n hx hb dX10_term_184 rfl (lv_at hl 4 rfl) ?_
                        refine lv_iload_n hx hb dX10_term_185 rfl (lv_at hl 5 rfl) ?_
                        refine lv_iload hx hb dX10_term_186 (lv_at hl 6 rfl) ?_
                        refine wl_mi (va_runV (As := [.int o, .int x1, .int y1, .int z1]) (rest := []) ⟨hx, hb, hml, hown, hta⟩ (km_Mod_simple l dC dI a k st o x1 y1 z1 _ N hN h64 qA (fun h1 h2 h3 => qB h1 (wm_le16 h2)) (fun h => qB (by rw [h]; decide) (by rw [h]; decide))) (cwV 4 hta gX10_132 rfl rfl rfl (by decide +kernel) ⟨Nat.le_of_ble_eq_true rfl, Nat.le_of_ble_eq_true rfl⟩) (wl_pM (C := RX10) (ci := 8) (q0 := 0) hK hP hD rfl (mr_0 a k st)) rfl rfl hl.1 rfl (lv_room (Nat.le_of_ble_eq_true rfl)) dX10_term_188 ⟨Nat.zero_le _, Nat.zero_le _⟩) hP hD hS hAz (fun r188 u188 H locs hw188 hP hD hS => ?_)
                        have v188 : (fm_Mod_simple st o x1 y1 z1).1 = r188 := congrArg Prod.fst hw188.symm
                        have w188 : (fm_Mod_simple st o x1 y1 z1).2 = u188 := congrArg Prod.snd hw188.symm
                        have hf188 : XF [0, 1] [0, 1, 2, 3, 4] [0] st u188 := by rw [← w188]; exact ff_Mod_simple st o x1 y1 z1
                        try rw [v188] at hR
                        try rw [w188] at hR
                        exact W.iret (v := r188) hx hb hr (fun t ht hW => ⟨⟨_, _, rfl, hR, by rw [ht]; exact hP, va_K.moved hW.alike hK, hD⟩, hS.F ht⟩) hS.2.2 dX10_term_191
                      · skip
                        exact absurd c167 (by decide)
                    · skip
                      rw [if_neg c155] at hR
                      refine lv_iconst (v := (1 : Int32)) hx hb dX10_term_158 (by decide) ?_
                      refine lv_goto (tgt := 163) hx hb dX10_term_159 (by decide) ?_
                      refine lv_istore (lv' := [(6, .int (1 : Int32)), (5, .int (0 : Int32)), (0, .ref (a 0)), (1, .int o), (2, .int x1), (3, .int y1), (4, .int z1)]) hx hb dX10_term_163 hl (by decide) rfl (fun ls hl => ?_)
                      refine lv_iload hx hb dX10_term_165 (lv_at hl 0 rfl) ?_
                      refine lv_if_eq (tgt := 182) hx hb dX10_term_167 (by decide) (fun c167 => ?_) (fun c167 => ?_)
                      · skip
                        exact absurd c167 (by decide)
                      · skip
                        refine lv_aload_n hx hb dX10_term_170 rfl (lv_at hl 2 rfl) ?_
                        refine lv_iload_n hx hb dX10_term_171 rfl (lv_at hl 3 rfl) ?_
                        refine lv_iload_n hx hb dX10_term_172 rfl (lv_at hl 5 rfl) ?_
                        refine lv_iload_n hx hb dX10_term_173 rfl (lv_at hl 4 rfl) ?_
                        refine lv_iload hx hb dX10_term_174 (lv_at hl 6 rfl) ?_
                        refine wl_mi (va_runV (As := [.int o, .int y1, .int x1, .int z1]) (rest := []) ⟨hx, hb, hml, hown, hta⟩ (km_Mod_simple l dC dI a k st o y1 x1 z1 _ N hN h64 qy (fun _ _ _ => qA) (fun _ => qA)) (cwV 4 hta gX10_132 rfl rfl rfl (by decide +kernel) ⟨Nat.le_of_ble_eq_true rfl, Nat.le_of_ble_eq_true rfl⟩) (wl_pM (C := RX10) (ci := 8) (q0 := 0) hK hP hD rfl (mr_0 a k st)) rfl rfl hl.1 rfl (lv_room (Nat.le_of_ble_eq_true rfl)) dX10_term_176 ⟨Nat.zero_le _, Nat.zero_le _⟩) hP hD hS hAz (fun r176 u176 H locs hw176 hP hD hS => ?_)
                        have v176 : (fm_Mod_simple st o y1 x1 z1).1 = r176 := congrArg Prod.fst hw176.symm
                        have w176 : (fm_Mod_simple st o y1 x1 z1).2 = u176 := congrArg Prod.snd hw176.symm
                        have hf176 : XF [0, 1] [0, 1, 2, 3, 4] [0] st u176 := by rw [← w176]; exact ff_Mod_simple st o y1 x1 z1
                        try rw [v176] at hR
                        try rw [w176] at hR
                        refine lv_goto (tgt := 191) hx hb dX10_term_179 (by decide) ?_
                        exact W.iret (v := r176) hx hb hr (fun t ht hW => ⟨⟨_, _, rfl, hR, by rw [ht]; exact hP, va_K.moved hW.alike hK, hD⟩, hS.F ht⟩) hS.2.2 dX10_term_191
              · skip
                exact absurd c16 c132
            · skip
              rw [if_neg c65] at hR
              refine lv_iconst (v := (0 : Int32)) hx hb dX10_term_68 (by decide) ?_
              refine lv_istore (lv' := [(6, .int (0 : Int32)), (5, .int (0 : Int32)), (0, .ref (a 0)), (1, .int o), (2, .int x1), (3, .int y1), (4, .int z1)]) hx hb dX10_term_69 hl (by decide) rfl (fun ls hl => ?_)
              have L71 : ∀ (n : Nat) (i : Nat) (S1 : XS) (H : Heap) (locs : List Loc) (ls : Array Slot), fm_Mod_term_L71 st o x1 y1 z1 n i S1 = R → (i ≤ N) → (XF [] [] [1] st S1) → N - i < n → va_P (dC, dI) vwCl (mw a k S1) H → va_D A (mw a k S1) → va_S A s.heap H locs → lv_has ls 7 [(6, .int (nI i)), (0, .ref (a 0)), (1, .int o), (2, .int x1), (3, .int y1), (4, .int z1)] → W p l e (headSpec wsX10_term ({ frames := 4, cells := 0, slots := 0, locals := 103 })).room s m ([.ref (a 0), .int o, .int x1, .int y1, .int z1] : List Value).toArray below meth c H locs 0 0 (MQ below (va_Qi (fun r9 u9 => (r9, u9) = R) (wl_at (dC, dI) vwCl (mt k) (mw a k) A) A) ([.ref (a 0), .int o, .int x1, .int y1, .int z1] : List Value).toArray s 0 0 A) (F0 m 71 ls []) := by
                intro n
                induction n with
                | zero =>
                  intro i S1 H locs ls hR hi hE hm hP hD hS hl
                  exact absurd hm (Nat.not_lt_zero _)
                | succ n ih =>
                  intro i S1 H locs ls hR hi hE hm hP hD hS hl
                  rw [fm_Mod_term_L71] at hR
                  refine lv_iload hx hb dX10_term_71 (lv_at hl 0 rfl) ?_
                  refine lv_aload_n hx hb dX10_term_73 rfl (lv_at hl 1 rfl) ?_
                  refine va_get (D := (dC, dI)) (ci := 8) (v := .int (gI S1 0)) (C := RX10) (T := TX10) (N := 21) hx hb hta inX10 hown hK hP 0 (mr_0 a k S1) rfl 0 (by decide) hf7 (fun _ h9 => h9) rfl dX10_term_74 ?_
                  refine lv_icmp_ge (tgt := 109) hx hb dX10_term_77 (by decide) (fun c77 => ?_) (fun c77 => ?_)
                  · skip
                    rw [if_pos c77] at hR
                    refine lv_aload_n hx hb dX10_term_109 rfl (lv_at hl 1 rfl) ?_
                    refine lv_aload_n hx hb dX10_term_110 rfl (lv_at hl 1 rfl) ?_
                    refine lv_iload_n hx hb dX10_term_111 rfl (lv_at hl 2 rfl) ?_
                    refine lv_iload_n hx hb dX10_term_112 rfl (lv_at hl 3 rfl) ?_
                    refine lv_iload_n hx hb dX10_term_113 rfl (lv_at hl 4 rfl) ?_
                    refine wl_ci (va_runV (As := [.int o, .int x1, .int y1]) (rest := [.ref (a 0)]) ⟨hx, hb, hml, hown, hta⟩ (km_Mod_widthOf l dC dI a k S1 o x1 y1 qA (fun h => qB (by rw [h]; decide) (by rw [h]; decide))) (cwV 3 hta gX10_124 rfl rfl rfl (by decide +kernel) ⟨Nat.le_of_ble_eq_true rfl, Nat.le_of_ble_eq_true rfl⟩) (wl_pR (C := RX10) (ci := 8) (q0 := 0) hK hP rfl (mr_0 a k S1)) rfl rfl hl.1 rfl (lv_room (Nat.le_of_ble_eq_true rfl)) dX10_term_114 ⟨Nat.zero_le _, Nat.zero_le _⟩) ?_
                    refine lv_aload_n hx hb dX10_term_117 rfl (lv_at hl 1 rfl) ?_
                    refine lv_iload_n hx hb dX10_term_118 rfl (lv_at hl 2 rfl) ?_
                    refine lv_iload_n hx hb dX10_term_119 rfl (lv_at hl 3 rfl) ?_
                    refine lv_iload_n hx hb dX10_term_120 rfl (lv_at hl 4 rfl) ?_
                    refine lv_iload hx hb dX10_term_121 (lv_at hl 5 rfl) ?_
                    refine wl_cl (va_runV (As := [.int o, .int x1, .int y1, .int z1]) (rest := [.int (fm_Mod_widthOf S1 o x1 y1), .ref (a 0)]) ⟨hx, hb, hml, hown, hta⟩ (km_Mod_result l dC dI a k S1 o x1 y1 z1 qA qB qC qT) (cwV 4 hta gX10_128 rfl rfl rfl (by decide +kernel) ⟨Nat.le_of_ble_eq_true rfl, Nat.le_of_ble_eq_true rfl⟩) (wl_pR (C := RX10) (ci := 8) (q0 := 0) hK hP rfl (mr_0 a k S1)) rfl rfl hl.1 rfl (lv_room (Nat.le_of_ble_eq_true rfl)) dX10_term_123 ⟨Nat.zero_le _, Nat.zero_le _⟩) ?_
                    refine wl_mi (va_runV (As := [.int (fm_Mod_widthOf S1 o x1 y1), .long (fm_Mod_result S1 o x1 y1 z1)]) (rest := []) ⟨hx, hb, hml, hown, hta⟩ (km_Mod_constantOf l dC dI a k S1 (fm_Mod_widthOf S1 o x1 y1) (fm_Mod_result S1 o x1 y1 z1) _ N ((hE.I 0 (by decide)).trans hN) h64) (cwV 2 hta gX10_84 rfl rfl rfl (by decide +kernel) ⟨Nat.le_of_ble_eq_true rfl, Nat.le_of_ble_eq_true rfl⟩) (wl_pM (C := RX10) (ci := 8) (q0 := 0) hK hP hD rfl (mr_0 a k S1)) rfl rfl hl.1 rfl (lv_room (Nat.le_of_ble_eq_true rfl)) dX10_term_126 ⟨Nat.zero_le _, Nat.zero_le _⟩) hP hD hS hAz (fun r126 u126 H locs hw126 hP hD hS => ?_)
                    have v126 : (fm_Mod_constantOf S1 (fm_Mod_widthOf S1 o x1 y1) (fm_Mod_result S1 o x1 y1 z1)).1 = r126 := congrArg Prod.fst hw126.symm
                    have w126 : (fm_Mod_constantOf S1 (fm_Mod_widthOf S1 o x1 y1) (fm_Mod_result S1 o x1 y1 z1)).2 = u126 := congrArg Prod.snd hw126.symm
                    have hf126 : XF [0] [0, 1, 2, 3, 4] [0] S1 u126 := by rw [← w126]; exact ff_Mod_constantOf S1 (fm_Mod_widthOf S1 o x1 y1) (fm_Mod_result S1 o x1 y1 z1)
                    try rw [v126] at hR
                    try rw [w126] at hR
                    exact W.iret (v := r126) hx hb hr (fun t ht hW => ⟨⟨_, _, rfl, hR, by rw [ht]; exact hP, va_K.moved hW.alike hK, hD⟩, hS.F ht⟩) hS.2.2 dX10_term_129
                  · skip
                    rw [if_neg c77] at hR
                    have hlt : i < N := wl_lt (by rw [← hN, ← hE.I 0 (by decide)]; exact c77) (by omega)
                    refine lv_aload_n hx hb dX10_term_80 rfl (lv_at hl 1 rfl) ?_
                    refine lv_iload hx hb dX10_term_81 (lv_at hl 0 rfl) ?_
                    refine wl_ci (va_runV (As := [.int (nI i)]) (rest := []) ⟨hx, hb, hml, hown, hta⟩ (km_Mod_isConst l dC dI a k S1 (nI i) (wl_in (by omega) (by decide))) (cwV 1 hta gX10_121 rfl rfl rfl (by decide +kernel) ⟨Nat.le_of_ble_eq_true rfl, Nat.le_of_ble_eq_true rfl⟩) (wl_pR (C := RX10) (ci := 8) (q0 := 0) hK hP rfl (mr_0 a k S1)) rfl rfl hl.1 rfl (lv_room (Nat.le_of_ble_eq_true rfl)) dX10_term_83 ⟨Nat.zero_le _, Nat.zero_le _⟩) ?_
                    refine lv_if_eq (tgt := 103) hx hb dX10_term_86 (by decide) (fun c86 => ?_) (fun c86 => ?_)
                    · skip
                      rw [if_pos c86] at hR
                      refine lv_iinc (v := nI (i + 1)) (lv' := [(6, .int (nI (i + 1))), (0, .ref (a 0)), (1, .int o), (2, .int x1), (3, .int y1), (4, .int z1)]) hx hb dX10_term_103 hl (k := 0) rfl (nI_1 _) (by decide) rfl (fun ls hl => ?_)
                      refine lv_goto (tgt := 71) hx hb dX10_term_106 (by decide) ?_
                      exact ih (i + 1) S1 _ _ ls hR (by omega) hE (by omega) hP hD hS (lv_sub hl [0, 1, 2, 3, 4, 5] rfl)
                    · skip
                      rw [if_neg c86] at hR
                      refine lv_aload_n hx hb dX10_term_89 rfl (lv_at hl 1 rfl) ?_
                      refine va_get (D := (dC, dI)) (ci := 8) (v := .ref (a 7)) (C := RX10) (T := TX10) (N := 21) hx hb hta inX10 hown hK hP 0 (mr_0 a k S1) rfl 13 (by decide) hf51 (fun _ h9 => h9) rfl dX10_term_90 ?_
                      refine lv_iload hx hb dX10_term_93 (lv_at hl 0 rfl) ?_
                      refine lv_aload_n hx hb dX10_term_95 rfl (lv_at hl 1 rfl) ?_
                      refine va_get (D := (dC, dI)) (ci := 8) (v := .ref (a 6)) (C := RX10) (T := TX10) (N := 21) hx hb hta inX10 hown hK hP 0 (mr_0 a k S1) rfl 12 (by decide) hf47 (fun _ h9 => h9) rfl dX10_term_96 ?_
                      refine lv_iload hx hb dX10_term_99 (lv_at hl 0 rfl) ?_
                      refine va_lald hx hb hK hP 6 5 (mr_6 a k S1) rfl (wl_in (by omega) (by decide)) dX10_term_101 ?_
                      refine va_last hx hb hK hP hD hS 7 6 (mr_7 a k S1) rfl (wl_in (by omega) (by decide)) dX10_term_102 (fun H locs hP hD hS => ?_)
                      have hP := mp_L1 hP
                      have hD := md_L1 hD
                      refine lv_iinc (v := nI (i + 1)) (lv' := [(6, .int (nI (i + 1))), (0, .ref (a 0)), (1, .int o), (2, .int x1), (3, .int y1), (4, .int z1)]) hx hb dX10_term_103 hl (k := 0) rfl (nI_1 _) (by decide) rfl (fun ls hl => ?_)
                      refine lv_goto (tgt := 71) hx hb dX10_term_106 (by decide) ?_
                      exact ih (i + 1) (wL S1 1 ((nI i).toNatClampNeg) (fL S1 0 (nI i).toNatClampNeg)) _ _ ls hR (by omega) (XF.wL (by decide) hE) (by omega) hP hD hS (lv_sub hl [0, 1, 2, 3, 4, 5] rfl)
              exact L71 65 0 st _ _ ls hR (Nat.zero_le _) XF.rf (by omega) hP hD hS (lv_sub hl [0, 2, 3, 4, 5, 6] rfl)
        · skip
          exact absurd c42 (by decide)
    · skip
      rw [if_neg c16] at hR
      refine lv_iload_n hx hb dX10_term_19 rfl (lv_at hl 1 rfl) ?_
      refine lv_bipush (v := (17 : Int32)) hx hb dX10_term_20 (by decide) ?_
      refine lv_icmp_ge (tgt := 29) hx hb dX10_term_22 (by decide) (fun c22 => ?_) (fun c22 => ?_)
      · skip
        rw [if_pos c22] at hR
        refine lv_iconst (v := (0 : Int32)) hx hb dX10_term_29 (by decide) ?_
        refine lv_istore (lv' := [(5, .int (0 : Int32)), (0, .ref (a 0)), (1, .int o), (2, .int x1), (3, .int y1), (4, .int z1)]) hx hb dX10_term_30 hl (by decide) rfl (fun ls hl => ?_)
        refine lv_aload_n hx hb dX10_term_32 rfl (lv_at hl 1 rfl) ?_
        refine lv_iload_n hx hb dX10_term_33 rfl (lv_at hl 3 rfl) ?_
        refine wl_ci (va_runV (As := [.int x1]) (rest := []) ⟨hx, hb, hml, hown, hta⟩ (km_Mod_isConst l dC dI a k st x1 qA) (cwV 1 hta gX10_121 rfl rfl rfl (by decide +kernel) ⟨Nat.le_of_ble_eq_true rfl, Nat.le_of_ble_eq_true rfl⟩) (wl_pR (C := RX10) (ci := 8) (q0 := 0) hK hP rfl (mr_0 a k st)) rfl rfl hl.1 rfl (lv_room (Nat.le_of_ble_eq_true rfl)) dX10_term_34 ⟨Nat.zero_le _, Nat.zero_le _⟩) ?_
        refine lv_if_eq (tgt := 130) hx hb dX10_term_37 (by decide) (fun c37 => ?_) (fun c37 => ?_)
        · skip
          rw [if_pos c37] at hR
          refine lv_iload_n hx hb dX10_term_130 rfl (lv_at hl 2 rfl) ?_
          refine lv_iconst (v := (1 : Int32)) hx hb dX10_term_131 (by decide) ?_
          refine lv_icmp_le (tgt := 141) hx hb dX10_term_132 (by decide) (fun c132 => ?_) (fun c132 => ?_)
          · skip
            exact absurd c132 c16
          · skip
            refine lv_iload_n hx hb dX10_term_135 rfl (lv_at hl 2 rfl) ?_
            refine lv_bipush (v := (6 : Int32)) hx hb dX10_term_136 (by decide) ?_
            refine lv_icmp_lt (tgt := 153) hx hb dX10_term_138 (by decide) (fun c138 => ?_) (fun c138 => ?_)
            · skip
              rw [if_pos c138] at hR
              have qy : vp_in y1 64 := qB (wm_l2 c132) (wm_l6 c138)
              refine lv_iload_n hx hb dX10_term_153 rfl (lv_at hl 3 rfl) ?_
              refine lv_iload_n hx hb dX10_term_154 rfl (lv_at hl 4 rfl) ?_
              refine lv_icmp_le (tgt := 162) hx hb dX10_term_155 (by decide) (fun c155 => ?_) (fun c155 => ?_)
              · skip
                rw [if_pos c155] at hR
                refine lv_iconst (v := (0 : Int32)) hx hb dX10_term_162 (by decide) ?_
                refine lv_istore (lv' := [(6, .int (0 : Int32)), (5, .int (0 : Int32)), (0, .ref (a 0)), (1, .int o), (2, .int x1), (3, .int y1), (4, .int z1)]) hx hb dX10_term_163 hl (by decide) rfl (fun ls hl => ?_)
                refine lv_iload hx hb dX10_term_165 (lv_at hl 0 rfl) ?_
                refine lv_if_eq (tgt := 182) hx hb dX10_term_167 (by decide) (fun c167 => ?_) (fun c167 => ?_)
                · skip
                  refine lv_aload_n hx hb dX10_term_182 rfl (lv_at hl 2 rfl) ?_
                  refine lv_iload_n hx hb dX10_term_183 rfl (lv_at hl 3 rfl) ?_
                  refine lv_iload_n hx hb dX10_term_184 rfl (lv_at hl 4 rfl) ?_
                  refine lv_iload_n hx hb dX10_term_185 rfl (lv_at hl 5 rfl) ?_
                  refine lv_iload hx hb dX10_term_186 (lv_at hl 6 rfl) ?_
                  refine wl_mi (va_runV (As := [.int o, .int x1, .int y1, .int z1]) (rest := []) ⟨hx, hb, hml, hown, hta⟩ (km_Mod_simple l dC dI a k st o x1 y1 z1 _ N hN h64 qA (fun h1 h2 h3 => qB h1 (wm_le16 h2)) (fun h => qB (by rw [h]; decide) (by rw [h]; decide))) (cwV 4 hta gX10_132 rfl rfl rfl (by decide +kernel) ⟨Nat.le_of_ble_eq_true rfl, Nat.le_of_ble_eq_true rfl⟩) (wl_pM (C := RX10) (ci := 8) (q0 := 0) hK hP hD rfl (mr_0 a k st)) rfl rfl hl.1 rfl (lv_room (Nat.le_of_ble_eq_true rfl)) dX10_term_188 ⟨Nat.zero_le _, Nat.zero_le _⟩) hP hD hS hAz (fun r188 u188 H locs hw188 hP hD hS => ?_)
                  have v188 : (fm_Mod_simple st o x1 y1 z1).1 = r188 := congrArg Prod.fst hw188.symm
                  have w188 : (fm_Mod_simple st o x1 y1 z1).2 = u188 := congrArg Prod.snd hw188.symm
                  have hf188 : XF [0, 1] [0, 1, 2, 3, 4] [0] st u188 := by rw [← w188]; exact ff_Mod_simple st o x1 y1 z1
                  try rw [v188] at hR
                  try rw [w188] at hR
                  exact W.iret (v := r188) hx hb hr (fun t ht hW => ⟨⟨_, _, rfl, hR, by rw [ht]; exact hP, va_K.moved hW.alike hK, hD⟩, hS.F ht⟩) hS.2.2 dX10_term_191
                · skip
                  exact absurd c167 (by decide)
              · skip
                rw [if_neg c155] at hR
                refine lv_iconst (v := (1 : Int32)) hx hb dX10_term_158 (by decide) ?_
                refine lv_goto (tgt := 163) hx hb dX10_term_159 (by decide) ?_
                refine lv_istore (lv' := [(6, .int (1 : Int32)), (5, .int (0 : Int32)), (0, .ref (a 0)), (1, .int o), (2, .int x1), (3, .int y1), (4, .int z1)]) hx hb dX10_term_163 hl (by decide) rfl (fun ls hl => ?_)
                refine lv_iload hx hb dX10_term_165 (lv_at hl 0 rfl) ?_
                refine lv_if_eq (tgt := 182) hx hb dX10_term_167 (by decide) (fun c167 => ?_) (fun c167 => ?_)
                · skip
                  exact absurd c167 (by decide)
                · skip
                  refine lv_aload_n hx hb dX10_term_170 rfl (lv_at hl 2 rfl) ?_
                  refine lv_iload_n hx hb dX10_term_171 rfl (lv_at hl 3 rfl) ?_
                  refine lv_iload_n hx hb dX10_term_172 rfl (lv_at hl 5 rfl) ?_
                  refine lv_iload_n hx hb dX10_term_173 rfl (lv_at hl 4 rfl) ?_
                  refine lv_iload hx hb dX10_term_174 (lv_at hl 6 rfl) ?_
                  refine wl_mi (va_runV (As := [.int o, .int y1, .int x1, .int z1]) (rest := []) ⟨hx, hb, hml, hown, hta⟩ (km_Mod_simple l dC dI a k st o y1 x1 z1 _ N hN h64 qy (fun _ _ _ => qA) (fun _ => qA)) (cwV 4 hta gX10_132 rfl rfl rfl (by decide +kernel) ⟨Nat.le_of_ble_eq_true rfl, Nat.le_of_ble_eq_true rfl⟩) (wl_pM (C := RX10) (ci := 8) (q0 := 0) hK hP hD rfl (mr_0 a k st)) rfl rfl hl.1 rfl (lv_room (Nat.le_of_ble_eq_true rfl)) dX10_term_176 ⟨Nat.zero_le _, Nat.zero_le _⟩) hP hD hS hAz (fun r176 u176 H locs hw176 hP hD hS => ?_)
                  have v176 : (fm_Mod_simple st o y1 x1 z1).1 = r176 := congrArg Prod.fst hw176.symm
                  have w176 : (fm_Mod_simple st o y1 x1 z1).2 = u176 := congrArg Prod.snd hw176.symm
                  have hf176 : XF [0, 1] [0, 1, 2, 3, 4] [0] st u176 := by rw [← w176]; exact ff_Mod_simple st o y1 x1 z1
                  try rw [v176] at hR
                  try rw [w176] at hR
                  refine lv_goto (tgt := 191) hx hb dX10_term_179 (by decide) ?_
                  exact W.iret (v := r176) hx hb hr (fun t ht hW => ⟨⟨_, _, rfl, hR, by rw [ht]; exact hP, va_K.moved hW.alike hK, hD⟩, hS.F ht⟩) hS.2.2 dX10_term_191
            · skip
              rw [if_neg c138] at hR
              refine lv_iload_n hx hb dX10_term_141 rfl (lv_at hl 2 rfl) ?_
              refine lv_bipush (v := (7 : Int32)) hx hb dX10_term_142 (by decide) ?_
              refine lv_icmp_eq (tgt := 153) hx hb dX10_term_144 (by decide) (fun c144 => ?_) (fun c144 => ?_)
              · skip
                rw [if_pos c144] at hR
                have qy : vp_in y1 64 := qB (by rw [c144]; decide) (by rw [c144]; decide)
                refine lv_iload_n hx hb dX10_term_153 rfl (lv_at hl 3 rfl) ?_
                refine lv_iload_n hx hb dX10_term_154 rfl (lv_at hl 4 rfl) ?_
                refine lv_icmp_le (tgt := 162) hx hb dX10_term_155 (by decide) (fun c155 => ?_) (fun c155 => ?_)
                · skip
                  rw [if_pos c155] at hR
                  refine lv_iconst (v := (0 : Int32)) hx hb dX10_term_162 (by decide) ?_
                  refine lv_istore (lv' := [(6, .int (0 : Int32)), (5, .int (0 : Int32)), (0, .ref (a 0)), (1, .int o), (2, .int x1), (3, .int y1), (4, .int z1)]) hx hb dX10_term_163 hl (by decide) rfl (fun ls hl => ?_)
                  refine lv_iload hx hb dX10_term_165 (lv_at hl 0 rfl) ?_
                  refine lv_if_eq (tgt := 182) hx hb dX10_term_167 (by decide) (fun c167 => ?_) (fun c167 => ?_)
                  · skip
                    refine lv_aload_n hx hb dX10_term_182 rfl (lv_at hl 2 rfl) ?_
                    refine lv_iload_n hx hb dX10_term_183 rfl (lv_at hl 3 rfl) ?_
                    refine lv_iload_n hx hb dX10_term_184 rfl (lv_at hl 4 rfl) ?_
                    refine lv_iload_n hx hb dX10_term_185 rfl (lv_at hl 5 rfl) ?_
                    refine lv_iload hx hb dX10_term_186 (lv_at hl 6 rfl) ?_
                    refine wl_mi (va_runV (As := [.int o, .int x1, .int y1, .int z1]) (rest := []) ⟨hx, hb, hml, hown, hta⟩ (km_Mod_simple l dC dI a k st o x1 y1 z1 _ N hN h64 qA (fun h1 h2 h3 => qB h1 (wm_le16 h2)) (fun h => qB (by rw [h]; decide) (by rw [h]; decide))) (cwV 4 hta gX10_132 rfl rfl rfl (by decide +kernel) ⟨Nat.le_of_ble_eq_true rfl, Nat.le_of_ble_eq_true rfl⟩) (wl_pM (C := RX10) (ci := 8) (q0 := 0) hK hP hD rfl (mr_0 a k st)) rfl rfl hl.1 rfl (lv_room (Nat.le_of_ble_eq_true rfl)) dX10_term_188 ⟨Nat.zero_le _, Nat.zero_le _⟩) hP hD hS hAz (fun r188 u188 H locs hw188 hP hD hS => ?_)
                    have v188 : (fm_Mod_simple st o x1 y1 z1).1 = r188 := congrArg Prod.fst hw188.symm
                    have w188 : (fm_Mod_simple st o x1 y1 z1).2 = u188 := congrArg Prod.snd hw188.symm
                    have hf188 : XF [0, 1] [0, 1, 2, 3, 4] [0] st u188 := by rw [← w188]; exact ff_Mod_simple st o x1 y1 z1
                    try rw [v188] at hR
                    try rw [w188] at hR
                    exact W.iret (v := r188) hx hb hr (fun t ht hW => ⟨⟨_, _, rfl, hR, by rw [ht]; exact hP, va_K.moved hW.alike hK, hD⟩, hS.F ht⟩) hS.2.2 dX10_term_191
                  · skip
                    exact absurd c167 (by decide)
                · skip
                  rw [if_neg c155] at hR
                  refine lv_iconst (v := (1 : Int32)) hx hb dX10_term_158 (by decide) ?_
                  refine lv_goto (tgt := 163) hx hb dX10_term_159 (by decide) ?_
                  refine lv_istore (lv' := [(6, .int (1 : Int32)), (5, .int (0 : Int32)), (0, .ref (a 0)), (1, .int o), (2, .int x1), (3, .int y1), (4, .int z1)]) hx hb dX10_term_163 hl (by decide) rfl (fun ls hl => ?_)
                  refine lv_iload hx hb dX10_term_165 (lv_at hl 0 rfl) ?_
                  refine lv_if_eq (tgt := 182) hx hb dX10_term_167 (by decide) (fun c167 => ?_) (fun c167 => ?_)
                  · skip
                    exact absurd c167 (by decide)
                  · skip
                    refine lv_aload_n hx hb dX10_term_170 rfl (lv_at hl 2 rfl) ?_
                    refine lv_iload_n hx hb dX10_term_171 rfl (lv_at hl 3 rfl) ?_
                    refine lv_iload_n hx hb dX10_term_172 rfl (lv_at hl 5 rfl) ?_
                    refine lv_iload_n hx hb dX10_term_173 rfl (lv_at hl 4 rfl) ?_
                    refine lv_iload hx hb dX10_term_174 (lv_at hl 6 rfl) ?_
                    refine wl_mi (va_runV (As := [.int o, .int y1, .int x1, .int z1]) (rest := []) ⟨hx, hb, hml, hown, hta⟩ (km_Mod_simple l dC dI a k st o y1 x1 z1 _ N hN h64 qy (fun _ _ _ => qA) (fun _ => qA)) (cwV 4 hta gX10_132 rfl rfl rfl (by decide +kernel) ⟨Nat.le_of_ble_eq_true rfl, Nat.le_of_ble_eq_true rfl⟩) (wl_pM (C := RX10) (ci := 8) (q0 := 0) hK hP hD rfl (mr_0 a k st)) rfl rfl hl.1 rfl (lv_room (Nat.le_of_ble_eq_true rfl)) dX10_term_176 ⟨Nat.zero_le _, Nat.zero_le _⟩) hP hD hS hAz (fun r176 u176 H locs hw176 hP hD hS => ?_)
                    have v176 : (fm_Mod_simple st o y1 x1 z1).1 = r176 := congrArg Prod.fst hw176.symm
                    have w176 : (fm_Mod_simple st o y1 x1 z1).2 = u176 := congrArg Prod.snd hw176.symm
                    have hf176 : XF [0, 1] [0, 1, 2, 3, 4] [0] st u176 := by rw [← w176]; exact ff_Mod_simple st o y1 x1 z1
                    try rw [v176] at hR
                    try rw [w176] at hR
                    refine lv_goto (tgt := 191) hx hb dX10_term_179 (by decide) ?_
                    exact W.iret (v := r176) hx hb hr (fun t ht hW => ⟨⟨_, _, rfl, hR, by rw [ht]; exact hP, va_K.moved hW.alike hK, hD⟩, hS.F ht⟩) hS.2.2 dX10_term_191
              · skip
                rw [if_neg c144] at hR
                refine lv_iload_n hx hb dX10_term_147 rfl (lv_at hl 2 rfl) ?_
                refine lv_bipush (v := (13 : Int32)) hx hb dX10_term_148 (by decide) ?_
                refine lv_icmp_ne (tgt := 162) hx hb dX10_term_150 (by decide) (fun c150 => ?_) (fun c150 => ?_)
                · skip
                  rw [if_neg c150] at hR
                  refine lv_iconst (v := (0 : Int32)) hx hb dX10_term_162 (by decide) ?_
                  refine lv_istore (lv' := [(6, .int (0 : Int32)), (5, .int (0 : Int32)), (0, .ref (a 0)), (1, .int o), (2, .int x1), (3, .int y1), (4, .int z1)]) hx hb dX10_term_163 hl (by decide) rfl (fun ls hl => ?_)
                  refine lv_iload hx hb dX10_term_165 (lv_at hl 0 rfl) ?_
                  refine lv_if_eq (tgt := 182) hx hb dX10_term_167 (by decide) (fun c167 => ?_) (fun c167 => ?_)
                  · skip
                    refine lv_aload_n hx hb dX10_term_182 rfl (lv_at hl 2 rfl) ?_
                    refine lv_iload_n hx hb dX10_term_183 rfl (lv_at hl 3 rfl) ?_
                    refine lv_iload_n hx hb dX10_term_184 rfl (lv_at hl 4 rfl) ?_
                    refine lv_iload_n hx hb dX10_term_185 rfl (lv_at hl 5 rfl) ?_
                    refine lv_iload hx hb dX10_term_186 (lv_at hl 6 rfl) ?_
                    refine wl_mi (va_runV (As := [.int o, .int x1, .int y1, .int z1]) (rest := []) ⟨hx, hb, hml, hown, hta⟩ (km_Mod_simple l dC dI a k st o x1 y1 z1 _ N hN h64 qA (fun h1 h2 h3 => qB h1 (wm_le16 h2)) (fun h => qB (by rw [h]; decide) (by rw [h]; decide))) (cwV 4 hta gX10_132 rfl rfl rfl (by decide +kernel) ⟨Nat.le_of_ble_eq_true rfl, Nat.le_of_ble_eq_true rfl⟩) (wl_pM (C := RX10) (ci := 8) (q0 := 0) hK hP hD rfl (mr_0 a k st)) rfl rfl hl.1 rfl (lv_room (Nat.le_of_ble_eq_true rfl)) dX10_term_188 ⟨Nat.zero_le _, Nat.zero_le _⟩) hP hD hS hAz (fun r188 u188 H locs hw188 hP hD hS => ?_)
                    have v188 : (fm_Mod_simple st o x1 y1 z1).1 = r188 := congrArg Prod.fst hw188.symm
                    have w188 : (fm_Mod_simple st o x1 y1 z1).2 = u188 := congrArg Prod.snd hw188.symm
                    have hf188 : XF [0, 1] [0, 1, 2, 3, 4] [0] st u188 := by rw [← w188]; exact ff_Mod_simple st o x1 y1 z1
                    try rw [v188] at hR
                    try rw [w188] at hR
                    exact W.iret (v := r188) hx hb hr (fun t ht hW => ⟨⟨_, _, rfl, hR, by rw [ht]; exact hP, va_K.moved hW.alike hK, hD⟩, hS.F ht⟩) hS.2.2 dX10_term_191
                  · skip
                    exact absurd c167 (by decide)
                · skip
                  rw [if_pos c150] at hR
                  have qy : vp_in y1 64 := qB (by rw [c150]; decide) (by rw [c150]; decide)
                  refine lv_iload_n hx hb dX10_term_153 rfl (lv_at hl 3 rfl) ?_
                  refine lv_iload_n hx hb dX10_term_154 rfl (lv_at hl 4 rfl) ?_
                  refine lv_icmp_le (tgt := 162) hx hb dX10_term_155 (by decide) (fun c155 => ?_) (fun c155 => ?_)
                  · skip
                    rw [if_pos c155] at hR
                    refine lv_iconst (v := (0 : Int32)) hx hb dX10_term_162 (by decide) ?_
                    refine lv_istore (lv' := [(6, .int (0 : Int32)), (5, .int (0 : Int32)), (0, .ref (a 0)), (1, .int o), (2, .int x1), (3, .int y1), (4, .int z1)]) hx hb dX10_term_163 hl (by decide) rfl (fun ls hl => ?_)
                    refine lv_iload hx hb dX10_term_165 (lv_at hl 0 rfl) ?_
                    refine lv_if_eq (tgt := 182) hx hb dX10_term_167 (by decide) (fun c167 => ?_) (fun c167 => ?_)
                    · skip
                      refine lv_aload_n hx hb dX10_term_182 rfl (lv_at hl 2 rfl) ?_
                      refine lv_iload_n hx hb dX10_term_183 rfl (lv_at hl 3 rfl) ?_
                      refine lv_iload_n hx hb dX10_term_184 rfl (lv_at hl 4 rfl) ?_
                      refine lv_iload_n hx hb dX10_term_185 rfl (lv_at hl 5 rfl) ?_
                      refine lv_iload hx hb dX10_term_186 (lv_at hl 6 rfl) ?_
                      refine wl_mi (va_runV (As := [.int o, .int x1, .int y1, .int z1]) (rest := []) ⟨hx, hb, hml, hown, hta⟩ (km_Mod_simple l dC dI a k st o x1 y1 z1 _ N hN h64 qA (fun h1 h2 h3 => qB h1 (wm_le16 h2)) (fun h => qB (by rw [h]; decide) (by rw [h]; decide))) (cwV 4 hta gX10_132 rfl rfl rfl (by decide +kernel) ⟨Nat.le_of_ble_eq_true rfl, Nat.le_of_ble_eq_true rfl⟩) (wl_pM (C := RX10) (ci := 8) (q0 := 0) hK hP hD rfl (mr_0 a k st)) rfl rfl hl.1 rfl (lv_room (Nat.le_of_ble_eq_true rfl)) dX10_term_188 ⟨Nat.zero_le _, Nat.zero_le _⟩) hP hD hS hAz (fun r188 u188 H locs hw188 hP hD hS => ?_)
                      have v188 : (fm_Mod_simple st o x1 y1 z1).1 = r188 := congrArg Prod.fst hw188.symm
                      have w188 : (fm_Mod_simple st o x1 y1 z1).2 = u188 := congrArg Prod.snd hw188.symm
                      have hf188 : XF [0, 1] [0, 1, 2, 3, 4] [0] st u188 := by rw [← w188]; exact ff_Mod_simple st o x1 y1 z1
                      try rw [v188] at hR
                      try rw [w188] at hR
                      exact W.iret (v := r188) hx hb hr (fun t ht hW => ⟨⟨_, _, rfl, hR, by rw [ht]; exact hP, va_K.moved hW.alike hK, hD⟩, hS.F ht⟩) hS.2.2 dX10_term_191
                    · skip
                      exact absurd c167 (by decide)
                  · skip
                    rw [if_neg c155] at hR
                    refine lv_iconst (v := (1 : Int32)) hx hb dX10_term_158 (by decide) ?_
                    refine lv_goto (tgt := 163) hx hb dX10_term_159 (by decide) ?_
                    refine lv_istore (lv' := [(6, .int (1 : Int32)), (5, .int (0 : Int32)), (0, .ref (a 0)), (1, .int o), (2, .int x1), (3, .int y1), (4, .int z1)]) hx hb dX10_term_163 hl (by decide) rfl (fun ls hl => ?_)
                    refine lv_iload hx hb dX10_term_165 (lv_at hl 0 rfl) ?_
                    refine lv_if_eq (tgt := 182) hx hb dX10_term_167 (by decide) (fun c167 => ?_) (fun c167 => ?_)
                    · skip
                      exact absurd c167 (by decide)
                    · skip
                      refine lv_aload_n hx hb dX10_term_170 rfl (lv_at hl 2 rfl) ?_
                      refine lv_iload_n hx hb dX10_term_171 rfl (lv_at hl 3 rfl) ?_
                      refine lv_iload_n hx hb dX10_term_172 rfl (lv_at hl 5 rfl) ?_
                      refine lv_iload_n hx hb dX10_term_173 rfl (lv_at hl 4 rfl) ?_
                      refine lv_iload hx hb dX10_term_174 (lv_at hl 6 rfl) ?_
                      refine wl_mi (va_runV (As := [.int o, .int y1, .int x1, .int z1]) (rest := []) ⟨hx, hb, hml, hown, hta⟩ (km_Mod_simple l dC dI a k st o y1 x1 z1 _ N hN h64 qy (fun _ _ _ => qA) (fun _ => qA)) (cwV 4 hta gX10_132 rfl rfl rfl (by decide +kernel) ⟨Nat.le_of_ble_eq_true rfl, Nat.le_of_ble_eq_true rfl⟩) (wl_pM (C := RX10) (ci := 8) (q0 := 0) hK hP hD rfl (mr_0 a k st)) rfl rfl hl.1 rfl (lv_room (Nat.le_of_ble_eq_true rfl)) dX10_term_176 ⟨Nat.zero_le _, Nat.zero_le _⟩) hP hD hS hAz (fun r176 u176 H locs hw176 hP hD hS => ?_)
                      have v176 : (fm_Mod_simple st o y1 x1 z1).1 = r176 := congrArg Prod.fst hw176.symm
                      have w176 : (fm_Mod_simple st o y1 x1 z1).2 = u176 := congrArg Prod.snd hw176.symm
                      have hf176 : XF [0, 1] [0, 1, 2, 3, 4] [0] st u176 := by rw [← w176]; exact ff_Mod_simple st o y1 x1 z1
                      try rw [v176] at hR
                      try rw [w176] at hR
                      refine lv_goto (tgt := 191) hx hb dX10_term_179 (by decide) ?_
                      exact W.iret (v := r176) hx hb hr (fun t ht hW => ⟨⟨_, _, rfl, hR, by rw [ht]; exact hP, va_K.moved hW.alike hK, hD⟩, hS.F ht⟩) hS.2.2 dX10_term_191
        · skip
          rw [if_neg c37] at hR
          refine lv_iload hx hb dX10_term_40 (lv_at hl 0 rfl) ?_
          refine lv_if_eq (tgt := 53) hx hb dX10_term_42 (by decide) (fun c42 => ?_) (fun c42 => ?_)
          · skip
            refine lv_iload_n hx hb dX10_term_53 rfl (lv_at hl 2 rfl) ?_
            refine lv_bipush (v := (16 : Int32)) hx hb dX10_term_54 (by decide) ?_
            refine lv_icmp_ne (tgt := 68) hx hb dX10_term_56 (by decide) (fun c56 => ?_) (fun c56 => ?_)
            · skip
              rw [if_neg c56] at hR
              refine lv_iconst (v := (0 : Int32)) hx hb dX10_term_68 (by decide) ?_
              refine lv_istore (lv' := [(6, .int (0 : Int32)), (5, .int (0 : Int32)), (0, .ref (a 0)), (1, .int o), (2, .int x1), (3, .int y1), (4, .int z1)]) hx hb dX10_term_69 hl (by decide) rfl (fun ls hl => ?_)
              have L71 : ∀ (n : Nat) (i : Nat) (S1 : XS) (H : Heap) (locs : List Loc) (ls : Array Slot), fm_Mod_term_L71 st o x1 y1 z1 n i S1 = R → (i ≤ N) → (XF [] [] [1] st S1) → N - i < n → va_P (dC, dI) vwCl (mw a k S1) H → va_D A (mw a k S1) → va_S A s.heap H locs → lv_has ls 7 [(6, .int (nI i)), (0, .ref (a 0)), (1, .int o), (2, .int x1), (3, .int y1), (4, .int z1)] → W p l e (headSpec wsX10_term ({ frames := 4, cells := 0, slots := 0, locals := 103 })).room s m ([.ref (a 0), .int o, .int x1, .int y1, .int z1] : List Value).toArray below meth c H locs 0 0 (MQ below (va_Qi (fun r9 u9 => (r9, u9) = R) (wl_at (dC, dI) vwCl (mt k) (mw a k) A) A) ([.ref (a 0), .int o, .int x1, .int y1, .int z1] : List Value).toArray s 0 0 A) (F0 m 71 ls []) := by
                intro n
                induction n with
                | zero =>
                  intro i S1 H locs ls hR hi hE hm hP hD hS hl
                  exact absurd hm (Nat.not_lt_zero _)
                | succ n ih =>
                  intro i S1 H locs ls hR hi hE hm hP hD hS hl
                  rw [fm_Mod_term_L71] at hR
                  refine lv_iload hx hb dX10_term_71 (lv_at hl 0 rfl) ?_
                  refine lv_aload_n hx hb dX10_term_73 rfl (lv_at hl 1 rfl) ?_
                  refine va_get (D := (dC, dI)) (ci := 8) (v := .int (gI S1 0)) (C := RX10) (T := TX10) (N := 21) hx hb hta inX10 hown hK hP 0 (mr_0 a k S1) rfl 0 (by decide) hf7 (fun _ h9 => h9) rfl dX10_term_74 ?_
                  refine lv_icmp_ge (tgt := 109) hx hb dX10_term_77 (by decide) (fun c77 => ?_) (fun c77 => ?_)
                  · skip
                    rw [if_pos c77] at hR
                    refine lv_aload_n hx hb dX10_term_109 rfl (lv_at hl 1 rfl) ?_
                    refine lv_aload_n hx hb dX10_term_110 rfl (lv_at hl 1 rfl) ?_
                    refine lv_iload_n hx hb dX10_term_111 rfl (lv_at hl 2 rfl) ?_
                    refine lv_iload_n hx hb dX10_term_112 rfl (lv_at hl 3 rfl) ?_
                    refine lv_iload_n hx hb dX10_term_113 rfl (lv_at hl 4 rfl) ?_
                    refine wl_ci (va_runV (As := [.int o, .int x1, .int y1]) (rest := [.ref (a 0)]) ⟨hx, hb, hml, hown, hta⟩ (km_Mod_widthOf l dC dI a k S1 o x1 y1 qA (fun h => qB (by rw [h]; decide) (by rw [h]; decide))) (cwV 3 hta gX10_124 rfl rfl rfl (by decide +kernel) ⟨Nat.le_of_ble_eq_true rfl, Nat.le_of_ble_eq_true rfl⟩) (wl_pR (C := RX10) (ci := 8) (q0 := 0) hK hP rfl (mr_0 a k S1)) rfl rfl hl.1 rfl (lv_room (Nat.le_of_ble_eq_true rfl)) dX10_term_114 ⟨Nat.zero_le _, Nat.zero_le _⟩) ?_
                    refine lv_aload_n hx hb dX10_term_117 rfl (lv_at hl 1 rfl) ?_
                    refine lv_iload_n hx hb dX10_term_118 rfl (lv_at hl 2 rfl) ?_
                    refine lv_iload_n hx hb dX10_term_119 rfl (lv_at hl 3 rfl) ?_
                    refine lv_iload_n hx hb dX10_term_120 rfl (lv_at hl 4 rfl) ?_
                    refine lv_iload hx hb dX10_term_121 (lv_at hl 5 rfl) ?_
                    refine wl_cl (va_runV (As := [.int o, .int x1, .int y1, .int z1]) (rest := [.int (fm_Mod_widthOf S1 o x1 y1), .ref (a 0)]) ⟨hx, hb, hml, hown, hta⟩ (km_Mod_result l dC dI a k S1 o x1 y1 z1 qA qB qC qT) (cwV 4 hta gX10_128 rfl rfl rfl (by decide +kernel) ⟨Nat.le_of_ble_eq_true rfl, Nat.le_of_ble_eq_true rfl⟩) (wl_pR (C := RX10) (ci := 8) (q0 := 0) hK hP rfl (mr_0 a k S1)) rfl rfl hl.1 rfl (lv_room (Nat.le_of_ble_eq_true rfl)) dX10_term_123 ⟨Nat.zero_le _, Nat.zero_le _⟩) ?_
                    refine wl_mi (va_runV (As := [.int (fm_Mod_widthOf S1 o x1 y1), .long (fm_Mod_result S1 o x1 y1 z1)]) (rest := []) ⟨hx, hb, hml, hown, hta⟩ (km_Mod_constantOf l dC dI a k S1 (fm_Mod_widthOf S1 o x1 y1) (fm_Mod_result S1 o x1 y1 z1) _ N ((hE.I 0 (by decide)).trans hN) h64) (cwV 2 hta gX10_84 rfl rfl rfl (by decide +kernel) ⟨Nat.le_of_ble_eq_true rfl, Nat.le_of_ble_eq_true rfl⟩) (wl_pM (C := RX10) (ci := 8) (q0 := 0) hK hP hD rfl (mr_0 a k S1)) rfl rfl hl.1 rfl (lv_room (Nat.le_of_ble_eq_true rfl)) dX10_term_126 ⟨Nat.zero_le _, Nat.zero_le _⟩) hP hD hS hAz (fun r126 u126 H locs hw126 hP hD hS => ?_)
                    have v126 : (fm_Mod_constantOf S1 (fm_Mod_widthOf S1 o x1 y1) (fm_Mod_result S1 o x1 y1 z1)).1 = r126 := congrArg Prod.fst hw126.symm
                    have w126 : (fm_Mod_constantOf S1 (fm_Mod_widthOf S1 o x1 y1) (fm_Mod_result S1 o x1 y1 z1)).2 = u126 := congrArg Prod.snd hw126.symm
                    have hf126 : XF [0] [0, 1, 2, 3, 4] [0] S1 u126 := by rw [← w126]; exact ff_Mod_constantOf S1 (fm_Mod_widthOf S1 o x1 y1) (fm_Mod_result S1 o x1 y1 z1)
                    try rw [v126] at hR
                    try rw [w126] at hR
                    exact W.iret (v := r126) hx hb hr (fun t ht hW => ⟨⟨_, _, rfl, hR, by rw [ht]; exact hP, va_K.moved hW.alike hK, hD⟩, hS.F ht⟩) hS.2.2 dX10_term_129
                  · skip
                    rw [if_neg c77] at hR
                    have hlt : i < N := wl_lt (by rw [← hN, ← hE.I 0 (by decide)]; exact c77) (by omega)
                    refine lv_aload_n hx hb dX10_term_80 rfl (lv_at hl 1 rfl) ?_
                    refine lv_iload hx hb dX10_term_81 (lv_at hl 0 rfl) ?_
                    refine wl_ci (va_runV (As := [.int (nI i)]) (rest := []) ⟨hx, hb, hml, hown, hta⟩ (km_Mod_isConst l dC dI a k S1 (nI i) (wl_in (by omega) (by decide))) (cwV 1 hta gX10_121 rfl rfl rfl (by decide +kernel) ⟨Nat.le_of_ble_eq_true rfl, Nat.le_of_ble_eq_true rfl⟩) (wl_pR (C := RX10) (ci := 8) (q0 := 0) hK hP rfl (mr_0 a k S1)) rfl rfl hl.1 rfl (lv_room (Nat.le_of_ble_eq_true rfl)) dX10_term_83 ⟨Nat.zero_le _, Nat.zero_le _⟩) ?_
                    refine lv_if_eq (tgt := 103) hx hb dX10_term_86 (by decide) (fun c86 => ?_) (fun c86 => ?_)
                    · skip
                      rw [if_pos c86] at hR
                      refine lv_iinc (v := nI (i + 1)) (lv' := [(6, .int (nI (i + 1))), (0, .ref (a 0)), (1, .int o), (2, .int x1), (3, .int y1), (4, .int z1)]) hx hb dX10_term_103 hl (k := 0) rfl (nI_1 _) (by decide) rfl (fun ls hl => ?_)
                      refine lv_goto (tgt := 71) hx hb dX10_term_106 (by decide) ?_
                      exact ih (i + 1) S1 _ _ ls hR (by omega) hE (by omega) hP hD hS (lv_sub hl [0, 1, 2, 3, 4, 5] rfl)
                    · skip
                      rw [if_neg c86] at hR
                      refine lv_aload_n hx hb dX10_term_89 rfl (lv_at hl 1 rfl) ?_
                      refine va_get (D := (dC, dI)) (ci := 8) (v := .ref (a 7)) (C := RX10) (T := TX10) (N := 21) hx hb hta inX10 hown hK hP 0 (mr_0 a k S1) rfl 13 (by decide) hf51 (fun _ h9 => h9) rfl dX10_term_90 ?_
                      refine lv_iload hx hb dX10_term_93 (lv_at hl 0 rfl) ?_
                      refine lv_aload_n hx hb dX10_term_95 rfl (lv_at hl 1 rfl) ?_
                      refine va_get (D := (dC, dI)) (ci := 8) (v := .ref (a 6)) (C := RX10) (T := TX10) (N := 21) hx hb hta inX10 hown hK hP 0 (mr_0 a k S1) rfl 12 (by decide) hf47 (fun _ h9 => h9) rfl dX10_term_96 ?_
                      refine lv_iload hx hb dX10_term_99 (lv_at hl 0 rfl) ?_
                      refine va_lald hx hb hK hP 6 5 (mr_6 a k S1) rfl (wl_in (by omega) (by decide)) dX10_term_101 ?_
                      refine va_last hx hb hK hP hD hS 7 6 (mr_7 a k S1) rfl (wl_in (by omega) (by decide)) dX10_term_102 (fun H locs hP hD hS => ?_)
                      have hP := mp_L1 hP
                      have hD := md_L1 hD
                      refine lv_iinc (v := nI (i + 1)) (lv' := [(6, .int (nI (i + 1))), (0, .ref (a 0)), (1, .int o), (2, .int x1), (3, .int y1), (4, .int z1)]) hx hb dX10_term_103 hl (k := 0) rfl (nI_1 _) (by decide) rfl (fun ls hl => ?_)
                      refine lv_goto (tgt := 71) hx hb dX10_term_106 (by decide) ?_
                      exact ih (i + 1) (wL S1 1 ((nI i).toNatClampNeg) (fL S1 0 (nI i).toNatClampNeg)) _ _ ls hR (by omega) (XF.wL (by decide) hE) (by omega) hP hD hS (lv_sub hl [0, 1, 2, 3, 4, 5] rfl)
              exact L71 65 0 st _ _ ls hR (Nat.zero_le _) XF.rf (by omega) hP hD hS (lv_sub hl [0, 2, 3, 4, 5, 6] rfl)
            · skip
              rw [if_pos c56] at hR
              refine lv_aload_n hx hb dX10_term_59 rfl (lv_at hl 1 rfl) ?_
              refine lv_iload hx hb dX10_term_60 (lv_at hl 5 rfl) ?_
              refine wl_ci (va_runV (As := [.int z1]) (rest := []) ⟨hx, hb, hml, hown, hta⟩ (km_Mod_isConst l dC dI a k st z1 (qC c56)) (cwV 1 hta gX10_121 rfl rfl rfl (by decide +kernel) ⟨Nat.le_of_ble_eq_true rfl, Nat.le_of_ble_eq_true rfl⟩) (wl_pR (C := RX10) (ci := 8) (q0 := 0) hK hP rfl (mr_0 a k st)) rfl rfl hl.1 rfl (lv_room (Nat.le_of_ble_eq_true rfl)) dX10_term_62 ⟨Nat.zero_le _, Nat.zero_le _⟩) ?_
              refine lv_if_eq (tgt := 130) hx hb dX10_term_65 (by decide) (fun c65 => ?_) (fun c65 => ?_)
              · skip
                rw [if_pos c65] at hR
                refine lv_iload_n hx hb dX10_term_130 rfl (lv_at hl 2 rfl) ?_
                refine lv_iconst (v := (1 : Int32)) hx hb dX10_term_131 (by decide) ?_
                refine lv_icmp_le (tgt := 141) hx hb dX10_term_132 (by decide) (fun c132 => ?_) (fun c132 => ?_)
                · skip
                  exact absurd c132 c16
                · skip
                  refine lv_iload_n hx hb dX10_term_135 rfl (lv_at hl 2 rfl) ?_
                  refine lv_bipush (v := (6 : Int32)) hx hb dX10_term_136 (by decide) ?_
                  refine lv_icmp_lt (tgt := 153) hx hb dX10_term_138 (by decide) (fun c138 => ?_) (fun c138 => ?_)
                  · skip
                    rw [if_pos c138] at hR
                    have qy : vp_in y1 64 := qB (wm_l2 c132) (wm_l6 c138)
                    refine lv_iload_n hx hb dX10_term_153 rfl (lv_at hl 3 rfl) ?_
                    refine lv_iload_n hx hb dX10_term_154 rfl (lv_at hl 4 rfl) ?_
                    refine lv_icmp_le (tgt := 162) hx hb dX10_term_155 (by decide) (fun c155 => ?_) (fun c155 => ?_)
                    · skip
                      rw [if_pos c155] at hR
                      refine lv_iconst (v := (0 : Int32)) hx hb dX10_term_162 (by decide) ?_
                      refine lv_istore (lv' := [(6, .int (0 : Int32)), (5, .int (0 : Int32)), (0, .ref (a 0)), (1, .int o), (2, .int x1), (3, .int y1), (4, .int z1)]) hx hb dX10_term_163 hl (by decide) rfl (fun ls hl => ?_)
                      refine lv_iload hx hb dX10_term_165 (lv_at hl 0 rfl) ?_
                      refine lv_if_eq (tgt := 182) hx hb dX10_term_167 (by decide) (fun c167 => ?_) (fun c167 => ?_)
                      · skip
                        refine lv_aload_n hx hb dX10_term_182 rfl (lv_at hl 2 rfl) ?_
                        refine lv_iload_n hx hb dX10_term_183 rfl (lv_at hl 3 rfl) ?_
                        refine lv_iload_n hx hb dX10_term_184 rfl (lv_at hl 4 rfl) ?_
                        refine lv_iload_n hx hb dX10_term_185 rfl (lv_at hl 5 rfl) ?_
                        refine lv_iload hx hb dX10_term_186 (lv_at hl 6 rfl) ?_
                        refine wl_mi (va_runV (As := [.int o, .int x1, .int y1, .int z1]) (rest := []) ⟨hx, hb, hml, hown, hta⟩ (km_Mod_simple l dC dI a k st o x1 y1 z1 _ N hN h64 qA (fun h1 h2 h3 => qB h1 (wm_le16 h2)) (fun h => qB (by rw [h]; decide) (by rw [h]; decide))) (cwV 4 hta gX10_132 rfl rfl rfl (by decide +kernel) ⟨Nat.le_of_ble_eq_true rfl, Nat.le_of_ble_eq_true rfl⟩) (wl_pM (C := RX10) (ci := 8) (q0 := 0) hK hP hD rfl (mr_0 a k st)) rfl rfl hl.1 rfl (lv_room (Nat.le_of_ble_eq_true rfl)) dX10_term_188 ⟨Nat.zero_le _, Nat.zero_le _⟩) hP hD hS hAz (fun r188 u188 H locs hw188 hP hD hS => ?_)
                        have v188 : (fm_Mod_simple st o x1 y1 z1).1 = r188 := congrArg Prod.fst hw188.symm
                        have w188 : (fm_Mod_simple st o x1 y1 z1).2 = u188 := congrArg Prod.snd hw188.symm
                        have hf188 : XF [0, 1] [0, 1, 2, 3, 4] [0] st u188 := by rw [← w188]; exact ff_Mod_simple st o x1 y1 z1
                        try rw [v188] at hR
                        try rw [w188] at hR
                        exact W.iret (v := r188) hx hb hr (fun t ht hW => ⟨⟨_, _, rfl, hR, by rw [ht]; exact hP, va_K.moved hW.alike hK, hD⟩, hS.F ht⟩) hS.2.2 dX10_term_191
                      · skip
                        exact absurd c167 (by decide)
                    · skip
                      rw [if_neg c155] at hR
                      refine lv_iconst (v := (1 : Int32)) hx hb dX10_term_158 (by decide) ?_
                      refine lv_goto (tgt := 163) hx hb dX10_term_159 (by decide) ?_
                      refine lv_istore (lv' := [(6, .int (1 : Int32)), (5, .int (0 : Int32)), (0, .ref (a 0)), (1, .int o), (2, .int x1), (3, .int y1), (4, .int z1)]) hx hb dX10_term_163 hl (by decide) rfl (fun ls hl => ?_)
                      refine lv_iload hx hb dX10_term_165 (lv_at hl 0 rfl) ?_
                      refine lv_if_eq (tgt := 182) hx hb dX10_term_167 (by decide) (fun c167 => ?_) (fun c167 => ?_)
                      · skip
                        exact absurd c167 (by decide)
                      · skip
                        refine lv_aload_n hx hb dX10_term_170 rfl (lv_at hl 2 rfl) ?_
                        refine lv_iload_n hx hb dX10_term_171 rfl (lv_at hl 3 rfl) ?_
                        refine lv_iload_n hx hb dX10_term_172 rfl (lv_at hl 5 rfl) ?_
                        refine lv_iload_n hx hb dX10_term_173 rfl (lv_at hl 4 rfl) ?_
                        refine lv_iload hx hb dX10_term_174 (lv_at hl 6 rfl) ?_
                        refine wl_mi (va_runV (As := [.int o, .int y1, .int x1, .int z1]) (rest := []) ⟨hx, hb, hml, hown, hta⟩ (km_Mod_simple l dC dI a k st o y1 x1 z1 _ N hN h64 qy (fun _ _ _ => qA) (fun _ => qA)) (cwV 4 hta gX10_132 rfl rfl rfl (by decide +kernel) ⟨Nat.le_of_ble_eq_true rfl, Nat.le_of_ble_eq_true rfl⟩) (wl_pM (C := RX10) (ci := 8) (q0 := 0) hK hP hD rfl (mr_0 a k st)) rfl rfl hl.1 rfl (lv_room (Nat.le_of_ble_eq_true rfl)) dX10_term_176 ⟨Nat.zero_le _, Nat.zero_le _⟩) hP hD hS hAz (fun r176 u176 H locs hw176 hP hD hS => ?_)
                        have v176 : (fm_Mod_simple st o y1 x1 z1).1 = r176 := congrArg Prod.fst hw176.symm
                        have w176 : (fm_Mod_simple st o y1 x1 z1).2 = u176 := congrArg Prod.snd hw176.symm
                        have hf176 : XF [0, 1] [0, 1, 2, 3, 4] [0] st u176 := by rw [← w176]; exact ff_Mod_simple st o y1 x1 z1
                        try rw [v176] at hR
                        try rw [w176] at hR
                        refine lv_goto (tgt := 191) hx hb dX10_term_179 (by decide) ?_
                        exact W.iret (v := r176) hx hb hr (fun t ht hW => ⟨⟨_, _, rfl, hR, by rw [ht]; exact hP, va_K.moved hW.alike hK, hD⟩, hS.F ht⟩) hS.2.2 dX10_term_191
                  · skip
                    rw [if_neg c138] at hR
                    refine lv_iload_n hx hb dX10_term_141 rfl (lv_at hl 2 rfl) ?_
                    refine lv_bipush (v := (7 : Int32)) hx hb dX10_term_142 (by decide) ?_
                    refine lv_icmp_eq (tgt := 153) hx hb dX10_term_144 (by decide) (fun c144 => ?_) (fun c144 => ?_)
                    · skip
                      rw [if_pos c144] at hR
                      have qy : vp_in y1 64 := qB (by rw [c144]; decide) (by rw [c144]; decide)
                      refine lv_iload_n hx hb dX10_term_153 rfl (lv_at hl 3 rfl) ?_
                      refine lv_iload_n hx hb dX10_term_154 rfl (lv_at hl 4 rfl) ?_
                      refine lv_icmp_le (tgt := 162) hx hb dX10_term_155 (by decide) (fun c155 => ?_) (fun c155 => ?_)
                      · skip
                        rw [if_pos c155] at hR
                        refine lv_iconst (v := (0 : Int32)) hx hb dX10_term_162 (by decide) ?_
                        refine lv_istore (lv' := [(6, .int (0 : Int32)), (5, .int (0 : Int32)), (0, .ref (a 0)), (1, .int o), (2, .int x1), (3, .int y1), (4, .int z1)]) hx hb dX10_term_163 hl (by decide) rfl (fun ls hl => ?_)
                        refine lv_iload hx hb dX10_term_165 (lv_at hl 0 rfl) ?_
                        refine lv_if_eq (tgt := 182) hx hb dX10_term_167 (by decide) (fun c167 => ?_) (fun c167 => ?_)
                        · skip
                          refine lv_aload_n hx hb dX10_term_182 rfl (lv_at hl 2 rfl) ?_
                          refine lv_iload_n hx hb dX10_term_183 rfl (lv_at hl 3 rfl) ?_
                          refine lv_iload_n hx hb dX10_term_184 rfl (lv_at hl 4 rfl) ?_
                          refine lv_iload_n hx hb dX10_term_185 rfl (lv_at hl 5 rfl) ?_
                          refine lv_iload hx hb dX10_term_186 (lv_at hl 6 rfl) ?_
                          refine wl_mi (va_runV (As := [.int o, .int x1, .int y1, .int z1]) (rest := []) ⟨hx, hb, hml, hown, hta⟩ (km_Mod_simple l dC dI a k st o x1 y1 z1 _ N hN h64 qA (fun h1 h2 h3 => qB h1 (wm_le16 h2)) (fun h => qB (by rw [h]; decide) (by rw [h]; decide))) (cwV 4 hta gX10_132 rfl rfl rfl (by decide +kernel) ⟨Nat.le_of_ble_eq_true rfl, Nat.le_of_ble_eq_true rfl⟩) (wl_pM (C := RX10) (ci := 8) (q0 := 0) hK hP hD rfl (mr_0 a k st)) rfl rfl hl.1 rfl (lv_room (Nat.le_of_ble_eq_true rfl)) dX10_term_188 ⟨Nat.zero_le _, Nat.zero_le _⟩) hP hD hS hAz (fun r188 u188 H locs hw188 hP hD hS => ?_)
                          have v188 : (fm_Mod_simple st o x1 y1 z1).1 = r188 := congrArg Prod.fst hw188.symm
                          have w188 : (fm_Mod_simple st o x1 y1 z1).2 = u188 := congrArg Prod.snd hw188.symm
                          have hf188 : XF [0, 1] [0, 1, 2, 3, 4] [0] st u188 := by rw [← w188]; exact ff_Mod_simple st o x1 y1 z1
                          try rw [v188] at hR
                          try rw [w188] at hR
                          exact W.iret (v := r188) hx hb hr (fun t ht hW => ⟨⟨_, _, rfl, hR, by rw [ht]; exact hP, va_K.moved hW.alike hK, hD⟩, hS.F ht⟩) hS.2.2 dX10_term_191
                        · skip
                          exact absurd c167 (by decide)
                      · skip
                        rw [if_neg c155] at hR
                        refine lv_iconst (v := (1 : Int32)) hx hb dX10_term_158 (by decide) ?_
                        refine lv_goto (tgt := 163) hx hb dX10_term_159 (by decide) ?_
                        refine lv_istore (lv' := [(6, .int (1 : Int32)), (5, .int (0 : Int32)), (0, .ref (a 0)), (1, .int o), (2, .int x1), (3, .int y1), (4, .int z1)]) hx hb dX10_term_163 hl (by decide) rfl (fun ls hl => ?_)
                        refine lv_iload hx hb dX10_term_165 (lv_at hl 0 rfl) ?_
                        refine lv_if_eq (tgt := 182) hx hb dX10_term_167 (by decide) (fun c167 => ?_) (fun c167 => ?_)
                        · skip
                          exact absurd c167 (by decide)
                        · skip
                          refine lv_aload_n hx hb dX10_term_170 rfl (lv_at hl 2 rfl) ?_
                          refine lv_iload_n hx hb dX10_term_171 rfl (lv_at hl 3 rfl) ?_
                          refine lv_iload_n hx hb dX10_term_172 rfl (lv_at hl 5 rfl) ?_
                          refine lv_iload_n hx hb dX10_term_173 rfl (lv_at hl 4 rfl) ?_
                          refine lv_iload hx hb dX10_term_174 (lv_at hl 6 rfl) ?_
                          refine wl_mi (va_runV (As := [.int o, .int y1, .int x1, .int z1]) (rest := []) ⟨hx, hb, hml, hown, hta⟩ (km_Mod_simple l dC dI a k st o y1 x1 z1 _ N hN h64 qy (fun _ _ _ => qA) (fun _ => qA)) (cwV 4 hta gX10_132 rfl rfl rfl (by decide +kernel) ⟨Nat.le_of_ble_eq_true rfl, Nat.le_of_ble_eq_true rfl⟩) (wl_pM (C := RX10) (ci := 8) (q0 := 0) hK hP hD rfl (mr_0 a k st)) rfl rfl hl.1 rfl (lv_room (Nat.le_of_ble_eq_true rfl)) dX10_term_176 ⟨Nat.zero_le _, Nat.zero_le _⟩) hP hD hS hAz (fun r176 u176 H locs hw176 hP hD hS => ?_)
                          have v176 : (fm_Mod_simple st o y1 x1 z1).1 = r176 := congrArg Prod.fst hw176.symm
                          have w176 : (fm_Mod_simple st o y1 x1 z1).2 = u176 := congrArg Prod.snd hw176.symm
                          have hf176 : XF [0, 1] [0, 1, 2, 3, 4] [0] st u176 := by rw [← w176]; exact ff_Mod_simple st o y1 x1 z1
                          try rw [v176] at hR
                          try rw [w176] at hR
                          refine lv_goto (tgt := 191) hx hb dX10_term_179 (by decide) ?_
                          exact W.iret (v := r176) hx hb hr (fun t ht hW => ⟨⟨_, _, rfl, hR, by rw [ht]; exact hP, va_K.moved hW.alike hK, hD⟩, hS.F ht⟩) hS.2.2 dX10_term_191
                    · skip
                      rw [if_neg c144] at hR
                      refine lv_iload_n hx hb dX10_term_147 rfl (lv_at hl 2 rfl) ?_
                      refine lv_bipush (v := (13 : Int32)) hx hb dX10_term_148 (by decide) ?_
                      refine lv_icmp_ne (tgt := 162) hx hb dX10_term_150 (by decide) (fun c150 => ?_) (fun c150 => ?_)
                      · skip
                        rw [if_neg c150] at hR
                        refine lv_iconst (v := (0 : Int32)) hx hb dX10_term_162 (by decide) ?_
                        refine lv_istore (lv' := [(6, .int (0 : Int32)), (5, .int (0 : Int32)), (0, .ref (a 0)), (1, .int o), (2, .int x1), (3, .int y1), (4, .int z1)]) hx hb dX10_term_163 hl (by decide) rfl (fun ls hl => ?_)
                        refine lv_iload hx hb dX10_term_165 (lv_at hl 0 rfl) ?_
                        refine lv_if_eq (tgt := 182) hx hb dX10_term_167 (by decide) (fun c167 => ?_) (fun c167 => ?_)
                        · skip
                          refine lv_aload_n hx hb dX10_term_182 rfl (lv_at hl 2 rfl) ?_
                          refine lv_iload_n hx hb dX10_term_183 rfl (lv_at hl 3 rfl) ?_
                          refine lv_iload_n hx hb dX10_term_184 rfl (lv_at hl 4 rfl) ?_
                          refine lv_iload_n hx hb dX10_term_185 rfl (lv_at hl 5 rfl) ?_
                          refine lv_iload hx hb dX10_term_186 (lv_at hl 6 rfl) ?_
                          refine wl_mi (va_runV (As := [.int o, .int x1, .int y1, .int z1]) (rest := []) ⟨hx, hb, hml, hown, hta⟩ (km_Mod_simple l dC dI a k st o x1 y1 z1 _ N hN h64 qA (fun h1 h2 h3 => qB h1 (wm_le16 h2)) (fun h => qB (by rw [h]; decide) (by rw [h]; decide))) (cwV 4 hta gX10_132 rfl rfl rfl (by decide +kernel) ⟨Nat.le_of_ble_eq_true rfl, Nat.le_of_ble_eq_true rfl⟩) (wl_pM (C := RX10) (ci := 8) (q0 := 0) hK hP hD rfl (mr_0 a k st)) rfl rfl hl.1 rfl (lv_room (Nat.le_of_ble_eq_true rfl)) dX10_term_188 ⟨Nat.zero_le _, Nat.zero_le _⟩) hP hD hS hAz (fun r188 u188 H locs hw188 hP hD hS => ?_)
                          have v188 : (fm_Mod_simple st o x1 y1 z1).1 = r188 := congrArg Prod.fst hw188.symm
                          have w188 : (fm_Mod_simple st o x1 y1 z1).2 = u188 := congrArg Prod.snd hw188.symm
                          have hf188 : XF [0, 1] [0, 1, 2, 3, 4] [0] st u188 := by rw [← w188]; exact ff_Mod_simple st o x1 y1 z1
                          try rw [v188] at hR
                          try rw [w188] at hR
                          exact W.iret (v := r188) hx hb hr (fun t ht hW => ⟨⟨_, _, rfl, hR, by rw [ht]; exact hP, va_K.moved hW.alike hK, hD⟩, hS.F ht⟩) hS.2.2 dX10_term_191
                        · skip
                          exact absurd c167 (by decide)
                      · skip
                        rw [if_pos c150] at hR
                        have qy : vp_in y1 64 := qB (by rw [c150]; decide) (by rw [c150]; decide)
                        refine lv_iload_n hx hb dX10_term_153 rfl (lv_at hl 3 rfl) ?_
                        refine lv_iload_n hx hb dX10_term_154 rfl (lv_at hl 4 rfl) ?_
                        refine lv_icmp_le (tgt := 162) hx hb dX10_term_155 (by decide) (fun c155 => ?_) (fun c155 => ?_)
                        · skip
                          rw [if_pos c155] at hR
                          refine lv_iconst (v := (0 : Int32)) hx hb dX10_term_162 (by decide) ?_
                          refine lv_istore (lv' := [(6, .int (0 : Int32)), (5, .int (0 : Int32)), (0, .ref (a 0)), (1, .int o), (2, .int x1), (3, .int y1), (4, .int z1)]) hx hb dX10_term_163 hl (by decide) rfl (fun ls hl => ?_)
                          refine lv_iload hx hb dX10_term_165 (lv_at hl 0 rfl) ?_
                          refine lv_if_eq (tgt := 182) hx hb dX10_term_167 (by decide) (fun c167 => ?_) (fun c167 => ?_)
                          · skip
                            refine lv_aload_n hx hb dX10_term_182 rfl (lv_at hl 2 rfl) ?_
                            refine lv_iload_n hx hb dX10_term_183 rfl (lv_at hl 3 rfl) ?_
                            refine lv_iload_n hx hb dX10_term_184 rfl (lv_at hl 4 rfl) ?_
                            refine lv_iload_n hx hb dX10_term_185 rfl (lv_at hl 5 rfl) ?_
                            refine lv_iload hx hb dX10_term_186 (lv_at hl 6 rfl) ?_
                            refine wl_mi (va_runV (As := [.int o, .int x1, .int y1, .int z1]) (rest := []) ⟨hx, hb, hml, hown, hta⟩ (km_Mod_simple l dC dI a k st o x1 y1 z1 _ N hN h64 qA (fun h1 h2 h3 => qB h1 (wm_le16 h2)) (fun h => qB (by rw [h]; decide) (by rw [h]; decide))) (cwV 4 hta gX10_132 rfl rfl rfl (by decide +kernel) ⟨Nat.le_of_ble_eq_true rfl, Nat.le_of_ble_eq_true rfl⟩) (wl_pM (C := RX10) (ci := 8) (q0 := 0) hK hP hD rfl (mr_0 a k st)) rfl rfl hl.1 rfl (lv_room (Nat.le_of_ble_eq_true rfl)) dX10_term_188 ⟨Nat.zero_le _, Nat.zero_le _⟩) hP hD hS hAz (fun r188 u188 H locs hw188 hP hD hS => ?_)
                            have v188 : (fm_Mod_simple st o x1 y1 z1).1 = r188 := congrArg Prod.fst hw188.symm
                            have w188 : (fm_Mod_simple st o x1 y1 z1).2 = u188 := congrArg Prod.snd hw188.symm
                            have hf188 : XF [0, 1] [0, 1, 2, 3, 4] [0] st u188 := by rw [← w188]; exact ff_Mod_simple st o x1 y1 z1
                            try rw [v188] at hR
                            try rw [w188] at hR
                            exact W.iret (v := r188) hx hb hr (fun t ht hW => ⟨⟨_, _, rfl, hR, by rw [ht]; exact hP, va_K.moved hW.alike hK, hD⟩, hS.F ht⟩) hS.2.2 dX10_term_191
                          · skip
                            exact absurd c167 (by decide)
                        · skip
                          rw [if_neg c155] at hR
                          refine lv_iconst (v := (1 : Int32)) hx hb dX10_term_158 (by decide) ?_
                          refine lv_goto (tgt := 163) hx hb dX10_term_159 (by decide) ?_
                          refine lv_istore (lv' := [(6, .int (1 : Int32)), (5, .int (0 : Int32)), (0, .ref (a 0)), (1, .int o), (2, .int x1), (3, .int y1), (4, .int z1)]) hx hb dX10_term_163 hl (by decide) rfl (fun ls hl => ?_)
                          refine lv_iload hx hb dX10_term_165 (lv_at hl 0 rfl) ?_
                          refine lv_if_eq (tgt := 182) hx hb dX10_term_167 (by decide) (fun c167 => ?_) (fun c167 => ?_)
                          · skip
                            exact absurd c167 (by decide)
                          · skip
                            refine lv_aload_n hx hb dX10_term_170 rfl (lv_at hl 2 rfl) ?_
                            refine lv_iload_n hx hb dX10_term_171 rfl (lv_at hl 3 rfl) ?_
                            refine lv_iload_n hx hb dX10_term_172 rfl (lv_at hl 5 rfl) ?_
                            refine lv_iload_n hx hb dX10_term_173 rfl (lv_at hl 4 rfl) ?_
                            refine lv_iload hx hb dX10_term_174 (lv_at hl 6 rfl) ?_
                            refine wl_mi (va_runV (As := [.int o, .int y1, .int x1, .int z1]) (rest := []) ⟨hx, hb, hml, hown, hta⟩ (km_Mod_simple l dC dI a k st o y1 x1 z1 _ N hN h64 qy (fun _ _ _ => qA) (fun _ => qA)) (cwV 4 hta gX10_132 rfl rfl rfl (by decide +kernel) ⟨Nat.le_of_ble_eq_true rfl, Nat.le_of_ble_eq_true rfl⟩) (wl_pM (C := RX10) (ci := 8) (q0 := 0) hK hP hD rfl (mr_0 a k st)) rfl rfl hl.1 rfl (lv_room (Nat.le_of_ble_eq_true rfl)) dX10_term_176 ⟨Nat.zero_le _, Nat.zero_le _⟩) hP hD hS hAz (fun r176 u176 H locs hw176 hP hD hS => ?_)
                            have v176 : (fm_Mod_simple st o y1 x1 z1).1 = r176 := congrArg Prod.fst hw176.symm
                            have w176 : (fm_Mod_simple st o y1 x1 z1).2 = u176 := congrArg Prod.snd hw176.symm
                            have hf176 : XF [0, 1] [0, 1, 2, 3, 4] [0] st u176 := by rw [← w176]; exact ff_Mod_simple st o y1 x1 z1
                            try rw [v176] at hR
                            try rw [w176] at hR
                            refine lv_goto (tgt := 191) hx hb dX10_term_179 (by decide) ?_
                            exact W.iret (v := r176) hx hb hr (fun t ht hW => ⟨⟨_, _, rfl, hR, by rw [ht]; exact hP, va_K.moved hW.alike hK, hD⟩, hS.F ht⟩) hS.2.2 dX10_term_191
              · skip
                rw [if_neg c65] at hR
                refine lv_iconst (v := (0 : Int32)) hx hb dX10_term_68 (by decide) ?_
                refine lv_istore (lv' := [(6, .int (0 : Int32)), (5, .int (0 : Int32)), (0, .ref (a 0)), (1, .int o), (2, .int x1), (3, .int y1), (4, .int z1)]) hx hb dX10_term_69 hl (by decide) rfl (fun ls hl => ?_)
                have L71 : ∀ (n : Nat) (i : Nat) (S1 : XS) (H : Heap) (locs : List Loc) (ls : Array Slot), fm_Mod_term_L71 st o x1 y1 z1 n i S1 = R → (i ≤ N) → (XF [] [] [1] st S1) → N - i < n → va_P (dC, dI) vwCl (mw a k S1) H → va_D A (mw a k S1) → va_S A s.heap H locs → lv_has ls 7 [(6, .int (nI i)), (0, .ref (a 0)), (1, .int o), (2, .int x1), (3, .int y1), (4, .int z1)] → W p l e (headSpec wsX10_term ({ frames := 4, cells := 0, slots := 0, locals := 103 })).room s m ([.ref (a 0), .int o, .int x1, .int y1, .int z1] : List Value).toArray below meth c H locs 0 0 (MQ below (va_Qi (fun r9 u9 => (r9, u9) = R) (wl_at (dC, dI) vwCl (mt k) (mw a k) A) A) ([.ref (a 0), .int o, .int x1, .int y1, .int z1] : List Value).toArray s 0 0 A) (F0 m 71 ls []) := by
                  intro n
                  induction n with
                  | zero =>
                    intro i S1 H locs ls hR hi hE hm hP hD hS hl
                    exact absurd hm (Nat.not_lt_zero _)
                  | succ n ih =>
                    intro i S1 H locs ls hR hi hE hm hP hD hS hl
                    rw [fm_Mod_term_L71] at hR
                    refine lv_iload hx hb dX10_term_71 (lv_at hl 0 rfl) ?_
                    refine lv_aload_n hx hb dX10_term_73 rfl (lv_at hl 1 rfl) ?_
                    refine va_get (D := (dC, dI)) (ci := 8) (v := .int (gI S1 0)) (C := RX10) (T := TX10) (N := 21) hx hb hta inX10 hown hK hP 0 (mr_0 a k S1) rfl 0 (by decide) hf7 (fun _ h9 => h9) rfl dX10_term_74 ?_
                    refine lv_icmp_ge (tgt := 109) hx hb dX10_term_77 (by decide) (fun c77 => ?_) (fun c77 => ?_)
                    · skip
                      rw [if_pos c77] at hR
                      refine lv_aload_n hx hb dX10_term_109 rfl (lv_at hl 1 rfl) ?_
                      refine lv_aload_n hx hb dX10_term_110 rfl (lv_at hl 1 rfl) ?_
                      refine lv_iload_n hx hb dX10_term_111 rfl (lv_at hl 2 rfl) ?_
                      refine lv_iload_n hx hb dX10_term_112 rfl (lv_at hl 3 rfl) ?_
                      refine lv_iload_n hx hb dX10_term_113 rfl (lv_at hl 4 rfl) ?_
                      refine wl_ci (va_runV (As := [.int o, .int x1, .int y1]) (rest := [.ref (a 0)]) ⟨hx, hb, hml, hown, hta⟩ (km_Mod_widthOf l dC dI a k S1 o x1 y1 qA (fun h => qB (by rw [h]; decide) (by rw [h]; decide))) (cwV 3 hta gX10_124 rfl rfl rfl (by decide +kernel) ⟨Nat.le_of_ble_eq_true rfl, Nat.le_of_ble_eq_true rfl⟩) (wl_pR (C := RX10) (ci := 8) (q0 := 0) hK hP rfl (mr_0 a k S1)) rfl rfl hl.1 rfl (lv_room (Nat.le_of_ble_eq_true rfl)) dX10_term_114 ⟨Nat.zero_le _, Nat.zero_le _⟩) ?_
                      refine lv_aload_n hx hb dX10_term_117 rfl (lv_at hl 1 rfl) ?_
                      refine lv_iload_n hx hb dX10_term_118 rfl (lv_at hl 2 rfl) ?_
                      refine lv_iload_n hx hb dX10_term_119 rfl (lv_at hl 3 rfl) ?_
                      refine lv_iload_n hx hb dX10_term_120 rfl (lv_at hl 4 rfl) ?_
                      refine lv_iload hx hb dX10_term_121 (lv_at hl 5 rfl) ?_
                      refine wl_cl (va_runV (As := [.int o, .int x1, .int y1, .int z1]) (rest := [.int (fm_Mod_widthOf S1 o x1 y1), .ref (a 0)]) ⟨hx, hb, hml, hown, hta⟩ (km_Mod_result l dC dI a k S1 o x1 y1 z1 qA qB qC qT) (cwV 4 hta gX10_128 rfl rfl rfl (by decide +kernel) ⟨Nat.le_of_ble_eq_true rfl, Nat.le_of_ble_eq_true rfl⟩) (wl_pR (C := RX10) (ci := 8) (q0 := 0) hK hP rfl (mr_0 a k S1)) rfl rfl hl.1 rfl (lv_room (Nat.le_of_ble_eq_true rfl)) dX10_term_123 ⟨Nat.zero_le _, Nat.zero_le _⟩) ?_
                      refine wl_mi (va_runV (As := [.int (fm_Mod_widthOf S1 o x1 y1), .long (fm_Mod_result S1 o x1 y1 z1)]) (rest := []) ⟨hx, hb, hml, hown, hta⟩ (km_Mod_constantOf l dC dI a k S1 (fm_Mod_widthOf S1 o x1 y1) (fm_Mod_result S1 o x1 y1 z1) _ N ((hE.I 0 (by decide)).trans hN) h64) (cwV 2 hta gX10_84 rfl rfl rfl (by decide +kernel) ⟨Nat.le_of_ble_eq_true rfl, Nat.le_of_ble_eq_true rfl⟩) (wl_pM (C := RX10) (ci := 8) (q0 := 0) hK hP hD rfl (mr_0 a k S1)) rfl rfl hl.1 rfl (lv_room (Nat.le_of_ble_eq_true rfl)) dX10_term_126 ⟨Nat.zero_le _, Nat.zero_le _⟩) hP hD hS hAz (fun r126 u126 H locs hw126 hP hD hS => ?_)
                      have v126 : (fm_Mod_constantOf S1 (fm_Mod_widthOf S1 o x1 y1) (fm_Mod_result S1 o x1 y1 z1)).1 = r126 := congrArg Prod.fst hw126.symm
                      have w126 : (fm_Mod_constantOf S1 (fm_Mod_widthOf S1 o x1 y1) (fm_Mod_result S1 o x1 y1 z1)).2 = u126 := congrArg Prod.snd hw126.symm
                      have hf126 : XF [0] [0, 1, 2, 3, 4] [0] S1 u126 := by rw [← w126]; exact ff_Mod_constantOf S1 (fm_Mod_widthOf S1 o x1 y1) (fm_Mod_result S1 o x1 y1 z1)
                      try rw [v126] at hR
                      try rw [w126] at hR
                      exact W.iret (v := r126) hx hb hr (fun t ht hW => ⟨⟨_, _, rfl, hR, by rw [ht]; exact hP, va_K.moved hW.alike hK, hD⟩, hS.F ht⟩) hS.2.2 dX10_term_129
                    · skip
                      rw [if_neg c77] at hR
                      have hlt : i < N := wl_lt (by rw [← hN, ← hE.I 0 (by decide)]; exact c77) (by omega)
                      refine lv_aload_n hx hb dX10_term_80 rfl (lv_at hl 1 rfl) ?_
                      refine lv_iload hx hb dX10_term_81 (lv_at hl 0 rfl) ?_
                      refine wl_ci (va_runV (As := [.int (nI i)]) (rest := []) ⟨hx, hb, hml, hown, hta⟩ (km_Mod_isConst l dC dI a k S1 (nI i) (wl_in (by omega) (by decide))) (cwV 1 hta gX10_121 rfl rfl rfl (by decide +kernel) ⟨Nat.le_of_ble_eq_true rfl, Nat.le_of_ble_eq_true rfl⟩) (wl_pR (C := RX10) (ci := 8) (q0 := 0) hK hP rfl (mr_0 a k S1)) rfl rfl hl.1 rfl (lv_room (Nat.le_of_ble_eq_true rfl)) dX10_term_83 ⟨Nat.zero_le _, Nat.zero_le _⟩) ?_
                      refine lv_if_eq (tgt := 103) hx hb dX10_term_86 (by decide) (fun c86 => ?_) (fun c86 => ?_)
                      · skip
                        rw [if_pos c86] at hR
                        refine lv_iinc (v := nI (i + 1)) (lv' := [(6, .int (nI (i + 1))), (0, .ref (a 0)), (1, .int o), (2, .int x1), (3, .int y1), (4, .int z1)]) hx hb dX10_term_103 hl (k := 0) rfl (nI_1 _) (by decide) rfl (fun ls hl => ?_)
                        refine lv_goto (tgt := 71) hx hb dX10_term_106 (by decide) ?_
                        exact ih (i + 1) S1 _ _ ls hR (by omega) hE (by omega) hP hD hS (lv_sub hl [0, 1, 2, 3, 4, 5] rfl)
                      · skip
                        rw [if_neg c86] at hR
                        refine lv_aload_n hx hb dX10_term_89 rfl (lv_at hl 1 rfl) ?_
                        refine va_get (D := (dC, dI)) (ci := 8) (v := .ref (a 7)) (C := RX10) (T := TX10) (N := 21) hx hb hta inX10 hown hK hP 0 (mr_0 a k S1) rfl 13 (by decide) hf51 (fun _ h9 => h9) rfl dX10_term_90 ?_
                        refine lv_iload hx hb dX10_term_93 (lv_at hl 0 rfl) ?_
                        refine lv_aload_n hx hb dX10_term_95 rfl (lv_at hl 1 rfl) ?_
                        refine va_get (D := (dC, dI)) (ci := 8) (v := .ref (a 6)) (C := RX10) (T := TX10) (N := 21) hx hb hta inX10 hown hK hP 0 (mr_0 a k S1) rfl 12 (by decide) hf47 (fun _ h9 => h9) rfl dX10_term_96 ?_
                        refine lv_iload hx hb dX10_term_99 (lv_at hl 0 rfl) ?_
                        refine va_lald hx hb hK hP 6 5 (mr_6 a k S1) rfl (wl_in (by omega) (by decide)) dX10_term_101 ?_
                        refine va_last hx hb hK hP hD hS 7 6 (mr_7 a k S1) rfl (wl_in (by omega) (by decide)) dX10_term_102 (fun H locs hP hD hS => ?_)
                        have hP := mp_L1 hP
                        have hD := md_L1 hD
                        refine lv_iinc (v := nI (i + 1)) (lv' := [(6, .int (nI (i + 1))), (0, .ref (a 0)), (1, .int o), (2, .int x1), (3, .int y1), (4, .int z1)]) hx hb dX10_term_103 hl (k := 0) rfl (nI_1 _) (by decide) rfl (fun ls hl => ?_)
                        refine lv_goto (tgt := 71) hx hb dX10_term_106 (by decide) ?_
                        exact ih (i + 1) (wL S1 1 ((nI i).toNatClampNeg) (fL S1 0 (nI i).toNatClampNeg)) _ _ ls hR (by omega) (XF.wL (by decide) hE) (by omega) hP hD hS (lv_sub hl [0, 1, 2, 3, 4, 5] rfl)
                exact L71 65 0 st _ _ ls hR (Nat.zero_le _) XF.rf (by omega) hP hD hS (lv_sub hl [0, 2, 3, 4, 5, 6] rfl)
          · skip
            exact absurd c42 (by decide)
      · skip
        rw [if_neg c22] at hR
        refine lv_iconst (v := (1 : Int32)) hx hb dX10_term_25 (by decide) ?_
        refine lv_goto (tgt := 30) hx hb dX10_term_26 (by decide) ?_
        refine lv_istore (lv' := [(5, .int (1 : Int32)), (0, .ref (a 0)), (1, .int o), (2, .int x1), (3, .int y1), (4, .int z1)]) hx hb dX10_term_30 hl (by decide) rfl (fun ls hl => ?_)
        refine lv_aload_n hx hb dX10_term_32 rfl (lv_at hl 1 rfl) ?_
        refine lv_iload_n hx hb dX10_term_33 rfl (lv_at hl 3 rfl) ?_
        refine wl_ci (va_runV (As := [.int x1]) (rest := []) ⟨hx, hb, hml, hown, hta⟩ (km_Mod_isConst l dC dI a k st x1 qA) (cwV 1 hta gX10_121 rfl rfl rfl (by decide +kernel) ⟨Nat.le_of_ble_eq_true rfl, Nat.le_of_ble_eq_true rfl⟩) (wl_pR (C := RX10) (ci := 8) (q0 := 0) hK hP rfl (mr_0 a k st)) rfl rfl hl.1 rfl (lv_room (Nat.le_of_ble_eq_true rfl)) dX10_term_34 ⟨Nat.zero_le _, Nat.zero_le _⟩) ?_
        refine lv_if_eq (tgt := 130) hx hb dX10_term_37 (by decide) (fun c37 => ?_) (fun c37 => ?_)
        · skip
          rw [if_pos c37] at hR
          refine lv_iload_n hx hb dX10_term_130 rfl (lv_at hl 2 rfl) ?_
          refine lv_iconst (v := (1 : Int32)) hx hb dX10_term_131 (by decide) ?_
          refine lv_icmp_le (tgt := 141) hx hb dX10_term_132 (by decide) (fun c132 => ?_) (fun c132 => ?_)
          · skip
            exact absurd c132 c16
          · skip
            refine lv_iload_n hx hb dX10_term_135 rfl (lv_at hl 2 rfl) ?_
            refine lv_bipush (v := (6 : Int32)) hx hb dX10_term_136 (by decide) ?_
            refine lv_icmp_lt (tgt := 153) hx hb dX10_term_138 (by decide) (fun c138 => ?_) (fun c138 => ?_)
            · skip
              rw [if_pos c138] at hR
              have qy : vp_in y1 64 := qB (wm_l2 c132) (wm_l6 c138)
              refine lv_iload_n hx hb dX10_term_153 rfl (lv_at hl 3 rfl) ?_
              refine lv_iload_n hx hb dX10_term_154 rfl (lv_at hl 4 rfl) ?_
              refine lv_icmp_le (tgt := 162) hx hb dX10_term_155 (by decide) (fun c155 => ?_) (fun c155 => ?_)
              · skip
                rw [if_pos c155] at hR
                refine lv_iconst (v := (0 : Int32)) hx hb dX10_term_162 (by decide) ?_
                refine lv_istore (lv' := [(6, .int (0 : Int32)), (5, .int (1 : Int32)), (0, .ref (a 0)), (1, .int o), (2, .int x1), (3, .int y1), (4, .int z1)]) hx hb dX10_term_163 hl (by decide) rfl (fun ls hl => ?_)
                refine lv_iload hx hb dX10_term_165 (lv_at hl 0 rfl) ?_
                refine lv_if_eq (tgt := 182) hx hb dX10_term_167 (by decide) (fun c167 => ?_) (fun c167 => ?_)
                · skip
                  refine lv_aload_n hx hb dX10_term_182 rfl (lv_at hl 2 rfl) ?_
                  refine lv_iload_n hx hb dX10_term_183 rfl (lv_at hl 3 rfl) ?_
                  refine lv_iload_n hx hb dX10_term_184 rfl (lv_at hl 4 rfl) ?_
                  refine lv_iload_n hx hb dX10_term_185 rfl (lv_at hl 5 rfl) ?_
                  refine lv_iload hx hb dX10_term_186 (lv_at hl 6 rfl) ?_
                  refine wl_mi (va_runV (As := [.int o, .int x1, .int y1, .int z1]) (rest := []) ⟨hx, hb, hml, hown, hta⟩ (km_Mod_simple l dC dI a k st o x1 y1 z1 _ N hN h64 qA (fun h1 h2 h3 => qB h1 (wm_le16 h2)) (fun h => qB (by rw [h]; decide) (by rw [h]; decide))) (cwV 4 hta gX10_132 rfl rfl rfl (by decide +kernel) ⟨Nat.le_of_ble_eq_true rfl, Nat.le_of_ble_eq_true rfl⟩) (wl_pM (C := RX10) (ci := 8) (q0 := 0) hK hP hD rfl (mr_0 a k st)) rfl rfl hl.1 rfl (lv_room (Nat.le_of_ble_eq_true rfl)) dX10_term_188 ⟨Nat.zero_le _, Nat.zero_le _⟩) hP hD hS hAz (fun r188 u188 H locs hw188 hP hD hS => ?_)
                  have v188 : (fm_Mod_simple st o x1 y1 z1).1 = r188 := congrArg Prod.fst hw188.symm
                  have w188 : (fm_Mod_simple st o x1 y1 z1).2 = u188 := congrArg Prod.snd hw188.symm
                  have hf188 : XF [0, 1] [0, 1, 2, 3, 4] [0] st u188 := by rw [← w188]; exact ff_Mod_simple st o x1 y1 z1
                  try rw [v188] at hR
                  try rw [w188] at hR
                  exact W.iret (v := r188) hx hb hr (fun t ht hW => ⟨⟨_, _, rfl, hR, by rw [ht]; exact hP, va_K.moved hW.alike hK, hD⟩, hS.F ht⟩) hS.2.2 dX10_term_191
                · skip
                  exact absurd c167 (by decide)
              · skip
                rw [if_neg c155] at hR
                refine lv_iconst (v := (1 : Int32)) hx hb dX10_term_158 (by decide) ?_
                refine lv_goto (tgt := 163) hx hb dX10_term_159 (by decide) ?_
                refine lv_istore (lv' := [(6, .int (1 : Int32)), (5, .int (1 : Int32)), (0, .ref (a 0)), (1, .int o), (2, .int x1), (3, .int y1), (4, .int z1)]) hx hb dX10_term_163 hl (by decide) rfl (fun ls hl => ?_)
                refine lv_iload hx hb dX10_term_165 (lv_at hl 0 rfl) ?_
                refine lv_if_eq (tgt := 182) hx hb dX10_term_167 (by decide) (fun c167 => ?_) (fun c167 => ?_)
                · skip
                  exact absurd c167 (by decide)
                · skip
                  refine lv_aload_n hx hb dX10_term_170 rfl (lv_at hl 2 rfl) ?_
                  refine lv_iload_n hx hb dX10_term_171 rfl (lv_at hl 3 rfl) ?_
                  refine lv_iload_n hx hb dX10_term_172 rfl (lv_at hl 5 rfl) ?_
                  refine lv_iload_n hx hb dX10_term_173 rfl (lv_at hl 4 rfl) ?_
                  refine lv_iload hx hb dX10_term_174 (lv_at hl 6 rfl) ?_
                  refine wl_mi (va_runV (As := [.int o, .int y1, .int x1, .int z1]) (rest := []) ⟨hx, hb, hml, hown, hta⟩ (km_Mod_simple l dC dI a k st o y1 x1 z1 _ N hN h64 qy (fun _ _ _ => qA) (fun _ => qA)) (cwV 4 hta gX10_132 rfl rfl rfl (by decide +kernel) ⟨Nat.le_of_ble_eq_true rfl, Nat.le_of_ble_eq_true rfl⟩) (wl_pM (C := RX10) (ci := 8) (q0 := 0) hK hP hD rfl (mr_0 a k st)) rfl rfl hl.1 rfl (lv_room (Nat.le_of_ble_eq_true rfl)) dX10_term_176 ⟨Nat.zero_le _, Nat.zero_le _⟩) hP hD hS hAz (fun r176 u176 H locs hw176 hP hD hS => ?_)
                  have v176 : (fm_Mod_simple st o y1 x1 z1).1 = r176 := congrArg Prod.fst hw176.symm
                  have w176 : (fm_Mod_simple st o y1 x1 z1).2 = u176 := congrArg Prod.snd hw176.symm
                  have hf176 : XF [0, 1] [0, 1, 2, 3, 4] [0] st u176 := by rw [← w176]; exact ff_Mod_simple st o y1 x1 z1
                  try rw [v176] at hR
                  try rw [w176] at hR
                  refine lv_goto (tgt := 191) hx hb dX10_term_179 (by decide) ?_
                  exact W.iret (v := r176) hx hb hr (fun t ht hW => ⟨⟨_, _, rfl, hR, by rw [ht]; exact hP, va_K.moved hW.alike hK, hD⟩, hS.F ht⟩) hS.2.2 dX10_term_191
            · skip
              rw [if_neg c138] at hR
              refine lv_iload_n hx hb dX10_term_141 rfl (lv_at hl 2 rfl) ?_
              refine lv_bipush (v := (7 : Int32)) hx hb dX10_term_142 (by decide) ?_
              refine lv_icmp_eq (tgt := 153) hx hb dX10_term_144 (by decide) (fun c144 => ?_) (fun c144 => ?_)
              · skip
                rw [if_pos c144] at hR
                have qy : vp_in y1 64 := qB (by rw [c144]; decide) (by rw [c144]; decide)
                refine lv_iload_n hx hb dX10_term_153 rfl (lv_at hl 3 rfl) ?_
                refine lv_iload_n hx hb dX10_term_154 rfl (lv_at hl 4 rfl) ?_
                refine lv_icmp_le (tgt := 162) hx hb dX10_term_155 (by decide) (fun c155 => ?_) (fun c155 => ?_)
                · skip
                  rw [if_pos c155] at hR
                  refine lv_iconst (v := (0 : Int32)) hx hb dX10_term_162 (by decide) ?_
                  refine lv_istore (lv' := [(6, .int (0 : Int32)), (5, .int (1 : Int32)), (0, .ref (a 0)), (1, .int o), (2, .int x1), (3, .int y1), (4, .int z1)]) hx hb dX10_term_163 hl (by decide) rfl (fun ls hl => ?_)
                  refine lv_iload hx hb dX10_term_165 (lv_at hl 0 rfl) ?_
                  refine lv_if_eq (tgt := 182) hx hb dX10_term_167 (by decide) (fun c167 => ?_) (fun c167 => ?_)
                  · skip
                    refine lv_aload_n hx hb dX10_term_182 rfl (lv_at hl 2 rfl) ?_
                    refine lv_iload_n hx hb dX10_term_183 rfl (lv_at hl 3 rfl) ?_
                    refine lv_iload_n hx hb dX10_term_184 rfl (lv_at hl 4 rfl) ?_
                    refine lv_iload_n hx hb dX10_term_185 rfl (lv_at hl 5 rfl) ?_
                    refine lv_iload hx hb dX10_term_186 (lv_at hl 6 rfl) ?_
                    refine wl_mi (va_runV (As := [.int o, .int x1, .int y1, .int z1]) (rest := []) ⟨hx, hb, hml, hown, hta⟩ (km_Mod_simple l dC dI a k st o x1 y1 z1 _ N hN h64 qA (fun h1 h2 h3 => qB h1 (wm_le16 h2)) (fun h => qB (by rw [h]; decide) (by rw [h]; decide))) (cwV 4 hta gX10_132 rfl rfl rfl (by decide +kernel) ⟨Nat.le_of_ble_eq_true rfl, Nat.le_of_ble_eq_true rfl⟩) (wl_pM (C := RX10) (ci := 8) (q0 := 0) hK hP hD rfl (mr_0 a k st)) rfl rfl hl.1 rfl (lv_room (Nat.le_of_ble_eq_true rfl)) dX10_term_188 ⟨Nat.zero_le _, Nat.zero_le _⟩) hP hD hS hAz (fun r188 u188 H locs hw188 hP hD hS => ?_)
                    have v188 : (fm_Mod_simple st o x1 y1 z1).1 = r188 := congrArg Prod.fst hw188.symm
                    have w188 : (fm_Mod_simple st o x1 y1 z1).2 = u188 := congrArg Prod.snd hw188.symm
                    have hf188 : XF [0, 1] [0, 1, 2, 3, 4] [0] st u188 := by rw [← w188]; exact ff_Mod_simple st o x1 y1 z1
                    try rw [v188] at hR
                    try rw [w188] at hR
                    exact W.iret (v := r188) hx hb hr (fun t ht hW => ⟨⟨_, _, rfl, hR, by rw [ht]; exact hP, va_K.moved hW.alike hK, hD⟩, hS.F ht⟩) hS.2.2 dX10_term_191
                  · skip
                    exact absurd c167 (by decide)
                · skip
                  rw [if_neg c155] at hR
                  refine lv_iconst (v := (1 : Int32)) hx hb dX10_term_158 (by decide) ?_
                  refine lv_goto (tgt := 163) hx hb dX10_term_159 (by decide) ?_
                  refine lv_istore (lv' := [(6, .int (1 : Int32)), (5, .int (1 : Int32)), (0, .ref (a 0)), (1, .int o), (2, .int x1), (3, .int y1), (4, .int z1)]) hx hb dX10_term_163 hl (by decide) rfl (fun ls hl => ?_)
                  refine lv_iload hx hb dX10_term_165 (lv_at hl 0 rfl) ?_
                  refine lv_if_eq (tgt := 182) hx hb dX10_term_167 (by decide) (fun c167 => ?_) (fun c167 => ?_)
                  · skip
                    exact absurd c167 (by decide)
                  · skip
                    refine lv_aload_n hx hb dX10_term_170 rfl (lv_at hl 2 rfl) ?_
                    refine lv_iload_n hx hb dX10_term_171 rfl (lv_at hl 3 rfl) ?_
                    refine lv_iload_n hx hb dX10_term_172 rfl (lv_at hl 5 rfl) ?_
                    refine lv_iload_n hx hb dX10_term_173 rfl (lv_at hl 4 rfl) ?_
                    refine lv_iload hx hb dX10_term_174 (lv_at hl 6 rfl) ?_
                    refine wl_mi (va_runV (As := [.int o, .int y1, .int x1, .int z1]) (rest := []) ⟨hx, hb, hml, hown, hta⟩ (km_Mod_simple l dC dI a k st o y1 x1 z1 _ N hN h64 qy (fun _ _ _ => qA) (fun _ => qA)) (cwV 4 hta gX10_132 rfl rfl rfl (by decide +kernel) ⟨Nat.le_of_ble_eq_true rfl, Nat.le_of_ble_eq_true rfl⟩) (wl_pM (C := RX10) (ci := 8) (q0 := 0) hK hP hD rfl (mr_0 a k st)) rfl rfl hl.1 rfl (lv_room (Nat.le_of_ble_eq_true rfl)) dX10_term_176 ⟨Nat.zero_le _, Nat.zero_le _⟩) hP hD hS hAz (fun r176 u176 H locs hw176 hP hD hS => ?_)
                    have v176 : (fm_Mod_simple st o y1 x1 z1).1 = r176 := congrArg Prod.fst hw176.symm
                    have w176 : (fm_Mod_simple st o y1 x1 z1).2 = u176 := congrArg Prod.snd hw176.symm
                    have hf176 : XF [0, 1] [0, 1, 2, 3, 4] [0] st u176 := by rw [← w176]; exact ff_Mod_simple st o y1 x1 z1
                    try rw [v176] at hR
                    try rw [w176] at hR
                    refine lv_goto (tgt := 191) hx hb dX10_term_179 (by decide) ?_
                    exact W.iret (v := r176) hx hb hr (fun t ht hW => ⟨⟨_, _, rfl, hR, by rw [ht]; exact hP, va_K.moved hW.alike hK, hD⟩, hS.F ht⟩) hS.2.2 dX10_term_191
              · skip
                rw [if_neg c144] at hR
                refine lv_iload_n hx hb dX10_term_147 rfl (lv_at hl 2 rfl) ?_
                refine lv_bipush (v := (13 : Int32)) hx hb dX10_term_148 (by decide) ?_
                refine lv_icmp_ne (tgt := 162) hx hb dX10_term_150 (by decide) (fun c150 => ?_) (fun c150 => ?_)
                · skip
                  rw [if_neg c150] at hR
                  refine lv_iconst (v := (0 : Int32)) hx hb dX10_term_162 (by decide) ?_
                  refine lv_istore (lv' := [(6, .int (0 : Int32)), (5, .int (1 : Int32)), (0, .ref (a 0)), (1, .int o), (2, .int x1), (3, .int y1), (4, .int z1)]) hx hb dX10_term_163 hl (by decide) rfl (fun ls hl => ?_)
                  refine lv_iload hx hb dX10_term_165 (lv_at hl 0 rfl) ?_
                  refine lv_if_eq (tgt := 182) hx hb dX10_term_167 (by decide) (fun c167 => ?_) (fun c167 => ?_)
                  · skip
                    refine lv_aload_n hx hb dX10_term_182 rfl (lv_at hl 2 rfl) ?_
                    refine lv_iload_n hx hb dX10_term_183 rfl (lv_at hl 3 rfl) ?_
                    refine lv_iload_n hx hb dX10_term_184 rfl (lv_at hl 4 rfl) ?_
                    refine lv_iload_n hx hb dX10_term_185 rfl (lv_at hl 5 rfl) ?_
                    refine lv_iload hx hb dX10_term_186 (lv_at hl 6 rfl) ?_
                    refine wl_mi (va_runV (As := [.int o, .int x1, .int y1, .int z1]) (rest := []) ⟨hx, hb, hml, hown, hta⟩ (km_Mod_simple l dC dI a k st o x1 y1 z1 _ N hN h64 qA (fun h1 h2 h3 => qB h1 (wm_le16 h2)) (fun h => qB (by rw [h]; decide) (by rw [h]; decide))) (cwV 4 hta gX10_132 rfl rfl rfl (by decide +kernel) ⟨Nat.le_of_ble_eq_true rfl, Nat.le_of_ble_eq_true rfl⟩) (wl_pM (C := RX10) (ci := 8) (q0 := 0) hK hP hD rfl (mr_0 a k st)) rfl rfl hl.1 rfl (lv_room (Nat.le_of_ble_eq_true rfl)) dX10_term_188 ⟨Nat.zero_le _, Nat.zero_le _⟩) hP hD hS hAz (fun r188 u188 H locs hw188 hP hD hS => ?_)
                    have v188 : (fm_Mod_simple st o x1 y1 z1).1 = r188 := congrArg Prod.fst hw188.symm
                    have w188 : (fm_Mod_simple st o x1 y1 z1).2 = u188 := congrArg Prod.snd hw188.symm
                    have hf188 : XF [0, 1] [0, 1, 2, 3, 4] [0] st u188 := by rw [← w188]; exact ff_Mod_simple st o x1 y1 z1
                    try rw [v188] at hR
                    try rw [w188] at hR
                    exact W.iret (v := r188) hx hb hr (fun t ht hW => ⟨⟨_, _, rfl, hR, by rw [ht]; exact hP, va_K.moved hW.alike hK, hD⟩, hS.F ht⟩) hS.2.2 dX10_term_191
                  · skip
                    exact absurd c167 (by decide)
                · skip
                  rw [if_pos c150] at hR
                  have qy : vp_in y1 64 := qB (by rw [c150]; decide) (by rw [c150]; decide)
                  refine lv_iload_n hx hb dX10_term_153 rfl (lv_at hl 3 rfl) ?_
                  refine lv_iload_n hx hb dX10_term_154 rfl (lv_at hl 4 rfl) ?_
                  refine lv_icmp_le (tgt := 162) hx hb dX10_term_155 (by decide) (fun c155 => ?_) (fun c155 => ?_)
                  · skip
                    rw [if_pos c155] at hR
                    refine lv_iconst (v := (0 : Int32)) hx hb dX10_term_162 (by decide) ?_
                    refine lv_istore (lv' := [(6, .int (0 : Int32)), (5, .int (1 : Int32)), (0, .ref (a 0)), (1, .int o), (2, .int x1), (3, .int y1), (4, .int z1)]) hx hb dX10_term_163 hl (by decide) rfl (fun ls hl => ?_)
                    refine lv_iload hx hb dX10_term_165 (lv_at hl 0 rfl) ?_
                    refine lv_if_eq (tgt := 182) hx hb dX10_term_167 (by decide) (fun c167 => ?_) (fun c167 => ?_)
                    · skip
                      refine lv_aload_n hx hb dX10_term_182 rfl (lv_at hl 2 rfl) ?_
                      refine lv_iload_n hx hb dX10_term_183 rfl (lv_at hl 3 rfl) ?_
                      refine lv_iload_n hx hb dX10_term_184 rfl (lv_at hl 4 rfl) ?_
                      refine lv_iload_n hx hb dX10_term_185 rfl (lv_at hl 5 rfl) ?_
                      refine lv_iload hx hb dX10_term_186 (lv_at hl 6 rfl) ?_
                      refine wl_mi (va_runV (As := [.int o, .int x1, .int y1, .int z1]) (rest := []) ⟨hx, hb, hml, hown, hta⟩ (km_Mod_simple l dC dI a k st o x1 y1 z1 _ N hN h64 qA (fun h1 h2 h3 => qB h1 (wm_le16 h2)) (fun h => qB (by rw [h]; decide) (by rw [h]; decide))) (cwV 4 hta gX10_132 rfl rfl rfl (by decide +kernel) ⟨Nat.le_of_ble_eq_true rfl, Nat.le_of_ble_eq_true rfl⟩) (wl_pM (C := RX10) (ci := 8) (q0 := 0) hK hP hD rfl (mr_0 a k st)) rfl rfl hl.1 rfl (lv_room (Nat.le_of_ble_eq_true rfl)) dX10_term_188 ⟨Nat.zero_le _, Nat.zero_le _⟩) hP hD hS hAz (fun r188 u188 H locs hw188 hP hD hS => ?_)
                      have v188 : (fm_Mod_simple st o x1 y1 z1).1 = r188 := congrArg Prod.fst hw188.symm
                      have w188 : (fm_Mod_simple st o x1 y1 z1).2 = u188 := congrArg Prod.snd hw188.symm
                      have hf188 : XF [0, 1] [0, 1, 2, 3, 4] [0] st u188 := by rw [← w188]; exact ff_Mod_simple st o x1 y1 z1
                      try rw [v188] at hR
                      try rw [w188] at hR
                      exact W.iret (v := r188) hx hb hr (fun t ht hW => ⟨⟨_, _, rfl, hR, by rw [ht]; exact hP, va_K.moved hW.alike hK, hD⟩, hS.F ht⟩) hS.2.2 dX10_term_191
                    · skip
                      exact absurd c167 (by decide)
                  · skip
                    rw [if_neg c155] at hR
                    refine lv_iconst (v := (1 : Int32)) hx hb dX10_term_158 (by decide) ?_
                    refine lv_goto (tgt := 163) hx hb dX10_term_159 (by decide) ?_
                    refine lv_istore (lv' := [(6, .int (1 : Int32)), (5, .int (1 : Int32)), (0, .ref (a 0)), (1, .int o), (2, .int x1), (3, .int y1), (4, .int z1)]) hx hb dX10_term_163 hl (by decide) rfl (fun ls hl => ?_)
                    refine lv_iload hx hb dX10_term_165 (lv_at hl 0 rfl) ?_
                    refine lv_if_eq (tgt := 182) hx hb dX10_term_167 (by decide) (fun c167 => ?_) (fun c167 => ?_)
                    · skip
                      exact absurd c167 (by decide)
                    · skip
                      refine lv_aload_n hx hb dX10_term_170 rfl (lv_at hl 2 rfl) ?_
                      refine lv_iload_n hx hb dX10_term_171 rfl (lv_at hl 3 rfl) ?_
                      refine lv_iload_n hx hb dX10_term_172 rfl (lv_at hl 5 rfl) ?_
                      refine lv_iload_n hx hb dX10_term_173 rfl (lv_at hl 4 rfl) ?_
                      refine lv_iload hx hb dX10_term_174 (lv_at hl 6 rfl) ?_
                      refine wl_mi (va_runV (As := [.int o, .int y1, .int x1, .int z1]) (rest := []) ⟨hx, hb, hml, hown, hta⟩ (km_Mod_simple l dC dI a k st o y1 x1 z1 _ N hN h64 qy (fun _ _ _ => qA) (fun _ => qA)) (cwV 4 hta gX10_132 rfl rfl rfl (by decide +kernel) ⟨Nat.le_of_ble_eq_true rfl, Nat.le_of_ble_eq_true rfl⟩) (wl_pM (C := RX10) (ci := 8) (q0 := 0) hK hP hD rfl (mr_0 a k st)) rfl rfl hl.1 rfl (lv_room (Nat.le_of_ble_eq_true rfl)) dX10_term_176 ⟨Nat.zero_le _, Nat.zero_le _⟩) hP hD hS hAz (fun r176 u176 H locs hw176 hP hD hS => ?_)
                      have v176 : (fm_Mod_simple st o y1 x1 z1).1 = r176 := congrArg Prod.fst hw176.symm
                      have w176 : (fm_Mod_simple st o y1 x1 z1).2 = u176 := congrArg Prod.snd hw176.symm
                      have hf176 : XF [0, 1] [0, 1, 2, 3, 4] [0] st u176 := by rw [← w176]; exact ff_Mod_simple st o y1 x1 z1
                      try rw [v176] at hR
                      try rw [w176] at hR
                      refine lv_goto (tgt := 191) hx hb dX10_term_179 (by decide) ?_
                      exact W.iret (v := r176) hx hb hr (fun t ht hW => ⟨⟨_, _, rfl, hR, by rw [ht]; exact hP, va_K.moved hW.alike hK, hD⟩, hS.F ht⟩) hS.2.2 dX10_term_191
        · skip
          rw [if_neg c37] at hR
          refine lv_iload hx hb dX10_term_40 (lv_at hl 0 rfl) ?_
          refine lv_if_eq (tgt := 53) hx hb dX10_term_42 (by decide) (fun c42 => ?_) (fun c42 => ?_)
          · skip
            exact absurd c42 (by decide)
          · skip
            refine lv_aload_n hx hb dX10_term_45 rfl (lv_at hl 1 rfl) ?_
            refine lv_iload_n hx hb dX10_term_46 rfl (lv_at hl 4 rfl) ?_
            refine wl_ci (va_runV (As := [.int y1]) (rest := []) ⟨hx, hb, hml, hown, hta⟩ (km_Mod_isConst l dC dI a k st y1 (qB (wm_l2 c16) (wm_l17 c22))) (cwV 1 hta gX10_121 rfl rfl rfl (by decide +kernel) ⟨Nat.le_of_ble_eq_true rfl, Nat.le_of_ble_eq_true rfl⟩) (wl_pR (C := RX10) (ci := 8) (q0 := 0) hK hP rfl (mr_0 a k st)) rfl rfl hl.1 rfl (lv_room (Nat.le_of_ble_eq_true rfl)) dX10_term_47 ⟨Nat.zero_le _, Nat.zero_le _⟩) ?_
            refine lv_if_eq (tgt := 130) hx hb dX10_term_50 (by decide) (fun c50 => ?_) (fun c50 => ?_)
            · skip
              rw [if_pos c50] at hR
              refine lv_iload_n hx hb dX10_term_130 rfl (lv_at hl 2 rfl) ?_
              refine lv_iconst (v := (1 : Int32)) hx hb dX10_term_131 (by decide) ?_
              refine lv_icmp_le (tgt := 141) hx hb dX10_term_132 (by decide) (fun c132 => ?_) (fun c132 => ?_)
              · skip
                exact absurd c132 c16
              · skip
                refine lv_iload_n hx hb dX10_term_135 rfl (lv_at hl 2 rfl) ?_
                refine lv_bipush (v := (6 : Int32)) hx hb dX10_term_136 (by decide) ?_
                refine lv_icmp_lt (tgt := 153) hx hb dX10_term_138 (by decide) (fun c138 => ?_) (fun c138 => ?_)
                · skip
                  rw [if_pos c138] at hR
                  have qy : vp_in y1 64 := qB (wm_l2 c132) (wm_l6 c138)
                  refine lv_iload_n hx hb dX10_term_153 rfl (lv_at hl 3 rfl) ?_
                  refine lv_iload_n hx hb dX10_term_154 rfl (lv_at hl 4 rfl) ?_
                  refine lv_icmp_le (tgt := 162) hx hb dX10_term_155 (by decide) (fun c155 => ?_) (fun c155 => ?_)
                  · skip
                    rw [if_pos c155] at hR
                    refine lv_iconst (v := (0 : Int32)) hx hb dX10_term_162 (by decide) ?_
                    refine lv_istore (lv' := [(6, .int (0 : Int32)), (5, .int (1 : Int32)), (0, .ref (a 0)), (1, .int o), (2, .int x1), (3, .int y1), (4, .int z1)]) hx hb dX10_term_163 hl (by decide) rfl (fun ls hl => ?_)
                    refine lv_iload hx hb dX10_term_165 (lv_at hl 0 rfl) ?_
                    refine lv_if_eq (tgt := 182) hx hb dX10_term_167 (by decide) (fun c167 => ?_) (fun c167 => ?_)
                    · skip
                      refine lv_aload_n hx hb dX10_term_182 rfl (lv_at hl 2 rfl) ?_
                      refine lv_iload_n hx hb dX10_term_183 rfl (lv_at hl 3 rfl) ?_
                      refine lv_iload_n hx hb dX10_term_184 rfl (lv_at hl 4 rfl) ?_
                      refine lv_iload_n hx hb dX10_term_185 rfl (lv_at hl 5 rfl) ?_
                      refine lv_iload hx hb dX10_term_186 (lv_at hl 6 rfl) ?_
                      refine wl_mi (va_runV (As := [.int o, .int x1, .int y1, .int z1]) (rest := []) ⟨hx, hb, hml, hown, hta⟩ (km_Mod_simple l dC dI a k st o x1 y1 z1 _ N hN h64 qA (fun h1 h2 h3 => qB h1 (wm_le16 h2)) (fun h => qB (by rw [h]; decide) (by rw [h]; decide))) (cwV 4 hta gX10_132 rfl rfl rfl (by decide +kernel) ⟨Nat.le_of_ble_eq_true rfl, Nat.le_of_ble_eq_true rfl⟩) (wl_pM (C := RX10) (ci := 8) (q0 := 0) hK hP hD rfl (mr_0 a k st)) rfl rfl hl.1 rfl (lv_room (Nat.le_of_ble_eq_true rfl)) dX10_term_188 ⟨Nat.zero_le _, Nat.zero_le _⟩) hP hD hS hAz (fun r188 u188 H locs hw188 hP hD hS => ?_)
                      have v188 : (fm_Mod_simple st o x1 y1 z1).1 = r188 := congrArg Prod.fst hw188.symm
                      have w188 : (fm_Mod_simple st o x1 y1 z1).2 = u188 := congrArg Prod.snd hw188.symm
                      have hf188 : XF [0, 1] [0, 1, 2, 3, 4] [0] st u188 := by rw [← w188]; exact ff_Mod_simple st o x1 y1 z1
                      try rw [v188] at hR
                      try rw [w188] at hR
                      exact W.iret (v := r188) hx hb hr (fun t ht hW => ⟨⟨_, _, rfl, hR, by rw [ht]; exact hP, va_K.moved hW.alike hK, hD⟩, hS.F ht⟩) hS.2.2 dX10_term_191
                    · skip
                      exact absurd c167 (by decide)
                  · skip
                    rw [if_neg c155] at hR
                    refine lv_iconst (v := (1 : Int32)) hx hb dX10_term_158 (by decide) ?_
                    refine lv_goto (tgt := 163) hx hb dX10_term_159 (by decide) ?_
                    refine lv_istore (lv' := [(6, .int (1 : Int32)), (5, .int (1 : Int32)), (0, .ref (a 0)), (1, .int o), (2, .int x1), (3, .int y1), (4, .int z1)]) hx hb dX10_term_163 hl (by decide) rfl (fun ls hl => ?_)
                    refine lv_iload hx hb dX10_term_165 (lv_at hl 0 rfl) ?_
                    refine lv_if_eq (tgt := 182) hx hb dX10_term_167 (by decide) (fun c167 => ?_) (fun c167 => ?_)
                    · skip
                      exact absurd c167 (by decide)
                    · skip
                      refine lv_aload_n hx hb dX10_term_170 rfl (lv_at hl 2 rfl) ?_
                      refine lv_iload_n hx hb dX10_term_171 rfl (lv_at hl 3 rfl) ?_
                      refine lv_iload_n hx hb dX10_term_172 rfl (lv_at hl 5 rfl) ?_
                      refine lv_iload_n hx hb dX10_term_173 rfl (lv_at hl 4 rfl) ?_
                      refine lv_iload hx hb dX10_term_174 (lv_at hl 6 rfl) ?_
                      refine wl_mi (va_runV (As := [.int o, .int y1, .int x1, .int z1]) (rest := []) ⟨hx, hb, hml, hown, hta⟩ (km_Mod_simple l dC dI a k st o y1 x1 z1 _ N hN h64 qy (fun _ _ _ => qA) (fun _ => qA)) (cwV 4 hta gX10_132 rfl rfl rfl (by decide +kernel) ⟨Nat.le_of_ble_eq_true rfl, Nat.le_of_ble_eq_true rfl⟩) (wl_pM (C := RX10) (ci := 8) (q0 := 0) hK hP hD rfl (mr_0 a k st)) rfl rfl hl.1 rfl (lv_room (Nat.le_of_ble_eq_true rfl)) dX10_term_176 ⟨Nat.zero_le _, Nat.zero_le _⟩) hP hD hS hAz (fun r176 u176 H locs hw176 hP hD hS => ?_)
                      have v176 : (fm_Mod_simple st o y1 x1 z1).1 = r176 := congrArg Prod.fst hw176.symm
                      have w176 : (fm_Mod_simple st o y1 x1 z1).2 = u176 := congrArg Prod.snd hw176.symm
                      have hf176 : XF [0, 1] [0, 1, 2, 3, 4] [0] st u176 := by rw [← w176]; exact ff_Mod_simple st o y1 x1 z1
                      try rw [v176] at hR
                      try rw [w176] at hR
                      refine lv_goto (tgt := 191) hx hb dX10_term_179 (by decide) ?_
                      exact W.iret (v := r176) hx hb hr (fun t ht hW => ⟨⟨_, _, rfl, hR, by rw [ht]; exact hP, va_K.moved hW.alike hK, hD⟩, hS.F ht⟩) hS.2.2 dX10_term_191
                · skip
                  rw [if_neg c138] at hR
                  refine lv_iload_n hx hb dX10_term_141 rfl (lv_at hl 2 rfl) ?_
                  refine lv_bipush (v := (7 : Int32)) hx hb dX10_term_142 (by decide) ?_
                  refine lv_icmp_eq (tgt := 153) hx hb dX10_term_144 (by decide) (fun c144 => ?_) (fun c144 => ?_)
                  · skip
                    rw [if_pos c144] at hR
                    have qy : vp_in y1 64 := qB (by rw [c144]; decide) (by rw [c144]; decide)
                    refine lv_iload_n hx hb dX10_term_153 rfl (lv_at hl 3 rfl) ?_
                    refine lv_iload_n hx hb dX10_term_154 rfl (lv_at hl 4 rfl) ?_
                    refine lv_icmp_le (tgt := 162) hx hb dX10_term_155 (by decide) (fun c155 => ?_) (fun c155 => ?_)
                    · skip
                      rw [if_pos c155] at hR
                      refine lv_iconst (v := (0 : Int32)) hx hb dX10_term_162 (by decide) ?_
                      refine lv_istore (lv' := [(6, .int (0 : Int32)), (5, .int (1 : Int32)), (0, .ref (a 0)), (1, .int o), (2, .int x1), (3, .int y1), (4, .int z1)]) hx hb dX10_term_163 hl (by decide) rfl (fun ls hl => ?_)
                      refine lv_iload hx hb dX10_term_165 (lv_at hl 0 rfl) ?_
                      refine lv_if_eq (tgt := 182) hx hb dX10_term_167 (by decide) (fun c167 => ?_) (fun c167 => ?_)
                      · skip
                        refine lv_aload_n hx hb dX10_term_182 rfl (lv_at hl 2 rfl) ?_
                        refine lv_iload_n hx hb dX10_term_183 rfl (lv_at hl 3 rfl) ?_
                        refine lv_iload_n hx hb dX10_term_184 rfl (lv_at hl 4 rfl) ?_
                        refine lv_iload_n hx hb dX10_term_185 rfl (lv_at hl 5 rfl) ?_
                        refine lv_iload hx hb dX10_term_186 (lv_at hl 6 rfl) ?_
                        refine wl_mi (va_runV (As := [.int o, .int x1, .int y1, .int z1]) (rest := []) ⟨hx, hb, hml, hown, hta⟩ (km_Mod_simple l dC dI a k st o x1 y1 z1 _ N hN h64 qA (fun h1 h2 h3 => qB h1 (wm_le16 h2)) (fun h => qB (by rw [h]; decide) (by rw [h]; decide))) (cwV 4 hta gX10_132 rfl rfl rfl (by decide +kernel) ⟨Nat.le_of_ble_eq_true rfl, Nat.le_of_ble_eq_true rfl⟩) (wl_pM (C := RX10) (ci := 8) (q0 := 0) hK hP hD rfl (mr_0 a k st)) rfl rfl hl.1 rfl (lv_room (Nat.le_of_ble_eq_true rfl)) dX10_term_188 ⟨Nat.zero_le _, Nat.zero_le _⟩) hP hD hS hAz (fun r188 u188 H locs hw188 hP hD hS => ?_)
                        have v188 : (fm_Mod_simple st o x1 y1 z1).1 = r188 := congrArg Prod.fst hw188.symm
                        have w188 : (fm_Mod_simple st o x1 y1 z1).2 = u188 := congrArg Prod.snd hw188.symm
                        have hf188 : XF [0, 1] [0, 1, 2, 3, 4] [0] st u188 := by rw [← w188]; exact ff_Mod_simple st o x1 y1 z1
                        try rw [v188] at hR
                        try rw [w188] at hR
                        exact W.iret (v := r188) hx hb hr (fun t ht hW => ⟨⟨_, _, rfl, hR, by rw [ht]; exact hP, va_K.moved hW.alike hK, hD⟩, hS.F ht⟩) hS.2.2 dX10_term_191
                      · skip
                        exact absurd c167 (by decide)
                    · skip
                      rw [if_neg c155] at hR
                      refine lv_iconst (v := (1 : Int32)) hx hb dX10_term_158 (by decide) ?_
                      refine lv_goto (tgt := 163) hx hb dX10_term_159 (by decide) ?_
                      refine lv_istore (lv' := [(6, .int (1 : Int32)), (5, .int (1 : Int32)), (0, .ref (a 0)), (1, .int o), (2, .int x1), (3, .int y1), (4, .int z1)]) hx hb dX10_term_163 hl (by decide) rfl (fun ls hl => ?_)
                      refine lv_iload hx hb dX10_term_165 (lv_at hl 0 rfl) ?_
                      refine lv_if_eq (tgt := 182) hx hb dX10_term_167 (by decide) (fun c167 => ?_) (fun c167 => ?_)
                      · skip
                        exact absurd c167 (by decide)
                      · skip
                        refine lv_aload_n hx hb dX10_term_170 rfl (lv_at hl 2 rfl) ?_
                        refine lv_iload_n hx hb dX10_term_171 rfl (lv_at hl 3 rfl) ?_
                        refine lv_iload_n hx hb dX10_term_172 rfl (lv_at hl 5 rfl) ?_
                        refine lv_iload_n hx hb dX10_term_173 rfl (lv_at hl 4 rfl) ?_
                        refine lv_iload hx hb dX10_term_174 (lv_at hl 6 rfl) ?_
                        refine wl_mi (va_runV (As := [.int o, .int y1, .int x1, .int z1]) (rest := []) ⟨hx, hb, hml, hown, hta⟩ (km_Mod_simple l dC dI a k st o y1 x1 z1 _ N hN h64 qy (fun _ _ _ => qA) (fun _ => qA)) (cwV 4 hta gX10_132 rfl rfl rfl (by decide +kernel) ⟨Nat.le_of_ble_eq_true rfl, Nat.le_of_ble_eq_true rfl⟩) (wl_pM (C := RX10) (ci := 8) (q0 := 0) hK hP hD rfl (mr_0 a k st)) rfl rfl hl.1 rfl (lv_room (Nat.le_of_ble_eq_true rfl)) dX10_term_176 ⟨Nat.zero_le _, Nat.zero_le _⟩) hP hD hS hAz (fun r176 u176 H locs hw176 hP hD hS => ?_)
                        have v176 : (fm_Mod_simple st o y1 x1 z1).1 = r176 := congrArg Prod.fst hw176.symm
                        have w176 : (fm_Mod_simple st o y1 x1 z1).2 = u176 := congrArg Prod.snd hw176.symm
                        have hf176 : XF [0, 1] [0, 1, 2, 3, 4] [0] st u176 := by rw [← w176]; exact ff_Mod_simple st o y1 x1 z1
                        try rw [v176] at hR
                        try rw [w176] at hR
                        refine lv_goto (tgt := 191) hx hb dX10_term_179 (by decide) ?_
                        exact W.iret (v := r176) hx hb hr (fun t ht hW => ⟨⟨_, _, rfl, hR, by rw [ht]; exact hP, va_K.moved hW.alike hK, hD⟩, hS.F ht⟩) hS.2.2 dX10_term_191
                  · skip
                    rw [if_neg c144] at hR
                    refine lv_iload_n hx hb dX10_term_147 rfl (lv_at hl 2 rfl) ?_
                    refine lv_bipush (v := (13 : Int32)) hx hb dX10_term_148 (by decide) ?_
                    refine lv_icmp_ne (tgt := 162) hx hb dX10_term_150 (by decide) (fun c150 => ?_) (fun c150 => ?_)
                    · skip
                      rw [if_neg c150] at hR
                      refine lv_iconst (v := (0 : Int32)) hx hb dX10_term_162 (by decide) ?_
                      refine lv_istore (lv' := [(6, .int (0 : Int32)), (5, .int (1 : Int32)), (0, .ref (a 0)), (1, .int o), (2, .int x1), (3, .int y1), (4, .int z1)]) hx hb dX10_term_163 hl (by decide) rfl (fun ls hl => ?_)
                      refine lv_iload hx hb dX10_term_165 (lv_at hl 0 rfl) ?_
                      refine lv_if_eq (tgt := 182) hx hb dX10_term_167 (by decide) (fun c167 => ?_) (fun c167 => ?_)
                      · skip
                        refine lv_aload_n hx hb dX10_term_182 rfl (lv_at hl 2 rfl) ?_
                        refine lv_iload_n hx hb dX10_term_183 rfl (lv_at hl 3 rfl) ?_
                        refine lv_iload_n hx hb dX10_term_184 rfl (lv_at hl 4 rfl) ?_
                        refine lv_iload_n hx hb dX10_term_185 rfl (lv_at hl 5 rfl) ?_
                        refine lv_iload hx hb dX10_term_186 (lv_at hl 6 rfl) ?_
                        refine wl_mi (va_runV (As := [.int o, .int x1, .int y1, .int z1]) (rest := []) ⟨hx, hb, hml, hown, hta⟩ (km_Mod_simple l dC dI a k st o x1 y1 z1 _ N hN h64 qA (fun h1 h2 h3 => qB h1 (wm_le16 h2)) (fun h => qB (by rw [h]; decide) (by rw [h]; decide))) (cwV 4 hta gX10_132 rfl rfl rfl (by decide +kernel) ⟨Nat.le_of_ble_eq_true rfl, Nat.le_of_ble_eq_true rfl⟩) (wl_pM (C := RX10) (ci := 8) (q0 := 0) hK hP hD rfl (mr_0 a k st)) rfl rfl hl.1 rfl (lv_room (Nat.le_of_ble_eq_true rfl)) dX10_term_188 ⟨Nat.zero_le _, Nat.zero_le _⟩) hP hD hS hAz (fun r188 u188 H locs hw188 hP hD hS => ?_)
                        have v188 : (fm_Mod_simple st o x1 y1 z1).1 = r188 := congrArg Prod.fst hw188.symm
                        have w188 : (fm_Mod_simple st o x1 y1 z1).2 = u188 := congrArg Prod.snd hw188.symm
                        have hf188 : XF [0, 1] [0, 1, 2, 3, 4] [0] st u188 := by rw [← w188]; exact ff_Mod_simple st o x1 y1 z1
                        try rw [v188] at hR
                        try rw [w188] at hR
                        exact W.iret (v := r188) hx hb hr (fun t ht hW => ⟨⟨_, _, rfl, hR, by rw [ht]; exact hP, va_K.moved hW.alike hK, hD⟩, hS.F ht⟩) hS.2.2 dX10_term_191
                      · skip
                        exact absurd c167 (by decide)
                    · skip
                      rw [if_pos c150] at hR
                      have qy : vp_in y1 64 := qB (by rw [c150]; decide) (by rw [c150]; decide)
                      refine lv_iload_n hx hb dX10_term_153 rfl (lv_at hl 3 rfl) ?_
                      refine lv_iload_n hx hb dX10_term_154 rfl (lv_at hl 4 rfl) ?_
                      refine lv_icmp_le (tgt := 162) hx hb dX10_term_155 (by decide) (fun c155 => ?_) (fun c155 => ?_)
                      · skip
                        rw [if_pos c155] at hR
                        refine lv_iconst (v := (0 : Int32)) hx hb dX10_term_162 (by decide) ?_
                        refine lv_istore (lv' := [(6, .int (0 : Int32)), (5, .int (1 : Int32)), (0, .ref (a 0)), (1, .int o), (2, .int x1), (3, .int y1), (4, .int z1)]) hx hb dX10_term_163 hl (by decide) rfl (fun ls hl => ?_)
                        refine lv_iload hx hb dX10_term_165 (lv_at hl 0 rfl) ?_
                        refine lv_if_eq (tgt := 182) hx hb dX10_term_167 (by decide) (fun c167 => ?_) (fun c167 => ?_)
                        · skip
                          refine lv_aload_n hx hb dX10_term_182 rfl (lv_at hl 2 rfl) ?_
                          refine lv_iload_n hx hb dX10_term_183 rfl (lv_at hl 3 rfl) ?_
                          refine lv_iload_n hx hb dX10_term_184 rfl (lv_at hl 4 rfl) ?_
                          refine lv_iload_n hx hb dX10_term_185 rfl (lv_at hl 5 rfl) ?_
                          refine lv_iload hx hb dX10_term_186 (lv_at hl 6 rfl) ?_
                          refine wl_mi (va_runV (As := [.int o, .int x1, .int y1, .int z1]) (rest := []) ⟨hx, hb, hml, hown, hta⟩ (km_Mod_simple l dC dI a k st o x1 y1 z1 _ N hN h64 qA (fun h1 h2 h3 => qB h1 (wm_le16 h2)) (fun h => qB (by rw [h]; decide) (by rw [h]; decide))) (cwV 4 hta gX10_132 rfl rfl rfl (by decide +kernel) ⟨Nat.le_of_ble_eq_true rfl, Nat.le_of_ble_eq_true rfl⟩) (wl_pM (C := RX10) (ci := 8) (q0 := 0) hK hP hD rfl (mr_0 a k st)) rfl rfl hl.1 rfl (lv_room (Nat.le_of_ble_eq_true rfl)) dX10_term_188 ⟨Nat.zero_le _, Nat.zero_le _⟩) hP hD hS hAz (fun r188 u188 H locs hw188 hP hD hS => ?_)
                          have v188 : (fm_Mod_simple st o x1 y1 z1).1 = r188 := congrArg Prod.fst hw188.symm
                          have w188 : (fm_Mod_simple st o x1 y1 z1).2 = u188 := congrArg Prod.snd hw188.symm
                          have hf188 : XF [0, 1] [0, 1, 2, 3, 4] [0] st u188 := by rw [← w188]; exact ff_Mod_simple st o x1 y1 z1
                          try rw [v188] at hR
                          try rw [w188] at hR
                          exact W.iret (v := r188) hx hb hr (fun t ht hW => ⟨⟨_, _, rfl, hR, by rw [ht]; exact hP, va_K.moved hW.alike hK, hD⟩, hS.F ht⟩) hS.2.2 dX10_term_191
                        · skip
                          exact absurd c167 (by decide)
                      · skip
                        rw [if_neg c155] at hR
                        refine lv_iconst (v := (1 : Int32)) hx hb dX10_term_158 (by decide) ?_
                        refine lv_goto (tgt := 163) hx hb dX10_term_159 (by decide) ?_
                        refine lv_istore (lv' := [(6, .int (1 : Int32)), (5, .int (1 : Int32)), (0, .ref (a 0)), (1, .int o), (2, .int x1), (3, .int y1), (4, .int z1)]) hx hb dX10_term_163 hl (by decide) rfl (fun ls hl => ?_)
                        refine lv_iload hx hb dX10_term_165 (lv_at hl 0 rfl) ?_
                        refine lv_if_eq (tgt := 182) hx hb dX10_term_167 (by decide) (fun c167 => ?_) (fun c167 => ?_)
                        · skip
                          exact absurd c167 (by decide)
                        · skip
                          refine lv_aload_n hx hb dX10_term_170 rfl (lv_at hl 2 rfl) ?_
                          refine lv_iload_n hx hb dX10_term_171 rfl (lv_at hl 3 rfl) ?_
                          refine lv_iload_n hx hb dX10_term_172 rfl (lv_at hl 5 rfl) ?_
                          refine lv_iload_n hx hb dX10_term_173 rfl (lv_at hl 4 rfl) ?_
                          refine lv_iload hx hb dX10_term_174 (lv_at hl 6 rfl) ?_
                          refine wl_mi (va_runV (As := [.int o, .int y1, .int x1, .int z1]) (rest := []) ⟨hx, hb, hml, hown, hta⟩ (km_Mod_simple l dC dI a k st o y1 x1 z1 _ N hN h64 qy (fun _ _ _ => qA) (fun _ => qA)) (cwV 4 hta gX10_132 rfl rfl rfl (by decide +kernel) ⟨Nat.le_of_ble_eq_true rfl, Nat.le_of_ble_eq_true rfl⟩) (wl_pM (C := RX10) (ci := 8) (q0 := 0) hK hP hD rfl (mr_0 a k st)) rfl rfl hl.1 rfl (lv_room (Nat.le_of_ble_eq_true rfl)) dX10_term_176 ⟨Nat.zero_le _, Nat.zero_le _⟩) hP hD hS hAz (fun r176 u176 H locs hw176 hP hD hS => ?_)
                          have v176 : (fm_Mod_simple st o y1 x1 z1).1 = r176 := congrArg Prod.fst hw176.symm
                          have w176 : (fm_Mod_simple st o y1 x1 z1).2 = u176 := congrArg Prod.snd hw176.symm
                          have hf176 : XF [0, 1] [0, 1, 2, 3, 4] [0] st u176 := by rw [← w176]; exact ff_Mod_simple st o y1 x1 z1
                          try rw [v176] at hR
                          try rw [w176] at hR
                          refine lv_goto (tgt := 191) hx hb dX10_term_179 (by decide) ?_
                          exact W.iret (v := r176) hx hb hr (fun t ht hW => ⟨⟨_, _, rfl, hR, by rw [ht]; exact hP, va_K.moved hW.alike hK, hD⟩, hS.F ht⟩) hS.2.2 dX10_term_191
            · skip
              rw [if_neg c50] at hR
              refine lv_iload_n hx hb dX10_term_53 rfl (lv_at hl 2 rfl) ?_
              refine lv_bipush (v := (16 : Int32)) hx hb dX10_term_54 (by decide) ?_
              refine lv_icmp_ne (tgt := 68) hx hb dX10_term_56 (by decide) (fun c56 => ?_) (fun c56 => ?_)
              · skip
                rw [if_neg c56] at hR
                refine lv_iconst (v := (0 : Int32)) hx hb dX10_term_68 (by decide) ?_
                refine lv_istore (lv' := [(6, .int (0 : Int32)), (5, .int (1 : Int32)), (0, .ref (a 0)), (1, .int o), (2, .int x1), (3, .int y1), (4, .int z1)]) hx hb dX10_term_69 hl (by decide) rfl (fun ls hl => ?_)
                have L71 : ∀ (n : Nat) (i : Nat) (S1 : XS) (H : Heap) (locs : List Loc) (ls : Array Slot), fm_Mod_term_L71 st o x1 y1 z1 n i S1 = R → (i ≤ N) → (XF [] [] [1] st S1) → N - i < n → va_P (dC, dI) vwCl (mw a k S1) H → va_D A (mw a k S1) → va_S A s.heap H locs → lv_has ls 7 [(6, .int (nI i)), (0, .ref (a 0)), (1, .int o), (2, .int x1), (3, .int y1), (4, .int z1)] → W p l e (headSpec wsX10_term ({ frames := 4, cells := 0, slots := 0, locals := 103 })).room s m ([.ref (a 0), .int o, .int x1, .int y1, .int z1] : List Value).toArray below meth c H locs 0 0 (MQ below (va_Qi (fun r9 u9 => (r9, u9) = R) (wl_at (dC, dI) vwCl (mt k) (mw a k) A) A) ([.ref (a 0), .int o, .int x1, .int y1, .int z1] : List Value).toArray s 0 0 A) (F0 m 71 ls []) := by
                  intro n
                  induction n with
                  | zero =>
                    intro i S1 H locs ls hR hi hE hm hP hD hS hl
                    exact absurd hm (Nat.not_lt_zero _)
                  | succ n ih =>
                    intro i S1 H locs ls hR hi hE hm hP hD hS hl
                    rw [fm_Mod_term_L71] at hR
                    refine lv_iload hx hb dX10_term_71 (lv_at hl 0 rfl) ?_
                    refine lv_aload_n hx hb dX10_term_73 rfl (lv_at hl 1 rfl) ?_
                    refine va_get (D := (dC, dI)) (ci := 8) (v := .int (gI S1 0)) (C := RX10) (T := TX10) (N := 21) hx hb hta inX10 hown hK hP 0 (mr_0 a k S1) rfl 0 (by decide) hf7 (fun _ h9 => h9) rfl dX10_term_74 ?_
                    refine lv_icmp_ge (tgt := 109) hx hb dX10_term_77 (by decide) (fun c77 => ?_) (fun c77 => ?_)
                    · skip
                      rw [if_pos c77] at hR
                      refine lv_aload_n hx hb dX10_term_109 rfl (lv_at hl 1 rfl) ?_
                      refine lv_aload_n hx hb dX10_term_110 rfl (lv_at hl 1 rfl) ?_
                      refine lv_iload_n hx hb dX10_term_111 rfl (lv_at hl 2 rfl) ?_
                      refine lv_iload_n hx hb dX10_term_112 rfl (lv_at hl 3 rfl) ?_
                      refine lv_iload_n hx hb dX10_term_113 rfl (lv_at hl 4 rfl) ?_
                      refine wl_ci (va_runV (As := [.int o, .int x1, .int y1]) (rest := [.ref (a 0)]) ⟨hx, hb, hml, hown, hta⟩ (km_Mod_widthOf l dC dI a k S1 o x1 y1 qA (fun h => qB (by rw [h]; decide) (by rw [h]; decide))) (cwV 3 hta gX10_124 rfl rfl rfl (by decide +kernel) ⟨Nat.le_of_ble_eq_true rfl, Nat.le_of_ble_eq_true rfl⟩) (wl_pR (C := RX10) (ci := 8) (q0 := 0) hK hP rfl (mr_0 a k S1)) rfl rfl hl.1 rfl (lv_room (Nat.le_of_ble_eq_true rfl)) dX10_term_114 ⟨Nat.zero_le _, Nat.zero_le _⟩) ?_
                      refine lv_aload_n hx hb dX10_term_117 rfl (lv_at hl 1 rfl) ?_
                      refine lv_iload_n hx hb dX10_term_118 rfl (lv_at hl 2 rfl) ?_
                      refine lv_iload_n hx hb dX10_term_119 rfl (lv_at hl 3 rfl) ?_
                      refine lv_iload_n hx hb dX10_term_120 rfl (lv_at hl 4 rfl) ?_
                      refine lv_iload hx hb dX10_term_121 (lv_at hl 5 rfl) ?_
                      refine wl_cl (va_runV (As := [.int o, .int x1, .int y1, .int z1]) (rest := [.int (fm_Mod_widthOf S1 o x1 y1), .ref (a 0)]) ⟨hx, hb, hml, hown, hta⟩ (km_Mod_result l dC dI a k S1 o x1 y1 z1 qA qB qC qT) (cwV 4 hta gX10_128 rfl rfl rfl (by decide +kernel) ⟨Nat.le_of_ble_eq_true rfl, Nat.le_of_ble_eq_true rfl⟩) (wl_pR (C := RX10) (ci := 8) (q0 := 0) hK hP rfl (mr_0 a k S1)) rfl rfl hl.1 rfl (lv_room (Nat.le_of_ble_eq_true rfl)) dX10_term_123 ⟨Nat.zero_le _, Nat.zero_le _⟩) ?_
                      refine wl_mi (va_runV (As := [.int (fm_Mod_widthOf S1 o x1 y1), .long (fm_Mod_result S1 o x1 y1 z1)]) (rest := []) ⟨hx, hb, hml, hown, hta⟩ (km_Mod_constantOf l dC dI a k S1 (fm_Mod_widthOf S1 o x1 y1) (fm_Mod_result S1 o x1 y1 z1) _ N ((hE.I 0 (by decide)).trans hN) h64) (cwV 2 hta gX10_84 rfl rfl rfl (by decide +kernel) ⟨Nat.le_of_ble_eq_true rfl, Nat.le_of_ble_eq_true rfl⟩) (wl_pM (C := RX10) (ci := 8) (q0 := 0) hK hP hD rfl (mr_0 a k S1)) rfl rfl hl.1 rfl (lv_room (Nat.le_of_ble_eq_true rfl)) dX10_term_126 ⟨Nat.zero_le _, Nat.zero_le _⟩) hP hD hS hAz (fun r126 u126 H locs hw126 hP hD hS => ?_)
                      have v126 : (fm_Mod_constantOf S1 (fm_Mod_widthOf S1 o x1 y1) (fm_Mod_result S1 o x1 y1 z1)).1 = r126 := congrArg Prod.fst hw126.symm
                      have w126 : (fm_Mod_constantOf S1 (fm_Mod_widthOf S1 o x1 y1) (fm_Mod_result S1 o x1 y1 z1)).2 = u126 := congrArg Prod.snd hw126.symm
                      have hf126 : XF [0] [0, 1, 2, 3, 4] [0] S1 u126 := by rw [← w126]; exact ff_Mod_constantOf S1 (fm_Mod_widthOf S1 o x1 y1) (fm_Mod_result S1 o x1 y1 z1)
                      try rw [v126] at hR
                      try rw [w126] at hR
                      exact W.iret (v := r126) hx hb hr (fun t ht hW => ⟨⟨_, _, rfl, hR, by rw [ht]; exact hP, va_K.moved hW.alike hK, hD⟩, hS.F ht⟩) hS.2.2 dX10_term_129
                    · skip
                      rw [if_neg c77] at hR
                      have hlt : i < N := wl_lt (by rw [← hN, ← hE.I 0 (by decide)]; exact c77) (by omega)
                      refine lv_aload_n hx hb dX10_term_80 rfl (lv_at hl 1 rfl) ?_
                      refine lv_iload hx hb dX10_term_81 (lv_at hl 0 rfl) ?_
                      refine wl_ci (va_runV (As := [.int (nI i)]) (rest := []) ⟨hx, hb, hml, hown, hta⟩ (km_Mod_isConst l dC dI a k S1 (nI i) (wl_in (by omega) (by decide))) (cwV 1 hta gX10_121 rfl rfl rfl (by decide +kernel) ⟨Nat.le_of_ble_eq_true rfl, Nat.le_of_ble_eq_true rfl⟩) (wl_pR (C := RX10) (ci := 8) (q0 := 0) hK hP rfl (mr_0 a k S1)) rfl rfl hl.1 rfl (lv_room (Nat.le_of_ble_eq_true rfl)) dX10_term_83 ⟨Nat.zero_le _, Nat.zero_le _⟩) ?_
                      refine lv_if_eq (tgt := 103) hx hb dX10_term_86 (by decide) (fun c86 => ?_) (fun c86 => ?_)
                      · skip
                        rw [if_pos c86] at hR
                        refine lv_iinc (v := nI (i + 1)) (lv' := [(6, .int (nI (i + 1))), (0, .ref (a 0)), (1, .int o), (2, .int x1), (3, .int y1), (4, .int z1)]) hx hb dX10_term_103 hl (k := 0) rfl (nI_1 _) (by decide) rfl (fun ls hl => ?_)
                        refine lv_goto (tgt := 71) hx hb dX10_term_106 (by decide) ?_
                        exact ih (i + 1) S1 _ _ ls hR (by omega) hE (by omega) hP hD hS (lv_sub hl [0, 1, 2, 3, 4, 5] rfl)
                      · skip
                        rw [if_neg c86] at hR
                        refine lv_aload_n hx hb dX10_term_89 rfl (lv_at hl 1 rfl) ?_
                        refine va_get (D := (dC, dI)) (ci := 8) (v := .ref (a 7)) (C := RX10) (T := TX10) (N := 21) hx hb hta inX10 hown hK hP 0 (mr_0 a k S1) rfl 13 (by decide) hf51 (fun _ h9 => h9) rfl dX10_term_90 ?_
                        refine lv_iload hx hb dX10_term_93 (lv_at hl 0 rfl) ?_
                        refine lv_aload_n hx hb dX10_term_95 rfl (lv_at hl 1 rfl) ?_
                        refine va_get (D := (dC, dI)) (ci := 8) (v := .ref (a 6)) (C := RX10) (T := TX10) (N := 21) hx hb hta inX10 hown hK hP 0 (mr_0 a k S1) rfl 12 (by decide) hf47 (fun _ h9 => h9) rfl dX10_term_96 ?_
                        refine lv_iload hx hb dX10_term_99 (lv_at hl 0 rfl) ?_
                        refine va_lald hx hb hK hP 6 5 (mr_6 a k S1) rfl (wl_in (by omega) (by decide)) dX10_term_101 ?_
                        refine va_last hx hb hK hP hD hS 7 6 (mr_7 a k S1) rfl (wl_in (by omega) (by decide)) dX10_term_102 (fun H locs hP hD hS => ?_)
                        have hP := mp_L1 hP
                        have hD := md_L1 hD
                        refine lv_iinc (v := nI (i + 1)) (lv' := [(6, .int (nI (i + 1))), (0, .ref (a 0)), (1, .int o), (2, .int x1), (3, .int y1), (4, .int z1)]) hx hb dX10_term_103 hl (k := 0) rfl (nI_1 _) (by decide) rfl (fun ls hl => ?_)
                        refine lv_goto (tgt := 71) hx hb dX10_term_106 (by decide) ?_
                        exact ih (i + 1) (wL S1 1 ((nI i).toNatClampNeg) (fL S1 0 (nI i).toNatClampNeg)) _ _ ls hR (by omega) (XF.wL (by decide) hE) (by omega) hP hD hS (lv_sub hl [0, 1, 2, 3, 4, 5] rfl)
                exact L71 65 0 st _ _ ls hR (Nat.zero_le _) XF.rf (by omega) hP hD hS (lv_sub hl [0, 2, 3, 4, 5, 6] rfl)
              · skip
                rw [if_pos c56] at hR
                refine lv_aload_n hx hb dX10_term_59 rfl (lv_at hl 1 rfl) ?_
                refine lv_iload hx hb dX10_term_60 (lv_at hl 5 rfl) ?_
                refine wl_ci (va_runV (As := [.int z1]) (rest := []) ⟨hx, hb, hml, hown, hta⟩ (km_Mod_isConst l dC dI a k st z1 (qC c56)) (cwV 1 hta gX10_121 rfl rfl rfl (by decide +kernel) ⟨Nat.le_of_ble_eq_true rfl, Nat.le_of_ble_eq_true rfl⟩) (wl_pR (C := RX10) (ci := 8) (q0 := 0) hK hP rfl (mr_0 a k st)) rfl rfl hl.1 rfl (lv_room (Nat.le_of_ble_eq_true rfl)) dX10_term_62 ⟨Nat.zero_le _, Nat.zero_le _⟩) ?_
                refine lv_if_eq (tgt := 130) hx hb dX10_term_65 (by decide) (fun c65 => ?_) (fun c65 => ?_)
                · skip
                  rw [if_pos c65] at hR
                  refine lv_iload_n hx hb dX10_term_130 rfl (lv_at hl 2 rfl) ?_
                  refine lv_iconst (v := (1 : Int32)) hx hb dX10_term_131 (by decide) ?_
                  refine lv_icmp_le (tgt := 141) hx hb dX10_term_132 (by decide) (fun c132 => ?_) (fun c132 => ?_)
                  · skip
                    exact absurd c132 c16
                  · skip
                    refine lv_iload_n hx hb dX10_term_135 rfl (lv_at hl 2 rfl) ?_
                    refine lv_bipush (v := (6 : Int32)) hx hb dX10_term_136 (by decide) ?_
                    refine lv_icmp_lt (tgt := 153) hx hb dX10_term_138 (by decide) (fun c138 => ?_) (fun c138 => ?_)
                    · skip
                      rw [if_pos c138] at hR
                      have qy : vp_in y1 64 := qB (wm_l2 c132) (wm_l6 c138)
                      refine lv_iload_n hx hb dX10_term_153 rfl (lv_at hl 3 rfl) ?_
                      refine lv_iload_n hx hb dX10_term_154 rfl (lv_at hl 4 rfl) ?_
                      refine lv_icmp_le (tgt := 162) hx hb dX10_term_155 (by decide) (fun c155 => ?_) (fun c155 => ?_)
                      · skip
                        rw [if_pos c155] at hR
                        refine lv_iconst (v := (0 : Int32)) hx hb dX10_term_162 (by decide) ?_
                        refine lv_istore (lv' := [(6, .int (0 : Int32)), (5, .int (1 : Int32)), (0, .ref (a 0)), (1, .int o), (2, .int x1), (3, .int y1), (4, .int z1)]) hx hb dX10_term_163 hl (by decide) rfl (fun ls hl => ?_)
                        refine lv_iload hx hb dX10_term_165 (lv_at hl 0 rfl) ?_
                        refine lv_if_eq (tgt := 182) hx hb dX10_term_167 (by decide) (fun c167 => ?_) (fun c167 => ?_)
                        · skip
                          refine lv_aload_n hx hb dX10_term_182 rfl (lv_at hl 2 rfl) ?_
                          refine lv_iload_n hx hb dX10_term_183 rfl (lv_at hl 3 rfl) ?_
                          refine lv_iload_n hx hb dX10_term_184 rfl (lv_at hl 4 rfl) ?_
                          refine lv_iload_n hx hb dX10_term_185 rfl (lv_at hl 5 rfl) ?_
                          refine lv_iload hx hb dX10_term_186 (lv_at hl 6 rfl) ?_
                          refine wl_mi (va_runV (As := [.int o, .int x1, .int y1, .int z1]) (rest := []) ⟨hx, hb, hml, hown, hta⟩ (km_Mod_simple l dC dI a k st o x1 y1 z1 _ N hN h64 qA (fun h1 h2 h3 => qB h1 (wm_le16 h2)) (fun h => qB (by rw [h]; decide) (by rw [h]; decide))) (cwV 4 hta gX10_132 rfl rfl rfl (by decide +kernel) ⟨Nat.le_of_ble_eq_true rfl, Nat.le_of_ble_eq_true rfl⟩) (wl_pM (C := RX10) (ci := 8) (q0 := 0) hK hP hD rfl (mr_0 a k st)) rfl rfl hl.1 rfl (lv_room (Nat.le_of_ble_eq_true rfl)) dX10_term_188 ⟨Nat.zero_le _, Nat.zero_le _⟩) hP hD hS hAz (fun r188 u188 H locs hw188 hP hD hS => ?_)
                          have v188 : (fm_Mod_simple st o x1 y1 z1).1 = r188 := congrArg Prod.fst hw188.symm
                          have w188 : (fm_Mod_simple st o x1 y1 z1).2 = u188 := congrArg Prod.snd hw188.symm
                          have hf188 : XF [0, 1] [0, 1, 2, 3, 4] [0] st u188 := by rw [← w188]; exact ff_Mod_simple st o x1 y1 z1
                          try rw [v188] at hR
                          try rw [w188] at hR
                          exact W.iret (v := r188) hx hb hr (fun t ht hW => ⟨⟨_, _, rfl, hR, by rw [ht]; exact hP, va_K.moved hW.alike hK, hD⟩, hS.F ht⟩) hS.2.2 dX10_term_191
                        · skip
                          exact absurd c167 (by decide)
                      · skip
                        rw [if_neg c155] at hR
                        refine lv_iconst (v := (1 : Int32)) hx hb dX10_term_158 (by decide) ?_
                        refine lv_goto (tgt := 163) hx hb dX10_term_159 (by decide) ?_
                        refine lv_istore (lv' := [(6, .int (1 : Int32)), (5, .int (1 : Int32)), (0, .ref (a 0)), (1, .int o), (2, .int x1), (3, .int y1), (4, .int z1)]) hx hb dX10_term_163 hl (by decide) rfl (fun ls hl => ?_)
                        refine lv_iload hx hb dX10_term_165 (lv_at hl 0 rfl) ?_
                        refine lv_if_eq (tgt := 182) hx hb dX10_term_167 (by decide) (fun c167 => ?_) (fun c167 => ?_)
                        · skip
                          exact absurd c167 (by decide)
                        · skip
                          refine lv_aload_n hx hb dX10_term_170 rfl (lv_at hl 2 rfl) ?_
                          refine lv_iload_n hx hb dX10_term_171 rfl (lv_at hl 3 rfl) ?_
                          refine lv_iload_n hx hb dX10_term_172 rfl (lv_at hl 5 rfl) ?_
                          refine lv_iload_n hx hb dX10_term_173 rfl (lv_at hl 4 rfl) ?_
                          refine lv_iload hx hb dX10_term_174 (lv_at hl 6 rfl) ?_
                          refine wl_mi (va_runV (As := [.int o, .int y1, .int x1, .int z1]) (rest := []) ⟨hx, hb, hml, hown, hta⟩ (km_Mod_simple l dC dI a k st o y1 x1 z1 _ N hN h64 qy (fun _ _ _ => qA) (fun _ => qA)) (cwV 4 hta gX10_132 rfl rfl rfl (by decide +kernel) ⟨Nat.le_of_ble_eq_true rfl, Nat.le_of_ble_eq_true rfl⟩) (wl_pM (C := RX10) (ci := 8) (q0 := 0) hK hP hD rfl (mr_0 a k st)) rfl rfl hl.1 rfl (lv_room (Nat.le_of_ble_eq_true rfl)) dX10_term_176 ⟨Nat.zero_le _, Nat.zero_le _⟩) hP hD hS hAz (fun r176 u176 H locs hw176 hP hD hS => ?_)
                          have v176 : (fm_Mod_simple st o y1 x1 z1).1 = r176 := congrArg Prod.fst hw176.symm
                          have w176 : (fm_Mod_simple st o y1 x1 z1).2 = u176 := congrArg Prod.snd hw176.symm
                          have hf176 : XF [0, 1] [0, 1, 2, 3, 4] [0] st u176 := by rw [← w176]; exact ff_Mod_simple st o y1 x1 z1
                          try rw [v176] at hR
                          try rw [w176] at hR
                          refine lv_goto (tgt := 191) hx hb dX10_term_179 (by decide) ?_
                          exact W.iret (v := r176) hx hb hr (fun t ht hW => ⟨⟨_, _, rfl, hR, by rw [ht]; exact hP, va_K.moved hW.alike hK, hD⟩, hS.F ht⟩) hS.2.2 dX10_term_191
                    · skip
                      rw [if_neg c138] at hR
                      refine lv_iload_n hx hb dX10_term_141 rfl (lv_at hl 2 rfl) ?_
                      refine lv_bipush (v := (7 : Int32)) hx hb dX10_term_142 (by decide) ?_
                      refine lv_icmp_eq (tgt := 153) hx hb dX10_term_144 (by decide) (fun c144 => ?_) (fun c144 => ?_)
                      · skip
                        rw [if_pos c144] at hR
                        have qy : vp_in y1 64 := qB (by rw [c144]; decide) (by rw [c144]; decide)
                        refine lv_iload_n hx hb dX10_term_153 rfl (lv_at hl 3 rfl) ?_
                        refine lv_iload_n hx hb dX10_term_154 rfl (lv_at hl 4 rfl) ?_
                        refine lv_icmp_le (tgt := 162) hx hb dX10_term_155 (by decide) (fun c155 => ?_) (fun c155 => ?_)
                        · skip
                          rw [if_pos c155] at hR
                          refine lv_iconst (v := (0 : Int32)) hx hb dX10_term_162 (by decide) ?_
                          refine lv_istore (lv' := [(6, .int (0 : Int32)), (5, .int (1 : Int32)), (0, .ref (a 0)), (1, .int o), (2, .int x1), (3, .int y1), (4, .int z1)]) hx hb dX10_term_163 hl (by decide) rfl (fun ls hl => ?_)
                          refine lv_iload hx hb dX10_term_165 (lv_at hl 0 rfl) ?_
                          refine lv_if_eq (tgt := 182) hx hb dX10_term_167 (by decide) (fun c167 => ?_) (fun c167 => ?_)
                          · skip
                            refine lv_aload_n hx hb dX10_term_182 rfl (lv_at hl 2 rfl) ?_
                            refine lv_iload_n hx hb dX10_term_183 rfl (lv_at hl 3 rfl) ?_
                            refine lv_iload_n hx hb dX10_term_184 rfl (lv_at hl 4 rfl) ?_
                            refine lv_iload_n hx hb dX10_term_185 rfl (lv_at hl 5 rfl) ?_
                            refine lv_iload hx hb dX10_term_186 (lv_at hl 6 rfl) ?_
                            refine wl_mi (va_runV (As := [.int o, .int x1, .int y1, .int z1]) (rest := []) ⟨hx, hb, hml, hown, hta⟩ (km_Mod_simple l dC dI a k st o x1 y1 z1 _ N hN h64 qA (fun h1 h2 h3 => qB h1 (wm_le16 h2)) (fun h => qB (by rw [h]; decide) (by rw [h]; decide))) (cwV 4 hta gX10_132 rfl rfl rfl (by decide +kernel) ⟨Nat.le_of_ble_eq_true rfl, Nat.le_of_ble_eq_true rfl⟩) (wl_pM (C := RX10) (ci := 8) (q0 := 0) hK hP hD rfl (mr_0 a k st)) rfl rfl hl.1 rfl (lv_room (Nat.le_of_ble_eq_true rfl)) dX10_term_188 ⟨Nat.zero_le _, Nat.zero_le _⟩) hP hD hS hAz (fun r188 u188 H locs hw188 hP hD hS => ?_)
                            have v188 : (fm_Mod_simple st o x1 y1 z1).1 = r188 := congrArg Prod.fst hw188.symm
                            have w188 : (fm_Mod_simple st o x1 y1 z1).2 = u188 := congrArg Prod.snd hw188.symm
                            have hf188 : XF [0, 1] [0, 1, 2, 3, 4] [0] st u188 := by rw [← w188]; exact ff_Mod_simple st o x1 y1 z1
                            try rw [v188] at hR
                            try rw [w188] at hR
                            exact W.iret (v := r188) hx hb hr (fun t ht hW => ⟨⟨_, _, rfl, hR, by rw [ht]; exact hP, va_K.moved hW.alike hK, hD⟩, hS.F ht⟩) hS.2.2 dX10_term_191
                          · skip
                            exact absurd c167 (by decide)
                        · skip
                          rw [if_neg c155] at hR
                          refine lv_iconst (v := (1 : Int32)) hx hb dX10_term_158 (by decide) ?_
                          refine lv_goto (tgt := 163) hx hb dX10_term_159 (by decide) ?_
                          refine lv_istore (lv' := [(6, .int (1 : Int32)), (5, .int (1 : Int32)), (0, .ref (a 0)), (1, .int o), (2, .int x1), (3, .int y1), (4, .int z1)]) hx hb dX10_term_163 hl (by decide) rfl (fun ls hl => ?_)
                          refine lv_iload hx hb dX10_term_165 (lv_at hl 0 rfl) ?_
                          refine lv_if_eq (tgt := 182) hx hb dX10_term_167 (by decide) (fun c167 => ?_) (fun c167 => ?_)
                          · skip
                            exact absurd c167 (by decide)
                          · skip
                            refine lv_aload_n hx hb dX10_term_170 rfl (lv_at hl 2 rfl) ?_
                            refine lv_iload_n hx hb dX10_term_171 rfl (lv_at hl 3 rfl) ?_
                            refine lv_iload_n hx hb dX10_term_172 rfl (lv_at hl 5 rfl) ?_
                            refine lv_iload_n hx hb dX10_term_173 rfl (lv_at hl 4 rfl) ?_
                            refine lv_iload hx hb dX10_term_174 (lv_at hl 6 rfl) ?_
                            refine wl_mi (va_runV (As := [.int o, .int y1, .int x1, .int z1]) (rest := []) ⟨hx, hb, hml, hown, hta⟩ (km_Mod_simple l dC dI a k st o y1 x1 z1 _ N hN h64 qy (fun _ _ _ => qA) (fun _ => qA)) (cwV 4 hta gX10_132 rfl rfl rfl (by decide +kernel) ⟨Nat.le_of_ble_eq_true rfl, Nat.le_of_ble_eq_true rfl⟩) (wl_pM (C := RX10) (ci := 8) (q0 := 0) hK hP hD rfl (mr_0 a k st)) rfl rfl hl.1 rfl (lv_room (Nat.le_of_ble_eq_true rfl)) dX10_term_176 ⟨Nat.zero_le _, Nat.zero_le _⟩) hP hD hS hAz (fun r176 u176 H locs hw176 hP hD hS => ?_)
                            have v176 : (fm_Mod_simple st o y1 x1 z1).1 = r176 := congrArg Prod.fst hw176.symm
                            have w176 : (fm_Mod_simple st o y1 x1 z1).2 = u176 := congrArg Prod.snd hw176.symm
                            have hf176 : XF [0, 1] [0, 1, 2, 3, 4] [0] st u176 := by rw [← w176]; exact ff_Mod_simple st o y1 x1 z1
                            try rw [v176] at hR
                            try rw [w176] at hR
                            refine lv_goto (tgt := 191) hx hb dX10_term_179 (by decide) ?_
                            exact W.iret (v := r176) hx hb hr (fun t ht hW => ⟨⟨_, _, rfl, hR, by rw [ht]; exact hP, va_K.moved hW.alike hK, hD⟩, hS.F ht⟩) hS.2.2 dX10_term_191
                      · skip
                        rw [if_neg c144] at hR
                        refine lv_iload_n hx hb dX10_term_147 rfl (lv_at hl 2 rfl) ?_
                        refine lv_bipush (v := (13 : Int32)) hx hb dX10_term_148 (by decide) ?_
                        refine lv_icmp_ne (tgt := 162) hx hb dX10_term_150 (by decide) (fun c150 => ?_) (fun c150 => ?_)
                        · skip
                          rw [if_neg c150] at hR
                          refine lv_iconst (v := (0 : Int32)) hx hb dX10_term_162 (by decide) ?_
                          refine lv_istore (lv' := [(6, .int (0 : Int32)), (5, .int (1 : Int32)), (0, .ref (a 0)), (1, .int o), (2, .int x1), (3, .int y1), (4, .int z1)]) hx hb dX10_term_163 hl (by decide) rfl (fun ls hl => ?_)
                          refine lv_iload hx hb dX10_term_165 (lv_at hl 0 rfl) ?_
                          refine lv_if_eq (tgt := 182) hx hb dX10_term_167 (by decide) (fun c167 => ?_) (fun c167 => ?_)
                          · skip
                            refine lv_aload_n hx hb dX10_term_182 rfl (lv_at hl 2 rfl) ?_
                            refine lv_iload_n hx hb dX10_term_183 rfl (lv_at hl 3 rfl) ?_
                            refine lv_iload_n hx hb dX10_term_184 rfl (lv_at hl 4 rfl) ?_
                            refine lv_iload_n hx hb dX10_term_185 rfl (lv_at hl 5 rfl) ?_
                            refine lv_iload hx hb dX10_term_186 (lv_at hl 6 rfl) ?_
                            refine wl_mi (va_runV (As := [.int o, .int x1, .int y1, .int z1]) (rest := []) ⟨hx, hb, hml, hown, hta⟩ (km_Mod_simple l dC dI a k st o x1 y1 z1 _ N hN h64 qA (fun h1 h2 h3 => qB h1 (wm_le16 h2)) (fun h => qB (by rw [h]; decide) (by rw [h]; decide))) (cwV 4 hta gX10_132 rfl rfl rfl (by decide +kernel) ⟨Nat.le_of_ble_eq_true rfl, Nat.le_of_ble_eq_true rfl⟩) (wl_pM (C := RX10) (ci := 8) (q0 := 0) hK hP hD rfl (mr_0 a k st)) rfl rfl hl.1 rfl (lv_room (Nat.le_of_ble_eq_true rfl)) dX10_term_188 ⟨Nat.zero_le _, Nat.zero_le _⟩) hP hD hS hAz (fun r188 u188 H locs hw188 hP hD hS => ?_)
                            have v188 : (fm_Mod_simple st o x1 y1 z1).1 = r188 := congrArg Prod.fst hw188.symm
                            have w188 : (fm_Mod_simple st o x1 y1 z1).2 = u188 := congrArg Prod.snd hw188.symm
                            have hf188 : XF [0, 1] [0, 1, 2, 3, 4] [0] st u188 := by rw [← w188]; exact ff_Mod_simple st o x1 y1 z1
                            try rw [v188] at hR
                            try rw [w188] at hR
                            exact W.iret (v := r188) hx hb hr (fun t ht hW => ⟨⟨_, _, rfl, hR, by rw [ht]; exact hP, va_K.moved hW.alike hK, hD⟩, hS.F ht⟩) hS.2.2 dX10_term_191
                          · skip
                            exact absurd c167 (by decide)
                        · skip
                          rw [if_pos c150] at hR
                          have qy : vp_in y1 64 := qB (by rw [c150]; decide) (by rw [c150]; decide)
                          refine lv_iload_n hx hb dX10_term_153 rfl (lv_at hl 3 rfl) ?_
                          refine lv_iload_n hx hb dX10_term_154 rfl (lv_at hl 4 rfl) ?_
                          refine lv_icmp_le (tgt := 162) hx hb dX10_term_155 (by decide) (fun c155 => ?_) (fun c155 => ?_)
                          · skip
                            rw [if_pos c155] at hR
                            refine lv_iconst (v := (0 : Int32)) hx hb dX10_term_162 (by decide) ?_
                            refine lv_istore (lv' := [(6, .int (0 : Int32)), (5, .int (1 : Int32)), (0, .ref (a 0)), (1, .int o), (2, .int x1), (3, .int y1), (4, .int z1)]) hx hb dX10_term_163 hl (by decide) rfl (fun ls hl => ?_)
                            refine lv_iload hx hb dX10_term_165 (lv_at hl 0 rfl) ?_
                            refine lv_if_eq (tgt := 182) hx hb dX10_term_167 (by decide) (fun c167 => ?_) (fun c167 => ?_)
                            · skip
                              refine lv_aload_n hx hb dX10_term_182 rfl (lv_at hl 2 rfl) ?_
                              refine lv_iload_n hx hb dX10_term_183 rfl (lv_at hl 3 rfl) ?_
                              refine lv_iload_n hx hb dX10_term_184 rfl (lv_at hl 4 rfl) ?_
                              refine lv_iload_n hx hb dX10_term_185 rfl (lv_at hl 5 rfl) ?_
                              refine lv_iload hx hb dX10_term_186 (lv_at hl 6 rfl) ?_
                              refine wl_mi (va_runV (As := [.int o, .int x1, .int y1, .int z1]) (rest := []) ⟨hx, hb, hml, hown, hta⟩ (km_Mod_simple l dC dI a k st o x1 y1 z1 _ N hN h64 qA (fun h1 h2 h3 => qB h1 (wm_le16 h2)) (fun h => qB (by rw [h]; decide) (by rw [h]; decide))) (cwV 4 hta gX10_132 rfl rfl rfl (by decide +kernel) ⟨Nat.le_of_ble_eq_true rfl, Nat.le_of_ble_eq_true rfl⟩) (wl_pM (C := RX10) (ci := 8) (q0 := 0) hK hP hD rfl (mr_0 a k st)) rfl rfl hl.1 rfl (lv_room (Nat.le_of_ble_eq_true rfl)) dX10_term_188 ⟨Nat.zero_le _, Nat.zero_le _⟩) hP hD hS hAz (fun r188 u188 H locs hw188 hP hD hS => ?_)
                              have v188 : (fm_Mod_simple st o x1 y1 z1).1 = r188 := congrArg Prod.fst hw188.symm
                              have w188 : (fm_Mod_simple st o x1 y1 z1).2 = u188 := congrArg Prod.snd hw188.symm
                              have hf188 : XF [0, 1] [0, 1, 2, 3, 4] [0] st u188 := by rw [← w188]; exact ff_Mod_simple st o x1 y1 z1
                              try rw [v188] at hR
                              try rw [w188] at hR
                              exact W.iret (v := r188) hx hb hr (fun t ht hW => ⟨⟨_, _, rfl, hR, by rw [ht]; exact hP, va_K.moved hW.alike hK, hD⟩, hS.F ht⟩) hS.2.2 dX10_term_191
                            · skip
                              exact absurd c167 (by decide)
                          · skip
                            rw [if_neg c155] at hR
                            refine lv_iconst (v := (1 : Int32)) hx hb dX10_term_158 (by decide) ?_
                            refine lv_goto (tgt := 163) hx hb dX10_term_159 (by decide) ?_
                            refine lv_istore (lv' := [(6, .int (1 : Int32)), (5, .int (1 : Int32)), (0, .ref (a 0)), (1, .int o), (2, .int x1), (3, .int y1), (4, .int z1)]) hx hb dX10_term_163 hl (by decide) rfl (fun ls hl => ?_)
                            refine lv_iload hx hb dX10_term_165 (lv_at hl 0 rfl) ?_
                            refine lv_if_eq (tgt := 182) hx hb dX10_term_167 (by decide) (fun c167 => ?_) (fun c167 => ?_)
                            · skip
                              exact absurd c167 (by decide)
                            · skip
                              refine lv_aload_n hx hb dX10_term_170 rfl (lv_at hl 2 rfl) ?_
                              refine lv_iload_n hx hb dX10_term_171 rfl (lv_at hl 3 rfl) ?_
                              refine lv_iload_n hx hb dX10_term_172 rfl (lv_at hl 5 rfl) ?_
                              refine lv_iload_n hx hb dX10_term_173 rfl (lv_at hl 4 rfl) ?_
                              refine lv_iload hx hb dX10_term_174 (lv_at hl 6 rfl) ?_
                              refine wl_mi (va_runV (As := [.int o, .int y1, .int x1, .int z1]) (rest := []) ⟨hx, hb, hml, hown, hta⟩ (km_Mod_simple l dC dI a k st o y1 x1 z1 _ N hN h64 qy (fun _ _ _ => qA) (fun _ => qA)) (cwV 4 hta gX10_132 rfl rfl rfl (by decide +kernel) ⟨Nat.le_of_ble_eq_true rfl, Nat.le_of_ble_eq_true rfl⟩) (wl_pM (C := RX10) (ci := 8) (q0 := 0) hK hP hD rfl (mr_0 a k st)) rfl rfl hl.1 rfl (lv_room (Nat.le_of_ble_eq_true rfl)) dX10_term_176 ⟨Nat.zero_le _, Nat.zero_le _⟩) hP hD hS hAz (fun r176 u176 H locs hw176 hP hD hS => ?_)
                              have v176 : (fm_Mod_simple st o y1 x1 z1).1 = r176 := congrArg Prod.fst hw176.symm
                              have w176 : (fm_Mod_simple st o y1 x1 z1).2 = u176 := congrArg Prod.snd hw176.symm
                              have hf176 : XF [0, 1] [0, 1, 2, 3, 4] [0] st u176 := by rw [← w176]; exact ff_Mod_simple st o y1 x1 z1
                              try rw [v176] at hR
                              try rw [w176] at hR
                              refine lv_goto (tgt := 191) hx hb dX10_term_179 (by decide) ?_
                              exact W.iret (v := r176) hx hb hr (fun t ht hW => ⟨⟨_, _, rfl, hR, by rw [ht]; exact hP, va_K.moved hW.alike hK, hD⟩, hS.F ht⟩) hS.2.2 dX10_term_191
                · skip
                  rw [if_neg c65] at hR
                  refine lv_iconst (v := (0 : Int32)) hx hb dX10_term_68 (by decide) ?_
                  refine lv_istore (lv' := [(6, .int (0 : Int32)), (5, .int (1 : Int32)), (0, .ref (a 0)), (1, .int o), (2, .int x1), (3, .int y1), (4, .int z1)]) hx hb dX10_term_69 hl (by decide) rfl (fun ls hl => ?_)
                  have L71 : ∀ (n : Nat) (i : Nat) (S1 : XS) (H : Heap) (locs : List Loc) (ls : Array Slot), fm_Mod_term_L71 st o x1 y1 z1 n i S1 = R → (i ≤ N) → (XF [] [] [1] st S1) → N - i < n → va_P (dC, dI) vwCl (mw a k S1) H → va_D A (mw a k S1) → va_S A s.heap H locs → lv_has ls 7 [(6, .int (nI i)), (0, .ref (a 0)), (1, .int o), (2, .int x1), (3, .int y1), (4, .int z1)] → W p l e (headSpec wsX10_term ({ frames := 4, cells := 0, slots := 0, locals := 103 })).room s m ([.ref (a 0), .int o, .int x1, .int y1, .int z1] : List Value).toArray below meth c H locs 0 0 (MQ below (va_Qi (fun r9 u9 => (r9, u9) = R) (wl_at (dC, dI) vwCl (mt k) (mw a k) A) A) ([.ref (a 0), .int o, .int x1, .int y1, .int z1] : List Value).toArray s 0 0 A) (F0 m 71 ls []) := by
                    intro n
                    induction n with
                    | zero =>
                      intro i S1 H locs ls hR hi hE hm hP hD hS hl
                      exact absurd hm (Nat.not_lt_zero _)
                    | succ n ih =>
                      intro i S1 H locs ls hR hi hE hm hP hD hS hl
                      rw [fm_Mod_term_L71] at hR
                      refine lv_iload hx hb dX10_term_71 (lv_at hl 0 rfl) ?_
                      refine lv_aload_n hx hb dX10_term_73 rfl (lv_at hl 1 rfl) ?_
                      refine va_get (D := (dC, dI)) (ci := 8) (v := .int (gI S1 0)) (C := RX10) (T := TX10) (N := 21) hx hb hta inX10 hown hK hP 0 (mr_0 a k S1) rfl 0 (by decide) hf7 (fun _ h9 => h9) rfl dX10_term_74 ?_
                      refine lv_icmp_ge (tgt := 109) hx hb dX10_term_77 (by decide) (fun c77 => ?_) (fun c77 => ?_)
                      · skip
                        rw [if_pos c77] at hR
                        refine lv_aload_n hx hb dX10_term_109 rfl (lv_at hl 1 rfl) ?_
                        refine lv_aload_n hx hb dX10_term_110 rfl (lv_at hl 1 rfl) ?_
                        refine lv_iload_n hx hb dX10_term_111 rfl (lv_at hl 2 rfl) ?_
                        refine lv_iload_n hx hb dX10_term_112 rfl (lv_at hl 3 rfl) ?_
                        refine lv_iload_n hx hb dX10_term_113 rfl (lv_at hl 4 rfl) ?_
                        refine wl_ci (va_runV (As := [.int o, .int x1, .int y1]) (rest := [.ref (a 0)]) ⟨hx, hb, hml, hown, hta⟩ (km_Mod_widthOf l dC dI a k S1 o x1 y1 qA (fun h => qB (by rw [h]; decide) (by rw [h]; decide))) (cwV 3 hta gX10_124 rfl rfl rfl (by decide +kernel) ⟨Nat.le_of_ble_eq_true rfl, Nat.le_of_ble_eq_true rfl⟩) (wl_pR (C := RX10) (ci := 8) (q0 := 0) hK hP rfl (mr_0 a k S1)) rfl rfl hl.1 rfl (lv_room (Nat.le_of_ble_eq_true rfl)) dX10_term_114 ⟨Nat.zero_le _, Nat.zero_le _⟩) ?_
                        refine lv_aload_n hx hb dX10_term_117 rfl (lv_at hl 1 rfl) ?_
                        refine lv_iload_n hx hb dX10_term_118 rfl (lv_at hl 2 rfl) ?_
                        refine lv_iload_n hx hb dX10_term_119 rfl (lv_at hl 3 rfl) ?_
                        refine lv_iload_n hx hb dX10_term_120 rfl (lv_at hl 4 rfl) ?_
                        refine lv_iload hx hb dX10_term_121 (lv_at hl 5 rfl) ?_
                        refine wl_cl (va_runV (As := [.int o, .int x1, .int y1, .int z1]) (rest := [.int (fm_Mod_widthOf S1 o x1 y1), .ref (a 0)]) ⟨hx, hb, hml, hown, hta⟩ (km_Mod_result l dC dI a k S1 o x1 y1 z1 qA qB qC qT) (cwV 4 hta gX10_128 rfl rfl rfl (by decide +kernel) ⟨Nat.le_of_ble_eq_true rfl, Nat.le_of_ble_eq_true rfl⟩) (wl_pR (C := RX10) (ci := 8) (q0 := 0) hK hP rfl (mr_0 a k S1)) rfl rfl hl.1 rfl (lv_room (Nat.le_of_ble_eq_true rfl)) dX10_term_123 ⟨Nat.zero_le _, Nat.zero_le _⟩) ?_
                        refine wl_mi (va_runV (As := [.int (fm_Mod_widthOf S1 o x1 y1), .long (fm_Mod_result S1 o x1 y1 z1)]) (rest := []) ⟨hx, hb, hml, hown, hta⟩ (km_Mod_constantOf l dC dI a k S1 (fm_Mod_widthOf S1 o x1 y1) (fm_Mod_result S1 o x1 y1 z1) _ N ((hE.I 0 (by decide)).trans hN) h64) (cwV 2 hta gX10_84 rfl rfl rfl (by decide +kernel) ⟨Nat.le_of_ble_eq_true rfl, Nat.le_of_ble_eq_true rfl⟩) (wl_pM (C := RX10) (ci := 8) (q0 := 0) hK hP hD rfl (mr_0 a k S1)) rfl rfl hl.1 rfl (lv_room (Nat.le_of_ble_eq_true rfl)) dX10_term_126 ⟨Nat.zero_le _, Nat.zero_le _⟩) hP hD hS hAz (fun r126 u126 H locs hw126 hP hD hS => ?_)
                        have v126 : (fm_Mod_constantOf S1 (fm_Mod_widthOf S1 o x1 y1) (fm_Mod_result S1 o x1 y1 z1)).1 = r126 := congrArg Prod.fst hw126.symm
                        have w126 : (fm_Mod_constantOf S1 (fm_Mod_widthOf S1 o x1 y1) (fm_Mod_result S1 o x1 y1 z1)).2 = u126 := congrArg Prod.snd hw126.symm
                        have hf126 : XF [0] [0, 1, 2, 3, 4] [0] S1 u126 := by rw [← w126]; exact ff_Mod_constantOf S1 (fm_Mod_widthOf S1 o x1 y1) (fm_Mod_result S1 o x1 y1 z1)
                        try rw [v126] at hR
                        try rw [w126] at hR
                        exact W.iret (v := r126) hx hb hr (fun t ht hW => ⟨⟨_, _, rfl, hR, by rw [ht]; exact hP, va_K.moved hW.alike hK, hD⟩, hS.F ht⟩) hS.2.2 dX10_term_129
                      · skip
                        rw [if_neg c77] at hR
                        have hlt : i < N := wl_lt (by rw [← hN, ← hE.I 0 (by decide)]; exact c77) (by omega)
                        refine lv_aload_n hx hb dX10_term_80 rfl (lv_at hl 1 rfl) ?_
                        refine lv_iload hx hb dX10_term_81 (lv_at hl 0 rfl) ?_
                        refine wl_ci (va_runV (As := [.int (nI i)]) (rest := []) ⟨hx, hb, hml, hown, hta⟩ (km_Mod_isConst l dC dI a k S1 (nI i) (wl_in (by omega) (by decide))) (cwV 1 hta gX10_121 rfl rfl rfl (by decide +kernel) ⟨Nat.le_of_ble_eq_true rfl, Nat.le_of_ble_eq_true rfl⟩) (wl_pR (C := RX10) (ci := 8) (q0 := 0) hK hP rfl (mr_0 a k S1)) rfl rfl hl.1 rfl (lv_room (Nat.le_of_ble_eq_true rfl)) dX10_term_83 ⟨Nat.zero_le _, Nat.zero_le _⟩) ?_
                        refine lv_if_eq (tgt := 103) hx hb dX10_term_86 (by decide) (fun c86 => ?_) (fun c86 => ?_)
                        · skip
                          rw [if_pos c86] at hR
                          refine lv_iinc (v := nI (i + 1)) (lv' := [(6, .int (nI (i + 1))), (0, .ref (a 0)), (1, .int o), (2, .int x1), (3, .int y1), (4, .int z1)]) hx hb dX10_term_103 hl (k := 0) rfl (nI_1 _) (by decide) rfl (fun ls hl => ?_)
                          refine lv_goto (tgt := 71) hx hb dX10_term_106 (by decide) ?_
                          exact ih (i + 1) S1 _ _ ls hR (by omega) hE (by omega) hP hD hS (lv_sub hl [0, 1, 2, 3, 4, 5] rfl)
                        · skip
                          rw [if_neg c86] at hR
                          refine lv_aload_n hx hb dX10_term_89 rfl (lv_at hl 1 rfl) ?_
                          refine va_get (D := (dC, dI)) (ci := 8) (v := .ref (a 7)) (C := RX10) (T := TX10) (N := 21) hx hb hta inX10 hown hK hP 0 (mr_0 a k S1) rfl 13 (by decide) hf51 (fun _ h9 => h9) rfl dX10_term_90 ?_
                          refine lv_iload hx hb dX10_term_93 (lv_at hl 0 rfl) ?_
                          refine lv_aload_n hx hb dX10_term_95 rfl (lv_at hl 1 rfl) ?_
                          refine va_get (D := (dC, dI)) (ci := 8) (v := .ref (a 6)) (C := RX10) (T := TX10) (N := 21) hx hb hta inX10 hown hK hP 0 (mr_0 a k S1) rfl 12 (by decide) hf47 (fun _ h9 => h9) rfl dX10_term_96 ?_
                          refine lv_iload hx hb dX10_term_99 (lv_at hl 0 rfl) ?_
                          refine va_lald hx hb hK hP 6 5 (mr_6 a k S1) rfl (wl_in (by omega) (by decide)) dX10_term_101 ?_
                          refine va_last hx hb hK hP hD hS 7 6 (mr_7 a k S1) rfl (wl_in (by omega) (by decide)) dX10_term_102 (fun H locs hP hD hS => ?_)
                          have hP := mp_L1 hP
                          have hD := md_L1 hD
                          refine lv_iinc (v := nI (i + 1)) (lv' := [(6, .int (nI (i + 1))), (0, .ref (a 0)), (1, .int o), (2, .int x1), (3, .int y1), (4, .int z1)]) hx hb dX10_term_103 hl (k := 0) rfl (nI_1 _) (by decide) rfl (fun ls hl => ?_)
                          refine lv_goto (tgt := 71) hx hb dX10_term_106 (by decide) ?_
                          exact ih (i + 1) (wL S1 1 ((nI i).toNatClampNeg) (fL S1 0 (nI i).toNatClampNeg)) _ _ ls hR (by omega) (XF.wL (by decide) hE) (by omega) hP hD hS (lv_sub hl [0, 1, 2, 3, 4, 5] rfl)
                  exact L71 65 0 st _ _ ls hR (Nat.zero_le _) XF.rf (by omega) hP hD hS (lv_sub hl [0, 2, 3, 4, 5, 6] rfl)
  · skip
    rw [if_pos c9] at hR
    refine lv_iconst (v := (-1 : Int32)) hx hb dX10_term_12 (by decide) ?_
    exact W.iret (v := (-1 : Int32)) hx hb hr (fun t ht hW => ⟨⟨_, _, rfl, hR, by rw [ht]; exact hP, va_K.moved hW.alike hK, hD⟩, hS.F ht⟩) hS.2.2 dX10_term_13
