theorem term_0 {st ms : XS} {V N E Bt : Nat} (h : Rel st ms V N E Bt) (a b d : Int32) : (fx_PS_term st 0 a b d).1 = (fm_Mod_term ms 0 a b d).1 ∧ ∃ N2 : Nat, Rel (fx_PS_term st 0 a b d).2 (fm_Mod_term ms 0 a b d).2 V N2 E Bt := by
  have h64 := h.n64
  have no : ∀ {a b d : Int32}, fx_Maker_accepts st 0 a b d = 0 → fm_Mod_fits ms 0 a b d = 0 → (fx_PS_term st 0 a b d).1 = (fm_Mod_term ms 0 a b d).1 ∧ ∃ N2 : Nat, Rel (fx_PS_term st 0 a b d).2 (fm_Mod_term ms 0 a b d).2 V N2 E Bt := by
    intro a b d A F
    rw [fx_PS_term, A, if_pos rfl, tm_0, F, if_pos rfl]
    exact ⟨rfl, N, h⟩
  rcases h.has a with ⟨p, q⟩ | ⟨i, hi, rfl, p, q⟩
  · exact no (by rw [ac_0, if_pos p]) (by rw [fi_0, if_neg q])
  · have wi : fA ms 4 i = fA st 4 i := (h.sr i hi).2.1
    have iw : isW (fA st 4 i) := (h.xt.1 i hi).1
    have A : fx_Maker_accepts st 0 (nI i) b d = 1 := by rw [ac_0, if_neg p]
    have F : fm_Mod_fits ms 0 (nI i) b d = 1 := by rw [fi_0, if_pos q]
    rw [fx_PS_term, A, if_neg i10, tm_0, F, if_neg i10, mk_0, nt_o0, arc1, constN h hi]
    by_cases ka : fx_Terms_isConstant st (nI i) = 0
    · rw [if_pos ka, if_pos ka, if_pos rfl]
      exact ip_0 h hi b d
    · rw [if_neg ka, if_neg ka, if_neg i10]
      have k21 := wl_const ka
      rw [nI_clamp (by omega)] at k21
      exact foldN (b := 0) (c := 0) (wt := fA st 4 i) h hi k21 ⟨iw, iw, Or.inl ⟨by decide, rfl⟩⟩ (fun q => absurd q (by decide)) (fun q => absurd q (by decide)) (fun _ _ _ _ _ => by rw [opv_0, opv_0]) (by rw [wx_0, nI_clamp (by omega)]) (fun S eS => by rw [wm_0, nI_clamp (by omega), eS, wi])
theorem term_1 {st ms : XS} {V N E Bt : Nat} (h : Rel st ms V N E Bt) (a b d : Int32) : (fx_PS_term st 1 a b d).1 = (fm_Mod_term ms 1 a b d).1 ∧ ∃ N2 : Nat, Rel (fx_PS_term st 1 a b d).2 (fm_Mod_term ms 1 a b d).2 V N2 E Bt := by
  have h64 := h.n64
  have no : ∀ {a b d : Int32}, fx_Maker_accepts st 1 a b d = 0 → fm_Mod_fits ms 1 a b d = 0 → (fx_PS_term st 1 a b d).1 = (fm_Mod_term ms 1 a b d).1 ∧ ∃ N2 : Nat, Rel (fx_PS_term st 1 a b d).2 (fm_Mod_term ms 1 a b d).2 V N2 E Bt := by
    intro a b d A F
    rw [fx_PS_term, A, if_pos rfl, tm_1, F, if_pos rfl]
    exact ⟨rfl, N, h⟩
  rcases h.has a with ⟨p, q⟩ | ⟨i, hi, rfl, p, q⟩
  · exact no (by rw [ac_1, if_pos p]) (by rw [fi_1, if_neg q])
  · have wi : fA ms 4 i = fA st 4 i := (h.sr i hi).2.1
    have iw : isW (fA st 4 i) := (h.xt.1 i hi).1
    have A : fx_Maker_accepts st 1 (nI i) b d = 1 := by rw [ac_1, if_neg p]
    have F : fm_Mod_fits ms 1 (nI i) b d = 1 := by rw [fi_1, if_pos q]
    rw [fx_PS_term, A, if_neg i10, tm_1, F, if_neg i10, mk_1, nt_o1, arc1, constN h hi]
    by_cases ka : fx_Terms_isConstant st (nI i) = 0
    · rw [if_pos ka, if_pos ka, if_pos rfl]
      exact ip_1 h hi b d
    · rw [if_neg ka, if_neg ka, if_neg i10]
      have k21 := wl_const ka
      rw [nI_clamp (by omega)] at k21
      exact foldN (b := 0) (c := 0) (wt := fA st 4 i) h hi k21 ⟨iw, iw, Or.inl ⟨by decide, rfl⟩⟩ (fun q => absurd q (by decide)) (fun q => absurd q (by decide)) (fun _ _ _ _ _ => by rw [opv_1, opv_1]) (by rw [wx_1, nI_clamp (by omega)]) (fun S eS => by rw [wm_1, nI_clamp (by omega), eS, wi])
theorem term_2 {st ms : XS} {V N E Bt : Nat} (h : Rel st ms V N E Bt) (a b d : Int32) : (fx_PS_term st 2 a b d).1 = (fm_Mod_term ms 2 a b d).1 ∧ ∃ N2 : Nat, Rel (fx_PS_term st 2 a b d).2 (fm_Mod_term ms 2 a b d).2 V N2 E Bt := by
  have h64 := h.n64
  have no : ∀ {a b d : Int32}, fx_Maker_accepts st 2 a b d = 0 → fm_Mod_fits ms 2 a b d = 0 → (fx_PS_term st 2 a b d).1 = (fm_Mod_term ms 2 a b d).1 ∧ ∃ N2 : Nat, Rel (fx_PS_term st 2 a b d).2 (fm_Mod_term ms 2 a b d).2 V N2 E Bt := by
    intro a b d A F
    rw [fx_PS_term, A, if_pos rfl, tm_2, F, if_pos rfl]
    exact ⟨rfl, N, h⟩
  rcases h.has a with ⟨p, q⟩ | ⟨i, hi, rfl, p, q⟩
  · exact no (by rw [ac_2, if_pos p]) (by rw [fi_2, if_neg q])
  · rcases h.has b with ⟨p2, q2⟩ | ⟨j, hj, rfl, p2, q2⟩
    · exact no (by rw [ac_2, if_neg p, if_pos (alike0 p2)]) (by rw [fi_2, if_pos q, if_neg q2])
    · have wi : fA ms 4 i = fA st 4 i := (h.sr i hi).2.1
      have wj : fA ms 4 j = fA st 4 j := (h.sr j hj).2.1
      have iw : isW (fA st 4 i) := (h.xt.1 i hi).1
      by_cases w : fA st 4 i = fA st 4 j
      · have A : fx_Maker_accepts st 2 (nI i) (nI j) d = 1 := by rw [ac_2, if_neg p, alikeN (by omega) (by omega) p p2, if_pos w, if_neg i10, it_2, if_neg i10]
        have F : fm_Mod_fits ms 2 (nI i) (nI j) d = 1 := by rw [fi_2, if_pos q, if_pos q2, nI_clamp (n := i) (by omega), nI_clamp (n := j) (by omega), wi, wj, if_pos w.symm]
        rw [fx_PS_term, A, if_neg i10, tm_2, F, if_neg i10, mk_2, nt_o2, arc2, constN h hi, constN h hj]
        by_cases ka : fx_Terms_isConstant st (nI i) = 0
        · rw [if_pos ka, if_pos ka, if_pos rfl]
          by_cases le : nI i ≤ nI j
          · rw [if_pos le, if_pos le]
            exact ip_2 h hi hj w d
          · rw [if_neg le, if_neg le]
            exact ip_2 h hj hi w.symm d
        · rw [if_neg ka, if_neg ka]
          by_cases kb : fx_Terms_isConstant st (nI j) = 0
          · rw [if_pos kb, if_pos kb, if_pos rfl]
            by_cases le : nI i ≤ nI j
            · rw [if_pos le, if_pos le]
              exact ip_2 h hi hj w d
            · rw [if_neg le, if_neg le]
              exact ip_2 h hj hi w.symm d
          · rw [if_neg kb, if_neg kb, if_neg i10]
            have k21 := wl_const ka
            rw [nI_clamp (by omega)] at k21
            have k22 := wl_const kb
            rw [nI_clamp (by omega)] at k22
            exact foldN (b := nI j) (c := 0) (wt := fA st 4 i) h hi k21 (by rw [nI_clamp (n := j) (by omega)]; exact ⟨iw, iw, Or.inr (Or.inl ⟨by decide, w.symm, rfl⟩)⟩) (fun _ => ⟨j, hj, rfl, rfl, k22⟩) (fun q => absurd q (by decide)) (fun _ _ _ _ _ => rfl) (by rw [wx_2, nI_clamp (by omega)]) (fun S eS => by rw [wm_2, nI_clamp (by omega), eS, wi])
      · exact no (by rw [ac_2, if_neg p, alikeN (by omega) (by omega) p p2, if_neg w, if_pos rfl]) (by rw [fi_2, if_pos q, if_pos q2, nI_clamp (n := i) (by omega), nI_clamp (n := j) (by omega), wi, wj, if_neg (fun e => w e.symm)])
theorem term_3 {st ms : XS} {V N E Bt : Nat} (h : Rel st ms V N E Bt) (a b d : Int32) : (fx_PS_term st 3 a b d).1 = (fm_Mod_term ms 3 a b d).1 ∧ ∃ N2 : Nat, Rel (fx_PS_term st 3 a b d).2 (fm_Mod_term ms 3 a b d).2 V N2 E Bt := by
  have h64 := h.n64
  have no : ∀ {a b d : Int32}, fx_Maker_accepts st 3 a b d = 0 → fm_Mod_fits ms 3 a b d = 0 → (fx_PS_term st 3 a b d).1 = (fm_Mod_term ms 3 a b d).1 ∧ ∃ N2 : Nat, Rel (fx_PS_term st 3 a b d).2 (fm_Mod_term ms 3 a b d).2 V N2 E Bt := by
    intro a b d A F
    rw [fx_PS_term, A, if_pos rfl, tm_3, F, if_pos rfl]
    exact ⟨rfl, N, h⟩
  rcases h.has a with ⟨p, q⟩ | ⟨i, hi, rfl, p, q⟩
  · exact no (by rw [ac_3, if_pos p]) (by rw [fi_3, if_neg q])
  · rcases h.has b with ⟨p2, q2⟩ | ⟨j, hj, rfl, p2, q2⟩
    · exact no (by rw [ac_3, if_neg p, if_pos (alike0 p2)]) (by rw [fi_3, if_pos q, if_neg q2])
    · have wi : fA ms 4 i = fA st 4 i := (h.sr i hi).2.1
      have wj : fA ms 4 j = fA st 4 j := (h.sr j hj).2.1
      have iw : isW (fA st 4 i) := (h.xt.1 i hi).1
      by_cases w : fA st 4 i = fA st 4 j
      · have A : fx_Maker_accepts st 3 (nI i) (nI j) d = 1 := by rw [ac_3, if_neg p, alikeN (by omega) (by omega) p p2, if_pos w, if_neg i10, it_3, if_neg i10]
        have F : fm_Mod_fits ms 3 (nI i) (nI j) d = 1 := by rw [fi_3, if_pos q, if_pos q2, nI_clamp (n := i) (by omega), nI_clamp (n := j) (by omega), wi, wj, if_pos w.symm]
        rw [fx_PS_term, A, if_neg i10, tm_3, F, if_neg i10, mk_3, nt_o3, arc2, constN h hi, constN h hj]
        by_cases ka : fx_Terms_isConstant st (nI i) = 0
        · rw [if_pos ka, if_pos ka, if_pos rfl]
          by_cases le : nI i ≤ nI j
          · rw [if_pos le, if_pos le]
            exact ip_3 h hi hj w d
          · rw [if_neg le, if_neg le]
            exact ip_3 h hj hi w.symm d
        · rw [if_neg ka, if_neg ka]
          by_cases kb : fx_Terms_isConstant st (nI j) = 0
          · rw [if_pos kb, if_pos kb, if_pos rfl]
            by_cases le : nI i ≤ nI j
            · rw [if_pos le, if_pos le]
              exact ip_3 h hi hj w d
            · rw [if_neg le, if_neg le]
              exact ip_3 h hj hi w.symm d
          · rw [if_neg kb, if_neg kb, if_neg i10]
            have k21 := wl_const ka
            rw [nI_clamp (by omega)] at k21
            have k22 := wl_const kb
            rw [nI_clamp (by omega)] at k22
            exact foldN (b := nI j) (c := 0) (wt := fA st 4 i) h hi k21 (by rw [nI_clamp (n := j) (by omega)]; exact ⟨iw, iw, Or.inr (Or.inl ⟨by decide, w.symm, rfl⟩)⟩) (fun _ => ⟨j, hj, rfl, rfl, k22⟩) (fun q => absurd q (by decide)) (fun _ _ _ _ _ => rfl) (by rw [wx_3, nI_clamp (by omega)]) (fun S eS => by rw [wm_3, nI_clamp (by omega), eS, wi])
      · exact no (by rw [ac_3, if_neg p, alikeN (by omega) (by omega) p p2, if_neg w, if_pos rfl]) (by rw [fi_3, if_pos q, if_pos q2, nI_clamp (n := i) (by omega), nI_clamp (n := j) (by omega), wi, wj, if_neg (fun e => w e.symm)])
theorem term_4 {st ms : XS} {V N E Bt : Nat} (h : Rel st ms V N E Bt) (a b d : Int32) : (fx_PS_term st 4 a b d).1 = (fm_Mod_term ms 4 a b d).1 ∧ ∃ N2 : Nat, Rel (fx_PS_term st 4 a b d).2 (fm_Mod_term ms 4 a b d).2 V N2 E Bt := by
  have h64 := h.n64
  have no : ∀ {a b d : Int32}, fx_Maker_accepts st 4 a b d = 0 → fm_Mod_fits ms 4 a b d = 0 → (fx_PS_term st 4 a b d).1 = (fm_Mod_term ms 4 a b d).1 ∧ ∃ N2 : Nat, Rel (fx_PS_term st 4 a b d).2 (fm_Mod_term ms 4 a b d).2 V N2 E Bt := by
    intro a b d A F
    rw [fx_PS_term, A, if_pos rfl, tm_4, F, if_pos rfl]
    exact ⟨rfl, N, h⟩
  rcases h.has a with ⟨p, q⟩ | ⟨i, hi, rfl, p, q⟩
  · exact no (by rw [ac_4, if_pos p]) (by rw [fi_4, if_neg q])
  · rcases h.has b with ⟨p2, q2⟩ | ⟨j, hj, rfl, p2, q2⟩
    · exact no (by rw [ac_4, if_neg p, if_pos (alike0 p2)]) (by rw [fi_4, if_pos q, if_neg q2])
    · have wi : fA ms 4 i = fA st 4 i := (h.sr i hi).2.1
      have wj : fA ms 4 j = fA st 4 j := (h.sr j hj).2.1
      have iw : isW (fA st 4 i) := (h.xt.1 i hi).1
      by_cases w : fA st 4 i = fA st 4 j
      · have A : fx_Maker_accepts st 4 (nI i) (nI j) d = 1 := by rw [ac_4, if_neg p, alikeN (by omega) (by omega) p p2, if_pos w, if_neg i10, it_4, if_neg i10]
        have F : fm_Mod_fits ms 4 (nI i) (nI j) d = 1 := by rw [fi_4, if_pos q, if_pos q2, nI_clamp (n := i) (by omega), nI_clamp (n := j) (by omega), wi, wj, if_pos w.symm]
        rw [fx_PS_term, A, if_neg i10, tm_4, F, if_neg i10, mk_4, nt_o4, arc2, constN h hi, constN h hj]
        by_cases ka : fx_Terms_isConstant st (nI i) = 0
        · rw [if_pos ka, if_pos ka, if_pos rfl]
          by_cases le : nI i ≤ nI j
          · rw [if_pos le, if_pos le]
            exact ip_4 h hi hj w d
          · rw [if_neg le, if_neg le]
            exact ip_4 h hj hi w.symm d
        · rw [if_neg ka, if_neg ka]
          by_cases kb : fx_Terms_isConstant st (nI j) = 0
          · rw [if_pos kb, if_pos kb, if_pos rfl]
            by_cases le : nI i ≤ nI j
            · rw [if_pos le, if_pos le]
              exact ip_4 h hi hj w d
            · rw [if_neg le, if_neg le]
              exact ip_4 h hj hi w.symm d
          · rw [if_neg kb, if_neg kb, if_neg i10]
            have k21 := wl_const ka
            rw [nI_clamp (by omega)] at k21
            have k22 := wl_const kb
            rw [nI_clamp (by omega)] at k22
            exact foldN (b := nI j) (c := 0) (wt := fA st 4 i) h hi k21 (by rw [nI_clamp (n := j) (by omega)]; exact ⟨iw, iw, Or.inr (Or.inl ⟨by decide, w.symm, rfl⟩)⟩) (fun _ => ⟨j, hj, rfl, rfl, k22⟩) (fun q => absurd q (by decide)) (fun _ _ _ _ _ => rfl) (by rw [wx_4, nI_clamp (by omega)]) (fun S eS => by rw [wm_4, nI_clamp (by omega), eS, wi])
      · exact no (by rw [ac_4, if_neg p, alikeN (by omega) (by omega) p p2, if_neg w, if_pos rfl]) (by rw [fi_4, if_pos q, if_pos q2, nI_clamp (n := i) (by omega), nI_clamp (n := j) (by omega), wi, wj, if_neg (fun e => w e.symm)])
theorem term_5 {st ms : XS} {V N E Bt : Nat} (h : Rel st ms V N E Bt) (a b d : Int32) : (fx_PS_term st 5 a b d).1 = (fm_Mod_term ms 5 a b d).1 ∧ ∃ N2 : Nat, Rel (fx_PS_term st 5 a b d).2 (fm_Mod_term ms 5 a b d).2 V N2 E Bt := by
  have h64 := h.n64
  have no : ∀ {a b d : Int32}, fx_Maker_accepts st 5 a b d = 0 → fm_Mod_fits ms 5 a b d = 0 → (fx_PS_term st 5 a b d).1 = (fm_Mod_term ms 5 a b d).1 ∧ ∃ N2 : Nat, Rel (fx_PS_term st 5 a b d).2 (fm_Mod_term ms 5 a b d).2 V N2 E Bt := by
    intro a b d A F
    rw [fx_PS_term, A, if_pos rfl, tm_5, F, if_pos rfl]
    exact ⟨rfl, N, h⟩
  rcases h.has a with ⟨p, q⟩ | ⟨i, hi, rfl, p, q⟩
  · exact no (by rw [ac_5, if_pos p]) (by rw [fi_5, if_neg q])
  · rcases h.has b with ⟨p2, q2⟩ | ⟨j, hj, rfl, p2, q2⟩
    · exact no (by rw [ac_5, if_neg p, if_pos (alike0 p2)]) (by rw [fi_5, if_pos q, if_neg q2])
    · have wi : fA ms 4 i = fA st 4 i := (h.sr i hi).2.1
      have wj : fA ms 4 j = fA st 4 j := (h.sr j hj).2.1
      have iw : isW (fA st 4 i) := (h.xt.1 i hi).1
      by_cases w : fA st 4 i = fA st 4 j
      · have A : fx_Maker_accepts st 5 (nI i) (nI j) d = 1 := by rw [ac_5, if_neg p, alikeN (by omega) (by omega) p p2, if_pos w, if_neg i10, it_5, if_neg i10]
        have F : fm_Mod_fits ms 5 (nI i) (nI j) d = 1 := by rw [fi_5, if_pos q, if_pos q2, nI_clamp (n := i) (by omega), nI_clamp (n := j) (by omega), wi, wj, if_pos w.symm]
        rw [fx_PS_term, A, if_neg i10, tm_5, F, if_neg i10, mk_5, nt_o5, arc2, constN h hi, constN h hj]
        by_cases ka : fx_Terms_isConstant st (nI i) = 0
        · rw [if_pos ka, if_pos ka, if_pos rfl]
          by_cases le : nI i ≤ nI j
          · rw [if_pos le, if_pos le]
            exact ip_5 h hi hj w d
          · rw [if_neg le, if_neg le]
            exact ip_5 h hj hi w.symm d
        · rw [if_neg ka, if_neg ka]
          by_cases kb : fx_Terms_isConstant st (nI j) = 0
          · rw [if_pos kb, if_pos kb, if_pos rfl]
            by_cases le : nI i ≤ nI j
            · rw [if_pos le, if_pos le]
              exact ip_5 h hi hj w d
            · rw [if_neg le, if_neg le]
              exact ip_5 h hj hi w.symm d
          · rw [if_neg kb, if_neg kb, if_neg i10]
            have k21 := wl_const ka
            rw [nI_clamp (by omega)] at k21
            have k22 := wl_const kb
            rw [nI_clamp (by omega)] at k22
            exact foldN (b := nI j) (c := 0) (wt := fA st 4 i) h hi k21 (by rw [nI_clamp (n := j) (by omega)]; exact ⟨iw, iw, Or.inr (Or.inl ⟨by decide, w.symm, rfl⟩)⟩) (fun _ => ⟨j, hj, rfl, rfl, k22⟩) (fun q => absurd q (by decide)) (fun _ _ _ _ _ => rfl) (by rw [wx_5, nI_clamp (by omega)]) (fun S eS => by rw [wm_5, nI_clamp (by omega), eS, wi])
      · exact no (by rw [ac_5, if_neg p, alikeN (by omega) (by omega) p p2, if_neg w, if_pos rfl]) (by rw [fi_5, if_pos q, if_pos q2, nI_clamp (n := i) (by omega), nI_clamp (n := j) (by omega), wi, wj, if_neg (fun e => w e.symm)])
theorem term_6 {st ms : XS} {V N E Bt : Nat} (h : Rel st ms V N E Bt) (a b d : Int32) : (fx_PS_term st 6 a b d).1 = (fm_Mod_term ms 6 a b d).1 ∧ ∃ N2 : Nat, Rel (fx_PS_term st 6 a b d).2 (fm_Mod_term ms 6 a b d).2 V N2 E Bt := by
  have h64 := h.n64
  have no : ∀ {a b d : Int32}, fx_Maker_accepts st 6 a b d = 0 → fm_Mod_fits ms 6 a b d = 0 → (fx_PS_term st 6 a b d).1 = (fm_Mod_term ms 6 a b d).1 ∧ ∃ N2 : Nat, Rel (fx_PS_term st 6 a b d).2 (fm_Mod_term ms 6 a b d).2 V N2 E Bt := by
    intro a b d A F
    rw [fx_PS_term, A, if_pos rfl, tm_6, F, if_pos rfl]
    exact ⟨rfl, N, h⟩
  rcases h.has a with ⟨p, q⟩ | ⟨i, hi, rfl, p, q⟩
  · exact no (by rw [ac_6, if_pos p]) (by rw [fi_6, if_neg q])
  · rcases h.has b with ⟨p2, q2⟩ | ⟨j, hj, rfl, p2, q2⟩
    · exact no (by rw [ac_6, if_neg p, if_pos (alike0 p2)]) (by rw [fi_6, if_pos q, if_neg q2])
    · have wi : fA ms 4 i = fA st 4 i := (h.sr i hi).2.1
      have wj : fA ms 4 j = fA st 4 j := (h.sr j hj).2.1
      have iw : isW (fA st 4 i) := (h.xt.1 i hi).1
      by_cases w : fA st 4 i = fA st 4 j
      · have A : fx_Maker_accepts st 6 (nI i) (nI j) d = 1 := by rw [ac_6, if_neg p, alikeN (by omega) (by omega) p p2, if_pos w, if_neg i10, it_6, if_neg i10]
        have F : fm_Mod_fits ms 6 (nI i) (nI j) d = 1 := by rw [fi_6, if_pos q, if_pos q2, nI_clamp (n := i) (by omega), nI_clamp (n := j) (by omega), wi, wj, if_pos w.symm]
        rw [fx_PS_term, A, if_neg i10, tm_6, F, if_neg i10, mk_6, nt_o6, arc2, constN h hi, constN h hj]
        by_cases ka : fx_Terms_isConstant st (nI i) = 0
        · rw [if_pos ka, if_pos ka, if_pos rfl]
          exact ip_6 h hi hj w d
        · rw [if_neg ka, if_neg ka]
          by_cases kb : fx_Terms_isConstant st (nI j) = 0
          · rw [if_pos kb, if_pos kb, if_pos rfl]
            exact ip_6 h hi hj w d
          · rw [if_neg kb, if_neg kb, if_neg i10]
            have k21 := wl_const ka
            rw [nI_clamp (by omega)] at k21
            have k22 := wl_const kb
            rw [nI_clamp (by omega)] at k22
            exact foldN (b := nI j) (c := 0) (wt := fA st 4 i) h hi k21 (by rw [nI_clamp (n := j) (by omega)]; exact ⟨iw, iw, Or.inr (Or.inl ⟨by decide, w.symm, rfl⟩)⟩) (fun _ => ⟨j, hj, rfl, rfl, k22⟩) (fun q => absurd q (by decide)) (fun _ _ _ _ _ => rfl) (by rw [wx_6, nI_clamp (by omega)]) (fun S eS => by rw [wm_6, nI_clamp (by omega), eS, wi])
      · exact no (by rw [ac_6, if_neg p, alikeN (by omega) (by omega) p p2, if_neg w, if_pos rfl]) (by rw [fi_6, if_pos q, if_pos q2, nI_clamp (n := i) (by omega), nI_clamp (n := j) (by omega), wi, wj, if_neg (fun e => w e.symm)])
theorem term_7 {st ms : XS} {V N E Bt : Nat} (h : Rel st ms V N E Bt) (a b d : Int32) : (fx_PS_term st 7 a b d).1 = (fm_Mod_term ms 7 a b d).1 ∧ ∃ N2 : Nat, Rel (fx_PS_term st 7 a b d).2 (fm_Mod_term ms 7 a b d).2 V N2 E Bt := by
  have h64 := h.n64
  have no : ∀ {a b d : Int32}, fx_Maker_accepts st 7 a b d = 0 → fm_Mod_fits ms 7 a b d = 0 → (fx_PS_term st 7 a b d).1 = (fm_Mod_term ms 7 a b d).1 ∧ ∃ N2 : Nat, Rel (fx_PS_term st 7 a b d).2 (fm_Mod_term ms 7 a b d).2 V N2 E Bt := by
    intro a b d A F
    rw [fx_PS_term, A, if_pos rfl, tm_7, F, if_pos rfl]
    exact ⟨rfl, N, h⟩
  rcases h.has a with ⟨p, q⟩ | ⟨i, hi, rfl, p, q⟩
  · exact no (by rw [ac_7, if_pos p]) (by rw [fi_7, if_neg q])
  · rcases h.has b with ⟨p2, q2⟩ | ⟨j, hj, rfl, p2, q2⟩
    · exact no (by rw [ac_7, if_neg p, if_pos (alike0 p2)]) (by rw [fi_7, if_pos q, if_neg q2])
    · have wi : fA ms 4 i = fA st 4 i := (h.sr i hi).2.1
      have wj : fA ms 4 j = fA st 4 j := (h.sr j hj).2.1
      have iw : isW (fA st 4 i) := (h.xt.1 i hi).1
      by_cases w : fA st 4 i = fA st 4 j
      · by_cases w8 : (16 : Int32) < fA st 4 i
        · exact no (by rw [ac_7, if_neg p, alikeN (by omega) (by omega) p p2, if_pos w, if_neg i10, it_7, fx_Terms_widthOf, nI_clamp (by omega), if_pos w8, if_pos rfl]) (by rw [fi_7, if_pos q, if_pos q2, nI_clamp (n := i) (by omega), nI_clamp (n := j) (by omega), wi, wj, if_pos w.symm, if_pos ((w17 iw).mp w8)])
        · have A : fx_Maker_accepts st 7 (nI i) (nI j) d = 1 := by rw [ac_7, if_neg p, alikeN (by omega) (by omega) p p2, if_pos w, if_neg i10, it_7, fx_Terms_widthOf, nI_clamp (by omega), if_neg w8, if_neg i10]
          have F : fm_Mod_fits ms 7 (nI i) (nI j) d = 1 := by rw [fi_7, if_pos q, if_pos q2, nI_clamp (n := i) (by omega), nI_clamp (n := j) (by omega), wi, wj, if_pos w.symm, if_neg (fun e => w8 ((w17 iw).mpr e))]
          rw [fx_PS_term, A, if_neg i10, tm_7, F, if_neg i10, mk_7, nt_o7, arc2, constN h hi, constN h hj]
          by_cases ka : fx_Terms_isConstant st (nI i) = 0
          · rw [if_pos ka, if_pos ka, if_pos rfl]
            by_cases le : nI i ≤ nI j
            · rw [if_pos le, if_pos le]
              exact ip_7 h hi hj w d
            · rw [if_neg le, if_neg le]
              exact ip_7 h hj hi w.symm d
          · rw [if_neg ka, if_neg ka]
            by_cases kb : fx_Terms_isConstant st (nI j) = 0
            · rw [if_pos kb, if_pos kb, if_pos rfl]
              by_cases le : nI i ≤ nI j
              · rw [if_pos le, if_pos le]
                exact ip_7 h hi hj w d
              · rw [if_neg le, if_neg le]
                exact ip_7 h hj hi w.symm d
            · rw [if_neg kb, if_neg kb, if_neg i10]
              have k21 := wl_const ka
              rw [nI_clamp (by omega)] at k21
              have k22 := wl_const kb
              rw [nI_clamp (by omega)] at k22
              exact foldN (b := nI j) (c := 0) (wt := fA st 4 i) h hi k21 (by rw [nI_clamp (n := j) (by omega)]; exact ⟨iw, iw, Or.inr (Or.inl ⟨by decide, w.symm, rfl⟩)⟩) (fun _ => ⟨j, hj, rfl, rfl, k22⟩) (fun q => absurd q (by decide)) (fun _ _ _ _ _ => rfl) (by rw [wx_7, nI_clamp (by omega)]) (fun S eS => by rw [wm_7, nI_clamp (by omega), eS, wi])
      · exact no (by rw [ac_7, if_neg p, alikeN (by omega) (by omega) p p2, if_neg w, if_pos rfl]) (by rw [fi_7, if_pos q, if_pos q2, nI_clamp (n := i) (by omega), nI_clamp (n := j) (by omega), wi, wj, if_neg (fun e => w e.symm)])
theorem term_8 {st ms : XS} {V N E Bt : Nat} (h : Rel st ms V N E Bt) (a b d : Int32) : (fx_PS_term st 8 a b d).1 = (fm_Mod_term ms 8 a b d).1 ∧ ∃ N2 : Nat, Rel (fx_PS_term st 8 a b d).2 (fm_Mod_term ms 8 a b d).2 V N2 E Bt := by
  have h64 := h.n64
  have no : ∀ {a b d : Int32}, fx_Maker_accepts st 8 a b d = 0 → fm_Mod_fits ms 8 a b d = 0 → (fx_PS_term st 8 a b d).1 = (fm_Mod_term ms 8 a b d).1 ∧ ∃ N2 : Nat, Rel (fx_PS_term st 8 a b d).2 (fm_Mod_term ms 8 a b d).2 V N2 E Bt := by
    intro a b d A F
    rw [fx_PS_term, A, if_pos rfl, tm_8, F, if_pos rfl]
    exact ⟨rfl, N, h⟩
  rcases h.has a with ⟨p, q⟩ | ⟨i, hi, rfl, p, q⟩
  · exact no (by rw [ac_8, if_pos p]) (by rw [fi_8, if_neg q])
  · rcases h.has b with ⟨p2, q2⟩ | ⟨j, hj, rfl, p2, q2⟩
    · exact no (by rw [ac_8, if_neg p, if_pos (alike0 p2)]) (by rw [fi_8, if_pos q, if_neg q2])
    · have wi : fA ms 4 i = fA st 4 i := (h.sr i hi).2.1
      have wj : fA ms 4 j = fA st 4 j := (h.sr j hj).2.1
      have iw : isW (fA st 4 i) := (h.xt.1 i hi).1
      by_cases w : fA st 4 i = fA st 4 j
      · by_cases w8 : ¬ fA st 4 i = 8
        · exact no (by rw [ac_8, if_neg p, alikeN (by omega) (by omega) p p2, if_pos w, if_neg i10, it_8, fx_Terms_widthOf, nI_clamp (by omega), if_neg w8, if_pos rfl]) (by rw [fi_8, if_pos q, if_pos q2, nI_clamp (n := i) (by omega), nI_clamp (n := j) (by omega), wi, wj, if_pos w.symm, if_neg w8])
        · have h8 : fA st 4 i = 8 := Classical.not_not.mp w8
          have A : fx_Maker_accepts st 8 (nI i) (nI j) d = 1 := by rw [ac_8, if_neg p, alikeN (by omega) (by omega) p p2, if_pos w, if_neg i10, it_8, fx_Terms_widthOf, nI_clamp (by omega), if_pos h8, if_neg i10]
          have F : fm_Mod_fits ms 8 (nI i) (nI j) d = 1 := by rw [fi_8, if_pos q, if_pos q2, nI_clamp (n := i) (by omega), nI_clamp (n := j) (by omega), wi, wj, if_pos w.symm, if_pos h8]
          rw [fx_PS_term, A, if_neg i10, tm_8, F, if_neg i10, mk_8, nt_o8, arc2, constN h hi, constN h hj]
          by_cases ka : fx_Terms_isConstant st (nI i) = 0
          · rw [if_pos ka, if_pos ka, if_pos rfl]
            exact ip_8 h hi hj w h8 d
          · rw [if_neg ka, if_neg ka]
            by_cases kb : fx_Terms_isConstant st (nI j) = 0
            · rw [if_pos kb, if_pos kb, if_pos rfl]
              exact ip_8 h hi hj w h8 d
            · rw [if_neg kb, if_neg kb, if_neg i10]
              have k21 := wl_const ka
              rw [nI_clamp (by omega)] at k21
              have k22 := wl_const kb
              rw [nI_clamp (by omega)] at k22
              exact foldN (b := nI j) (c := 0) (wt := fA st 4 i) h hi k21 (by rw [nI_clamp (n := j) (by omega)]; exact ⟨iw, iw, Or.inr (Or.inr (Or.inl ⟨by decide, h8, w.symm.trans h8, h8⟩))⟩) (fun _ => ⟨j, hj, rfl, rfl, k22⟩) (fun q => absurd q (by decide)) (fun _ _ _ _ _ => rfl) (by rw [wx_8, nI_clamp (by omega)]) (fun S eS => by rw [wm_8, nI_clamp (by omega), eS, wi])
      · exact no (by rw [ac_8, if_neg p, alikeN (by omega) (by omega) p p2, if_neg w, if_pos rfl]) (by rw [fi_8, if_pos q, if_pos q2, nI_clamp (n := i) (by omega), nI_clamp (n := j) (by omega), wi, wj, if_neg (fun e => w e.symm)])
theorem term_9 {st ms : XS} {V N E Bt : Nat} (h : Rel st ms V N E Bt) (a b d : Int32) : (fx_PS_term st 9 a b d).1 = (fm_Mod_term ms 9 a b d).1 ∧ ∃ N2 : Nat, Rel (fx_PS_term st 9 a b d).2 (fm_Mod_term ms 9 a b d).2 V N2 E Bt := by
  have h64 := h.n64
  have no : ∀ {a b d : Int32}, fx_Maker_accepts st 9 a b d = 0 → fm_Mod_fits ms 9 a b d = 0 → (fx_PS_term st 9 a b d).1 = (fm_Mod_term ms 9 a b d).1 ∧ ∃ N2 : Nat, Rel (fx_PS_term st 9 a b d).2 (fm_Mod_term ms 9 a b d).2 V N2 E Bt := by
    intro a b d A F
    rw [fx_PS_term, A, if_pos rfl, tm_9, F, if_pos rfl]
    exact ⟨rfl, N, h⟩
  rcases h.has a with ⟨p, q⟩ | ⟨i, hi, rfl, p, q⟩
  · exact no (by rw [ac_9, if_pos p]) (by rw [fi_9, if_neg q])
  · rcases h.has b with ⟨p2, q2⟩ | ⟨j, hj, rfl, p2, q2⟩
    · exact no (by rw [ac_9, if_neg p, if_pos (alike0 p2)]) (by rw [fi_9, if_pos q, if_neg q2])
    · have wi : fA ms 4 i = fA st 4 i := (h.sr i hi).2.1
      have wj : fA ms 4 j = fA st 4 j := (h.sr j hj).2.1
      have iw : isW (fA st 4 i) := (h.xt.1 i hi).1
      by_cases w : fA st 4 i = fA st 4 j
      · by_cases w8 : ¬ fA st 4 i = 8
        · exact no (by rw [ac_9, if_neg p, alikeN (by omega) (by omega) p p2, if_pos w, if_neg i10, it_9, fx_Terms_widthOf, nI_clamp (by omega), if_neg w8, if_pos rfl]) (by rw [fi_9, if_pos q, if_pos q2, nI_clamp (n := i) (by omega), nI_clamp (n := j) (by omega), wi, wj, if_pos w.symm, if_neg w8])
        · have h8 : fA st 4 i = 8 := Classical.not_not.mp w8
          have A : fx_Maker_accepts st 9 (nI i) (nI j) d = 1 := by rw [ac_9, if_neg p, alikeN (by omega) (by omega) p p2, if_pos w, if_neg i10, it_9, fx_Terms_widthOf, nI_clamp (by omega), if_pos h8, if_neg i10]
          have F : fm_Mod_fits ms 9 (nI i) (nI j) d = 1 := by rw [fi_9, if_pos q, if_pos q2, nI_clamp (n := i) (by omega), nI_clamp (n := j) (by omega), wi, wj, if_pos w.symm, if_pos h8]
          rw [fx_PS_term, A, if_neg i10, tm_9, F, if_neg i10, mk_9, nt_o9, arc2, constN h hi, constN h hj]
          by_cases ka : fx_Terms_isConstant st (nI i) = 0
          · rw [if_pos ka, if_pos ka, if_pos rfl]
            exact ip_9 h hi hj w h8 d
          · rw [if_neg ka, if_neg ka]
            by_cases kb : fx_Terms_isConstant st (nI j) = 0
            · rw [if_pos kb, if_pos kb, if_pos rfl]
              exact ip_9 h hi hj w h8 d
            · rw [if_neg kb, if_neg kb, if_neg i10]
              have k21 := wl_const ka
              rw [nI_clamp (by omega)] at k21
              have k22 := wl_const kb
              rw [nI_clamp (by omega)] at k22
              exact foldN (b := nI j) (c := 0) (wt := fA st 4 i) h hi k21 (by rw [nI_clamp (n := j) (by omega)]; exact ⟨iw, iw, Or.inr (Or.inr (Or.inl ⟨by decide, h8, w.symm.trans h8, h8⟩))⟩) (fun _ => ⟨j, hj, rfl, rfl, k22⟩) (fun q => absurd q (by decide)) (fun _ _ _ _ _ => rfl) (by rw [wx_9, nI_clamp (by omega)]) (fun S eS => by rw [wm_9, nI_clamp (by omega), eS, wi])
      · exact no (by rw [ac_9, if_neg p, alikeN (by omega) (by omega) p p2, if_neg w, if_pos rfl]) (by rw [fi_9, if_pos q, if_pos q2, nI_clamp (n := i) (by omega), nI_clamp (n := j) (by omega), wi, wj, if_neg (fun e => w e.symm)])
theorem term_10 {st ms : XS} {V N E Bt : Nat} (h : Rel st ms V N E Bt) (a b d : Int32) : (fx_PS_term st 10 a b d).1 = (fm_Mod_term ms 10 a b d).1 ∧ ∃ N2 : Nat, Rel (fx_PS_term st 10 a b d).2 (fm_Mod_term ms 10 a b d).2 V N2 E Bt := by
  have h64 := h.n64
  have no : ∀ {a b d : Int32}, fx_Maker_accepts st 10 a b d = 0 → fm_Mod_fits ms 10 a b d = 0 → (fx_PS_term st 10 a b d).1 = (fm_Mod_term ms 10 a b d).1 ∧ ∃ N2 : Nat, Rel (fx_PS_term st 10 a b d).2 (fm_Mod_term ms 10 a b d).2 V N2 E Bt := by
    intro a b d A F
    rw [fx_PS_term, A, if_pos rfl, tm_10, F, if_pos rfl]
    exact ⟨rfl, N, h⟩
  rcases h.has a with ⟨p, q⟩ | ⟨i, hi, rfl, p, q⟩
  · exact no (by rw [ac_10, if_pos p]) (by rw [fi_10, if_neg q])
  · rcases h.has b with ⟨p2, q2⟩ | ⟨j, hj, rfl, p2, q2⟩
    · exact no (by rw [ac_10, if_neg p, if_pos (alike0 p2)]) (by rw [fi_10, if_pos q, if_neg q2])
    · have wi : fA ms 4 i = fA st 4 i := (h.sr i hi).2.1
      have wj : fA ms 4 j = fA st 4 j := (h.sr j hj).2.1
      have iw : isW (fA st 4 i) := (h.xt.1 i hi).1
      by_cases w : fA st 4 i = fA st 4 j
      · have A : fx_Maker_accepts st 10 (nI i) (nI j) d = 1 := by rw [ac_10, if_neg p, alikeN (by omega) (by omega) p p2, if_pos w, if_neg i10, it_10, if_neg i10]
        have F : fm_Mod_fits ms 10 (nI i) (nI j) d = 1 := by rw [fi_10, if_pos q, if_pos q2, nI_clamp (n := i) (by omega), nI_clamp (n := j) (by omega), wi, wj, if_pos w.symm]
        rw [fx_PS_term, A, if_neg i10, tm_10, F, if_neg i10, mk_10, nt_o10, arc2, constN h hi, constN h hj]
        by_cases ka : fx_Terms_isConstant st (nI i) = 0
        · rw [if_pos ka, if_pos ka, if_pos rfl]
          exact ip_10 h hi hj w d
        · rw [if_neg ka, if_neg ka]
          by_cases kb : fx_Terms_isConstant st (nI j) = 0
          · rw [if_pos kb, if_pos kb, if_pos rfl]
            exact ip_10 h hi hj w d
          · rw [if_neg kb, if_neg kb, if_neg i10]
            have k21 := wl_const ka
            rw [nI_clamp (by omega)] at k21
            have k22 := wl_const kb
            rw [nI_clamp (by omega)] at k22
            exact foldN (b := nI j) (c := 0) (wt := fA st 4 i) h hi k21 (by rw [nI_clamp (n := j) (by omega)]; exact ⟨iw, iw, Or.inr (Or.inl ⟨by decide, w.symm, rfl⟩)⟩) (fun _ => ⟨j, hj, rfl, rfl, k22⟩) (fun q => absurd q (by decide)) (fun _ _ _ _ _ => rfl) (by rw [wx_10, nI_clamp (by omega)]) (fun S eS => by rw [wm_10, nI_clamp (by omega), eS, wi])
      · exact no (by rw [ac_10, if_neg p, alikeN (by omega) (by omega) p p2, if_neg w, if_pos rfl]) (by rw [fi_10, if_pos q, if_pos q2, nI_clamp (n := i) (by omega), nI_clamp (n := j) (by omega), wi, wj, if_neg (fun e => w e.symm)])
theorem term_11 {st ms : XS} {V N E Bt : Nat} (h : Rel st ms V N E Bt) (a b d : Int32) : (fx_PS_term st 11 a b d).1 = (fm_Mod_term ms 11 a b d).1 ∧ ∃ N2 : Nat, Rel (fx_PS_term st 11 a b d).2 (fm_Mod_term ms 11 a b d).2 V N2 E Bt := by
  have h64 := h.n64
  have no : ∀ {a b d : Int32}, fx_Maker_accepts st 11 a b d = 0 → fm_Mod_fits ms 11 a b d = 0 → (fx_PS_term st 11 a b d).1 = (fm_Mod_term ms 11 a b d).1 ∧ ∃ N2 : Nat, Rel (fx_PS_term st 11 a b d).2 (fm_Mod_term ms 11 a b d).2 V N2 E Bt := by
    intro a b d A F
    rw [fx_PS_term, A, if_pos rfl, tm_11, F, if_pos rfl]
    exact ⟨rfl, N, h⟩
  rcases h.has a with ⟨p, q⟩ | ⟨i, hi, rfl, p, q⟩
  · exact no (by rw [ac_11, if_pos p]) (by rw [fi_11, if_neg q])
  · rcases h.has b with ⟨p2, q2⟩ | ⟨j, hj, rfl, p2, q2⟩
    · exact no (by rw [ac_11, if_neg p, if_pos (alike0 p2)]) (by rw [fi_11, if_pos q, if_neg q2])
    · have wi : fA ms 4 i = fA st 4 i := (h.sr i hi).2.1
      have wj : fA ms 4 j = fA st 4 j := (h.sr j hj).2.1
      have iw : isW (fA st 4 i) := (h.xt.1 i hi).1
      by_cases w : fA st 4 i = fA st 4 j
      · have A : fx_Maker_accepts st 11 (nI i) (nI j) d = 1 := by rw [ac_11, if_neg p, alikeN (by omega) (by omega) p p2, if_pos w, if_neg i10, it_11, if_neg i10]
        have F : fm_Mod_fits ms 11 (nI i) (nI j) d = 1 := by rw [fi_11, if_pos q, if_pos q2, nI_clamp (n := i) (by omega), nI_clamp (n := j) (by omega), wi, wj, if_pos w.symm]
        rw [fx_PS_term, A, if_neg i10, tm_11, F, if_neg i10, mk_11, nt_o11, arc2, constN h hi, constN h hj]
        by_cases ka : fx_Terms_isConstant st (nI i) = 0
        · rw [if_pos ka, if_pos ka, if_pos rfl]
          exact ip_11 h hi hj w d
        · rw [if_neg ka, if_neg ka]
          by_cases kb : fx_Terms_isConstant st (nI j) = 0
          · rw [if_pos kb, if_pos kb, if_pos rfl]
            exact ip_11 h hi hj w d
          · rw [if_neg kb, if_neg kb, if_neg i10]
            have k21 := wl_const ka
            rw [nI_clamp (by omega)] at k21
            have k22 := wl_const kb
            rw [nI_clamp (by omega)] at k22
            exact foldN (b := nI j) (c := 0) (wt := fA st 4 i) h hi k21 (by rw [nI_clamp (n := j) (by omega)]; exact ⟨iw, iw, Or.inr (Or.inl ⟨by decide, w.symm, rfl⟩)⟩) (fun _ => ⟨j, hj, rfl, rfl, k22⟩) (fun q => absurd q (by decide)) (fun _ _ _ _ _ => rfl) (by rw [wx_11, nI_clamp (by omega)]) (fun S eS => by rw [wm_11, nI_clamp (by omega), eS, wi])
      · exact no (by rw [ac_11, if_neg p, alikeN (by omega) (by omega) p p2, if_neg w, if_pos rfl]) (by rw [fi_11, if_pos q, if_pos q2, nI_clamp (n := i) (by omega), nI_clamp (n := j) (by omega), wi, wj, if_neg (fun e => w e.symm)])
theorem term_12 {st ms : XS} {V N E Bt : Nat} (h : Rel st ms V N E Bt) (a b d : Int32) : (fx_PS_term st 12 a b d).1 = (fm_Mod_term ms 12 a b d).1 ∧ ∃ N2 : Nat, Rel (fx_PS_term st 12 a b d).2 (fm_Mod_term ms 12 a b d).2 V N2 E Bt := by
  have h64 := h.n64
  have no : ∀ {a b d : Int32}, fx_Maker_accepts st 12 a b d = 0 → fm_Mod_fits ms 12 a b d = 0 → (fx_PS_term st 12 a b d).1 = (fm_Mod_term ms 12 a b d).1 ∧ ∃ N2 : Nat, Rel (fx_PS_term st 12 a b d).2 (fm_Mod_term ms 12 a b d).2 V N2 E Bt := by
    intro a b d A F
    rw [fx_PS_term, A, if_pos rfl, tm_12, F, if_pos rfl]
    exact ⟨rfl, N, h⟩
  rcases h.has a with ⟨p, q⟩ | ⟨i, hi, rfl, p, q⟩
  · exact no (by rw [ac_12, if_pos p]) (by rw [fi_12, if_neg q])
  · rcases h.has b with ⟨p2, q2⟩ | ⟨j, hj, rfl, p2, q2⟩
    · exact no (by rw [ac_12, if_neg p, if_pos (alike0 p2)]) (by rw [fi_12, if_pos q, if_neg q2])
    · have wi : fA ms 4 i = fA st 4 i := (h.sr i hi).2.1
      have wj : fA ms 4 j = fA st 4 j := (h.sr j hj).2.1
      have iw : isW (fA st 4 i) := (h.xt.1 i hi).1
      by_cases w : fA st 4 i = fA st 4 j
      · have A : fx_Maker_accepts st 12 (nI i) (nI j) d = 1 := by rw [ac_12, if_neg p, alikeN (by omega) (by omega) p p2, if_pos w, if_neg i10, it_12, if_neg i10]
        have F : fm_Mod_fits ms 12 (nI i) (nI j) d = 1 := by rw [fi_12, if_pos q, if_pos q2, nI_clamp (n := i) (by omega), nI_clamp (n := j) (by omega), wi, wj, if_pos w.symm]
        rw [fx_PS_term, A, if_neg i10, tm_12, F, if_neg i10, mk_12, nt_o12, arc2, constN h hi, constN h hj]
        by_cases ka : fx_Terms_isConstant st (nI i) = 0
        · rw [if_pos ka, if_pos ka, if_pos rfl]
          exact ip_12 h hi hj w d
        · rw [if_neg ka, if_neg ka]
          by_cases kb : fx_Terms_isConstant st (nI j) = 0
          · rw [if_pos kb, if_pos kb, if_pos rfl]
            exact ip_12 h hi hj w d
          · rw [if_neg kb, if_neg kb, if_neg i10]
            have k21 := wl_const ka
            rw [nI_clamp (by omega)] at k21
            have k22 := wl_const kb
            rw [nI_clamp (by omega)] at k22
            exact foldN (b := nI j) (c := 0) (wt := fA st 4 i) h hi k21 (by rw [nI_clamp (n := j) (by omega)]; exact ⟨iw, iw, Or.inr (Or.inl ⟨by decide, w.symm, rfl⟩)⟩) (fun _ => ⟨j, hj, rfl, rfl, k22⟩) (fun q => absurd q (by decide)) (fun _ _ _ _ _ => rfl) (by rw [wx_12, nI_clamp (by omega)]) (fun S eS => by rw [wm_12, nI_clamp (by omega), eS, wi])
      · exact no (by rw [ac_12, if_neg p, alikeN (by omega) (by omega) p p2, if_neg w, if_pos rfl]) (by rw [fi_12, if_pos q, if_pos q2, nI_clamp (n := i) (by omega), nI_clamp (n := j) (by omega), wi, wj, if_neg (fun e => w e.symm)])
theorem term_13 {st ms : XS} {V N E Bt : Nat} (h : Rel st ms V N E Bt) (a b d : Int32) : (fx_PS_term st 13 a b d).1 = (fm_Mod_term ms 13 a b d).1 ∧ ∃ N2 : Nat, Rel (fx_PS_term st 13 a b d).2 (fm_Mod_term ms 13 a b d).2 V N2 E Bt := by
  have h64 := h.n64
  have no : ∀ {a b d : Int32}, fx_Maker_accepts st 13 a b d = 0 → fm_Mod_fits ms 13 a b d = 0 → (fx_PS_term st 13 a b d).1 = (fm_Mod_term ms 13 a b d).1 ∧ ∃ N2 : Nat, Rel (fx_PS_term st 13 a b d).2 (fm_Mod_term ms 13 a b d).2 V N2 E Bt := by
    intro a b d A F
    rw [fx_PS_term, A, if_pos rfl, tm_13, F, if_pos rfl]
    exact ⟨rfl, N, h⟩
  rcases h.has a with ⟨p, q⟩ | ⟨i, hi, rfl, p, q⟩
  · exact no (by rw [ac_13, if_pos p]) (by rw [fi_13, if_neg q])
  · rcases h.has b with ⟨p2, q2⟩ | ⟨j, hj, rfl, p2, q2⟩
    · exact no (by rw [ac_13, if_neg p, if_pos (alike0 p2)]) (by rw [fi_13, if_pos q, if_neg q2])
    · have wi : fA ms 4 i = fA st 4 i := (h.sr i hi).2.1
      have wj : fA ms 4 j = fA st 4 j := (h.sr j hj).2.1
      have iw : isW (fA st 4 i) := (h.xt.1 i hi).1
      by_cases w : fA st 4 i = fA st 4 j
      · have A : fx_Maker_accepts st 13 (nI i) (nI j) d = 1 := by rw [ac_13, if_neg p, alikeN (by omega) (by omega) p p2, if_pos w, if_neg i10, it_13, if_neg i10]
        have F : fm_Mod_fits ms 13 (nI i) (nI j) d = 1 := by rw [fi_13, if_pos q, if_pos q2, nI_clamp (n := i) (by omega), nI_clamp (n := j) (by omega), wi, wj, if_pos w.symm]
        rw [fx_PS_term, A, if_neg i10, tm_13, F, if_neg i10, mk_13, nt_o13, arc2, constN h hi, constN h hj]
        by_cases ka : fx_Terms_isConstant st (nI i) = 0
        · rw [if_pos ka, if_pos ka, if_pos rfl]
          by_cases le : nI i ≤ nI j
          · rw [if_pos le, if_pos le]
            exact ip_13 h hi hj w d
          · rw [if_neg le, if_neg le]
            exact ip_13 h hj hi w.symm d
        · rw [if_neg ka, if_neg ka]
          by_cases kb : fx_Terms_isConstant st (nI j) = 0
          · rw [if_pos kb, if_pos kb, if_pos rfl]
            by_cases le : nI i ≤ nI j
            · rw [if_pos le, if_pos le]
              exact ip_13 h hi hj w d
            · rw [if_neg le, if_neg le]
              exact ip_13 h hj hi w.symm d
          · rw [if_neg kb, if_neg kb, if_neg i10]
            have k21 := wl_const ka
            rw [nI_clamp (by omega)] at k21
            have k22 := wl_const kb
            rw [nI_clamp (by omega)] at k22
            exact foldN (b := nI j) (c := 0) (wt := 1) h hi k21 (by rw [nI_clamp (n := j) (by omega)]; exact ⟨iw, Or.inl rfl, Or.inr (Or.inr (Or.inr (Or.inl ⟨by decide, w.symm, rfl⟩)))⟩) (fun _ => ⟨j, hj, rfl, rfl, k22⟩) (fun q => absurd q (by decide)) (fun _ _ _ _ _ => rfl) (by rw [wx_13]) (fun S eS => by rw [wm_13])
      · exact no (by rw [ac_13, if_neg p, alikeN (by omega) (by omega) p p2, if_neg w, if_pos rfl]) (by rw [fi_13, if_pos q, if_pos q2, nI_clamp (n := i) (by omega), nI_clamp (n := j) (by omega), wi, wj, if_neg (fun e => w e.symm)])
theorem term_14 {st ms : XS} {V N E Bt : Nat} (h : Rel st ms V N E Bt) (a b d : Int32) : (fx_PS_term st 14 a b d).1 = (fm_Mod_term ms 14 a b d).1 ∧ ∃ N2 : Nat, Rel (fx_PS_term st 14 a b d).2 (fm_Mod_term ms 14 a b d).2 V N2 E Bt := by
  have h64 := h.n64
  have no : ∀ {a b d : Int32}, fx_Maker_accepts st 14 a b d = 0 → fm_Mod_fits ms 14 a b d = 0 → (fx_PS_term st 14 a b d).1 = (fm_Mod_term ms 14 a b d).1 ∧ ∃ N2 : Nat, Rel (fx_PS_term st 14 a b d).2 (fm_Mod_term ms 14 a b d).2 V N2 E Bt := by
    intro a b d A F
    rw [fx_PS_term, A, if_pos rfl, tm_14, F, if_pos rfl]
    exact ⟨rfl, N, h⟩
  rcases h.has a with ⟨p, q⟩ | ⟨i, hi, rfl, p, q⟩
  · exact no (by rw [ac_14, if_pos p]) (by rw [fi_14, if_neg q])
  · rcases h.has b with ⟨p2, q2⟩ | ⟨j, hj, rfl, p2, q2⟩
    · exact no (by rw [ac_14, if_neg p, if_pos (alike0 p2)]) (by rw [fi_14, if_pos q, if_neg q2])
    · have wi : fA ms 4 i = fA st 4 i := (h.sr i hi).2.1
      have wj : fA ms 4 j = fA st 4 j := (h.sr j hj).2.1
      have iw : isW (fA st 4 i) := (h.xt.1 i hi).1
      by_cases w : fA st 4 i = fA st 4 j
      · have A : fx_Maker_accepts st 14 (nI i) (nI j) d = 1 := by rw [ac_14, if_neg p, alikeN (by omega) (by omega) p p2, if_pos w, if_neg i10, it_14, if_neg i10]
        have F : fm_Mod_fits ms 14 (nI i) (nI j) d = 1 := by rw [fi_14, if_pos q, if_pos q2, nI_clamp (n := i) (by omega), nI_clamp (n := j) (by omega), wi, wj, if_pos w.symm]
        rw [fx_PS_term, A, if_neg i10, tm_14, F, if_neg i10, mk_14, nt_o14, arc2, constN h hi, constN h hj]
        by_cases ka : fx_Terms_isConstant st (nI i) = 0
        · rw [if_pos ka, if_pos ka, if_pos rfl]
          exact ip_14 h hi hj w d
        · rw [if_neg ka, if_neg ka]
          by_cases kb : fx_Terms_isConstant st (nI j) = 0
          · rw [if_pos kb, if_pos kb, if_pos rfl]
            exact ip_14 h hi hj w d
          · rw [if_neg kb, if_neg kb, if_neg i10]
            have k21 := wl_const ka
            rw [nI_clamp (by omega)] at k21
            have k22 := wl_const kb
            rw [nI_clamp (by omega)] at k22
            exact foldN (b := nI j) (c := 0) (wt := 1) h hi k21 (by rw [nI_clamp (n := j) (by omega)]; exact ⟨iw, Or.inl rfl, Or.inr (Or.inr (Or.inr (Or.inl ⟨by decide, w.symm, rfl⟩)))⟩) (fun _ => ⟨j, hj, rfl, rfl, k22⟩) (fun q => absurd q (by decide)) (fun _ _ _ _ _ => rfl) (by rw [wx_14]) (fun S eS => by rw [wm_14])
      · exact no (by rw [ac_14, if_neg p, alikeN (by omega) (by omega) p p2, if_neg w, if_pos rfl]) (by rw [fi_14, if_pos q, if_pos q2, nI_clamp (n := i) (by omega), nI_clamp (n := j) (by omega), wi, wj, if_neg (fun e => w e.symm)])
theorem term_15 {st ms : XS} {V N E Bt : Nat} (h : Rel st ms V N E Bt) (a b d : Int32) : (fx_PS_term st 15 a b d).1 = (fm_Mod_term ms 15 a b d).1 ∧ ∃ N2 : Nat, Rel (fx_PS_term st 15 a b d).2 (fm_Mod_term ms 15 a b d).2 V N2 E Bt := by
  have h64 := h.n64
  have no : ∀ {a b d : Int32}, fx_Maker_accepts st 15 a b d = 0 → fm_Mod_fits ms 15 a b d = 0 → (fx_PS_term st 15 a b d).1 = (fm_Mod_term ms 15 a b d).1 ∧ ∃ N2 : Nat, Rel (fx_PS_term st 15 a b d).2 (fm_Mod_term ms 15 a b d).2 V N2 E Bt := by
    intro a b d A F
    rw [fx_PS_term, A, if_pos rfl, tm_15, F, if_pos rfl]
    exact ⟨rfl, N, h⟩
  rcases h.has a with ⟨p, q⟩ | ⟨i, hi, rfl, p, q⟩
  · exact no (by rw [ac_15, if_pos p]) (by rw [fi_15, if_neg q])
  · rcases h.has b with ⟨p2, q2⟩ | ⟨j, hj, rfl, p2, q2⟩
    · exact no (by rw [ac_15, if_neg p, if_pos (alike0 p2)]) (by rw [fi_15, if_pos q, if_neg q2])
    · have wi : fA ms 4 i = fA st 4 i := (h.sr i hi).2.1
      have wj : fA ms 4 j = fA st 4 j := (h.sr j hj).2.1
      have iw : isW (fA st 4 i) := (h.xt.1 i hi).1
      by_cases w : fA st 4 i = fA st 4 j
      · have A : fx_Maker_accepts st 15 (nI i) (nI j) d = 1 := by rw [ac_15, if_neg p, alikeN (by omega) (by omega) p p2, if_pos w, if_neg i10, it_15, if_neg i10]
        have F : fm_Mod_fits ms 15 (nI i) (nI j) d = 1 := by rw [fi_15, if_pos q, if_pos q2, nI_clamp (n := i) (by omega), nI_clamp (n := j) (by omega), wi, wj, if_pos w.symm]
        rw [fx_PS_term, A, if_neg i10, tm_15, F, if_neg i10, mk_15, nt_o15, arc2, constN h hi, constN h hj]
        by_cases ka : fx_Terms_isConstant st (nI i) = 0
        · rw [if_pos ka, if_pos ka, if_pos rfl]
          exact ip_15 h hi hj w d
        · rw [if_neg ka, if_neg ka]
          by_cases kb : fx_Terms_isConstant st (nI j) = 0
          · rw [if_pos kb, if_pos kb, if_pos rfl]
            exact ip_15 h hi hj w d
          · rw [if_neg kb, if_neg kb, if_neg i10]
            have k21 := wl_const ka
            rw [nI_clamp (by omega)] at k21
            have k22 := wl_const kb
            rw [nI_clamp (by omega)] at k22
            exact foldN (b := nI j) (c := 0) (wt := 1) h hi k21 (by rw [nI_clamp (n := j) (by omega)]; exact ⟨iw, Or.inl rfl, Or.inr (Or.inr (Or.inr (Or.inl ⟨by decide, w.symm, rfl⟩)))⟩) (fun _ => ⟨j, hj, rfl, rfl, k22⟩) (fun q => absurd q (by decide)) (fun _ _ _ _ _ => rfl) (by rw [wx_15]) (fun S eS => by rw [wm_15])
      · exact no (by rw [ac_15, if_neg p, alikeN (by omega) (by omega) p p2, if_neg w, if_pos rfl]) (by rw [fi_15, if_pos q, if_pos q2, nI_clamp (n := i) (by omega), nI_clamp (n := j) (by omega), wi, wj, if_neg (fun e => w e.symm)])
theorem term_16 {st ms : XS} {V N E Bt : Nat} (h : Rel st ms V N E Bt) (a b d : Int32) : (fx_PS_term st 16 a b d).1 = (fm_Mod_term ms 16 a b d).1 ∧ ∃ N2 : Nat, Rel (fx_PS_term st 16 a b d).2 (fm_Mod_term ms 16 a b d).2 V N2 E Bt := by
  have h64 := h.n64
  have no : ∀ {a b d : Int32}, fx_Maker_accepts st 16 a b d = 0 → fm_Mod_fits ms 16 a b d = 0 → (fx_PS_term st 16 a b d).1 = (fm_Mod_term ms 16 a b d).1 ∧ ∃ N2 : Nat, Rel (fx_PS_term st 16 a b d).2 (fm_Mod_term ms 16 a b d).2 V N2 E Bt := by
    intro a b d A F
    rw [fx_PS_term, A, if_pos rfl, tm_16, F, if_pos rfl]
    exact ⟨rfl, N, h⟩
  rcases h.has a with ⟨p, q⟩ | ⟨i, hi, rfl, p, q⟩
  · exact no (by rw [ac_16, if_pos p]) (by rw [fi_16, if_neg q])
  · have wi : fA ms 4 i = fA st 4 i := (h.sr i hi).2.1
    by_cases w1 : fA st 4 i = 1
    · rcases h.has b with ⟨p2, q2⟩ | ⟨j, hj, rfl, p2, q2⟩
      · exact no (by rw [ac_16, if_neg p, fx_Terms_widthOf, nI_clamp (by omega), if_pos w1, if_pos (alike1 p2)]) (by rw [fi_16, if_pos q, if_neg q2])
      · have wj : fA ms 4 j = fA st 4 j := (h.sr j hj).2.1
        rcases h.has d with ⟨p3, q3⟩ | ⟨k, hk, rfl, p3, q3⟩
        · exact no (by rw [ac_16, if_neg p, fx_Terms_widthOf, nI_clamp (by omega), if_pos w1, if_pos (alike0 p3)]) (by rw [fi_16, if_pos q, if_pos q2, nI_clamp (n := i) (by omega), wi, if_pos w1, if_neg q3])
        · have wk : fA ms 4 k = fA st 4 k := (h.sr k hk).2.1
          by_cases w : fA st 4 j = fA st 4 k
          · have A : fx_Maker_accepts st 16 (nI i) (nI j) (nI k) = 1 := by rw [ac_16, if_neg p, fx_Terms_widthOf, nI_clamp (n := i) (by omega), if_pos w1, alikeN (by omega) (by omega) p2 p3, if_pos w, if_neg i10]
            have F : fm_Mod_fits ms 16 (nI i) (nI j) (nI k) = 1 := by rw [fi_16, if_pos q, if_pos q2, nI_clamp (n := i) (by omega), wi, if_pos w1, if_pos q3, nI_clamp (n := j) (by omega), nI_clamp (n := k) (by omega), wj, wk, if_pos w]
            rw [fx_PS_term, A, if_neg i10, tm_16, F, if_neg i10, mk_16, nt_o16, arc3, constN h hi, constN h hj, constN h hk]
            by_cases ka : fx_Terms_isConstant st (nI i) = 0
            · rw [if_pos ka, if_pos ka, if_pos rfl]
              exact ip_16 h hi hj hk w1 w
            · rw [if_neg ka, if_neg ka]
              by_cases kb : fx_Terms_isConstant st (nI j) = 0
              · rw [if_pos kb, if_pos kb, if_pos rfl]
                exact ip_16 h hi hj hk w1 w
              · rw [if_neg kb, if_neg kb]
                by_cases kc : fx_Terms_isConstant st (nI k) = 0
                · rw [if_pos kc, if_pos kc, if_pos rfl]
                  exact ip_16 h hi hj hk w1 w
                · rw [if_neg kc, if_neg kc, if_neg i10]
                  have k21 := wl_const ka
                  rw [nI_clamp (by omega)] at k21
                  have k22 := wl_const kb
                  rw [nI_clamp (by omega)] at k22
                  have k23 := wl_const kc
                  rw [nI_clamp (by omega)] at k23
                  exact foldN (b := nI j) (c := nI k) (wt := fA st 4 j) h hi k21 (by rw [nI_clamp (n := j) (by omega), nI_clamp (n := k) (by omega)]; exact ⟨(h.xt.1 i hi).1, (h.xt.1 j hj).1, Or.inr (Or.inr (Or.inr (Or.inr (Or.inl ⟨rfl, w1, rfl, w.symm⟩))))⟩) (fun _ => ⟨j, hj, rfl, rfl, k22⟩) (fun _ => ⟨k, hk, rfl, rfl, k23⟩) (fun _ _ _ _ _ => rfl) (by rw [wx_16, nI_clamp (by omega)]) (fun S eS => by rw [wm_16, nI_clamp (by omega), eS, wj])
          · exact no (by rw [ac_16, if_neg p, fx_Terms_widthOf, nI_clamp (n := i) (by omega), if_pos w1, alikeN (by omega) (by omega) p2 p3, if_neg w, if_pos rfl]) (by rw [fi_16, if_pos q, if_pos q2, nI_clamp (n := i) (by omega), wi, if_pos w1, if_pos q3, nI_clamp (n := j) (by omega), nI_clamp (n := k) (by omega), wj, wk, if_neg w])
    · have F : fm_Mod_fits ms 16 (nI i) b d = 0 := by
        rw [fi_16, if_pos q, nI_clamp (n := i) (by omega), wi, if_neg w1]
        exact ite2 _
      exact no (by rw [ac_16, if_neg p, fx_Terms_widthOf, nI_clamp (by omega), if_neg w1]) F
theorem term_17 {st ms : XS} {V N E Bt : Nat} (h : Rel st ms V N E Bt) (a b d : Int32) : (fx_PS_term st 17 a b d).1 = (fm_Mod_term ms 17 a b d).1 ∧ ∃ N2 : Nat, Rel (fx_PS_term st 17 a b d).2 (fm_Mod_term ms 17 a b d).2 V N2 E Bt := by
  have h64 := h.n64
  have no : ∀ {a b d : Int32}, fx_Maker_accepts st 17 a b d = 0 → fm_Mod_fits ms 17 a b d = 0 → (fx_PS_term st 17 a b d).1 = (fm_Mod_term ms 17 a b d).1 ∧ ∃ N2 : Nat, Rel (fx_PS_term st 17 a b d).2 (fm_Mod_term ms 17 a b d).2 V N2 E Bt := by
    intro a b d A F
    rw [fx_PS_term, A, if_pos rfl, tm_17, F, if_pos rfl]
    exact ⟨rfl, N, h⟩
  rcases h.has a with ⟨p, q⟩ | ⟨i, hi, rfl, p, q⟩
  · exact no (by rw [ac_17, if_pos p]) (by rw [fi_17, if_neg q])
  · have wi : fA ms 4 i = fA st 4 i := (h.sr i hi).2.1
    have iw : isW (fA st 4 i) := (h.xt.1 i hi).1
    by_cases w0 : fx_Width_isOne b = 0
    · exact no (by rw [ac_17, if_neg p, if_pos w0]) (by rw [fi_17, if_pos q, isWid, if_pos w0])
    · have hb := isOne w0
      by_cases w : b ≤ fA st 4 i
      · exact no (by rw [ac_17, if_neg p, if_neg w0, fx_Terms_widthOf, nI_clamp (by omega), if_pos w]) (by rw [fi_17, if_pos q, isWid, if_neg w0, nI_clamp (by omega), wi, if_pos w])
      · have A : fx_Maker_accepts st 17 (nI i) b d = 1 := by rw [ac_17, if_neg p, if_neg w0, fx_Terms_widthOf, nI_clamp (by omega), if_neg w]
        have F : fm_Mod_fits ms 17 (nI i) b d = 1 := by rw [fi_17, if_pos q, isWid, if_neg w0, nI_clamp (by omega), wi, if_neg w]
        rw [fx_PS_term, A, if_neg i10, tm_17, F, if_neg i10, mk_17, nt_o17, arc1, constN h hi]
        by_cases ka : fx_Terms_isConstant st (nI i) = 0
        · rw [if_pos ka, if_pos ka, if_pos rfl]
          exact ip_17 h hi hb (Int32.not_le.mp w) d
        · rw [if_neg ka, if_neg ka, if_neg i10]
          have k21 := wl_const ka
          rw [nI_clamp (by omega)] at k21
          exact foldN (b := b) (c := 0) (wt := b) h hi k21 ⟨iw, hb, Or.inr (Or.inr (Or.inr (Or.inr (Or.inr (Or.inl ⟨by decide, rfl, Int32.not_le.mp w⟩)))))⟩ (fun q => absurd q (by decide)) (fun q => absurd q (by decide)) (fun _ _ _ _ _ => rfl) (by rw [wx_17]) (fun S eS => by rw [wm_17])
theorem term_18 {st ms : XS} {V N E Bt : Nat} (h : Rel st ms V N E Bt) (a b d : Int32) : (fx_PS_term st 18 a b d).1 = (fm_Mod_term ms 18 a b d).1 ∧ ∃ N2 : Nat, Rel (fx_PS_term st 18 a b d).2 (fm_Mod_term ms 18 a b d).2 V N2 E Bt := by
  have h64 := h.n64
  have no : ∀ {a b d : Int32}, fx_Maker_accepts st 18 a b d = 0 → fm_Mod_fits ms 18 a b d = 0 → (fx_PS_term st 18 a b d).1 = (fm_Mod_term ms 18 a b d).1 ∧ ∃ N2 : Nat, Rel (fx_PS_term st 18 a b d).2 (fm_Mod_term ms 18 a b d).2 V N2 E Bt := by
    intro a b d A F
    rw [fx_PS_term, A, if_pos rfl, tm_18, F, if_pos rfl]
    exact ⟨rfl, N, h⟩
  rcases h.has a with ⟨p, q⟩ | ⟨i, hi, rfl, p, q⟩
  · exact no (by rw [ac_18, if_pos p]) (by rw [fi_18, if_neg q])
  · have wi : fA ms 4 i = fA st 4 i := (h.sr i hi).2.1
    have iw : isW (fA st 4 i) := (h.xt.1 i hi).1
    by_cases w0 : fx_Width_isOne b = 0
    · exact no (by rw [ac_18, if_neg p, if_pos w0]) (by rw [fi_18, if_pos q, isWid, if_pos w0])
    · have hb := isOne w0
      by_cases w : b ≤ fA st 4 i
      · exact no (by rw [ac_18, if_neg p, if_neg w0, fx_Terms_widthOf, nI_clamp (by omega), if_pos w]) (by rw [fi_18, if_pos q, isWid, if_neg w0, nI_clamp (by omega), wi, if_pos w])
      · have A : fx_Maker_accepts st 18 (nI i) b d = 1 := by rw [ac_18, if_neg p, if_neg w0, fx_Terms_widthOf, nI_clamp (by omega), if_neg w]
        have F : fm_Mod_fits ms 18 (nI i) b d = 1 := by rw [fi_18, if_pos q, isWid, if_neg w0, nI_clamp (by omega), wi, if_neg w]
        rw [fx_PS_term, A, if_neg i10, tm_18, F, if_neg i10, mk_18, nt_o18, arc1, constN h hi]
        by_cases ka : fx_Terms_isConstant st (nI i) = 0
        · rw [if_pos ka, if_pos ka, if_pos rfl]
          exact ip_18 h hi hb (Int32.not_le.mp w) d
        · rw [if_neg ka, if_neg ka, if_neg i10]
          have k21 := wl_const ka
          rw [nI_clamp (by omega)] at k21
          exact foldN (b := b) (c := 0) (wt := b) h hi k21 ⟨iw, hb, Or.inr (Or.inr (Or.inr (Or.inr (Or.inr (Or.inl ⟨by decide, rfl, Int32.not_le.mp w⟩)))))⟩ (fun q => absurd q (by decide)) (fun q => absurd q (by decide)) (fun _ _ _ _ _ => rfl) (by rw [wx_18]) (fun S eS => by rw [wm_18])
theorem term_19 {st ms : XS} {V N E Bt : Nat} (h : Rel st ms V N E Bt) (a b d : Int32) : (fx_PS_term st 19 a b d).1 = (fm_Mod_term ms 19 a b d).1 ∧ ∃ N2 : Nat, Rel (fx_PS_term st 19 a b d).2 (fm_Mod_term ms 19 a b d).2 V N2 E Bt := by
  have h64 := h.n64
  have no : ∀ {a b d : Int32}, fx_Maker_accepts st 19 a b d = 0 → fm_Mod_fits ms 19 a b d = 0 → (fx_PS_term st 19 a b d).1 = (fm_Mod_term ms 19 a b d).1 ∧ ∃ N2 : Nat, Rel (fx_PS_term st 19 a b d).2 (fm_Mod_term ms 19 a b d).2 V N2 E Bt := by
    intro a b d A F
    rw [fx_PS_term, A, if_pos rfl, tm_19, F, if_pos rfl]
    exact ⟨rfl, N, h⟩
  rcases h.has a with ⟨p, q⟩ | ⟨i, hi, rfl, p, q⟩
  · exact no (by rw [ac_19, if_pos p]) (by rw [fi_19, if_neg q])
  · have wi : fA ms 4 i = fA st 4 i := (h.sr i hi).2.1
    have iw : isW (fA st 4 i) := (h.xt.1 i hi).1
    by_cases w0 : fx_Width_isOne b = 0
    · exact no (by rw [ac_19, if_neg p, if_pos w0]) (by rw [fi_19, if_pos q, isWid, if_pos w0])
    · have hb := isOne w0
      by_cases w : fA st 4 i ≤ b
      · exact no (by rw [ac_19, if_neg p, if_neg w0, fx_Terms_widthOf, nI_clamp (by omega), if_pos w]) (by rw [fi_19, if_pos q, isWid, if_neg w0, nI_clamp (by omega), wi, if_pos w])
      · have A : fx_Maker_accepts st 19 (nI i) b d = 1 := by rw [ac_19, if_neg p, if_neg w0, fx_Terms_widthOf, nI_clamp (by omega), if_neg w]
        have F : fm_Mod_fits ms 19 (nI i) b d = 1 := by rw [fi_19, if_pos q, isWid, if_neg w0, nI_clamp (by omega), wi, if_neg w]
        rw [fx_PS_term, A, if_neg i10, tm_19, F, if_neg i10, mk_19, nt_o19, arc1, constN h hi]
        by_cases ka : fx_Terms_isConstant st (nI i) = 0
        · rw [if_pos ka, if_pos ka, if_pos rfl]
          exact ip_19 h hi hb (Int32.not_le.mp w) d
        · rw [if_neg ka, if_neg ka, if_neg i10]
          have k21 := wl_const ka
          rw [nI_clamp (by omega)] at k21
          exact foldN (b := b) (c := 0) (wt := b) h hi k21 ⟨iw, hb, Or.inr (Or.inr (Or.inr (Or.inr (Or.inr (Or.inr (Or.inl ⟨rfl, rfl, Int32.not_le.mp w⟩))))))⟩ (fun q => absurd q (by decide)) (fun q => absurd q (by decide)) (fun _ _ _ _ _ => rfl) (by rw [wx_19]) (fun S eS => by rw [wm_19])
theorem term_20 {st ms : XS} {V N E Bt : Nat} (h : Rel st ms V N E Bt) (a b d : Int32) : (fx_PS_term st 20 a b d).1 = (fm_Mod_term ms 20 a b d).1 ∧ ∃ N2 : Nat, Rel (fx_PS_term st 20 a b d).2 (fm_Mod_term ms 20 a b d).2 V N2 E Bt := by
  have h64 := h.n64
  have no : ∀ {a b d : Int32}, fx_Maker_accepts st 20 a b d = 0 → fm_Mod_fits ms 20 a b d = 0 → (fx_PS_term st 20 a b d).1 = (fm_Mod_term ms 20 a b d).1 ∧ ∃ N2 : Nat, Rel (fx_PS_term st 20 a b d).2 (fm_Mod_term ms 20 a b d).2 V N2 E Bt := by
    intro a b d A F
    rw [fx_PS_term, A, if_pos rfl, tm_20, F, if_pos rfl]
    exact ⟨rfl, N, h⟩
  rcases h.has a with ⟨p, q⟩ | ⟨i, hi, rfl, p, q⟩
  · exact no (by rw [ac_20, if_pos p]) (by rw [fi_20, if_neg q])
  · have wi : fA ms 4 i = fA st 4 i := (h.sr i hi).2.1
    have iw : isW (fA st 4 i) := (h.xt.1 i hi).1
    by_cases w : fA st 4 i = 8
    · have tb : fx_Tabs_isTable b = 0 ∨ (b = 0 ∨ b = 1) ∧ ¬ fx_Tabs_isTable b = 0 := by
        by_cases e : fx_Tabs_isTable b = 0
        · exact Or.inl e
        · obtain ⟨k, hk, ek⟩ := vp_in_of (wl_tab2 e) (by decide)
          refine Or.inr ⟨?_, e⟩
          have q : k = 0 ∨ k = 1 := by omega
          rcases q with q | q
          · exact Or.inl (by rw [ek, q]; rfl)
          · exact Or.inr (by rw [ek, q]; rfl)
      rcases tb with e | ⟨eb, e⟩
      · have n0 : ¬ b = 0 := by
          intro z; rw [z] at e; exact absurd e (by decide)
        have n1 : ¬ b = 1 := by
          intro z; rw [z] at e; exact absurd e (by decide)
        exact no (by rw [ac_20, if_neg p, fx_Terms_widthOf, nI_clamp (by omega), if_pos w, if_pos e]) (by rw [fi_20, if_pos q, nI_clamp (by omega), wi, if_pos w, if_neg n0, if_neg n1])
      · have hb := wl_tab2 e
        have A : fx_Maker_accepts st 20 (nI i) b d = 1 := by rw [ac_20, if_neg p, fx_Terms_widthOf, nI_clamp (by omega), if_pos w, if_neg e]
        have F : fm_Mod_fits ms 20 (nI i) b d = 1 := by
          rw [fi_20, if_pos q, nI_clamp (by omega), wi, if_pos w]
          by_cases z : b = 0
          · rw [if_pos z]
          · rcases eb with z2 | z2
            · exact absurd z2 z
            · rw [if_neg z, if_pos z2]
        rw [fx_PS_term, A, if_neg i10, tm_20, F, if_neg i10, mk_20, nt_o20, arc1, constN h hi]
        by_cases ka : fx_Terms_isConstant st (nI i) = 0
        · rw [if_pos ka, if_pos ka, if_pos rfl]
          exact ip_20 h hi hb w d
        · rw [if_neg ka, if_neg ka, if_neg i10]
          have k21 := wl_const ka
          rw [nI_clamp (by omega)] at k21
          exact foldN (b := b) (c := 0) (wt := 8) h hi k21 ⟨iw, Or.inr (Or.inl rfl), Or.inr (Or.inr (Or.inr (Or.inr (Or.inr (Or.inr (Or.inr (⟨rfl, hb, w, rfl⟩)))))))⟩ (fun q => absurd q (by decide)) (fun q => absurd q (by decide)) (fun _ _ _ _ _ => rfl) (by rw [wx_20, nI_clamp (by omega), w]) (fun S eS => by rw [wm_20])
    · exact no (by rw [ac_20, if_neg p, fx_Terms_widthOf, nI_clamp (by omega), if_neg w]) (by rw [fi_20, if_pos q, nI_clamp (by omega), wi, if_neg w])
theorem termN {st ms : XS} {V N E Bt : Nat} (h : Rel st ms V N E Bt) (o a b d : Int32) : (fx_PS_term st o a b d).1 = (fm_Mod_term ms o a b d).1 ∧ ∃ N2 : Nat, Rel (fx_PS_term st o a b d).2 (fm_Mod_term ms o a b d).2 V N2 E Bt := by
  by_cases l0 : o < 0
  · rw [fx_PS_term, fx_Maker_accepts, if_pos l0, if_pos rfl, fm_Mod_term, fm_Mod_fits, if_pos l0, if_pos rfl]
    exact ⟨rfl, N, h⟩
  · by_cases l20 : (20 : Int32) < o
    · rw [fx_PS_term, fx_Maker_accepts, if_neg l0, if_pos l20, if_pos rfl, fm_Mod_term, fm_Mod_fits, if_neg l0, if_pos l20, if_pos rfl]
      exact ⟨rfl, N, h⟩
    · rcases op_cases l0 l20 with e | e | e | e | e | e | e | e | e | e | e | e | e | e | e | e | e | e | e | e | e
      · rw [e]; exact term_0 h a b d
      · rw [e]; exact term_1 h a b d
      · rw [e]; exact term_2 h a b d
      · rw [e]; exact term_3 h a b d
      · rw [e]; exact term_4 h a b d
      · rw [e]; exact term_5 h a b d
      · rw [e]; exact term_6 h a b d
      · rw [e]; exact term_7 h a b d
      · rw [e]; exact term_8 h a b d
      · rw [e]; exact term_9 h a b d
      · rw [e]; exact term_10 h a b d
      · rw [e]; exact term_11 h a b d
      · rw [e]; exact term_12 h a b d
      · rw [e]; exact term_13 h a b d
      · rw [e]; exact term_14 h a b d
      · rw [e]; exact term_15 h a b d
      · rw [e]; exact term_16 h a b d
      · rw [e]; exact term_17 h a b d
      · rw [e]; exact term_18 h a b d
      · rw [e]; exact term_19 h a b d
      · rw [e]; exact term_20 h a b d
