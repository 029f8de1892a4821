section
-- ===== PART A: goes FIRST, ahead of the names: the tables' words, and 'selects' of the private methods out of them =====
/-- a private method of a class that the tables say can be made, by its rows of tables_1 -/
def lw_okq (q : MethodName × Nat) : Prop := (q.1.cls ≠ "java/lang/invoke/MethodHandle" ∧ q.1.cls ≠ "java/lang/invoke/VarHandle") ∧ Cond.instantiable q.1.cls q.2 ∈ tables_1 ∧ Cond.privateMethod q.1 ∈ tables_1 ∧ Cond.instanceMethod q.1 ∈ tables_1
theorem lw_p0 : lw_okq (⟨"PathSolver$Terms", "addPlain", "(II)I"⟩, 7) := ⟨⟨by decide +kernel, by decide +kernel⟩, List.mem_of_getElem? (i := 57) (by decide +kernel), List.mem_of_getElem? (i := 222) (by decide +kernel), List.mem_of_getElem? (i := 223) (by decide +kernel)⟩
theorem lw_p1 : lw_okq (⟨"PathSolver$Maker", "areAlike", "(II)Z"⟩, 2) := ⟨⟨by decide +kernel, by decide +kernel⟩, List.mem_of_getElem? (i := 107) (by decide +kernel), List.mem_of_getElem? (i := 288) (by decide +kernel), List.mem_of_getElem? (i := 289) (by decide +kernel)⟩
theorem lw_p2 : lw_okq (⟨"PathSolver$Maker", "areConstants", "(IIII)Z"⟩, 2) := ⟨⟨by decide +kernel, by decide +kernel⟩, List.mem_of_getElem? (i := 107) (by decide +kernel), List.mem_of_getElem? (i := 308) (by decide +kernel), List.mem_of_getElem? (i := 309) (by decide +kernel)⟩
theorem lw_p3 : lw_okq (⟨"PathSolver$Evaluator", "apply", "(IIII[J)J"⟩, 5) := ⟨⟨by decide +kernel, by decide +kernel⟩, List.mem_of_getElem? (i := 85) (by decide +kernel), List.mem_of_getElem? (i := 325) (by decide +kernel), List.mem_of_getElem? (i := 326) (by decide +kernel)⟩
theorem lw_p4 : lw_okq (⟨"PathSolver$Maker", "makeInPlace", "(IIII)I"⟩, 2) := ⟨⟨by decide +kernel, by decide +kernel⟩, List.mem_of_getElem? (i := 107) (by decide +kernel), List.mem_of_getElem? (i := 363) (by decide +kernel), List.mem_of_getElem? (i := 364) (by decide +kernel)⟩
theorem lw_p5 : lw_okq (⟨"PathSolver$Maker", "ofSameOperands", "(IIII)I"⟩, 2) := ⟨⟨by decide +kernel, by decide +kernel⟩, List.mem_of_getElem? (i := 107) (by decide +kernel), List.mem_of_getElem? (i := 367) (by decide +kernel), List.mem_of_getElem? (i := 368) (by decide +kernel)⟩
theorem lw_p6 : lw_okq (⟨"PathSolver$Maker", "ofSettledChoice", "(III)I"⟩, 2) := ⟨⟨by decide +kernel, by decide +kernel⟩, List.mem_of_getElem? (i := 107) (by decide +kernel), List.mem_of_getElem? (i := 371) (by decide +kernel), List.mem_of_getElem? (i := 372) (by decide +kernel)⟩
theorem lw_p7 : lw_okq (⟨"PathSolver$Maker", "ofZero", "(III)I"⟩, 2) := ⟨⟨by decide +kernel, by decide +kernel⟩, List.mem_of_getElem? (i := 107) (by decide +kernel), List.mem_of_getElem? (i := 379) (by decide +kernel), List.mem_of_getElem? (i := 380) (by decide +kernel)⟩
theorem lw_p8 : lw_okq (⟨"PathSolver$Maker", "ofUndoing", "(II)I"⟩, 2) := ⟨⟨by decide +kernel, by decide +kernel⟩, List.mem_of_getElem? (i := 107) (by decide +kernel), List.mem_of_getElem? (i := 383) (by decide +kernel), List.mem_of_getElem? (i := 384) (by decide +kernel)⟩
theorem lw_p9 : lw_okq (⟨"PathSolver$Terms", "noteTablesRead", "(I)V"⟩, 7) := ⟨⟨by decide +kernel, by decide +kernel⟩, List.mem_of_getElem? (i := 57) (by decide +kernel), List.mem_of_getElem? (i := 408) (by decide +kernel), List.mem_of_getElem? (i := 409) (by decide +kernel)⟩
theorem lw_p10 : lw_okq (⟨"PathSolver$TruthRows", "ask", "([II)V"⟩, 7) := ⟨⟨by decide +kernel, by decide +kernel⟩, List.mem_of_getElem? (i := 120) (by decide +kernel), List.mem_of_getElem? (i := 451) (by decide +kernel), List.mem_of_getElem? (i := 452) (by decide +kernel)⟩
theorem lw_p11 : lw_okq (⟨"PathSolver$TruthRows", "clearRow", "(I)V"⟩, 7) := ⟨⟨by decide +kernel, by decide +kernel⟩, List.mem_of_getElem? (i := 120) (by decide +kernel), List.mem_of_getElem? (i := 459) (by decide +kernel), List.mem_of_getElem? (i := 460) (by decide +kernel)⟩
theorem lw_p12 : lw_okq (⟨"PathSolver$TruthRows", "noteAsked", "(II)V"⟩, 7) := ⟨⟨by decide +kernel, by decide +kernel⟩, List.mem_of_getElem? (i := 120) (by decide +kernel), List.mem_of_getElem? (i := 489) (by decide +kernel), List.mem_of_getElem? (i := 490) (by decide +kernel)⟩
theorem lw_p13 : lw_okq (⟨"PathSolver$TruthRows", "setBits", "(III)V"⟩, 7) := ⟨⟨by decide +kernel, by decide +kernel⟩, List.mem_of_getElem? (i := 120) (by decide +kernel), List.mem_of_getElem? (i := 497) (by decide +kernel), List.mem_of_getElem? (i := 498) (by decide +kernel)⟩
theorem lw_p14 : lw_okq (⟨"PathSolver$Path", "holdingBefore", "(II)J"⟩, 3) := ⟨⟨by decide +kernel, by decide +kernel⟩, List.mem_of_getElem? (i := 148) (by decide +kernel), List.mem_of_getElem? (i := 501) (by decide +kernel), List.mem_of_getElem? (i := 502) (by decide +kernel)⟩
theorem lw_p15 : lw_okq (⟨"PathSolver", "settle", "(I)Z"⟩, 11) := ⟨⟨by decide +kernel, by decide +kernel⟩, List.mem_of_getElem? (i := 14) (by decide +kernel), List.mem_of_getElem? (i := 513) (by decide +kernel), List.mem_of_getElem? (i := 514) (by decide +kernel)⟩
def lw_privs_1 : List (MethodName × Nat) := [(⟨"PathSolver$Terms", "addPlain", "(II)I"⟩, 7), (⟨"PathSolver$Maker", "areAlike", "(II)Z"⟩, 2), (⟨"PathSolver$Maker", "areConstants", "(IIII)Z"⟩, 2), (⟨"PathSolver$Evaluator", "apply", "(IIII[J)J"⟩, 5), (⟨"PathSolver$Maker", "makeInPlace", "(IIII)I"⟩, 2), (⟨"PathSolver$Maker", "ofSameOperands", "(IIII)I"⟩, 2), (⟨"PathSolver$Maker", "ofSettledChoice", "(III)I"⟩, 2), (⟨"PathSolver$Maker", "ofZero", "(III)I"⟩, 2), (⟨"PathSolver$Maker", "ofUndoing", "(II)I"⟩, 2), (⟨"PathSolver$Terms", "noteTablesRead", "(I)V"⟩, 7), (⟨"PathSolver$TruthRows", "ask", "([II)V"⟩, 7), (⟨"PathSolver$TruthRows", "clearRow", "(I)V"⟩, 7), (⟨"PathSolver$TruthRows", "noteAsked", "(II)V"⟩, 7), (⟨"PathSolver$TruthRows", "setBits", "(III)V"⟩, 7), (⟨"PathSolver$Path", "holdingBefore", "(II)J"⟩, 3), (⟨"PathSolver", "settle", "(I)Z"⟩, 11)]
theorem lw_r1 : ∀ q ∈ lw_privs_1, lw_okq q := List.forall_mem_cons.mpr ⟨lw_p0, List.forall_mem_cons.mpr ⟨lw_p1, List.forall_mem_cons.mpr ⟨lw_p2, List.forall_mem_cons.mpr ⟨lw_p3, List.forall_mem_cons.mpr ⟨lw_p4, List.forall_mem_cons.mpr ⟨lw_p5, List.forall_mem_cons.mpr ⟨lw_p6, List.forall_mem_cons.mpr ⟨lw_p7, List.forall_mem_cons.mpr ⟨lw_p8, List.forall_mem_cons.mpr ⟨lw_p9, List.forall_mem_cons.mpr ⟨lw_p10, List.forall_mem_cons.mpr ⟨lw_p11, List.forall_mem_cons.mpr ⟨lw_p12, List.forall_mem_cons.mpr ⟨lw_p13, List.forall_mem_cons.mpr ⟨lw_p14, List.forall_mem_cons.mpr ⟨lw_p15, fun _ h => absurd h List.not_mem_nil⟩⟩⟩⟩⟩⟩⟩⟩⟩⟩⟩⟩⟩⟩⟩⟩
theorem lw_p16 : lw_okq (⟨"PathSolverModel", "fresh", "(IIIII)I"⟩, 21) := ⟨⟨by decide +kernel, by decide +kernel⟩, List.mem_of_getElem? (i := 591) (by decide +kernel), List.mem_of_getElem? (i := 665) (by decide +kernel), List.mem_of_getElem? (i := 666) (by decide +kernel)⟩
theorem lw_p17 : lw_okq (⟨"PathSolverModel", "isWidth", "(I)Z"⟩, 21) := ⟨⟨by decide +kernel, by decide +kernel⟩, List.mem_of_getElem? (i := 591) (by decide +kernel), List.mem_of_getElem? (i := 673) (by decide +kernel), List.mem_of_getElem? (i := 674) (by decide +kernel)⟩
theorem lw_p18 : lw_okq (⟨"PathSolverModel", "constantOf", "(IJ)I"⟩, 21) := ⟨⟨by decide +kernel, by decide +kernel⟩, List.mem_of_getElem? (i := 591) (by decide +kernel), List.mem_of_getElem? (i := 677) (by decide +kernel), List.mem_of_getElem? (i := 678) (by decide +kernel)⟩
theorem lw_p19 : lw_okq (⟨"PathSolverModel", "cut", "(JI)J"⟩, 21) := ⟨⟨by decide +kernel, by decide +kernel⟩, List.mem_of_getElem? (i := 591) (by decide +kernel), List.mem_of_getElem? (i := 681) (by decide +kernel), List.mem_of_getElem? (i := 682) (by decide +kernel)⟩
theorem lw_p20 : lw_okq (⟨"PathSolverModel", "fits", "(IIII)Z"⟩, 21) := ⟨⟨by decide +kernel, by decide +kernel⟩, List.mem_of_getElem? (i := 591) (by decide +kernel), List.mem_of_getElem? (i := 693) (by decide +kernel), List.mem_of_getElem? (i := 694) (by decide +kernel)⟩
theorem lw_p21 : lw_okq (⟨"PathSolverModel", "none", "(I)Z"⟩, 21) := ⟨⟨by decide +kernel, by decide +kernel⟩, List.mem_of_getElem? (i := 591) (by decide +kernel), List.mem_of_getElem? (i := 697) (by decide +kernel), List.mem_of_getElem? (i := 698) (by decide +kernel)⟩
theorem lw_p22 : lw_okq (⟨"PathSolverModel", "isConst", "(I)Z"⟩, 21) := ⟨⟨by decide +kernel, by decide +kernel⟩, List.mem_of_getElem? (i := 591) (by decide +kernel), List.mem_of_getElem? (i := 701) (by decide +kernel), List.mem_of_getElem? (i := 702) (by decide +kernel)⟩
theorem lw_p23 : lw_okq (⟨"PathSolverModel", "widthOf", "(III)I"⟩, 21) := ⟨⟨by decide +kernel, by decide +kernel⟩, List.mem_of_getElem? (i := 591) (by decide +kernel), List.mem_of_getElem? (i := 705) (by decide +kernel), List.mem_of_getElem? (i := 706) (by decide +kernel)⟩
theorem lw_p24 : lw_okq (⟨"PathSolverModel", "result", "(IIII)J"⟩, 21) := ⟨⟨by decide +kernel, by decide +kernel⟩, List.mem_of_getElem? (i := 591) (by decide +kernel), List.mem_of_getElem? (i := 709) (by decide +kernel), List.mem_of_getElem? (i := 710) (by decide +kernel)⟩
theorem lw_p25 : lw_okq (⟨"PathSolverModel", "sign", "(JI)J"⟩, 21) := ⟨⟨by decide +kernel, by decide +kernel⟩, List.mem_of_getElem? (i := 591) (by decide +kernel), List.mem_of_getElem? (i := 713) (by decide +kernel), List.mem_of_getElem? (i := 714) (by decide +kernel)⟩
theorem lw_p26 : lw_okq (⟨"PathSolverModel", "plain", "(IJJI)J"⟩, 21) := ⟨⟨by decide +kernel, by decide +kernel⟩, List.mem_of_getElem? (i := 591) (by decide +kernel), List.mem_of_getElem? (i := 718) (by decide +kernel), List.mem_of_getElem? (i := 719) (by decide +kernel)⟩
theorem lw_p27 : lw_okq (⟨"PathSolverModel", "less", "(JJ)J"⟩, 21) := ⟨⟨by decide +kernel, by decide +kernel⟩, List.mem_of_getElem? (i := 591) (by decide +kernel), List.mem_of_getElem? (i := 724) (by decide +kernel), List.mem_of_getElem? (i := 725) (by decide +kernel)⟩
theorem lw_p28 : lw_okq (⟨"PathSolverModel", "shifted", "(IJJI)J"⟩, 21) := ⟨⟨by decide +kernel, by decide +kernel⟩, List.mem_of_getElem? (i := 591) (by decide +kernel), List.mem_of_getElem? (i := 729) (by decide +kernel), List.mem_of_getElem? (i := 730) (by decide +kernel)⟩
theorem lw_p29 : lw_okq (⟨"PathSolverModel", "simple", "(IIII)I"⟩, 21) := ⟨⟨by decide +kernel, by decide +kernel⟩, List.mem_of_getElem? (i := 591) (by decide +kernel), List.mem_of_getElem? (i := 733) (by decide +kernel), List.mem_of_getElem? (i := 734) (by decide +kernel)⟩
theorem lw_p30 : lw_okq (⟨"PathSolverModel", "shorter", "(IIII)I"⟩, 21) := ⟨⟨by decide +kernel, by decide +kernel⟩, List.mem_of_getElem? (i := 591) (by decide +kernel), List.mem_of_getElem? (i := 737) (by decide +kernel), List.mem_of_getElem? (i := 738) (by decide +kernel)⟩
theorem lw_p31 : lw_okq (⟨"PathSolverModel", "isZero", "(I)Z"⟩, 21) := ⟨⟨by decide +kernel, by decide +kernel⟩, List.mem_of_getElem? (i := 591) (by decide +kernel), List.mem_of_getElem? (i := 741) (by decide +kernel), List.mem_of_getElem? (i := 742) (by decide +kernel)⟩
def lw_privs_2 : List (MethodName × Nat) := [(⟨"PathSolverModel", "fresh", "(IIIII)I"⟩, 21), (⟨"PathSolverModel", "isWidth", "(I)Z"⟩, 21), (⟨"PathSolverModel", "constantOf", "(IJ)I"⟩, 21), (⟨"PathSolverModel", "cut", "(JI)J"⟩, 21), (⟨"PathSolverModel", "fits", "(IIII)Z"⟩, 21), (⟨"PathSolverModel", "none", "(I)Z"⟩, 21), (⟨"PathSolverModel", "isConst", "(I)Z"⟩, 21), (⟨"PathSolverModel", "widthOf", "(III)I"⟩, 21), (⟨"PathSolverModel", "result", "(IIII)J"⟩, 21), (⟨"PathSolverModel", "sign", "(JI)J"⟩, 21), (⟨"PathSolverModel", "plain", "(IJJI)J"⟩, 21), (⟨"PathSolverModel", "less", "(JJ)J"⟩, 21), (⟨"PathSolverModel", "shifted", "(IJJI)J"⟩, 21), (⟨"PathSolverModel", "simple", "(IIII)I"⟩, 21), (⟨"PathSolverModel", "shorter", "(IIII)I"⟩, 21), (⟨"PathSolverModel", "isZero", "(I)Z"⟩, 21)]
theorem lw_r2 : ∀ q ∈ lw_privs_2, lw_okq q := List.forall_mem_cons.mpr ⟨lw_p16, List.forall_mem_cons.mpr ⟨lw_p17, List.forall_mem_cons.mpr ⟨lw_p18, List.forall_mem_cons.mpr ⟨lw_p19, List.forall_mem_cons.mpr ⟨lw_p20, List.forall_mem_cons.mpr ⟨lw_p21, List.forall_mem_cons.mpr ⟨lw_p22, List.forall_mem_cons.mpr ⟨lw_p23, List.forall_mem_cons.mpr ⟨lw_p24, List.forall_mem_cons.mpr ⟨lw_p25, List.forall_mem_cons.mpr ⟨lw_p26, List.forall_mem_cons.mpr ⟨lw_p27, List.forall_mem_cons.mpr ⟨lw_p28, List.forall_mem_cons.mpr ⟨lw_p29, List.forall_mem_cons.mpr ⟨lw_p30, List.forall_mem_cons.mpr ⟨lw_p31, fun _ h => absurd h List.not_mem_nil⟩⟩⟩⟩⟩⟩⟩⟩⟩⟩⟩⟩⟩⟩⟩⟩
theorem lw_p32 : lw_okq (⟨"PathSolverModel", "cost", "(II)I"⟩, 21) := ⟨⟨by decide +kernel, by decide +kernel⟩, List.mem_of_getElem? (i := 591) (by decide +kernel), List.mem_of_getElem? (i := 745) (by decide +kernel), List.mem_of_getElem? (i := 746) (by decide +kernel)⟩
theorem lw_p33 : lw_okq (⟨"PathSolverModel", "solve", "(IZ)Z"⟩, 21) := ⟨⟨by decide +kernel, by decide +kernel⟩, List.mem_of_getElem? (i := 591) (by decide +kernel), List.mem_of_getElem? (i := 761) (by decide +kernel), List.mem_of_getElem? (i := 762) (by decide +kernel)⟩
theorem lw_p34 : lw_okq (⟨"PathSolverModel", "work", "()V"⟩, 21) := ⟨⟨by decide +kernel, by decide +kernel⟩, List.mem_of_getElem? (i := 591) (by decide +kernel), List.mem_of_getElem? (i := 765) (by decide +kernel), List.mem_of_getElem? (i := 766) (by decide +kernel)⟩
theorem lw_p35 : lw_okq (⟨"PathSolverModel", "answer", "(Z)I"⟩, 21) := ⟨⟨by decide +kernel, by decide +kernel⟩, List.mem_of_getElem? (i := 591) (by decide +kernel), List.mem_of_getElem? (i := 769) (by decide +kernel), List.mem_of_getElem? (i := 770) (by decide +kernel)⟩
theorem lw_p36 : lw_okq (⟨"PathSolverModel", "takeModel", "()V"⟩, 21) := ⟨⟨by decide +kernel, by decide +kernel⟩, List.mem_of_getElem? (i := 591) (by decide +kernel), List.mem_of_getElem? (i := 791) (by decide +kernel), List.mem_of_getElem? (i := 792) (by decide +kernel)⟩
def lw_privs_3 : List (MethodName × Nat) := [(⟨"PathSolverModel", "cost", "(II)I"⟩, 21), (⟨"PathSolverModel", "solve", "(IZ)Z"⟩, 21), (⟨"PathSolverModel", "work", "()V"⟩, 21), (⟨"PathSolverModel", "answer", "(Z)I"⟩, 21), (⟨"PathSolverModel", "takeModel", "()V"⟩, 21)]
theorem lw_r3 : ∀ q ∈ lw_privs_3, lw_okq q := List.forall_mem_cons.mpr ⟨lw_p32, List.forall_mem_cons.mpr ⟨lw_p33, List.forall_mem_cons.mpr ⟨lw_p34, List.forall_mem_cons.mpr ⟨lw_p35, List.forall_mem_cons.mpr ⟨lw_p36, fun _ h => absurd h List.not_mem_nil⟩⟩⟩⟩⟩
def lw_privs : List (MethodName × Nat) := lw_privs_1 ++ (lw_privs_2 ++ (lw_privs_3))
def lw_tbl : List Cond := k2_sels lw_privs ++ tables_1
theorem lw_privs_ok : ∀ q ∈ lw_privs, lw_okq q := by
  show ∀ q ∈ lw_privs_1 ++ (lw_privs_2 ++ (lw_privs_3)), lw_okq q
  exact List.forall_mem_append.mpr ⟨lw_r1, List.forall_mem_append.mpr ⟨lw_r2, lw_r3⟩⟩

def AW : List Cond := lw_tbl.filter goodWord
def RX0 : String := "PathSolver$Width"
def RX1 : String := "PathSolver$Operation"
def RX2 : String := "PathSolver$Variables"
def TX2 : u_T := fun k => match k with
  | 0 => ("PathSolver$Variables", "bits", "[I", true)
  | 1 => ("PathSolver$Variables", "lowest", "[I", true)
  | 2 => ("PathSolver$Variables", "signed", "[Z", true)
  | 3 => ("PathSolver$Variables", "size", "I", false)
  | _ => ("PathSolver$Variables", "bitsTogether", "I", false)
def tyX2 : Nat → FieldType := fun k => match k with
  | 0 => .array .int
  | 1 => .array .int
  | 2 => .array .boolean
  | 3 => .int
  | _ => .int
abbrev wsX20 : List Cond := u_ws RX2 TX2 5
theorem nmX2 : ∀ a, a < 5 → ∀ b, b < 5 → a ≠ b → (TX2 a).2.1 ≠ (TX2 b).2.1 := by decide +kernel
theorem tyX2_ok : ∀ k, k < 5 → parseFieldDescriptor (TX2 k).2.2.1 = some (tyX2 k) := by decide +kernel
theorem inX2 : ∀ w ∈ wsX20, w ∈ AW := by decide +kernel
def RX3 : String := "PathSolver$Tables"
def TX3 : u_T := fun k => match k with
  | _ => ("PathSolver$Tables", "entries", "[J", true)
def tyX3 : Nat → FieldType := fun k => match k with
  | _ => .array .long
abbrev wsX30 : List Cond := u_ws RX3 TX3 1
theorem nmX3 : ∀ a, a < 1 → ∀ b, b < 1 → a ≠ b → (TX3 a).2.1 ≠ (TX3 b).2.1 := by decide +kernel
theorem tyX3_ok : ∀ k, k < 1 → parseFieldDescriptor (TX3 k).2.2.1 = some (tyX3 k) := by decide +kernel
theorem inX3 : ∀ w ∈ wsX30, w ∈ AW := by decide +kernel
def RX4 : String := "PathSolver$Terms"
def TX4 : u_T := fun k => match k with
  | 0 => ("PathSolver$Terms", "operations", "[I", true)
  | 1 => ("PathSolver$Terms", "widths", "[I", true)
  | 2 => ("PathSolver$Terms", "operands", "[I", true)
  | 3 => ("PathSolver$Terms", "tablesRead", "[I", true)
  | 4 => ("PathSolver$Terms", "constants", "[J", true)
  | 5 => ("PathSolver$Terms", "size", "I", false)
  | _ => ("PathSolver$Terms", "totalCost", "I", false)
def tyX4 : Nat → FieldType := fun k => match k with
  | 0 => .array .int
  | 1 => .array .int
  | 2 => .array .int
  | 3 => .array .int
  | 4 => .array .long
  | 5 => .int
  | _ => .int
abbrev wsX40 : List Cond := u_ws RX4 TX4 7
theorem nmX4 : ∀ a, a < 7 → ∀ b, b < 7 → a ≠ b → (TX4 a).2.1 ≠ (TX4 b).2.1 := by decide +kernel
theorem tyX4_ok : ∀ k, k < 7 → parseFieldDescriptor (TX4 k).2.2.1 = some (tyX4 k) := by decide +kernel
theorem inX4 : ∀ w ∈ wsX40, w ∈ AW := by decide +kernel
def RX5 : String := "PathSolver$Evaluator"
def TX5 : u_T := fun k => match k with
  | 0 => ("PathSolver$Evaluator", "terms", "LPathSolver$Terms;", true)
  | 1 => ("PathSolver$Evaluator", "variables", "LPathSolver$Variables;", true)
  | 2 => ("PathSolver$Evaluator", "tables", "LPathSolver$Tables;", true)
  | 3 => ("PathSolver$Evaluator", "results", "[J", true)
  | _ => ("PathSolver$Evaluator", "needed", "[Z", true)
def tyX5 : Nat → FieldType := fun k => match k with
  | 0 => .object "PathSolver$Terms"
  | 1 => .object "PathSolver$Variables"
  | 2 => .object "PathSolver$Tables"
  | 3 => .array .long
  | _ => .array .boolean
abbrev wsX50 : List Cond := u_ws RX5 TX5 5
theorem nmX5 : ∀ a, a < 5 → ∀ b, b < 5 → a ≠ b → (TX5 a).2.1 ≠ (TX5 b).2.1 := by decide +kernel
theorem tyX5_ok : ∀ k, k < 5 → parseFieldDescriptor (TX5 k).2.2.1 = some (tyX5 k) := by decide +kernel
theorem inX5 : ∀ w ∈ wsX50, w ∈ AW := by decide +kernel
def RX6 : String := "PathSolver$Maker"
def TX6 : u_T := fun k => match k with
  | 0 => ("PathSolver$Maker", "terms", "LPathSolver$Terms;", true)
  | _ => ("PathSolver$Maker", "evaluator", "LPathSolver$Evaluator;", true)
def tyX6 : Nat → FieldType := fun k => match k with
  | 0 => .object "PathSolver$Terms"
  | _ => .object "PathSolver$Evaluator"
abbrev wsX60 : List Cond := u_ws RX6 TX6 2
theorem nmX6 : ∀ a, a < 2 → ∀ b, b < 2 → a ≠ b → (TX6 a).2.1 ≠ (TX6 b).2.1 := by decide +kernel
theorem tyX6_ok : ∀ k, k < 2 → parseFieldDescriptor (TX6 k).2.2.1 = some (tyX6 k) := by decide +kernel
theorem inX6 : ∀ w ∈ wsX60, w ∈ AW := by decide +kernel
def RX7 : String := "PathSolver$TruthRows"
def TX7 : u_T := fun k => match k with
  | 0 => ("PathSolver$TruthRows", "terms", "LPathSolver$Terms;", true)
  | 1 => ("PathSolver$TruthRows", "variables", "LPathSolver$Variables;", true)
  | 2 => ("PathSolver$TruthRows", "evaluator", "LPathSolver$Evaluator;", true)
  | 3 => ("PathSolver$TruthRows", "rows", "[J", true)
  | 4 => ("PathSolver$TruthRows", "known", "[Z", true)
  | 5 => ("PathSolver$TruthRows", "asked", "[I", true)
  | _ => ("PathSolver$TruthRows", "askedSize", "I", false)
def tyX7 : Nat → FieldType := fun k => match k with
  | 0 => .object "PathSolver$Terms"
  | 1 => .object "PathSolver$Variables"
  | 2 => .object "PathSolver$Evaluator"
  | 3 => .array .long
  | 4 => .array .boolean
  | 5 => .array .int
  | _ => .int
abbrev wsX70 : List Cond := u_ws RX7 TX7 7
theorem nmX7 : ∀ a, a < 7 → ∀ b, b < 7 → a ≠ b → (TX7 a).2.1 ≠ (TX7 b).2.1 := by decide +kernel
theorem tyX7_ok : ∀ k, k < 7 → parseFieldDescriptor (TX7 k).2.2.1 = some (tyX7 k) := by decide +kernel
theorem inX7 : ∀ w ∈ wsX70, w ∈ AW := by decide +kernel
def RX8 : String := "PathSolver$Path"
def TX8 : u_T := fun k => match k with
  | 0 => ("PathSolver$Path", "rows", "LPathSolver$TruthRows;", true)
  | 1 => ("PathSolver$Path", "conditions", "[I", true)
  | _ => ("PathSolver$Path", "length", "I", false)
def tyX8 : Nat → FieldType := fun k => match k with
  | 0 => .object "PathSolver$TruthRows"
  | 1 => .array .int
  | _ => .int
abbrev wsX80 : List Cond := u_ws RX8 TX8 3
theorem nmX8 : ∀ a, a < 3 → ∀ b, b < 3 → a ≠ b → (TX8 a).2.1 ≠ (TX8 b).2.1 := by decide +kernel
theorem tyX8_ok : ∀ k, k < 3 → parseFieldDescriptor (TX8 k).2.2.1 = some (tyX8 k) := by decide +kernel
theorem inX8 : ∀ w ∈ wsX80, w ∈ AW := by decide +kernel
def RX9 : String := "PathSolver"
def TX9 : u_T := fun k => match k with
  | 0 => ("PathSolver", "variables", "LPathSolver$Variables;", true)
  | 1 => ("PathSolver", "tables", "LPathSolver$Tables;", true)
  | 2 => ("PathSolver", "terms", "LPathSolver$Terms;", true)
  | 3 => ("PathSolver", "evaluator", "LPathSolver$Evaluator;", true)
  | 4 => ("PathSolver", "maker", "LPathSolver$Maker;", true)
  | 5 => ("PathSolver", "rows", "LPathSolver$TruthRows;", true)
  | 6 => ("PathSolver", "path", "LPathSolver$Path;", true)
  | 7 => ("PathSolver", "modelAssignment", "I", false)
  | 8 => ("PathSolver", "modelVariables", "I", false)
  | 9 => ("PathSolver", "feasibleChecks", "I", false)
  | _ => ("PathSolver", "otherChecks", "I", false)
def tyX9 : Nat → FieldType := fun k => match k with
  | 0 => .object "PathSolver$Variables"
  | 1 => .object "PathSolver$Tables"
  | 2 => .object "PathSolver$Terms"
  | 3 => .object "PathSolver$Evaluator"
  | 4 => .object "PathSolver$Maker"
  | 5 => .object "PathSolver$TruthRows"
  | 6 => .object "PathSolver$Path"
  | 7 => .int
  | 8 => .int
  | 9 => .int
  | _ => .int
abbrev wsX90 : List Cond := u_ws RX9 TX9 11
theorem nmX9 : ∀ a, a < 11 → ∀ b, b < 11 → a ≠ b → (TX9 a).2.1 ≠ (TX9 b).2.1 := by decide +kernel
theorem tyX9_ok : ∀ k, k < 11 → parseFieldDescriptor (TX9 k).2.2.1 = some (tyX9 k) := by decide +kernel
theorem inX9 : ∀ w ∈ wsX90, w ∈ AW := by decide +kernel
def RX10 : String := "PathSolverModel"
def TX10 : u_T := fun k => match k with
  | 0 => ("PathSolverModel", "terms", "I", false)
  | 1 => ("PathSolverModel", "costs", "I", false)
  | 2 => ("PathSolverModel", "variables", "I", false)
  | 3 => ("PathSolverModel", "path", "I", false)
  | 4 => ("PathSolverModel", "yes", "I", false)
  | 5 => ("PathSolverModel", "no", "I", false)
  | 6 => ("PathSolverModel", "modelled", "I", false)
  | 7 => ("PathSolverModel", "op", "[I", true)
  | 8 => ("PathSolverModel", "a", "[I", true)
  | 9 => ("PathSolverModel", "b", "[I", true)
  | 10 => ("PathSolverModel", "c", "[I", true)
  | 11 => ("PathSolverModel", "wide", "[I", true)
  | 12 => ("PathSolverModel", "fixed", "[J", true)
  | 13 => ("PathSolverModel", "now", "[J", true)
  | 14 => ("PathSolverModel", "bits", "[I", true)
  | 15 => ("PathSolverModel", "termOf", "[I", true)
  | 16 => ("PathSolverModel", "value", "[I", true)
  | 17 => ("PathSolverModel", "model", "[I", true)
  | 18 => ("PathSolverModel", "signed", "[Z", true)
  | 19 => ("PathSolverModel", "table", "[I", true)
  | _ => ("PathSolverModel", "row", "[I", true)
def tyX10 : Nat → FieldType := fun k => match k with
  | 0 => .int
  | 1 => .int
  | 2 => .int
  | 3 => .int
  | 4 => .int
  | 5 => .int
  | 6 => .int
  | 7 => .array .int
  | 8 => .array .int
  | 9 => .array .int
  | 10 => .array .int
  | 11 => .array .int
  | 12 => .array .long
  | 13 => .array .long
  | 14 => .array .int
  | 15 => .array .int
  | 16 => .array .int
  | 17 => .array .int
  | 18 => .array .boolean
  | 19 => .array .int
  | _ => .array .int
abbrev wsX100 : List Cond := u_ws RX10 TX10 21
theorem nmX10 : ∀ a, a < 21 → ∀ b, b < 21 → a ≠ b → (TX10 a).2.1 ≠ (TX10 b).2.1 := by decide +kernel
theorem tyX10_ok : ∀ k, k < 21 → parseFieldDescriptor (TX10 k).2.2.1 = some (tyX10 k) := by decide +kernel
theorem inX10 : ∀ w ∈ wsX100, w ∈ AW := by decide +kernel
def RL : String := "PathSolverLaw"
abbrev cX9_init : ByteArray := prog_1_method_1_code
def yX9_init : MethodName := ⟨RX9, "<init>", "()V"⟩
def wsX9_init : List Cond := .code yX9_init cX9_init 1 none :: AW
abbrev cX2_init : ByteArray := prog_9_method_1_code
def yX2_init : MethodName := ⟨RX2, "<init>", "()V"⟩
def wsX2_init : List Cond := .code yX2_init cX2_init 1 none :: AW
abbrev cX3_init : ByteArray := prog_6_method_1_code
def yX3_init : MethodName := ⟨RX3, "<init>", "()V"⟩
def wsX3_init : List Cond := .code yX3_init cX3_init 1 none :: AW
abbrev cX4_init : ByteArray := prog_7_method_1_code
def yX4_init : MethodName := ⟨RX4, "<init>", "()V"⟩
def wsX4_init : List Cond := .code yX4_init cX4_init 1 none :: AW
abbrev cX5_init : ByteArray := prog_2_method_1_code
def yX5_init : MethodName := ⟨RX5, "<init>", "(LPathSolver$Terms;LPathSolver$Variables;LPathSolver$Tables;)V"⟩
def wsX5_init : List Cond := .code yX5_init cX5_init 4 none :: AW
abbrev cX6_init : ByteArray := prog_3_method_1_code
def yX6_init : MethodName := ⟨RX6, "<init>", "(LPathSolver$Terms;LPathSolver$Evaluator;)V"⟩
def wsX6_init : List Cond := .code yX6_init cX6_init 3 none :: AW
abbrev cX7_init : ByteArray := prog_8_method_1_code
def yX7_init : MethodName := ⟨RX7, "<init>", "(LPathSolver$Terms;LPathSolver$Variables;LPathSolver$Evaluator;)V"⟩
def wsX7_init : List Cond := .code yX7_init cX7_init 4 none :: AW
abbrev cX8_init : ByteArray := prog_5_method_1_code
def yX8_init : MethodName := ⟨RX8, "<init>", "(LPathSolver$TruthRows;)V"⟩
def wsX8_init : List Cond := .code yX8_init cX8_init 2 none :: AW
abbrev cX9_variable : ByteArray := prog_1_method_2_code
def yX9_variable : MethodName := ⟨RX9, "variable", "(IZ)I"⟩
def wsX9_variable : List Cond := .code yX9_variable cX9_variable 3 (some .int) :: AW
abbrev cX2_admits : ByteArray := prog_9_method_3_code
def yX2_admits : MethodName := ⟨RX2, "admits", "(I)Z"⟩
def wsX2_admits : List Cond := .code yX2_admits cX2_admits 2 (some .boolean) :: AW
abbrev cX4_isFull : ByteArray := prog_7_method_4_code
def yX4_isFull : MethodName := ⟨RX4, "isFull", "()Z"⟩
def wsX4_isFull : List Cond := .code yX4_isFull cX4_isFull 1 (some .boolean) :: AW
abbrev cX2_add : ByteArray := prog_9_method_4_code
def yX2_add : MethodName := ⟨RX2, "add", "(IZ)I"⟩
def wsX2_add : List Cond := .code yX2_add cX2_add 3 (some .int) :: AW
abbrev cX2_freeBits : ByteArray := prog_9_method_5_code
def yX2_freeBits : MethodName := ⟨RX2, "freeBits", "()I"⟩
def wsX2_freeBits : List Cond := .code yX2_freeBits cX2_freeBits 1 (some .int) :: AW
abbrev cX4_addVariable : ByteArray := prog_7_method_13_code
def yX4_addVariable : MethodName := ⟨RX4, "addVariable", "(I)I"⟩
def wsX4_addVariable : List Cond := .code yX4_addVariable cX4_addVariable 3 (some .int) :: AW
abbrev cX4_addPlain : ByteArray := prog_7_method_18_code
def yX4_addPlain : MethodName := ⟨RX4, "addPlain", "(II)I"⟩
def wsX4_addPlain : List Cond := .code yX4_addPlain cX4_addPlain 3 (some .int) :: AW
abbrev cX9_constant : ByteArray := prog_1_method_3_code
def yX9_constant : MethodName := ⟨RX9, "constant", "(IJ)I"⟩
def wsX9_constant : List Cond := .code yX9_constant cX9_constant 4 (some .int) :: AW
abbrev cX0_isOne : ByteArray := prog_10_method_2_code
def yX0_isOne : MethodName := ⟨RX0, "isOne", "(I)Z"⟩
def wsX0_isOne : List Cond := .code yX0_isOne cX0_isOne 1 (some .boolean) :: AW
abbrev cX4_findOrAddConstant : ByteArray := prog_7_method_14_code
def yX4_findOrAddConstant : MethodName := ⟨RX4, "findOrAddConstant", "(IJ)I"⟩
def wsX4_findOrAddConstant : List Cond := .code yX4_findOrAddConstant cX4_findOrAddConstant 7 (some .int) :: AW
abbrev cX0_readSigned : ByteArray := prog_10_method_3_code
def yX0_readSigned : MethodName := ⟨RX0, "readSigned", "(IJ)J"⟩
def wsX0_readSigned : List Cond := .code yX0_readSigned cX0_readSigned 4 (some .long) :: AW
abbrev cX4_isConstant : ByteArray := prog_7_method_9_code
def yX4_isConstant : MethodName := ⟨RX4, "isConstant", "(I)Z"⟩
def wsX4_isConstant : List Cond := .code yX4_isConstant cX4_isConstant 2 (some .boolean) :: AW
abbrev cX9_entry : ByteArray := prog_1_method_4_code
def yX9_entry : MethodName := ⟨RX9, "entry", "(III)I"⟩
def wsX9_entry : List Cond := .code yX9_entry cX9_entry 4 (some .int) :: AW
abbrev cX3_isTable : ByteArray := prog_6_method_2_code
def yX3_isTable : MethodName := ⟨RX3, "isTable", "(I)Z"⟩
def wsX3_isTable : List Cond := .code yX3_isTable cX3_isTable 1 (some .boolean) :: AW
abbrev cX3_isPlace : ByteArray := prog_6_method_3_code
def yX3_isPlace : MethodName := ⟨RX3, "isPlace", "(I)Z"⟩
def wsX3_isPlace : List Cond := .code yX3_isPlace cX3_isPlace 1 (some .boolean) :: AW
abbrev cX3_set : ByteArray := prog_6_method_4_code
def yX3_set : MethodName := ⟨RX3, "set", "(III)V"⟩
def wsX3_set : List Cond := .code yX3_set cX3_set 4 none :: AW
abbrev cX7_forgetReadersOf : ByteArray := prog_8_method_3_code
def yX7_forgetReadersOf : MethodName := ⟨RX7, "forgetReadersOf", "(I)V"⟩
def wsX7_forgetReadersOf : List Cond := .code yX7_forgetReadersOf cX7_forgetReadersOf 4 none :: AW
abbrev cX4_size : ByteArray := prog_7_method_2_code
def yX4_size : MethodName := ⟨RX4, "size", "()I"⟩
def wsX4_size : List Cond := .code yX4_size cX4_size 1 (some .int) :: AW
abbrev cX4_readsTable : ByteArray := prog_7_method_12_code
def yX4_readsTable : MethodName := ⟨RX4, "readsTable", "(II)Z"⟩
def wsX4_readsTable : List Cond := .code yX4_readsTable cX4_readsTable 3 (some .boolean) :: AW
abbrev cX9_term : ByteArray := prog_1_method_5_code
def yX9_term : MethodName := ⟨RX9, "term", "(IIII)I"⟩
def wsX9_term : List Cond := .code yX9_term cX9_term 5 (some .int) :: AW
abbrev cX6_accepts : ByteArray := prog_3_method_2_code
def yX6_accepts : MethodName := ⟨RX6, "accepts", "(IIII)Z"⟩
def wsX6_accepts : List Cond := .code yX6_accepts cX6_accepts 6 (some .boolean) :: AW
abbrev cX4_has : ByteArray := prog_7_method_5_code
def yX4_has : MethodName := ⟨RX4, "has", "(I)Z"⟩
def wsX4_has : List Cond := .code yX4_has cX4_has 2 (some .boolean) :: AW
abbrev cX4_widthOf : ByteArray := prog_7_method_6_code
def yX4_widthOf : MethodName := ⟨RX4, "widthOf", "(I)I"⟩
def wsX4_widthOf : List Cond := .code yX4_widthOf cX4_widthOf 2 (some .int) :: AW
abbrev cX6_areAlike : ByteArray := prog_3_method_5_code
def yX6_areAlike : MethodName := ⟨RX6, "areAlike", "(II)Z"⟩
def wsX6_areAlike : List Cond := .code yX6_areAlike cX6_areAlike 3 (some .boolean) :: AW
abbrev cX1_isThereFor : ByteArray := prog_4_method_5_code
def yX1_isThereFor : MethodName := ⟨RX1, "isThereFor", "(II)Z"⟩
def wsX1_isThereFor : List Cond := .code yX1_isThereFor cX1_isThereFor 2 (some .boolean) :: AW
abbrev cX6_make : ByteArray := prog_3_method_3_code
def yX6_make : MethodName := ⟨RX6, "make", "(IIII)I"⟩
def wsX6_make : List Cond := .code yX6_make cX6_make 8 (some .int) :: AW
abbrev cX1_named : ByteArray := prog_4_method_2_code
def yX1_named : MethodName := ⟨RX1, "named", "(I)I"⟩
def wsX1_named : List Cond := .code yX1_named cX1_named 1 (some .int) :: AW
abbrev cX1_namedTerms : ByteArray := prog_4_method_3_code
def yX1_namedTerms : MethodName := ⟨RX1, "namedTerms", "(I)I"⟩
def wsX1_namedTerms : List Cond := .code yX1_namedTerms cX1_namedTerms 1 (some .int) :: AW
abbrev cX6_areConstants : ByteArray := prog_3_method_6_code
def yX6_areConstants : MethodName := ⟨RX6, "areConstants", "(IIII)Z"⟩
def wsX6_areConstants : List Cond := .code yX6_areConstants cX6_areConstants 5 (some .boolean) :: AW
abbrev cX4_widthOfResult : ByteArray := prog_7_method_17_code
def yX4_widthOfResult : MethodName := ⟨RX4, "widthOfResult", "(III)I"⟩
def wsX4_widthOfResult : List Cond := .code yX4_widthOfResult cX4_widthOfResult 4 (some .int) :: AW
abbrev cX5_applyToConstants : ByteArray := prog_2_method_8_code
def yX5_applyToConstants : MethodName := ⟨RX5, "applyToConstants", "(IIII)J"⟩
def wsX5_applyToConstants : List Cond := .code yX5_applyToConstants cX5_applyToConstants 5 (some .long) :: AW
abbrev cX4_constants : ByteArray := prog_7_method_11_code
def yX4_constants : MethodName := ⟨RX4, "constants", "()[J"⟩
def wsX4_constants : List Cond := .code yX4_constants cX4_constants 1 (some (.array .long)) :: AW
abbrev cX5_apply : ByteArray := prog_2_method_9_code
def yX5_apply : MethodName := ⟨RX5, "apply", "(IIII[J)J"⟩
def wsX5_apply : List Cond := .code yX5_apply cX5_apply 7 (some .long) :: AW
abbrev cX1_ofOne : ByteArray := prog_4_method_7_code
def yX1_ofOne : MethodName := ⟨RX1, "ofOne", "(IIJ)J"⟩
def wsX1_ofOne : List Cond := .code yX1_ofOne cX1_ofOne 4 (some .long) :: AW
abbrev cX1_resized : ByteArray := prog_4_method_9_code
def yX1_resized : MethodName := ⟨RX1, "resized", "(IIIJ)J"⟩
def wsX1_resized : List Cond := .code yX1_resized cX1_resized 5 (some .long) :: AW
abbrev cX0_readPlain : ByteArray := prog_10_method_4_code
def yX0_readPlain : MethodName := ⟨RX0, "readPlain", "(IJ)J"⟩
def wsX0_readPlain : List Cond := .code yX0_readPlain cX0_readPlain 4 (some .long) :: AW
abbrev cX3_lookUp : ByteArray := prog_6_method_5_code
def yX3_lookUp : MethodName := ⟨RX3, "lookUp", "(IJ)J"⟩
def wsX3_lookUp : List Cond := .code yX3_lookUp cX3_lookUp 4 (some .long) :: AW
abbrev cX1_divided : ByteArray := prog_4_method_10_code
def yX1_divided : MethodName := ⟨RX1, "divided", "(IIJJ)J"⟩
def wsX1_divided : List Cond := .code yX1_divided cX1_divided 12 (some .long) :: AW
abbrev cX1_moved : ByteArray := prog_4_method_11_code
def yX1_moved : MethodName := ⟨RX1, "moved", "(IIJJ)J"⟩
def wsX1_moved : List Cond := .code yX1_moved cX1_moved 7 (some .long) :: AW
abbrev cX1_ofTwo : ByteArray := prog_4_method_8_code
def yX1_ofTwo : MethodName := ⟨RX1, "ofTwo", "(IIJJ)J"⟩
def wsX1_ofTwo : List Cond := .code yX1_ofTwo cX1_ofTwo 6 (some .long) :: AW
abbrev cX1_bit : ByteArray := prog_4_method_12_code
def yX1_bit : MethodName := ⟨RX1, "bit", "(Z)J"⟩
def wsX1_bit : List Cond := .code yX1_bit cX1_bit 1 (some .long) :: AW
abbrev cX1_changesPlaces : ByteArray := prog_4_method_4_code
def yX1_changesPlaces : MethodName := ⟨RX1, "changesPlaces", "(I)Z"⟩
def wsX1_changesPlaces : List Cond := .code yX1_changesPlaces cX1_changesPlaces 1 (some .boolean) :: AW
abbrev cX6_makeInPlace : ByteArray := prog_3_method_4_code
def yX6_makeInPlace : MethodName := ⟨RX6, "makeInPlace", "(IIII)I"⟩
def wsX6_makeInPlace : List Cond := .code yX6_makeInPlace cX6_makeInPlace 6 (some .int) :: AW
abbrev cX6_ofSameOperands : ByteArray := prog_3_method_7_code
def yX6_ofSameOperands : MethodName := ⟨RX6, "ofSameOperands", "(IIII)I"⟩
def wsX6_ofSameOperands : List Cond := .code yX6_ofSameOperands cX6_ofSameOperands 5 (some .int) :: AW
abbrev cX6_ofSettledChoice : ByteArray := prog_3_method_8_code
def yX6_ofSettledChoice : MethodName := ⟨RX6, "ofSettledChoice", "(III)I"⟩
def wsX6_ofSettledChoice : List Cond := .code yX6_ofSettledChoice cX6_ofSettledChoice 4 (some .int) :: AW
abbrev cX4_isZero : ByteArray := prog_7_method_10_code
def yX4_isZero : MethodName := ⟨RX4, "isZero", "(I)Z"⟩
def wsX4_isZero : List Cond := .code yX4_isZero cX4_isZero 2 (some .boolean) :: AW
abbrev cX6_ofZero : ByteArray := prog_3_method_9_code
def yX6_ofZero : MethodName := ⟨RX6, "ofZero", "(III)I"⟩
def wsX6_ofZero : List Cond := .code yX6_ofZero cX6_ofZero 4 (some .int) :: AW
abbrev cX6_ofUndoing : ByteArray := prog_3_method_10_code
def yX6_ofUndoing : MethodName := ⟨RX6, "ofUndoing", "(II)I"⟩
def wsX6_ofUndoing : List Cond := .code yX6_ofUndoing cX6_ofUndoing 4 (some .int) :: AW
abbrev cX4_operationOf : ByteArray := prog_7_method_7_code
def yX4_operationOf : MethodName := ⟨RX4, "operationOf", "(I)I"⟩
def wsX4_operationOf : List Cond := .code yX4_operationOf cX4_operationOf 2 (some .int) :: AW
abbrev cX4_operandOf : ByteArray := prog_7_method_8_code
def yX4_operandOf : MethodName := ⟨RX4, "operandOf", "(II)I"⟩
def wsX4_operandOf : List Cond := .code yX4_operandOf cX4_operandOf 3 (some .int) :: AW
abbrev cX4_find : ByteArray := prog_7_method_15_code
def yX4_find : MethodName := ⟨RX4, "find", "(IIII)I"⟩
def wsX4_find : List Cond := .code yX4_find cX4_find 6 (some .int) :: AW
abbrev cX4_add : ByteArray := prog_7_method_16_code
def yX4_add : MethodName := ⟨RX4, "add", "(IIII)I"⟩
def wsX4_add : List Cond := .code yX4_add cX4_add 8 (some .int) :: AW
abbrev cX1_costFor : ByteArray := prog_4_method_6_code
def yX1_costFor : MethodName := ⟨RX1, "costFor", "(II)I"⟩
def wsX1_costFor : List Cond := .code yX1_costFor cX1_costFor 2 (some .int) :: AW
abbrev cX4_noteTablesRead : ByteArray := prog_7_method_19_code
def yX4_noteTablesRead : MethodName := ⟨RX4, "noteTablesRead", "(I)V"⟩
def wsX4_noteTablesRead : List Cond := .code yX4_noteTablesRead cX4_noteTablesRead 5 none :: AW
abbrev cX9_take : ByteArray := prog_1_method_6_code
def yX9_take : MethodName := ⟨RX9, "take", "(I)I"⟩
def wsX9_take : List Cond := .code yX9_take cX9_take 2 (some .int) :: AW
abbrev cX8_isFull : ByteArray := prog_5_method_3_code
def yX8_isFull : MethodName := ⟨RX8, "isFull", "()Z"⟩
def wsX8_isFull : List Cond := .code yX8_isFull cX8_isFull 1 (some .boolean) :: AW
abbrev cX8_push : ByteArray := prog_5_method_5_code
def yX8_push : MethodName := ⟨RX8, "push", "(I)I"⟩
def wsX8_push : List Cond := .code yX8_push cX8_push 2 (some .int) :: AW
abbrev cX9_back : ByteArray := prog_1_method_7_code
def yX9_back : MethodName := ⟨RX9, "back", "()I"⟩
def wsX9_back : List Cond := .code yX9_back cX9_back 1 (some .int) :: AW
abbrev cX8_length : ByteArray := prog_5_method_2_code
def yX8_length : MethodName := ⟨RX8, "length", "()I"⟩
def wsX8_length : List Cond := .code yX8_length cX8_length 1 (some .int) :: AW
abbrev cX8_pop : ByteArray := prog_5_method_6_code
def yX8_pop : MethodName := ⟨RX8, "pop", "()I"⟩
def wsX8_pop : List Cond := .code yX8_pop cX8_pop 1 (some .int) :: AW
abbrev cX9_check : ByteArray := prog_1_method_8_code
def yX9_check : MethodName := ⟨RX9, "check", "()I"⟩
def wsX9_check : List Cond := .code yX9_check cX9_check 1 (some .int) :: AW
abbrev cX8_firstTaking : ByteArray := prog_5_method_7_code
def yX8_firstTaking : MethodName := ⟨RX8, "firstTaking", "()I"⟩
def wsX8_firstTaking : List Cond := .code yX8_firstTaking cX8_firstTaking 4 (some .int) :: AW
abbrev cX7_learn : ByteArray := prog_8_method_4_code
def yX7_learn : MethodName := ⟨RX7, "learn", "([II)V"⟩
def wsX7_learn : List Cond := .code yX7_learn cX7_learn 6 none :: AW
abbrev cX7_ask : ByteArray := prog_8_method_5_code
def yX7_ask : MethodName := ⟨RX7, "ask", "([II)V"⟩
def wsX7_ask : List Cond := .code yX7_ask cX7_ask 5 none :: AW
abbrev cX5_needNothing : ByteArray := prog_2_method_4_code
def yX5_needNothing : MethodName := ⟨RX5, "needNothing", "()V"⟩
def wsX5_needNothing : List Cond := .code yX5_needNothing cX5_needNothing 2 none :: AW
abbrev cX7_clearRow : ByteArray := prog_8_method_6_code
def yX7_clearRow : MethodName := ⟨RX7, "clearRow", "(I)V"⟩
def wsX7_clearRow : List Cond := .code yX7_clearRow cX7_clearRow 3 none :: AW
abbrev cX5_need : ByteArray := prog_2_method_5_code
def yX5_need : MethodName := ⟨RX5, "need", "(I)V"⟩
def wsX5_need : List Cond := .code yX5_need cX5_need 2 none :: AW
abbrev cX5_needOperands : ByteArray := prog_2_method_6_code
def yX5_needOperands : MethodName := ⟨RX5, "needOperands", "()V"⟩
def wsX5_needOperands : List Cond := .code yX5_needOperands cX5_needOperands 4 none :: AW
abbrev cX5_evaluateNeeded : ByteArray := prog_2_method_7_code
def yX5_evaluateNeeded : MethodName := ⟨RX5, "evaluateNeeded", "(I)V"⟩
def wsX5_evaluateNeeded : List Cond := .code yX5_evaluateNeeded cX5_evaluateNeeded 7 none :: AW
abbrev cX2_readAt : ByteArray := prog_9_method_7_code
def yX2_readAt : MethodName := ⟨RX2, "readAt", "(II)J"⟩
def wsX2_readAt : List Cond := .code yX2_readAt cX2_readAt 3 (some .long) :: AW
abbrev cX2_bitsAt : ByteArray := prog_9_method_6_code
def yX2_bitsAt : MethodName := ⟨RX2, "bitsAt", "(II)I"⟩
def wsX2_bitsAt : List Cond := .code yX2_bitsAt cX2_bitsAt 3 (some .int) :: AW
abbrev cX7_noteAsked : ByteArray := prog_8_method_7_code
def yX7_noteAsked : MethodName := ⟨RX7, "noteAsked", "(II)V"⟩
def wsX7_noteAsked : List Cond := .code yX7_noteAsked cX7_noteAsked 4 none :: AW
abbrev cX5_resultAt : ByteArray := prog_2_method_2_code
def yX5_resultAt : MethodName := ⟨RX5, "resultAt", "(I)J"⟩
def wsX5_resultAt : List Cond := .code yX5_resultAt cX5_resultAt 2 (some .long) :: AW
abbrev cX7_setBits : ByteArray := prog_8_method_8_code
def yX7_setBits : MethodName := ⟨RX7, "setBits", "(III)V"⟩
def wsX7_setBits : List Cond := .code yX7_setBits cX7_setBits 5 none :: AW
abbrev cX8_holdingBefore : ByteArray := prog_5_method_9_code
def yX8_holdingBefore : MethodName := ⟨RX8, "holdingBefore", "(II)J"⟩
def wsX8_holdingBefore : List Cond := .code yX8_holdingBefore cX8_holdingBefore 6 (some .long) :: AW
abbrev cX7_wordOf : ByteArray := prog_8_method_2_code
def yX7_wordOf : MethodName := ⟨RX7, "wordOf", "(II)J"⟩
def wsX7_wordOf : List Cond := .code yX7_wordOf cX7_wordOf 3 (some .long) :: AW
abbrev cX8_lowestBit : ByteArray := prog_5_method_10_code
def yX8_lowestBit : MethodName := ⟨RX8, "lowestBit", "(J)I"⟩
def wsX8_lowestBit : List Cond := .code yX8_lowestBit cX8_lowestBit 3 (some .int) :: AW
abbrev cX9_settle : ByteArray := prog_1_method_18_code
def yX9_settle : MethodName := ⟨RX9, "settle", "(I)Z"⟩
def wsX9_settle : List Cond := .code yX9_settle cX9_settle 2 (some .boolean) :: AW
abbrev cX2_size : ByteArray := prog_9_method_2_code
def yX2_size : MethodName := ⟨RX2, "size", "()I"⟩
def wsX2_size : List Cond := .code yX2_size cX2_size 1 (some .int) :: AW
abbrev cX9_flip : ByteArray := prog_1_method_9_code
def yX9_flip : MethodName := ⟨RX9, "flip", "(I)I"⟩
def wsX9_flip : List Cond := .code yX9_flip cX9_flip 2 (some .int) :: AW
abbrev cX8_firstLeavingAt : ByteArray := prog_5_method_8_code
def yX8_firstLeavingAt : MethodName := ⟨RX8, "firstLeavingAt", "(I)I"⟩
def wsX8_firstLeavingAt : List Cond := .code yX8_firstLeavingAt cX8_firstLeavingAt 5 (some .int) :: AW
abbrev cX9_search : ByteArray := prog_1_method_10_code
def yX9_search : MethodName := ⟨RX9, "search", "(I)I"⟩
def wsX9_search : List Cond := .code yX9_search cX9_search 4 (some .int) :: AW
abbrev cX9_model : ByteArray := prog_1_method_11_code
def yX9_model : MethodName := ⟨RX9, "model", "(I)I"⟩
def wsX9_model : List Cond := .code yX9_model cX9_model 2 (some .int) :: AW
abbrev cX9_value : ByteArray := prog_1_method_12_code
def yX9_value : MethodName := ⟨RX9, "value", "(I)J"⟩
def wsX9_value : List Cond := .code yX9_value cX9_value 2 (some .long) :: AW
abbrev cX5_needOnly : ByteArray := prog_2_method_3_code
def yX5_needOnly : MethodName := ⟨RX5, "needOnly", "(I)V"⟩
def wsX5_needOnly : List Cond := .code yX5_needOnly cX5_needOnly 2 none :: AW
abbrev cX9_follows : ByteArray := prog_1_method_13_code
def yX9_follows : MethodName := ⟨RX9, "follows", "()I"⟩
def wsX9_follows : List Cond := .code yX9_follows cX9_follows 3 (some .int) :: AW
abbrev cX8_conditionAt : ByteArray := prog_5_method_4_code
def yX8_conditionAt : MethodName := ⟨RX8, "conditionAt", "(I)I"⟩
def wsX8_conditionAt : List Cond := .code yX8_conditionAt cX8_conditionAt 2 (some .int) :: AW
abbrev cX9_width : ByteArray := prog_1_method_14_code
def yX9_width : MethodName := ⟨RX9, "width", "(I)I"⟩
def wsX9_width : List Cond := .code yX9_width cX9_width 2 (some .int) :: AW
abbrev cX9_operation : ByteArray := prog_1_method_15_code
def yX9_operation : MethodName := ⟨RX9, "operation", "(I)I"⟩
def wsX9_operation : List Cond := .code yX9_operation cX9_operation 2 (some .int) :: AW
abbrev cX9_operand : ByteArray := prog_1_method_16_code
def yX9_operand : MethodName := ⟨RX9, "operand", "(II)I"⟩
def wsX9_operand : List Cond := .code yX9_operand cX9_operand 3 (some .int) :: AW
abbrev cX9_count : ByteArray := prog_1_method_17_code
def yX9_count : MethodName := ⟨RX9, "count", "(I)I"⟩
def wsX9_count : List Cond := .code yX9_count cX9_count 2 (some .int) :: AW
abbrev cX4_totalCost : ByteArray := prog_7_method_3_code
def yX4_totalCost : MethodName := ⟨RX4, "totalCost", "()I"⟩
def wsX4_totalCost : List Cond := .code yX4_totalCost cX4_totalCost 1 (some .int) :: AW
abbrev cX10_init : ByteArray := prog_12_method_1_code
def yX10_init : MethodName := ⟨RX10, "<init>", "()V"⟩
def wsX10_init : List Cond := .code yX10_init cX10_init 1 none :: AW
abbrev cX10_variable : ByteArray := prog_12_method_7_code
def yX10_variable : MethodName := ⟨RX10, "variable", "(IZ)I"⟩
def wsX10_variable : List Cond := .code yX10_variable cX10_variable 5 (some .int) :: AW
abbrev cX10_fresh : ByteArray := prog_12_method_6_code
def yX10_fresh : MethodName := ⟨RX10, "fresh", "(IIIII)I"⟩
def wsX10_fresh : List Cond := .code yX10_fresh cX10_fresh 6 (some .int) :: AW
abbrev cX10_constant : ByteArray := prog_12_method_8_code
def yX10_constant : MethodName := ⟨RX10, "constant", "(IJ)I"⟩
def wsX10_constant : List Cond := .code yX10_constant cX10_constant 4 (some .int) :: AW
abbrev cX10_isWidth : ByteArray := prog_12_method_2_code
def yX10_isWidth : MethodName := ⟨RX10, "isWidth", "(I)Z"⟩
def wsX10_isWidth : List Cond := .code yX10_isWidth cX10_isWidth 2 (some .boolean) :: AW
abbrev cX10_constantOf : ByteArray := prog_12_method_9_code
def yX10_constantOf : MethodName := ⟨RX10, "constantOf", "(IJ)I"⟩
def wsX10_constantOf : List Cond := .code yX10_constantOf cX10_constantOf 5 (some .int) :: AW
abbrev cX10_cut : ByteArray := prog_12_method_3_code
def yX10_cut : MethodName := ⟨RX10, "cut", "(JI)J"⟩
def wsX10_cut : List Cond := .code yX10_cut cX10_cut 4 (some .long) :: AW
abbrev cX10_entry : ByteArray := prog_12_method_10_code
def yX10_entry : MethodName := ⟨RX10, "entry", "(III)I"⟩
def wsX10_entry : List Cond := .code yX10_entry cX10_entry 4 (some .int) :: AW
abbrev cX10_term : ByteArray := prog_12_method_20_code
def yX10_term : MethodName := ⟨RX10, "term", "(IIII)I"⟩
def wsX10_term : List Cond := .code yX10_term cX10_term 7 (some .int) :: AW
abbrev cX10_fits : ByteArray := prog_12_method_15_code
def yX10_fits : MethodName := ⟨RX10, "fits", "(IIII)Z"⟩
def wsX10_fits : List Cond := .code yX10_fits cX10_fits 6 (some .boolean) :: AW
abbrev cX10_none : ByteArray := prog_12_method_5_code
def yX10_none : MethodName := ⟨RX10, "none", "(I)Z"⟩
def wsX10_none : List Cond := .code yX10_none cX10_none 2 (some .boolean) :: AW
abbrev cX10_isConst : ByteArray := prog_12_method_16_code
def yX10_isConst : MethodName := ⟨RX10, "isConst", "(I)Z"⟩
def wsX10_isConst : List Cond := .code yX10_isConst cX10_isConst 2 (some .boolean) :: AW
abbrev cX10_widthOf : ByteArray := prog_12_method_18_code
def yX10_widthOf : MethodName := ⟨RX10, "widthOf", "(III)I"⟩
def wsX10_widthOf : List Cond := .code yX10_widthOf cX10_widthOf 4 (some .int) :: AW
abbrev cX10_result : ByteArray := prog_12_method_14_code
def yX10_result : MethodName := ⟨RX10, "result", "(IIII)J"⟩
def wsX10_result : List Cond := .code yX10_result cX10_result 5 (some .long) :: AW
abbrev cX10_sign : ByteArray := prog_12_method_4_code
def yX10_sign : MethodName := ⟨RX10, "sign", "(JI)J"⟩
def wsX10_sign : List Cond := .code yX10_sign cX10_sign 4 (some .long) :: AW
abbrev cX10_plain : ByteArray := prog_12_method_13_code
def yX10_plain : MethodName := ⟨RX10, "plain", "(IJJI)J"⟩
def wsX10_plain : List Cond := .code yX10_plain cX10_plain 7 (some .long) :: AW
abbrev cX10_less : ByteArray := prog_12_method_12_code
def yX10_less : MethodName := ⟨RX10, "less", "(JJ)J"⟩
def wsX10_less : List Cond := .code yX10_less cX10_less 5 (some .long) :: AW
abbrev cX10_shifted : ByteArray := prog_12_method_11_code
def yX10_shifted : MethodName := ⟨RX10, "shifted", "(IJJI)J"⟩
def wsX10_shifted : List Cond := .code yX10_shifted cX10_shifted 8 (some .long) :: AW
abbrev cX10_simple : ByteArray := prog_12_method_22_code
def yX10_simple : MethodName := ⟨RX10, "simple", "(IIII)I"⟩
def wsX10_simple : List Cond := .code yX10_simple cX10_simple 10 (some .int) :: AW
abbrev cX10_shorter : ByteArray := prog_12_method_21_code
def yX10_shorter : MethodName := ⟨RX10, "shorter", "(IIII)I"⟩
def wsX10_shorter : List Cond := .code yX10_shorter cX10_shorter 6 (some .int) :: AW
abbrev cX10_isZero : ByteArray := prog_12_method_17_code
def yX10_isZero : MethodName := ⟨RX10, "isZero", "(I)Z"⟩
def wsX10_isZero : List Cond := .code yX10_isZero cX10_isZero 2 (some .boolean) :: AW
abbrev cX10_cost : ByteArray := prog_12_method_19_code
def yX10_cost : MethodName := ⟨RX10, "cost", "(II)I"⟩
def wsX10_cost : List Cond := .code yX10_cost cX10_cost 3 (some .int) :: AW
abbrev cX10_take : ByteArray := prog_12_method_23_code
def yX10_take : MethodName := ⟨RX10, "take", "(I)I"⟩
def wsX10_take : List Cond := .code yX10_take cX10_take 2 (some .int) :: AW
abbrev cX10_back : ByteArray := prog_12_method_24_code
def yX10_back : MethodName := ⟨RX10, "back", "()I"⟩
def wsX10_back : List Cond := .code yX10_back cX10_back 1 (some .int) :: AW
abbrev cX10_check : ByteArray := prog_12_method_28_code
def yX10_check : MethodName := ⟨RX10, "check", "()I"⟩
def wsX10_check : List Cond := .code yX10_check cX10_check 1 (some .int) :: AW
abbrev cX10_solve : ByteArray := prog_12_method_26_code
def yX10_solve : MethodName := ⟨RX10, "solve", "(IZ)Z"⟩
def wsX10_solve : List Cond := .code yX10_solve cX10_solve 8 (some .boolean) :: AW
abbrev cX10_work : ByteArray := prog_12_method_25_code
def yX10_work : MethodName := ⟨RX10, "work", "()V"⟩
def wsX10_work : List Cond := .code yX10_work cX10_work 2 none :: AW
abbrev cX10_answer : ByteArray := prog_12_method_27_code
def yX10_answer : MethodName := ⟨RX10, "answer", "(Z)I"⟩
def wsX10_answer : List Cond := .code yX10_answer cX10_answer 3 (some .int) :: AW
abbrev cX10_flip : ByteArray := prog_12_method_29_code
def yX10_flip : MethodName := ⟨RX10, "flip", "(I)I"⟩
def wsX10_flip : List Cond := .code yX10_flip cX10_flip 2 (some .int) :: AW
abbrev cX10_search : ByteArray := prog_12_method_30_code
def yX10_search : MethodName := ⟨RX10, "search", "(I)I"⟩
def wsX10_search : List Cond := .code yX10_search cX10_search 4 (some .int) :: AW
abbrev cX10_model : ByteArray := prog_12_method_32_code
def yX10_model : MethodName := ⟨RX10, "model", "(I)I"⟩
def wsX10_model : List Cond := .code yX10_model cX10_model 2 (some .int) :: AW
abbrev cX10_value : ByteArray := prog_12_method_33_code
def yX10_value : MethodName := ⟨RX10, "value", "(I)J"⟩
def wsX10_value : List Cond := .code yX10_value cX10_value 2 (some .long) :: AW
abbrev cX10_takeModel : ByteArray := prog_12_method_31_code
def yX10_takeModel : MethodName := ⟨RX10, "takeModel", "()V"⟩
def wsX10_takeModel : List Cond := .code yX10_takeModel cX10_takeModel 2 none :: AW
abbrev cX10_follows : ByteArray := prog_12_method_34_code
def yX10_follows : MethodName := ⟨RX10, "follows", "()I"⟩
def wsX10_follows : List Cond := .code yX10_follows cX10_follows 2 (some .int) :: AW
abbrev cX10_width : ByteArray := prog_12_method_35_code
def yX10_width : MethodName := ⟨RX10, "width", "(I)I"⟩
def wsX10_width : List Cond := .code yX10_width cX10_width 2 (some .int) :: AW
abbrev cX10_operation : ByteArray := prog_12_method_36_code
def yX10_operation : MethodName := ⟨RX10, "operation", "(I)I"⟩
def wsX10_operation : List Cond := .code yX10_operation cX10_operation 2 (some .int) :: AW
abbrev cX10_operand : ByteArray := prog_12_method_37_code
def yX10_operand : MethodName := ⟨RX10, "operand", "(II)I"⟩
def wsX10_operand : List Cond := .code yX10_operand cX10_operand 4 (some .int) :: AW
abbrev cX10_count : ByteArray := prog_12_method_38_code
def yX10_count : MethodName := ⟨RX10, "count", "(I)I"⟩
def wsX10_count : List Cond := .code yX10_count cX10_count 2 (some .int) :: AW
abbrev vwCl : List vw_C := [(RX2, TX2, 5), (RX3, TX3, 1), (RX4, TX4, 7), (RX5, TX5, 5), (RX6, TX6, 2), (RX7, TX7, 7), (RX8, TX8, 3), (RX9, TX9, 11), (RX10, TX10, 21)]
theorem aw_in {w : Cond} (h : w ∈ AW) : w ∈ AW ∧ ((w.onTables && w.keeps) = true ∨ ∃ ty, w = .arrayClass ty) := ⟨h, good_of_word (List.mem_filter.mp h).2⟩
theorem aw_cons {cw : Cond} (h : cw ∈ AW) : ∀ w ∈ cw :: AW, w ∈ AW := fun w hw => (List.mem_cons.mp hw).elim (fun e => e ▸ h) (fun h => h)
theorem aw_V {own C : String} {idx : Nat} {y : MethodName} {cw : Cond} (h1 : .methodLink own idx y ∈ AW) (h2 : .instanceMethod y ∈ AW) (h3 : .selects C y y ∈ AW) (h4 : .initialized C ∈ AW) (h5 : cw ∈ AW) : GoodIn AW (wsV own idx C y (cw :: AW)) := by
  intro w hw
  refine aw_in ?_
  rcases List.mem_append.mp hw with h | h
  · simp only [List.mem_cons, List.not_mem_nil, or_false] at h
    rcases h with rfl | rfl | rfl | rfl <;> assumption
  · exact aw_cons h5 w h
theorem aw_S {own : String} {idx : Nat} {y : MethodName} {cw : Cond} (h1 : .methodLink own idx y ∈ AW) (h2 : .static y ∈ AW) (h3 : .initialized y.cls ∈ AW) (h5 : cw ∈ AW) : GoodIn AW (va_wsS own idx y (cw :: AW)) := by
  intro w hw
  refine aw_in ?_
  rcases List.mem_append.mp hw with h | h
  · simp only [List.mem_cons, List.not_mem_nil, or_false] at h
    rcases h with rfl | rfl | rfl <;> assumption
  · exact aw_cons h5 w h
theorem aw_law {args : Array Value} {s : State} (h : ∀ w ∈ lw_tbl, w.before args s = true) : ∀ w ∈ AW, w.before args s = true := fun w hw => h w (List.mem_filter.mp hw).1
theorem aw_I {cw : Cond} (h5 : cw ∈ AW) : GoodIn AW (cw :: AW) := fun w hw => aw_in (aw_cons h5 w hw)
theorem aw_hts {cw : Cond} {args : Array Value} {s : State} (h : ∀ w ∈ cw :: AW, w.before args s = true) : ∀ w ∈ AW, w.before args s = true := fun w hw => h w (List.mem_cons_of_mem _ hw)
end
section
/-! THE STATE of a side: its int fields, its int arrays (booleans as ints), its long arrays, each by a number of ours -/
abbrev XS : Type := (Nat → Int32) × (Nat → Nat → Int32) × (Nat → Nat → Int64)
def gI (S : XS) (k : Nat) : Int32 := S.1 k
def fA (S : XS) (k : Nat) : Nat → Int32 := S.2.1 k
def fL (S : XS) (k : Nat) : Nat → Int64 := S.2.2 k
def wI (S : XS) (k : Nat) (v : Int32) : XS := (va_up S.1 k v, S.2)
def wA (S : XS) (k n : Nat) (v : Int32) : XS := (S.1, va_up S.2.1 k (upd (S.2.1 k) n v), S.2.2)
def wL (S : XS) (k n : Nat) (v : Int64) : XS := (S.1, S.2.1, va_up S.2.2 k (vp_updL (S.2.2 k) n v))
abbrev wl_prR (D : va_G) (cl : List vw_C) (tys : List (ClassId × FieldType)) (ws : va_W) (U : State) : Prop := va_P D cl ws U.heap ∧ va_K D cl tys U
abbrev wl_pre {S : Type} (D : va_G) (cl : List vw_C) (tys : List (ClassId × FieldType)) (wf : S → va_W) (st : S) (sz : Nat) (U : State) : Prop := U.heap.size = sz ∧ va_P D cl (wf st) U.heap ∧ va_K D cl tys U ∧ va_D (fun _ => True) (wf st)
abbrev wl_at {S : Type} (D : va_G) (cl : List vw_C) (tys : List (ClassId × FieldType)) (wf : S → va_W) (A : Nat → Prop) (u : S) (t : State) : Prop := va_P D cl (wf u) t.heap ∧ va_K D cl tys t ∧ va_D A (wf u)
theorem wl_pR {s : State} {H : Heap} {D : va_G} {cl : List vw_C} {tys : List (ClassId × FieldType)} {ws : va_W} {b q0 ci : Nat} {C : String} {T : u_T} {N : Nat} {fs : List Value} {As : List Value} (hK : va_K D cl tys s) (hP : va_P D cl ws H) (hc : cl[ci]? = some (C, T, N)) (he : ws[q0]? = some (b, .inr (ci, fs))) : PreV s H C b (va_Pc (.ref b :: As) (wl_prR D cl tys ws)) As :=
  ⟨fun a U g mk q => ⟨q.1, q.2.1, va_K.moved (u := U) (U := U.calling g mk a) (Vm.Alike.refl U.vm) q.2.2⟩, va_recv hK hP hc he, fun U hU hW => ⟨rfl, by rw [hU]; exact hP, va_K.moved hW.alike hK⟩⟩
theorem wl_pM {S : Type} {s : State} {H : Heap} {D : va_G} {cl : List vw_C} {tys : List (ClassId × FieldType)} {A : Nat → Prop} {wf : S → va_W} {st : S} {b q0 ci : Nat} {C : String} {T : u_T} {N : Nat} {fs : List Value} {As : List Value} (hK : va_K D cl tys s) (hP : va_P D cl (wf st) H) (hD : va_D A (wf st)) (hc : cl[ci]? = some (C, T, N)) (he : (wf st)[q0]? = some (b, .inr (ci, fs))) : PreV s H C b (va_Pc (.ref b :: As) (wl_pre D cl tys wf st H.size)) As :=
  ⟨fun a U g mk q => ⟨q.1, q.2.1, q.2.2.1, va_K.moved (u := U) (U := U.calling g mk a) (Vm.Alike.refl U.vm) q.2.2.2.1, q.2.2.2.2⟩, va_recv hK hP hc he, fun U hU hW => ⟨rfl, by rw [hU], by rw [hU]; exact hP, va_K.moved hW.alike hK, hD.weaken (fun _ _ _ _ => trivial)⟩⟩
section WL
variable {p : Program} {l : Launch} {e : Env} {R : Room} {s : State} {m : MethodId} {args : Array Value} {below : List Frame} {meth : Method} {c : Code} {H : Heap} {locs : List Loc} {cells slots : Nat} {Q : State → Prop} {pc : Nat} {ls : Array Slot} {st0 rest : List Value} {a : Array Value} {A : Nat → Prop} {D : va_G} {cl : List vw_C} {tys : List (ClassId × FieldType)}
theorem wl_ci {F : Int32} (hr : va_Run p l e R s m args below meth c H locs cells slots 0 0 (F0 m pc ls st0) rest (vp_Si (fun r => r = F) a) (fun _ => False)) (kk : W p l e R s m args below meth c H locs cells slots Q (F0 m (pc + 3) ls (.int F :: rest))) : W p l e R s m args below meth c H locs cells slots Q (F0 m pc ls st0) :=
  vp_callSi hr.run (fun r h => by subst h; exact kk)
theorem wl_cl {F : Int64} (hr : va_Run p l e R s m args below meth c H locs cells slots 0 0 (F0 m pc ls st0) rest (vp_Sl (fun r => r = F) a) (fun _ => False)) (kk : W p l e R s m args below meth c H locs cells slots Q (F0 m (pc + 3) ls (.long F :: rest))) : W p l e R s m args below meth c H locs cells slots Q (F0 m pc ls st0) :=
  vp_callSl hr.run (fun r h => by subst h; exact kk)
theorem wl_cr {v : Value} (hr : va_Run p l e R s m args below meth c H locs cells slots 0 0 (F0 m pc ls st0) rest (va_Sr (fun _ => True) (fun _ => v) a) (fun _ => False)) (kk : W p l e R s m args below meth c H locs cells slots Q (F0 m (pc + 3) ls (v :: rest))) : W p l e R s m args below meth c H locs cells slots Q (F0 m pc ls st0) :=
  va_csr hr.run (fun _ _ => kk)
theorem wl_cu (hr : va_Run p l e R s m args below meth c H locs cells slots 0 0 (F0 m pc ls st0) rest (va_Sv (fun _ => True) a) (fun _ => False)) (kk : W p l e R s m args below meth c H locs cells slots Q (F0 m (pc + 3) ls rest)) : W p l e R s m args below meth c H locs cells slots Q (F0 m pc ls st0) :=
  va_csv hr.run (fun _ => kk)
theorem wl_fr {S : Type} {wf : S → va_W} {st : S} {H0 : Heap} (hD : va_D A (wf st)) (hS : va_S A H0 H locs) (hA : ∀ q, H0.size ≤ q → A q) : ∀ q, va_A (wf st) H.size q → A q := by
  intro q h
  rcases h with ⟨k, x, h⟩ | h
  · exact hD.2 k (q, x) h
  · exact hA q (Nat.le_trans hS.1 h)
theorem wl_mi {S : Type} {wf : S → va_W} {st : S} {F : Int32 × S} (hr : va_Run p l e R s m args below meth c H locs cells slots 0 0 (F0 m pc ls st0) rest (va_Qi (fun r u => (r, u) = F) (wl_at D cl tys wf (va_A (wf st) H.size)) (va_A (wf st) H.size) a) (va_A (wf st) H.size)) (hP : va_P D cl (wf st) H) (hD : va_D A (wf st)) (hS : va_S A s.heap H locs) (hA : ∀ q, s.heap.size ≤ q → A q) (kk : ∀ (H1 : Heap) (locs1 : List Loc), va_P D cl (wf F.2) H1 → va_D A (wf F.2) → va_S A s.heap H1 locs1 → W p l e R s m args below meth c H1 locs1 cells slots Q (F0 m (pc + 3) ls (.int F.1 :: rest))) : W p l e R s m args below meth c H locs cells slots Q (F0 m pc ls st0) := by
  have hF := wl_fr hD hS hA
  refine va_calli hr hS (fun q _ h => hF q h) hF (fun r u t H1 locs1 ht hvm hw hB hz1 hk1 hS1 => ?_)
  obtain ⟨hP1, hK1, hD1⟩ := hB
  subst hw
  exact kk H1 locs1 (by rw [← ht]; exact hP1) (hD1.weaken (fun k q _ h => hF q.1 h)) hS1
theorem wl_ml {S : Type} {wf : S → va_W} {st : S} {F : Int64 × S} (hr : va_Run p l e R s m args below meth c H locs cells slots 0 0 (F0 m pc ls st0) rest (va_Ql (fun r u => (r, u) = F) (wl_at D cl tys wf (va_A (wf st) H.size)) (va_A (wf st) H.size) a) (va_A (wf st) H.size)) (hP : va_P D cl (wf st) H) (hD : va_D A (wf st)) (hS : va_S A s.heap H locs) (hA : ∀ q, s.heap.size ≤ q → A q) (kk : ∀ (H1 : Heap) (locs1 : List Loc), va_P D cl (wf F.2) H1 → va_D A (wf F.2) → va_S A s.heap H1 locs1 → W p l e R s m args below meth c H1 locs1 cells slots Q (F0 m (pc + 3) ls (.long F.1 :: rest))) : W p l e R s m args below meth c H locs cells slots Q (F0 m pc ls st0) := by
  have hF := wl_fr hD hS hA
  refine va_calll hr hS (fun q _ h => hF q h) hF (fun r u t H1 locs1 ht hvm hw hB hz1 hk1 hS1 => ?_)
  obtain ⟨hP1, hK1, hD1⟩ := hB
  subst hw
  exact kk H1 locs1 (by rw [← ht]; exact hP1) (hD1.weaken (fun k q _ h => hF q.1 h)) hS1
theorem wl_mv {S : Type} {wf : S → va_W} {st : S} {F : S} (hr : va_Run p l e R s m args below meth c H locs cells slots 0 0 (F0 m pc ls st0) rest (va_Qv (fun u => u = F) (wl_at D cl tys wf (va_A (wf st) H.size)) (va_A (wf st) H.size) a) (va_A (wf st) H.size)) (hP : va_P D cl (wf st) H) (hD : va_D A (wf st)) (hS : va_S A s.heap H locs) (hA : ∀ q, s.heap.size ≤ q → A q) (kk : ∀ (H1 : Heap) (locs1 : List Loc), va_P D cl (wf F) H1 → va_D A (wf F) → va_S A s.heap H1 locs1 → W p l e R s m args below meth c H1 locs1 cells slots Q (F0 m (pc + 3) ls rest)) : W p l e R s m args below meth c H locs cells slots Q (F0 m pc ls st0) := by
  have hF := wl_fr hD hS hA
  refine va_callv hr hS (fun q _ h => hF q h) hF (fun u t H1 locs1 ht hvm hw hB hz1 hk1 hS1 => ?_)
  obtain ⟨hP1, hK1, hD1⟩ := hB
  subst hw
  exact kk H1 locs1 (by rw [← ht]; exact hP1) (hD1.weaken (fun k q _ h => hF q.1 h)) hS1
end WL
theorem wl_lt {N i : Nat} (h : ¬ nI N ≤ nI i) (hi : i < 2147483648) : i < N := by
  rcases Nat.lt_or_ge i N with q | q
  · exact q
  · exact absurd (nI_le q hi) h
theorem wl_ge {N i : Nat} (h : nI N ≤ nI i) (hN : N < 2147483648) : N ≤ i := by
  rcases Nat.lt_or_ge i N with q | q
  · exact absurd h (nI_ge q hN)
  · exact q
theorem wl_in {j N : Nat} (h : j < N) (hN : N < 2147483648) : vp_in (nI j) N := vp_in_nI h hN
theorem wl_tabD {p : Program} {l : Launch} {e : Env} {R : Room} {s : State} {m : MethodId} {args : Array Value} {below : List Frame} {meth : Method} {c : Code} {H : Heap} {locs : List Loc} {cells slots : Nat} {Q : State → Prop} {pc : Nat} {ls : Array Slot} {rest : List Value} {cc : ByteArray} (hexec : p.tables.exec = Jvm.exec) (hb : c.code = cc) {dflt lo hi : Int} {offs : Array Int} {len : Nat} {x : Int32} {tgt : Nat} {ks : List Int} (hdg : decode cc pc = .ok (.tableswitch dflt lo hi offs, len)) (hN : hi - lo + 1 = (offs.size : Int)) (hoff : ∀ j : Fin offs.size, lo + ((j.1 : Nat) : Int) ∈ ks ∨ offs[j.1] = dflt) (hks : ∀ k ∈ ks, ¬ x.toInt = k) (ht : (pc : Int) + dflt = (tgt : Int)) (k : W p l e R s m args below meth c H locs cells slots Q (F0 m tgt ls rest)) : W p l e R s m args below meth c H locs cells slots Q (F0 m pc ls (.int x :: rest)) := by
  by_cases h1 : x.toInt < lo
  · exact lv_tableOut hexec hb hdg (Or.inl h1) ht k
  · by_cases h2 : hi < x.toInt
    · exact lv_tableOut hexec hb hdg (Or.inr h2) ht k
    · have hj : (x.toInt - lo).toNat < offs.size := by omega
      refine lv_tableIn hexec hb hdg h1 h2 (off := dflt) ?_ ht k
      rcases hoff ⟨_, hj⟩ with h | h
      · exact absurd (by show x.toInt = lo + ((x.toInt - lo).toNat : Int); omega) (hks _ h)
      · rw [Array.getElem?_eq_getElem hj]
        exact congrArg some h

/-! numbers in range, as the walks need them -/
theorem wl_i3 {t : Nat} (j : Nat) (ht : t < 64) (hj : j < 3) : vp_in (nI t * (3 : Int32) + nI j) 192 := by
  rw [show (3 : Int32) = nI 3 from rfl, pk_mul, nI_add]; exact vp_in_nI (by omega) (by decide)
theorem wl_i30 {t : Nat} (ht : t < 64) : vp_in (nI t * (3 : Int32)) 192 := by
  rw [show (3 : Int32) = nI 3 from rfl, pk_mul]; exact vp_in_nI (by omega) (by decide)
theorem wl_c3 {t : Nat} (j : Nat) (ht : t < 64) (hj : j < 3) : (nI t * (3 : Int32) + nI j).toNatClampNeg = 3 * t + j := by
  rw [show (3 : Int32) = nI 3 from rfl, pk_mul, nI_add, nI_clamp (by omega)]; omega
theorem wl_c30 {t : Nat} (ht : t < 64) : (nI t * (3 : Int32)).toNatClampNeg = 3 * t := by
  rw [show (3 : Int32) = nI 3 from rfl, pk_mul, nI_clamp (by omega)]; omega
theorem wl_i16 {x : Int32} {j : Nat} (h : vp_in x 64) (hj : j < 16) : vp_in (x * (16 : Int32) + nI j) 1024 := by
  obtain ⟨t, ht, rfl⟩ := vp_in_of h (by decide)
  rw [show (16 : Int32) = nI 16 from rfl, pk_mul, nI_add]; exact vp_in_nI (by omega) (by decide)
theorem wl_c16 {t j : Nat} (ht : t < 64) (hj : j < 16) : (nI t * (16 : Int32) + nI j).toNatClampNeg = 16 * t + j := by
  rw [show (16 : Int32) = nI 16 from rfl, pk_mul, nI_add, nI_clamp (by omega)]; omega
theorem wl_sb {x : Int32} {i : Nat} (h : vp_in x 64) (hi : i < 1024) : vp_in (x * (16 : Int32) + nI i / (64 : Int32)) 1024 := by
  rw [show (64 : Int32) = nI 64 from rfl, pk_div (by omega) (by decide) (by decide)]
  exact wl_i16 h (by omega)
/-- of the fields and arrays all but those named are as they were -/
def XF (Is As Ls : List Nat) (st S : XS) : Prop := (∀ k, k ∉ Is → S.1 k = st.1 k) ∧ (∀ k, k ∉ As → S.2.1 k = st.2.1 k) ∧ ∀ k, k ∉ Ls → S.2.2 k = st.2.2 k
theorem XF.rf {Is As Ls : List Nat} {st : XS} : XF Is As Ls st st := ⟨fun _ _ => rfl, fun _ _ => rfl, fun _ _ => rfl⟩
theorem XF.wI {Is As Ls : List Nat} {st S : XS} {k : Nat} {v : Int32} (hk : k ∈ Is) (h : XF Is As Ls st S) : XF Is As Ls st (wI S k v) := by
  refine ⟨fun j hj => ?_, h.2.1, h.2.2⟩
  show va_up S.1 k v j = _
  unfold va_up
  rw [if_neg (fun q => hj (by rw [q]; exact hk))]
  exact h.1 j hj
theorem XF.wA {Is As Ls : List Nat} {st S : XS} {k n : Nat} {v : Int32} (hk : k ∈ As) (h : XF Is As Ls st S) : XF Is As Ls st (wA S k n v) := by
  refine ⟨h.1, fun j hj => ?_, h.2.2⟩
  show va_up S.2.1 k _ j = _
  unfold va_up
  rw [if_neg (fun q => hj (by rw [q]; exact hk))]
  exact h.2.1 j hj
theorem XF.wL {Is As Ls : List Nat} {st S : XS} {k n : Nat} {v : Int64} (hk : k ∈ Ls) (h : XF Is As Ls st S) : XF Is As Ls st (wL S k n v) := by
  refine ⟨h.1, h.2.1, fun j hj => ?_⟩
  show va_up S.2.2 k _ j = _
  unfold va_up
  rw [if_neg (fun q => hj (by rw [q]; exact hk))]
  exact h.2.2 j hj
theorem XF.tr {Is As Ls : List Nat} {st S T : XS} (h : XF Is As Ls st S) (g : XF Is As Ls S T) : XF Is As Ls st T :=
  ⟨fun k hk => (g.1 k hk).trans (h.1 k hk), fun k hk => (g.2.1 k hk).trans (h.2.1 k hk), fun k hk => (g.2.2 k hk).trans (h.2.2 k hk)⟩
theorem XF.mono {I1 A1 L1 I2 A2 L2 : List Nat} {st S : XS} (h : XF I1 A1 L1 st S) (h1 : ∀ k ∈ I1, k ∈ I2) (h2 : ∀ k ∈ A1, k ∈ A2) (h3 : ∀ k ∈ L1, k ∈ L2) : XF I2 A2 L2 st S :=
  ⟨fun k hk => h.1 k (fun q => hk (h1 k q)), fun k hk => h.2.1 k (fun q => hk (h2 k q)), fun k hk => h.2.2 k (fun q => hk (h3 k q))⟩
theorem XF.I {Is As Ls : List Nat} {st S : XS} (h : XF Is As Ls st S) (k : Nat) (hk : k ∉ Is) : gI S k = gI st k := h.1 k hk
theorem XF.A {Is As Ls : List Nat} {st S : XS} (h : XF Is As Ls st S) (k : Nat) (hk : k ∉ As) : fA S k = fA st k := h.2.1 k hk
theorem XF.L {Is As Ls : List Nat} {st S : XS} (h : XF Is As Ls st S) (k : Nat) (hk : k ∉ Ls) : fL S k = fL st k := h.2.2 k hk
theorem wl_ite {c : Prop} [Decidable c] {α : Type} {P : α → Prop} {a b : α} (ha : P a) (hb : P b) : P (if c then a else b) := by
  split
  · exact ha
  · exact hb

def xw (a : Nat → Nat) (k : Nat → ClassId) (st : XS) : va_W := [(a 0, .inr (7, [.ref (a 1), .ref (a 5), .ref (a 7), .ref (a 13), .ref (a 16), .ref (a 17), .ref (a 21), .int (gI st 0), .int (gI st 1), .int (gI st 2), .int (gI st 3)])), (a 1, .inr (0, [.ref (a 2), .ref (a 3), .ref (a 4), .int (gI st 4), .int (gI st 5)])), (a 2, .inl (k 2, 4, .inl (fA st 0))), (a 3, .inl (k 3, 4, .inl (fA st 1))), (a 4, .inl (k 4, 4, .inl (fA st 2))), (a 5, .inr (1, [.ref (a 6)])), (a 6, .inl (k 6, 16, .inr (.inl (fL st 0)))), (a 7, .inr (2, [.ref (a 8), .ref (a 9), .ref (a 10), .ref (a 11), .ref (a 12), .int (gI st 6), .int (gI st 7)])), (a 8, .inl (k 8, 64, .inl (fA st 3))), (a 9, .inl (k 9, 64, .inl (fA st 4))), (a 10, .inl (k 10, 192, .inl (fA st 5))), (a 11, .inl (k 11, 64, .inl (fA st 6))), (a 12, .inl (k 12, 64, .inr (.inl (fL st 1)))), (a 13, .inr (3, [.ref (a 7), .ref (a 1), .ref (a 5), .ref (a 14), .ref (a 15)])), (a 14, .inl (k 14, 64, .inr (.inl (fL st 2)))), (a 15, .inl (k 15, 64, .inl (fA st 7))), (a 16, .inr (4, [.ref (a 7), .ref (a 13)])), (a 17, .inr (5, [.ref (a 7), .ref (a 1), .ref (a 13), .ref (a 18), .ref (a 19), .ref (a 20), .int (gI st 8)])), (a 18, .inl (k 18, 1024, .inr (.inl (fL st 3)))), (a 19, .inl (k 19, 64, .inl (fA st 8))), (a 20, .inl (k 20, 64, .inl (fA st 9))), (a 21, .inr (6, [.ref (a 17), .ref (a 22), .int (gI st 9)])), (a 22, .inl (k 22, 16, .inl (fA st 10)))]
def xt (k : Nat → ClassId) : List (ClassId × FieldType) := [(k 2, .int), (k 3, .int), (k 4, .boolean), (k 6, .long), (k 8, .int), (k 9, .int), (k 10, .int), (k 11, .int), (k 12, .long), (k 14, .long), (k 15, .boolean), (k 18, .long), (k 19, .boolean), (k 20, .int), (k 22, .int)]
end
section
theorem dX0_isOne_0 : decode cX0_isOne 0 = .ok (.iload_n 0, 1) := by decide +kernel
theorem dX0_isOne_1 : decode cX0_isOne 1 = .ok (.iconst 1, 1) := by decide +kernel
theorem dX0_isOne_2 : decode cX0_isOne 2 = .ok (.if_icmp .eq 27, 3) := by decide +kernel
theorem dX0_isOne_5 : decode cX0_isOne 5 = .ok (.iload_n 0, 1) := by decide +kernel
theorem dX0_isOne_6 : decode cX0_isOne 6 = .ok (.bipush 8, 2) := by decide +kernel
theorem dX0_isOne_8 : decode cX0_isOne 8 = .ok (.if_icmp .eq 21, 3) := by decide +kernel
theorem dX0_isOne_11 : decode cX0_isOne 11 = .ok (.iload_n 0, 1) := by decide +kernel
theorem dX0_isOne_12 : decode cX0_isOne 12 = .ok (.bipush 16, 2) := by decide +kernel
theorem dX0_isOne_14 : decode cX0_isOne 14 = .ok (.if_icmp .eq 15, 3) := by decide +kernel
theorem dX0_isOne_17 : decode cX0_isOne 17 = .ok (.iload_n 0, 1) := by decide +kernel
theorem dX0_isOne_18 : decode cX0_isOne 18 = .ok (.bipush 32, 2) := by decide +kernel
theorem dX0_isOne_20 : decode cX0_isOne 20 = .ok (.if_icmp .eq 9, 3) := by decide +kernel
theorem dX0_isOne_23 : decode cX0_isOne 23 = .ok (.iload_n 0, 1) := by decide +kernel
theorem dX0_isOne_24 : decode cX0_isOne 24 = .ok (.bipush 64, 2) := by decide +kernel
theorem dX0_isOne_26 : decode cX0_isOne 26 = .ok (.if_icmp .ne 7, 3) := by decide +kernel
theorem dX0_isOne_29 : decode cX0_isOne 29 = .ok (.iconst 1, 1) := by decide +kernel
theorem dX0_isOne_30 : decode cX0_isOne 30 = .ok (.goto 4, 3) := by decide +kernel
theorem dX0_isOne_33 : decode cX0_isOne 33 = .ok (.iconst 0, 1) := by decide +kernel
theorem dX0_isOne_34 : decode cX0_isOne 34 = .ok (.ireturn, 1) := by decide +kernel
def fx_Width_isOne (w : Int32) : Int32 := 
  if w = (1 : Int32) then (1 : Int32)
  else 
    if w = (8 : Int32) then (1 : Int32)
    else 
      if w = (16 : Int32) then (1 : Int32)
      else 
        if w = (32 : Int32) then (1 : Int32)
        else 
          if w = (64 : Int32) then (1 : Int32)
          else (0 : Int32)
set_option maxHeartbeats 4000000 in
set_option maxRecDepth 100000 in
theorem kx_Width_isOne (l : Launch) (w : Int32) : Met l yX0_isOne wsX0_isOne ({ frames := 0, cells := 0, slots := 0, locals := 0 }) (fun v _ => v = ([.int w] : List Value).toArray) (vp_Si (fun r => r = fx_Width_isOne w)) 0 0 (fun _ => False) := by
  refine Met.ofW (cc := cX0_isOne) (maxL := 1) (ret := (some .boolean)) (by decide) rfl ?_
  intro p e s m args below meth c s₁ B hml hv
  subst hv
  have hx := B.exec
  have hb := B.bytes
  have hr := B.returns
  have hta := aw_hts (atoms_spec (ws := wsX0_isOne) B.pre)
  have hown : s.vm.findClass RX0 = some m.cls := findClass_of_methodNamed B.named
  have hlocks := B.notSynchronized
  have hl := lv_entry ([.int w]) (n := 1) (Nat.le_of_ble_eq_true rfl)
  rw [lg_entry_eq]
  generalize (lg_sl ([.int w]) ++ List.replicate (1 - (lg_sl ([.int w])).length) Slot.unset).toArray = ls at hl ⊢
  have hl : lv_has ls 1 [(0, .int w)] := hl
  generalize hR : fx_Width_isOne w = R
  rw [fx_Width_isOne] at hR
  refine lv_iload_n hx hb dX0_isOne_0 rfl (lv_at hl 0 rfl) ?_
  refine lv_iconst (v := (1 : Int32)) hx hb dX0_isOne_1 (by decide) ?_
  refine lv_icmp_eq (tgt := 29) hx hb dX0_isOne_2 (by decide) (fun c2 => ?_) (fun c2 => ?_)
  · skip
    rw [if_pos c2] at hR
    refine lv_iconst (v := (1 : Int32)) hx hb dX0_isOne_29 (by decide) ?_
    refine lv_goto (tgt := 34) hx hb dX0_isOne_30 (by decide) ?_
    exact W.zret (v := (1 : Int32)) (ty := .boolean) hx hb hr rfl (fun t ht hW => ⟨_, rfl, hR, ht⟩) (fun q h => by cases h) dX0_isOne_34
  · skip
    rw [if_neg c2] at hR
    refine lv_iload_n hx hb dX0_isOne_5 rfl (lv_at hl 0 rfl) ?_
    refine lv_bipush (v := (8 : Int32)) hx hb dX0_isOne_6 (by decide) ?_
    refine lv_icmp_eq (tgt := 29) hx hb dX0_isOne_8 (by decide) (fun c8 => ?_) (fun c8 => ?_)
    · skip
      rw [if_pos c8] at hR
      refine lv_iconst (v := (1 : Int32)) hx hb dX0_isOne_29 (by decide) ?_
      refine lv_goto (tgt := 34) hx hb dX0_isOne_30 (by decide) ?_
      exact W.zret (v := (1 : Int32)) (ty := .boolean) hx hb hr rfl (fun t ht hW => ⟨_, rfl, hR, ht⟩) (fun q h => by cases h) dX0_isOne_34
    · skip
      rw [if_neg c8] at hR
      refine lv_iload_n hx hb dX0_isOne_11 rfl (lv_at hl 0 rfl) ?_
      refine lv_bipush (v := (16 : Int32)) hx hb dX0_isOne_12 (by decide) ?_
      refine lv_icmp_eq (tgt := 29) hx hb dX0_isOne_14 (by decide) (fun c14 => ?_) (fun c14 => ?_)
      · skip
        rw [if_pos c14] at hR
        refine lv_iconst (v := (1 : Int32)) hx hb dX0_isOne_29 (by decide) ?_
        refine lv_goto (tgt := 34) hx hb dX0_isOne_30 (by decide) ?_
        exact W.zret (v := (1 : Int32)) (ty := .boolean) hx hb hr rfl (fun t ht hW => ⟨_, rfl, hR, ht⟩) (fun q h => by cases h) dX0_isOne_34
      · skip
        rw [if_neg c14] at hR
        refine lv_iload_n hx hb dX0_isOne_17 rfl (lv_at hl 0 rfl) ?_
        refine lv_bipush (v := (32 : Int32)) hx hb dX0_isOne_18 (by decide) ?_
        refine lv_icmp_eq (tgt := 29) hx hb dX0_isOne_20 (by decide) (fun c20 => ?_) (fun c20 => ?_)
        · skip
          rw [if_pos c20] at hR
          refine lv_iconst (v := (1 : Int32)) hx hb dX0_isOne_29 (by decide) ?_
          refine lv_goto (tgt := 34) hx hb dX0_isOne_30 (by decide) ?_
          exact W.zret (v := (1 : Int32)) (ty := .boolean) hx hb hr rfl (fun t ht hW => ⟨_, rfl, hR, ht⟩) (fun q h => by cases h) dX0_isOne_34
        · skip
          rw [if_neg c20] at hR
          refine lv_iload_n hx hb dX0_isOne_23 rfl (lv_at hl 0 rfl) ?_
          refine lv_bipush (v := (64 : Int32)) hx hb dX0_isOne_24 (by decide) ?_
          refine lv_icmp_ne (tgt := 33) hx hb dX0_isOne_26 (by decide) (fun c26 => ?_) (fun c26 => ?_)
          · skip
            rw [if_neg c26] at hR
            refine lv_iconst (v := (0 : Int32)) hx hb dX0_isOne_33 (by decide) ?_
            exact W.zret (v := (0 : Int32)) (ty := .boolean) hx hb hr rfl (fun t ht hW => ⟨_, rfl, hR, ht⟩) (fun q h => by cases h) dX0_isOne_34
          · skip
            rw [if_pos c26] at hR
            refine lv_iconst (v := (1 : Int32)) hx hb dX0_isOne_29 (by decide) ?_
            refine lv_goto (tgt := 34) hx hb dX0_isOne_30 (by decide) ?_
            exact W.zret (v := (1 : Int32)) (ty := .boolean) hx hb hr rfl (fun t ht hW => ⟨_, rfl, hR, ht⟩) (fun q h => by cases h) dX0_isOne_34

theorem dX0_readSigned_0 : decode cX0_readSigned 0 = .ok (.bipush 64, 2) := by decide +kernel
theorem dX0_readSigned_2 : decode cX0_readSigned 2 = .ok (.iload_n 0, 1) := by decide +kernel
theorem dX0_readSigned_3 : decode cX0_readSigned 3 = .ok (.isub, 1) := by decide +kernel
theorem dX0_readSigned_4 : decode cX0_readSigned 4 = .ok (.istore_n 3, 1) := by decide +kernel
theorem dX0_readSigned_5 : decode cX0_readSigned 5 = .ok (.lload_n 1, 1) := by decide +kernel
theorem dX0_readSigned_6 : decode cX0_readSigned 6 = .ok (.iload_n 3, 1) := by decide +kernel
theorem dX0_readSigned_7 : decode cX0_readSigned 7 = .ok (.lshl, 1) := by decide +kernel
theorem dX0_readSigned_8 : decode cX0_readSigned 8 = .ok (.iload_n 3, 1) := by decide +kernel
theorem dX0_readSigned_9 : decode cX0_readSigned 9 = .ok (.lshr, 1) := by decide +kernel
theorem dX0_readSigned_10 : decode cX0_readSigned 10 = .ok (.lreturn, 1) := by decide +kernel
def fx_Width_readSigned (w : Int32) (x : Int64) : Int64 := (x <<< (((64 : Int32) - w).toInt64 &&& 63)) >>> (((64 : Int32) - w).toInt64 &&& 63)
set_option maxHeartbeats 4000000 in
set_option maxRecDepth 100000 in
theorem kx_Width_readSigned (l : Launch) (w : Int32) (x : Int64) : Met l yX0_readSigned wsX0_readSigned ({ frames := 0, cells := 0, slots := 0, locals := 0 }) (fun v _ => v = ([.int w, .long x] : List Value).toArray) (vp_Sl (fun r => r = fx_Width_readSigned w x)) 0 0 (fun _ => False) := by
  refine Met.ofW (cc := cX0_readSigned) (maxL := 4) (ret := (some .long)) (by decide) rfl ?_
  intro p e s m args below meth c s₁ B hml hv
  subst hv
  have hx := B.exec
  have hb := B.bytes
  have hr := B.returns
  have hta := aw_hts (atoms_spec (ws := wsX0_readSigned) B.pre)
  have hown : s.vm.findClass RX0 = some m.cls := findClass_of_methodNamed B.named
  have hlocks := B.notSynchronized
  have hl := lv_entry ([.int w, .long x]) (n := 4) (Nat.le_of_ble_eq_true rfl)
  rw [lg_entry_eq]
  generalize (lg_sl ([.int w, .long x]) ++ List.replicate (4 - (lg_sl ([.int w, .long x])).length) Slot.unset).toArray = ls at hl ⊢
  have hl : lv_has ls 4 [(0, .int w), (1, .long x)] := hl
  generalize hR : fx_Width_readSigned w x = R
  rw [fx_Width_readSigned] at hR
  refine lv_bipush (v := (64 : Int32)) hx hb dX0_readSigned_0 (by decide) ?_
  refine lv_iload_n hx hb dX0_readSigned_2 rfl (lv_at hl 0 rfl) ?_
  refine lv_isub hx hb dX0_readSigned_3 ?_
  refine lv_istore_n (lv' := [(3, .int ((64 : Int32) - w)), (0, .int w), (1, .long x)]) hx hb dX0_readSigned_4 rfl hl (by decide) rfl (fun ls hl => ?_)
  refine lv_lload_n hx hb dX0_readSigned_5 rfl (lv_at hl 2 rfl) ?_
  refine lv_iload_n hx hb dX0_readSigned_6 rfl (lv_at hl 0 rfl) ?_
  refine lv_lshl (v := x <<< (((64 : Int32) - w).toInt64 &&& 63)) hx hb dX0_readSigned_7 rfl ?_
  refine lv_iload_n hx hb dX0_readSigned_8 rfl (lv_at hl 0 rfl) ?_
  refine lv_lshr (v := (x <<< (((64 : Int32) - w).toInt64 &&& 63)) >>> (((64 : Int32) - w).toInt64 &&& 63)) hx hb dX0_readSigned_9 rfl ?_
  exact W.lret (v := (x <<< (((64 : Int32) - w).toInt64 &&& 63)) >>> (((64 : Int32) - w).toInt64 &&& 63)) hx hb hr (fun t ht hW => ⟨_, rfl, hR, ht⟩) (fun q h => by cases h) dX0_readSigned_10

theorem dX0_readPlain_0 : decode cX0_readPlain 0 = .ok (.bipush 64, 2) := by decide +kernel
theorem dX0_readPlain_2 : decode cX0_readPlain 2 = .ok (.iload_n 0, 1) := by decide +kernel
theorem dX0_readPlain_3 : decode cX0_readPlain 3 = .ok (.isub, 1) := by decide +kernel
theorem dX0_readPlain_4 : decode cX0_readPlain 4 = .ok (.istore_n 3, 1) := by decide +kernel
theorem dX0_readPlain_5 : decode cX0_readPlain 5 = .ok (.lload_n 1, 1) := by decide +kernel
theorem dX0_readPlain_6 : decode cX0_readPlain 6 = .ok (.iload_n 3, 1) := by decide +kernel
theorem dX0_readPlain_7 : decode cX0_readPlain 7 = .ok (.lshl, 1) := by decide +kernel
theorem dX0_readPlain_8 : decode cX0_readPlain 8 = .ok (.iload_n 3, 1) := by decide +kernel
theorem dX0_readPlain_9 : decode cX0_readPlain 9 = .ok (.lushr, 1) := by decide +kernel
theorem dX0_readPlain_10 : decode cX0_readPlain 10 = .ok (.lreturn, 1) := by decide +kernel
def fx_Width_readPlain (w : Int32) (x : Int64) : Int64 := ((x <<< (((64 : Int32) - w).toInt64 &&& 63)).toUInt64 >>> (((64 : Int32) - w).toInt64.toUInt64 &&& Int64.toUInt64 63)).toInt64
set_option maxHeartbeats 4000000 in
set_option maxRecDepth 100000 in
theorem kx_Width_readPlain (l : Launch) (w : Int32) (x : Int64) : Met l yX0_readPlain wsX0_readPlain ({ frames := 0, cells := 0, slots := 0, locals := 0 }) (fun v _ => v = ([.int w, .long x] : List Value).toArray) (vp_Sl (fun r => r = fx_Width_readPlain w x)) 0 0 (fun _ => False) := by
  refine Met.ofW (cc := cX0_readPlain) (maxL := 4) (ret := (some .long)) (by decide) rfl ?_
  intro p e s m args below meth c s₁ B hml hv
  subst hv
  have hx := B.exec
  have hb := B.bytes
  have hr := B.returns
  have hta := aw_hts (atoms_spec (ws := wsX0_readPlain) B.pre)
  have hown : s.vm.findClass RX0 = some m.cls := findClass_of_methodNamed B.named
  have hlocks := B.notSynchronized
  have hl := lv_entry ([.int w, .long x]) (n := 4) (Nat.le_of_ble_eq_true rfl)
  rw [lg_entry_eq]
  generalize (lg_sl ([.int w, .long x]) ++ List.replicate (4 - (lg_sl ([.int w, .long x])).length) Slot.unset).toArray = ls at hl ⊢
  have hl : lv_has ls 4 [(0, .int w), (1, .long x)] := hl
  generalize hR : fx_Width_readPlain w x = R
  rw [fx_Width_readPlain] at hR
  refine lv_bipush (v := (64 : Int32)) hx hb dX0_readPlain_0 (by decide) ?_
  refine lv_iload_n hx hb dX0_readPlain_2 rfl (lv_at hl 0 rfl) ?_
  refine lv_isub hx hb dX0_readPlain_3 ?_
  refine lv_istore_n (lv' := [(3, .int ((64 : Int32) - w)), (0, .int w), (1, .long x)]) hx hb dX0_readPlain_4 rfl hl (by decide) rfl (fun ls hl => ?_)
  refine lv_lload_n hx hb dX0_readPlain_5 rfl (lv_at hl 2 rfl) ?_
  refine lv_iload_n hx hb dX0_readPlain_6 rfl (lv_at hl 0 rfl) ?_
  refine lv_lshl (v := x <<< (((64 : Int32) - w).toInt64 &&& 63)) hx hb dX0_readPlain_7 rfl ?_
  refine lv_iload_n hx hb dX0_readPlain_8 rfl (lv_at hl 0 rfl) ?_
  refine lv_lushr (v := ((x <<< (((64 : Int32) - w).toInt64 &&& 63)).toUInt64 >>> (((64 : Int32) - w).toInt64.toUInt64 &&& Int64.toUInt64 63)).toInt64) hx hb dX0_readPlain_9 rfl ?_
  exact W.lret (v := ((x <<< (((64 : Int32) - w).toInt64 &&& 63)).toUInt64 >>> (((64 : Int32) - w).toInt64.toUInt64 &&& Int64.toUInt64 63)).toInt64) hx hb hr (fun t ht hW => ⟨_, rfl, hR, ht⟩) (fun q h => by cases h) dX0_readPlain_10

theorem dX1_named_0 : decode cX1_named 0 = .ok (.iload_n 0, 1) := by decide +kernel
theorem dX1_named_1 : decode cX1_named 1 = .ok (.bipush 20, 2) := by decide +kernel
theorem dX1_named_3 : decode cX1_named 3 = .ok (.if_icmp .le 5, 3) := by decide +kernel
theorem dX1_named_6 : decode cX1_named 6 = .ok (.iconst 0, 1) := by decide +kernel
theorem dX1_named_7 : decode cX1_named 7 = .ok (.ireturn, 1) := by decide +kernel
theorem dX1_named_8 : decode cX1_named 8 = .ok (.iload_n 0, 1) := by decide +kernel
theorem dX1_named_9 : decode cX1_named 9 = .ok (.iconst 1, 1) := by decide +kernel
theorem dX1_named_10 : decode cX1_named 10 = .ok (.if_icmp .gt 5, 3) := by decide +kernel
theorem dX1_named_13 : decode cX1_named 13 = .ok (.iconst 1, 1) := by decide +kernel
theorem dX1_named_14 : decode cX1_named 14 = .ok (.ireturn, 1) := by decide +kernel
theorem dX1_named_15 : decode cX1_named 15 = .ok (.iload_n 0, 1) := by decide +kernel
theorem dX1_named_16 : decode cX1_named 16 = .ok (.bipush 16, 2) := by decide +kernel
theorem dX1_named_18 : decode cX1_named 18 = .ok (.if_icmp .ne 7, 3) := by decide +kernel
theorem dX1_named_21 : decode cX1_named 21 = .ok (.iconst 3, 1) := by decide +kernel
theorem dX1_named_22 : decode cX1_named 22 = .ok (.goto 4, 3) := by decide +kernel
theorem dX1_named_25 : decode cX1_named 25 = .ok (.iconst 2, 1) := by decide +kernel
theorem dX1_named_26 : decode cX1_named 26 = .ok (.ireturn, 1) := by decide +kernel
def fx_Op_named (o : Int32) : Int32 := 
  if o ≤ (20 : Int32) then 
    if (1 : Int32) < o then 
      if o = (16 : Int32) then (3 : Int32)
      else (2 : Int32)
    else (1 : Int32)
  else (0 : Int32)
set_option maxHeartbeats 4000000 in
set_option maxRecDepth 100000 in
theorem kx_Op_named (l : Launch) (o : Int32) : Met l yX1_named wsX1_named ({ frames := 0, cells := 0, slots := 0, locals := 0 }) (fun v _ => v = ([.int o] : List Value).toArray) (vp_Si (fun r => r = fx_Op_named o)) 0 0 (fun _ => False) := by
  refine Met.ofW (cc := cX1_named) (maxL := 1) (ret := (some .int)) (by decide) rfl ?_
  intro p e s m args below meth c s₁ B hml hv
  subst hv
  have hx := B.exec
  have hb := B.bytes
  have hr := B.returns
  have hta := aw_hts (atoms_spec (ws := wsX1_named) B.pre)
  have hown : s.vm.findClass RX1 = some m.cls := findClass_of_methodNamed B.named
  have hlocks := B.notSynchronized
  have hl := lv_entry ([.int o]) (n := 1) (Nat.le_of_ble_eq_true rfl)
  rw [lg_entry_eq]
  generalize (lg_sl ([.int o]) ++ List.replicate (1 - (lg_sl ([.int o])).length) Slot.unset).toArray = ls at hl ⊢
  have hl : lv_has ls 1 [(0, .int o)] := hl
  generalize hR : fx_Op_named o = R
  rw [fx_Op_named] at hR
  refine lv_iload_n hx hb dX1_named_0 rfl (lv_at hl 0 rfl) ?_
  refine lv_bipush (v := (20 : Int32)) hx hb dX1_named_1 (by decide) ?_
  refine lv_icmp_le (tgt := 8) hx hb dX1_named_3 (by decide) (fun c3 => ?_) (fun c3 => ?_)
  · skip
    rw [if_pos c3] at hR
    refine lv_iload_n hx hb dX1_named_8 rfl (lv_at hl 0 rfl) ?_
    refine lv_iconst (v := (1 : Int32)) hx hb dX1_named_9 (by decide) ?_
    refine lv_icmp_gt (tgt := 15) hx hb dX1_named_10 (by decide) (fun c10 => ?_) (fun c10 => ?_)
    · skip
      rw [if_pos c10] at hR
      refine lv_iload_n hx hb dX1_named_15 rfl (lv_at hl 0 rfl) ?_
      refine lv_bipush (v := (16 : Int32)) hx hb dX1_named_16 (by decide) ?_
      refine lv_icmp_ne (tgt := 25) hx hb dX1_named_18 (by decide) (fun c18 => ?_) (fun c18 => ?_)
      · skip
        rw [if_neg c18] at hR
        refine lv_iconst (v := (2 : Int32)) hx hb dX1_named_25 (by decide) ?_
        exact W.iret (v := (2 : Int32)) hx hb hr (fun t ht hW => ⟨_, rfl, hR, ht⟩) (fun q h => by cases h) dX1_named_26
      · skip
        rw [if_pos c18] at hR
        refine lv_iconst (v := (3 : Int32)) hx hb dX1_named_21 (by decide) ?_
        refine lv_goto (tgt := 26) hx hb dX1_named_22 (by decide) ?_
        exact W.iret (v := (3 : Int32)) hx hb hr (fun t ht hW => ⟨_, rfl, hR, ht⟩) (fun q h => by cases h) dX1_named_26
    · skip
      rw [if_neg c10] at hR
      refine lv_iconst (v := (1 : Int32)) hx hb dX1_named_13 (by decide) ?_
      exact W.iret (v := (1 : Int32)) hx hb hr (fun t ht hW => ⟨_, rfl, hR, ht⟩) (fun q h => by cases h) dX1_named_14
  · skip
    rw [if_neg c3] at hR
    refine lv_iconst (v := (0 : Int32)) hx hb dX1_named_6 (by decide) ?_
    exact W.iret (v := (0 : Int32)) hx hb hr (fun t ht hW => ⟨_, rfl, hR, ht⟩) (fun q h => by cases h) dX1_named_7

theorem mw_339 : (.code yX1_named cX1_named 1 (some .int) : Cond) ∈ AW := List.mem_filter.mpr ⟨List.mem_of_getElem? (i := 339) (by decide +kernel), rfl⟩
theorem mw_343 : (.methodLink RX1 9 yX1_named : Cond) ∈ AW := List.mem_filter.mpr ⟨List.mem_of_getElem? (i := 343) (by decide +kernel), rfl⟩
theorem mw_48 : (.initialized RX1 : Cond) ∈ AW := List.mem_filter.mpr ⟨List.mem_of_getElem? (i := 48) (by decide +kernel), rfl⟩
theorem mw_338 : (.static yX1_named : Cond) ∈ AW := List.mem_filter.mpr ⟨List.mem_of_getElem? (i := 338) (by decide +kernel), rfl⟩
theorem gX1_9 : GoodIn AW (va_wsS RX1 9 yX1_named wsX1_named) := aw_S mw_343 mw_338 mw_48 mw_339
theorem dX1_namedTerms_0 : decode cX1_namedTerms 0 = .ok (.iload_n 0, 1) := by decide +kernel
theorem dX1_namedTerms_1 : decode cX1_namedTerms 1 = .ok (.bipush 17, 2) := by decide +kernel
theorem dX1_namedTerms_3 : decode cX1_namedTerms 3 = .ok (.if_icmp .lt 13, 3) := by decide +kernel
theorem dX1_namedTerms_6 : decode cX1_namedTerms 6 = .ok (.iload_n 0, 1) := by decide +kernel
theorem dX1_namedTerms_7 : decode cX1_namedTerms 7 = .ok (.bipush 20, 2) := by decide +kernel
theorem dX1_namedTerms_9 : decode cX1_namedTerms 9 = .ok (.if_icmp .gt 7, 3) := by decide +kernel
theorem dX1_namedTerms_12 : decode cX1_namedTerms 12 = .ok (.iconst 1, 1) := by decide +kernel
theorem dX1_namedTerms_13 : decode cX1_namedTerms 13 = .ok (.goto 7, 3) := by decide +kernel
theorem dX1_namedTerms_16 : decode cX1_namedTerms 16 = .ok (.iload_n 0, 1) := by decide +kernel
theorem dX1_namedTerms_17 : decode cX1_namedTerms 17 = .ok (.invokestatic 9, 3) := by decide +kernel
theorem dX1_namedTerms_20 : decode cX1_namedTerms 20 = .ok (.ireturn, 1) := by decide +kernel
def fx_Op_namedTerms (o : Int32) : Int32 := 
  if o < (17 : Int32) then fx_Op_named o
  else 
    if (20 : Int32) < o then fx_Op_named o
    else (1 : Int32)
set_option maxHeartbeats 4000000 in
set_option maxRecDepth 100000 in
theorem kx_Op_namedTerms (l : Launch) (o : Int32) : Met l yX1_namedTerms wsX1_namedTerms ({ frames := 1, cells := 0, slots := 0, locals := 20 }) (fun v _ => v = ([.int o] : List Value).toArray) (vp_Si (fun r => r = fx_Op_namedTerms o)) 0 0 (fun _ => False) := by
  refine Met.ofW (cc := cX1_namedTerms) (maxL := 1) (ret := (some .int)) (by decide) rfl ?_
  intro p e s m args below meth c s₁ B hml hv
  subst hv
  have hx := B.exec
  have hb := B.bytes
  have hr := B.returns
  have hta := aw_hts (atoms_spec (ws := wsX1_namedTerms) B.pre)
  have hown : s.vm.findClass RX1 = some m.cls := findClass_of_methodNamed B.named
  have hlocks := B.notSynchronized
  have hl := lv_entry ([.int o]) (n := 1) (Nat.le_of_ble_eq_true rfl)
  rw [lg_entry_eq]
  generalize (lg_sl ([.int o]) ++ List.replicate (1 - (lg_sl ([.int o])).length) Slot.unset).toArray = ls at hl ⊢
  have hl : lv_has ls 1 [(0, .int o)] := hl
  generalize hR : fx_Op_namedTerms o = R
  rw [fx_Op_namedTerms] at hR
  refine lv_iload_n hx hb dX1_namedTerms_0 rfl (lv_at hl 0 rfl) ?_
  refine lv_bipush (v := (17 : Int32)) hx hb dX1_namedTerms_1 (by decide) ?_
  refine lv_icmp_lt (tgt := 16) hx hb dX1_namedTerms_3 (by decide) (fun c3 => ?_) (fun c3 => ?_)
  · skip
    rw [if_pos c3] at hR
    refine lv_iload_n hx hb dX1_namedTerms_16 rfl (lv_at hl 0 rfl) ?_
    refine wl_ci (va_runS (As := [.int o]) (rest := []) ⟨hx, hb, hml, hown, hta⟩ (kx_Op_named l o) (va_cwS 1 hta gX1_9 rfl rfl rfl (by decide +kernel) ⟨Nat.le_of_ble_eq_true rfl, Nat.le_of_ble_eq_true rfl⟩) preEq rfl rfl hl.1 rfl (lv_room (Nat.le_of_ble_eq_true rfl)) dX1_namedTerms_17 ⟨Nat.zero_le _, Nat.zero_le _⟩) ?_
    exact W.iret (v := fx_Op_named o) hx hb hr (fun t ht hW => ⟨_, rfl, hR, ht⟩) (fun q h => by cases h) dX1_namedTerms_20
  · skip
    rw [if_neg c3] at hR
    refine lv_iload_n hx hb dX1_namedTerms_6 rfl (lv_at hl 0 rfl) ?_
    refine lv_bipush (v := (20 : Int32)) hx hb dX1_namedTerms_7 (by decide) ?_
    refine lv_icmp_gt (tgt := 16) hx hb dX1_namedTerms_9 (by decide) (fun c9 => ?_) (fun c9 => ?_)
    · skip
      rw [if_pos c9] at hR
      refine lv_iload_n hx hb dX1_namedTerms_16 rfl (lv_at hl 0 rfl) ?_
      refine wl_ci (va_runS (As := [.int o]) (rest := []) ⟨hx, hb, hml, hown, hta⟩ (kx_Op_named l o) (va_cwS 1 hta gX1_9 rfl rfl rfl (by decide +kernel) ⟨Nat.le_of_ble_eq_true rfl, Nat.le_of_ble_eq_true rfl⟩) preEq rfl rfl hl.1 rfl (lv_room (Nat.le_of_ble_eq_true rfl)) dX1_namedTerms_17 ⟨Nat.zero_le _, Nat.zero_le _⟩) ?_
      exact W.iret (v := fx_Op_named o) hx hb hr (fun t ht hW => ⟨_, rfl, hR, ht⟩) (fun q h => by cases h) dX1_namedTerms_20
    · skip
      rw [if_neg c9] at hR
      refine lv_iconst (v := (1 : Int32)) hx hb dX1_namedTerms_12 (by decide) ?_
      refine lv_goto (tgt := 20) hx hb dX1_namedTerms_13 (by decide) ?_
      exact W.iret (v := (1 : Int32)) hx hb hr (fun t ht hW => ⟨_, rfl, hR, ht⟩) (fun q h => by cases h) dX1_namedTerms_20

theorem dX1_changesPlaces_0 : decode cX1_changesPlaces 0 = .ok (.iload_n 0, 1) := by decide +kernel
theorem dX1_changesPlaces_1 : decode cX1_changesPlaces 1 = .ok (.iconst 2, 1) := by decide +kernel
theorem dX1_changesPlaces_2 : decode cX1_changesPlaces 2 = .ok (.if_icmp .lt 8, 3) := by decide +kernel
theorem dX1_changesPlaces_5 : decode cX1_changesPlaces 5 = .ok (.iload_n 0, 1) := by decide +kernel
theorem dX1_changesPlaces_6 : decode cX1_changesPlaces 6 = .ok (.iconst 5, 1) := by decide +kernel
theorem dX1_changesPlaces_7 : decode cX1_changesPlaces 7 = .ok (.if_icmp .le 15, 3) := by decide +kernel
theorem dX1_changesPlaces_10 : decode cX1_changesPlaces 10 = .ok (.iload_n 0, 1) := by decide +kernel
theorem dX1_changesPlaces_11 : decode cX1_changesPlaces 11 = .ok (.bipush 7, 2) := by decide +kernel
theorem dX1_changesPlaces_13 : decode cX1_changesPlaces 13 = .ok (.if_icmp .eq 9, 3) := by decide +kernel
theorem dX1_changesPlaces_16 : decode cX1_changesPlaces 16 = .ok (.iload_n 0, 1) := by decide +kernel
theorem dX1_changesPlaces_17 : decode cX1_changesPlaces 17 = .ok (.bipush 13, 2) := by decide +kernel
theorem dX1_changesPlaces_19 : decode cX1_changesPlaces 19 = .ok (.if_icmp .ne 7, 3) := by decide +kernel
theorem dX1_changesPlaces_22 : decode cX1_changesPlaces 22 = .ok (.iconst 1, 1) := by decide +kernel
theorem dX1_changesPlaces_23 : decode cX1_changesPlaces 23 = .ok (.goto 4, 3) := by decide +kernel
theorem dX1_changesPlaces_26 : decode cX1_changesPlaces 26 = .ok (.iconst 0, 1) := by decide +kernel
theorem dX1_changesPlaces_27 : decode cX1_changesPlaces 27 = .ok (.ireturn, 1) := by decide +kernel
def fx_Op_changesPlaces (o : Int32) : Int32 := 
  if o < (2 : Int32) then 
    if o = (7 : Int32) then (1 : Int32)
    else 
      if o = (13 : Int32) then (1 : Int32)
      else (0 : Int32)
  else 
    if o ≤ (5 : Int32) then (1 : Int32)
    else 
      if o = (7 : Int32) then (1 : Int32)
      else 
        if o = (13 : Int32) then (1 : Int32)
        else (0 : Int32)
set_option maxHeartbeats 4000000 in
set_option maxRecDepth 100000 in
theorem kx_Op_changesPlaces (l : Launch) (o : Int32) : Met l yX1_changesPlaces wsX1_changesPlaces ({ frames := 0, cells := 0, slots := 0, locals := 0 }) (fun v _ => v = ([.int o] : List Value).toArray) (vp_Si (fun r => r = fx_Op_changesPlaces o)) 0 0 (fun _ => False) := by
  refine Met.ofW (cc := cX1_changesPlaces) (maxL := 1) (ret := (some .boolean)) (by decide) rfl ?_
  intro p e s m args below meth c s₁ B hml hv
  subst hv
  have hx := B.exec
  have hb := B.bytes
  have hr := B.returns
  have hta := aw_hts (atoms_spec (ws := wsX1_changesPlaces) B.pre)
  have hown : s.vm.findClass RX1 = some m.cls := findClass_of_methodNamed B.named
  have hlocks := B.notSynchronized
  have hl := lv_entry ([.int o]) (n := 1) (Nat.le_of_ble_eq_true rfl)
  rw [lg_entry_eq]
  generalize (lg_sl ([.int o]) ++ List.replicate (1 - (lg_sl ([.int o])).length) Slot.unset).toArray = ls at hl ⊢
  have hl : lv_has ls 1 [(0, .int o)] := hl
  generalize hR : fx_Op_changesPlaces o = R
  rw [fx_Op_changesPlaces] at hR
  refine lv_iload_n hx hb dX1_changesPlaces_0 rfl (lv_at hl 0 rfl) ?_
  refine lv_iconst (v := (2 : Int32)) hx hb dX1_changesPlaces_1 (by decide) ?_
  refine lv_icmp_lt (tgt := 10) hx hb dX1_changesPlaces_2 (by decide) (fun c2 => ?_) (fun c2 => ?_)
  · skip
    rw [if_pos c2] at hR
    refine lv_iload_n hx hb dX1_changesPlaces_10 rfl (lv_at hl 0 rfl) ?_
    refine lv_bipush (v := (7 : Int32)) hx hb dX1_changesPlaces_11 (by decide) ?_
    refine lv_icmp_eq (tgt := 22) hx hb dX1_changesPlaces_13 (by decide) (fun c13 => ?_) (fun c13 => ?_)
    · skip
      rw [if_pos c13] at hR
      refine lv_iconst (v := (1 : Int32)) hx hb dX1_changesPlaces_22 (by decide) ?_
      refine lv_goto (tgt := 27) hx hb dX1_changesPlaces_23 (by decide) ?_
      exact W.zret (v := (1 : Int32)) (ty := .boolean) hx hb hr rfl (fun t ht hW => ⟨_, rfl, hR, ht⟩) (fun q h => by cases h) dX1_changesPlaces_27
    · skip
      rw [if_neg c13] at hR
      refine lv_iload_n hx hb dX1_changesPlaces_16 rfl (lv_at hl 0 rfl) ?_
      refine lv_bipush (v := (13 : Int32)) hx hb dX1_changesPlaces_17 (by decide) ?_
      refine lv_icmp_ne (tgt := 26) hx hb dX1_changesPlaces_19 (by decide) (fun c19 => ?_) (fun c19 => ?_)
      · skip
        rw [if_neg c19] at hR
        refine lv_iconst (v := (0 : Int32)) hx hb dX1_changesPlaces_26 (by decide) ?_
        exact W.zret (v := (0 : Int32)) (ty := .boolean) hx hb hr rfl (fun t ht hW => ⟨_, rfl, hR, ht⟩) (fun q h => by cases h) dX1_changesPlaces_27
      · skip
        rw [if_pos c19] at hR
        refine lv_iconst (v := (1 : Int32)) hx hb dX1_changesPlaces_22 (by decide) ?_
        refine lv_goto (tgt := 27) hx hb dX1_changesPlaces_23 (by decide) ?_
        exact W.zret (v := (1 : Int32)) (ty := .boolean) hx hb hr rfl (fun t ht hW => ⟨_, rfl, hR, ht⟩) (fun q h => by cases h) dX1_changesPlaces_27
  · skip
    rw [if_neg c2] at hR
    refine lv_iload_n hx hb dX1_changesPlaces_5 rfl (lv_at hl 0 rfl) ?_
    refine lv_iconst (v := (5 : Int32)) hx hb dX1_changesPlaces_6 (by decide) ?_
    refine lv_icmp_le (tgt := 22) hx hb dX1_changesPlaces_7 (by decide) (fun c7 => ?_) (fun c7 => ?_)
    · skip
      rw [if_pos c7] at hR
      refine lv_iconst (v := (1 : Int32)) hx hb dX1_changesPlaces_22 (by decide) ?_
      refine lv_goto (tgt := 27) hx hb dX1_changesPlaces_23 (by decide) ?_
      exact W.zret (v := (1 : Int32)) (ty := .boolean) hx hb hr rfl (fun t ht hW => ⟨_, rfl, hR, ht⟩) (fun q h => by cases h) dX1_changesPlaces_27
    · skip
      rw [if_neg c7] at hR
      refine lv_iload_n hx hb dX1_changesPlaces_10 rfl (lv_at hl 0 rfl) ?_
      refine lv_bipush (v := (7 : Int32)) hx hb dX1_changesPlaces_11 (by decide) ?_
      refine lv_icmp_eq (tgt := 22) hx hb dX1_changesPlaces_13 (by decide) (fun c13 => ?_) (fun c13 => ?_)
      · skip
        rw [if_pos c13] at hR
        refine lv_iconst (v := (1 : Int32)) hx hb dX1_changesPlaces_22 (by decide) ?_
        refine lv_goto (tgt := 27) hx hb dX1_changesPlaces_23 (by decide) ?_
        exact W.zret (v := (1 : Int32)) (ty := .boolean) hx hb hr rfl (fun t ht hW => ⟨_, rfl, hR, ht⟩) (fun q h => by cases h) dX1_changesPlaces_27
      · skip
        rw [if_neg c13] at hR
        refine lv_iload_n hx hb dX1_changesPlaces_16 rfl (lv_at hl 0 rfl) ?_
        refine lv_bipush (v := (13 : Int32)) hx hb dX1_changesPlaces_17 (by decide) ?_
        refine lv_icmp_ne (tgt := 26) hx hb dX1_changesPlaces_19 (by decide) (fun c19 => ?_) (fun c19 => ?_)
        · skip
          rw [if_neg c19] at hR
          refine lv_iconst (v := (0 : Int32)) hx hb dX1_changesPlaces_26 (by decide) ?_
          exact W.zret (v := (0 : Int32)) (ty := .boolean) hx hb hr rfl (fun t ht hW => ⟨_, rfl, hR, ht⟩) (fun q h => by cases h) dX1_changesPlaces_27
        · skip
          rw [if_pos c19] at hR
          refine lv_iconst (v := (1 : Int32)) hx hb dX1_changesPlaces_22 (by decide) ?_
          refine lv_goto (tgt := 27) hx hb dX1_changesPlaces_23 (by decide) ?_
          exact W.zret (v := (1 : Int32)) (ty := .boolean) hx hb hr rfl (fun t ht hW => ⟨_, rfl, hR, ht⟩) (fun q h => by cases h) dX1_changesPlaces_27

theorem dX1_isThereFor_0 : decode cX1_isThereFor 0 = .ok (.iload_n 0, 1) := by decide +kernel
theorem dX1_isThereFor_1 : decode cX1_isThereFor 1 = .ok (.bipush 7, 2) := by decide +kernel
theorem dX1_isThereFor_3 : decode cX1_isThereFor 3 = .ok (.if_icmp .ne 15, 3) := by decide +kernel
theorem dX1_isThereFor_6 : decode cX1_isThereFor 6 = .ok (.iload_n 1, 1) := by decide +kernel
theorem dX1_isThereFor_7 : decode cX1_isThereFor 7 = .ok (.bipush 16, 2) := by decide +kernel
theorem dX1_isThereFor_9 : decode cX1_isThereFor 9 = .ok (.if_icmp .gt 7, 3) := by decide +kernel
theorem dX1_isThereFor_12 : decode cX1_isThereFor 12 = .ok (.iconst 1, 1) := by decide +kernel
theorem dX1_isThereFor_13 : decode cX1_isThereFor 13 = .ok (.goto 4, 3) := by decide +kernel
theorem dX1_isThereFor_16 : decode cX1_isThereFor 16 = .ok (.iconst 0, 1) := by decide +kernel
theorem dX1_isThereFor_17 : decode cX1_isThereFor 17 = .ok (.ireturn, 1) := by decide +kernel
theorem dX1_isThereFor_18 : decode cX1_isThereFor 18 = .ok (.iload_n 0, 1) := by decide +kernel
theorem dX1_isThereFor_19 : decode cX1_isThereFor 19 = .ok (.bipush 8, 2) := by decide +kernel
theorem dX1_isThereFor_21 : decode cX1_isThereFor 21 = .ok (.if_icmp .eq 9, 3) := by decide +kernel
theorem dX1_isThereFor_24 : decode cX1_isThereFor 24 = .ok (.iload_n 0, 1) := by decide +kernel
theorem dX1_isThereFor_25 : decode cX1_isThereFor 25 = .ok (.bipush 9, 2) := by decide +kernel
theorem dX1_isThereFor_27 : decode cX1_isThereFor 27 = .ok (.if_icmp .ne 9, 3) := by decide +kernel
theorem dX1_isThereFor_30 : decode cX1_isThereFor 30 = .ok (.iload_n 1, 1) := by decide +kernel
theorem dX1_isThereFor_31 : decode cX1_isThereFor 31 = .ok (.bipush 8, 2) := by decide +kernel
theorem dX1_isThereFor_33 : decode cX1_isThereFor 33 = .ok (.if_icmp .ne 7, 3) := by decide +kernel
theorem dX1_isThereFor_36 : decode cX1_isThereFor 36 = .ok (.iconst 1, 1) := by decide +kernel
theorem dX1_isThereFor_37 : decode cX1_isThereFor 37 = .ok (.goto 4, 3) := by decide +kernel
theorem dX1_isThereFor_40 : decode cX1_isThereFor 40 = .ok (.iconst 0, 1) := by decide +kernel
theorem dX1_isThereFor_41 : decode cX1_isThereFor 41 = .ok (.ireturn, 1) := by decide +kernel
def fx_Op_isThereFor (o : Int32) (w : Int32) : Int32 := 
  if o = (7 : Int32) then 
    if (16 : Int32) < w then (0 : Int32)
    else (1 : Int32)
  else 
    if o = (8 : Int32) then 
      if w = (8 : Int32) then (1 : Int32)
      else (0 : Int32)
    else 
      if o = (9 : Int32) then 
        if w = (8 : Int32) then (1 : Int32)
        else (0 : Int32)
      else (1 : Int32)
set_option maxHeartbeats 4000000 in
set_option maxRecDepth 100000 in
theorem kx_Op_isThereFor (l : Launch) (o : Int32) (w : Int32) : Met l yX1_isThereFor wsX1_isThereFor ({ frames := 0, cells := 0, slots := 0, locals := 0 }) (fun v _ => v = ([.int o, .int w] : List Value).toArray) (vp_Si (fun r => r = fx_Op_isThereFor o w)) 0 0 (fun _ => False) := by
  refine Met.ofW (cc := cX1_isThereFor) (maxL := 2) (ret := (some .boolean)) (by decide) rfl ?_
  intro p e s m args below meth c s₁ B hml hv
  subst hv
  have hx := B.exec
  have hb := B.bytes
  have hr := B.returns
  have hta := aw_hts (atoms_spec (ws := wsX1_isThereFor) B.pre)
  have hown : s.vm.findClass RX1 = some m.cls := findClass_of_methodNamed B.named
  have hlocks := B.notSynchronized
  have hl := lv_entry ([.int o, .int w]) (n := 2) (Nat.le_of_ble_eq_true rfl)
  rw [lg_entry_eq]
  generalize (lg_sl ([.int o, .int w]) ++ List.replicate (2 - (lg_sl ([.int o, .int w])).length) Slot.unset).toArray = ls at hl ⊢
  have hl : lv_has ls 2 [(0, .int o), (1, .int w)] := hl
  generalize hR : fx_Op_isThereFor o w = R
  rw [fx_Op_isThereFor] at hR
  refine lv_iload_n hx hb dX1_isThereFor_0 rfl (lv_at hl 0 rfl) ?_
  refine lv_bipush (v := (7 : Int32)) hx hb dX1_isThereFor_1 (by decide) ?_
  refine lv_icmp_ne (tgt := 18) hx hb dX1_isThereFor_3 (by decide) (fun c3 => ?_) (fun c3 => ?_)
  · skip
    rw [if_neg c3] at hR
    refine lv_iload_n hx hb dX1_isThereFor_18 rfl (lv_at hl 0 rfl) ?_
    refine lv_bipush (v := (8 : Int32)) hx hb dX1_isThereFor_19 (by decide) ?_
    refine lv_icmp_eq (tgt := 30) hx hb dX1_isThereFor_21 (by decide) (fun c21 => ?_) (fun c21 => ?_)
    · skip
      rw [if_pos c21] at hR
      refine lv_iload_n hx hb dX1_isThereFor_30 rfl (lv_at hl 1 rfl) ?_
      refine lv_bipush (v := (8 : Int32)) hx hb dX1_isThereFor_31 (by decide) ?_
      refine lv_icmp_ne (tgt := 40) hx hb dX1_isThereFor_33 (by decide) (fun c33 => ?_) (fun c33 => ?_)
      · skip
        rw [if_neg c33] at hR
        refine lv_iconst (v := (0 : Int32)) hx hb dX1_isThereFor_40 (by decide) ?_
        exact W.zret (v := (0 : Int32)) (ty := .boolean) hx hb hr rfl (fun t ht hW => ⟨_, rfl, hR, ht⟩) (fun q h => by cases h) dX1_isThereFor_41
      · skip
        rw [if_pos c33] at hR
        refine lv_iconst (v := (1 : Int32)) hx hb dX1_isThereFor_36 (by decide) ?_
        refine lv_goto (tgt := 41) hx hb dX1_isThereFor_37 (by decide) ?_
        exact W.zret (v := (1 : Int32)) (ty := .boolean) hx hb hr rfl (fun t ht hW => ⟨_, rfl, hR, ht⟩) (fun q h => by cases h) dX1_isThereFor_41
    · skip
      rw [if_neg c21] at hR
      refine lv_iload_n hx hb dX1_isThereFor_24 rfl (lv_at hl 0 rfl) ?_
      refine lv_bipush (v := (9 : Int32)) hx hb dX1_isThereFor_25 (by decide) ?_
      refine lv_icmp_ne (tgt := 36) hx hb dX1_isThereFor_27 (by decide) (fun c27 => ?_) (fun c27 => ?_)
      · skip
        rw [if_neg c27] at hR
        refine lv_iconst (v := (1 : Int32)) hx hb dX1_isThereFor_36 (by decide) ?_
        refine lv_goto (tgt := 41) hx hb dX1_isThereFor_37 (by decide) ?_
        exact W.zret (v := (1 : Int32)) (ty := .boolean) hx hb hr rfl (fun t ht hW => ⟨_, rfl, hR, ht⟩) (fun q h => by cases h) dX1_isThereFor_41
      · skip
        rw [if_pos c27] at hR
        refine lv_iload_n hx hb dX1_isThereFor_30 rfl (lv_at hl 1 rfl) ?_
        refine lv_bipush (v := (8 : Int32)) hx hb dX1_isThereFor_31 (by decide) ?_
        refine lv_icmp_ne (tgt := 40) hx hb dX1_isThereFor_33 (by decide) (fun c33 => ?_) (fun c33 => ?_)
        · skip
          rw [if_neg c33] at hR
          refine lv_iconst (v := (0 : Int32)) hx hb dX1_isThereFor_40 (by decide) ?_
          exact W.zret (v := (0 : Int32)) (ty := .boolean) hx hb hr rfl (fun t ht hW => ⟨_, rfl, hR, ht⟩) (fun q h => by cases h) dX1_isThereFor_41
        · skip
          rw [if_pos c33] at hR
          refine lv_iconst (v := (1 : Int32)) hx hb dX1_isThereFor_36 (by decide) ?_
          refine lv_goto (tgt := 41) hx hb dX1_isThereFor_37 (by decide) ?_
          exact W.zret (v := (1 : Int32)) (ty := .boolean) hx hb hr rfl (fun t ht hW => ⟨_, rfl, hR, ht⟩) (fun q h => by cases h) dX1_isThereFor_41
  · skip
    rw [if_pos c3] at hR
    refine lv_iload_n hx hb dX1_isThereFor_6 rfl (lv_at hl 1 rfl) ?_
    refine lv_bipush (v := (16 : Int32)) hx hb dX1_isThereFor_7 (by decide) ?_
    refine lv_icmp_gt (tgt := 16) hx hb dX1_isThereFor_9 (by decide) (fun c9 => ?_) (fun c9 => ?_)
    · skip
      rw [if_pos c9] at hR
      refine lv_iconst (v := (0 : Int32)) hx hb dX1_isThereFor_16 (by decide) ?_
      exact W.zret (v := (0 : Int32)) (ty := .boolean) hx hb hr rfl (fun t ht hW => ⟨_, rfl, hR, ht⟩) (fun q h => by cases h) dX1_isThereFor_17
    · skip
      rw [if_neg c9] at hR
      refine lv_iconst (v := (1 : Int32)) hx hb dX1_isThereFor_12 (by decide) ?_
      refine lv_goto (tgt := 17) hx hb dX1_isThereFor_13 (by decide) ?_
      exact W.zret (v := (1 : Int32)) (ty := .boolean) hx hb hr rfl (fun t ht hW => ⟨_, rfl, hR, ht⟩) (fun q h => by cases h) dX1_isThereFor_17

theorem dX1_costFor_0 : decode cX1_costFor 0 = .ok (.iload_n 0, 1) := by decide +kernel
theorem dX1_costFor_1 : decode cX1_costFor 1 = .ok (.tableswitch 93 7 20 #[71, 81, 81, 84, 84, 84, 93, 93, 93, 93, 88, 88, 88, 90], 71) := by decide +kernel
theorem dX1_costFor_72 : decode cX1_costFor 72 = .ok (.iload_n 1, 1) := by decide +kernel
theorem dX1_costFor_73 : decode cX1_costFor 73 = .ok (.iload_n 1, 1) := by decide +kernel
theorem dX1_costFor_74 : decode cX1_costFor 74 = .ok (.imul, 1) := by decide +kernel
theorem dX1_costFor_75 : decode cX1_costFor 75 = .ok (.iconst 5, 1) := by decide +kernel
theorem dX1_costFor_76 : decode cX1_costFor 76 = .ok (.imul, 1) := by decide +kernel
theorem dX1_costFor_77 : decode cX1_costFor 77 = .ok (.iconst 4, 1) := by decide +kernel
theorem dX1_costFor_78 : decode cX1_costFor 78 = .ok (.idiv, 1) := by decide +kernel
theorem dX1_costFor_79 : decode cX1_costFor 79 = .ok (.iconst 1, 1) := by decide +kernel
theorem dX1_costFor_80 : decode cX1_costFor 80 = .ok (.iadd, 1) := by decide +kernel
theorem dX1_costFor_81 : decode cX1_costFor 81 = .ok (.ireturn, 1) := by decide +kernel
theorem dX1_costFor_82 : decode cX1_costFor 82 = .ok (.bipush 100, 2) := by decide +kernel
theorem dX1_costFor_84 : decode cX1_costFor 84 = .ok (.ireturn, 1) := by decide +kernel
theorem dX1_costFor_85 : decode cX1_costFor 85 = .ok (.iload_n 1, 1) := by decide +kernel
theorem dX1_costFor_86 : decode cX1_costFor 86 = .ok (.iconst 3, 1) := by decide +kernel
theorem dX1_costFor_87 : decode cX1_costFor 87 = .ok (.imul, 1) := by decide +kernel
theorem dX1_costFor_88 : decode cX1_costFor 88 = .ok (.ireturn, 1) := by decide +kernel
theorem dX1_costFor_89 : decode cX1_costFor 89 = .ok (.iconst 0, 1) := by decide +kernel
theorem dX1_costFor_90 : decode cX1_costFor 90 = .ok (.ireturn, 1) := by decide +kernel
theorem dX1_costFor_91 : decode cX1_costFor 91 = .ok (.bipush 40, 2) := by decide +kernel
theorem dX1_costFor_93 : decode cX1_costFor 93 = .ok (.ireturn, 1) := by decide +kernel
theorem dX1_costFor_94 : decode cX1_costFor 94 = .ok (.iload_n 1, 1) := by decide +kernel
theorem dX1_costFor_95 : decode cX1_costFor 95 = .ok (.ireturn, 1) := by decide +kernel
def fx_Op_costFor (o : Int32) (w : Int32) : Int32 := 
  if o = (7 : Int32) then (((w * w) * (5 : Int32)) / (4 : Int32)) + (1 : Int32)
  else 
    if o = (8 : Int32) then (100 : Int32)
    else 
      if o = (9 : Int32) then (100 : Int32)
      else 
        if o = (10 : Int32) then w * (3 : Int32)
        else 
          if o = (11 : Int32) then w * (3 : Int32)
          else 
            if o = (12 : Int32) then w * (3 : Int32)
            else 
              if o = (17 : Int32) then (0 : Int32)
              else 
                if o = (18 : Int32) then (0 : Int32)
                else 
                  if o = (19 : Int32) then (0 : Int32)
                  else 
                    if o = (20 : Int32) then (40 : Int32)
                    else w
set_option maxHeartbeats 4000000 in
set_option maxRecDepth 100000 in
theorem kx_Op_costFor (l : Launch) (o : Int32) (w : Int32) : Met l yX1_costFor wsX1_costFor ({ frames := 0, cells := 0, slots := 0, locals := 0 }) (fun v _ => v = ([.int o, .int w] : List Value).toArray) (vp_Si (fun r => r = fx_Op_costFor o w)) 0 0 (fun _ => False) := by
  refine Met.ofW (cc := cX1_costFor) (maxL := 2) (ret := (some .int)) (by decide) rfl ?_
  intro p e s m args below meth c s₁ B hml hv
  subst hv
  have hx := B.exec
  have hb := B.bytes
  have hr := B.returns
  have hta := aw_hts (atoms_spec (ws := wsX1_costFor) B.pre)
  have hown : s.vm.findClass RX1 = some m.cls := findClass_of_methodNamed B.named
  have hlocks := B.notSynchronized
  have hl := lv_entry ([.int o, .int w]) (n := 2) (Nat.le_of_ble_eq_true rfl)
  rw [lg_entry_eq]
  generalize (lg_sl ([.int o, .int w]) ++ List.replicate (2 - (lg_sl ([.int o, .int w])).length) Slot.unset).toArray = ls at hl ⊢
  have hl : lv_has ls 2 [(0, .int o), (1, .int w)] := hl
  generalize hR : fx_Op_costFor o w = R
  rw [fx_Op_costFor] at hR
  refine lv_iload_n hx hb dX1_costFor_0 rfl (lv_at hl 0 rfl) ?_
  by_cases c1_7 : o = (7 : Int32)
  · skip
    rw [if_pos c1_7] at hR
    refine lv_tableIn (tgt := 72) hx hb dX1_costFor_1 (by rw [c1_7]; decide) (by rw [c1_7]; decide) (by rw [c1_7]; rfl) (by decide) ?_
    refine lv_iload_n hx hb dX1_costFor_72 rfl (lv_at hl 1 rfl) ?_
    refine lv_iload_n hx hb dX1_costFor_73 rfl (lv_at hl 1 rfl) ?_
    refine lv_imul hx hb dX1_costFor_74 ?_
    refine lv_iconst (v := (5 : Int32)) hx hb dX1_costFor_75 (by decide) ?_
    refine lv_imul hx hb dX1_costFor_76 ?_
    refine lv_iconst (v := (4 : Int32)) hx hb dX1_costFor_77 (by decide) ?_
    refine lv_idiv hx hb dX1_costFor_78 (by decide) ?_
    refine lv_iconst (v := (1 : Int32)) hx hb dX1_costFor_79 (by decide) ?_
    refine lv_iadd hx hb dX1_costFor_80 ?_
    exact W.iret (v := (((w * w) * (5 : Int32)) / (4 : Int32)) + (1 : Int32)) hx hb hr (fun t ht hW => ⟨_, rfl, hR, ht⟩) (fun q h => by cases h) dX1_costFor_81
  · skip
    rw [if_neg c1_7] at hR
    by_cases c1_8 : o = (8 : Int32)
    · skip
      rw [if_pos c1_8] at hR
      refine lv_tableIn (tgt := 82) hx hb dX1_costFor_1 (by rw [c1_8]; decide) (by rw [c1_8]; decide) (by rw [c1_8]; rfl) (by decide) ?_
      refine lv_bipush (v := (100 : Int32)) hx hb dX1_costFor_82 (by decide) ?_
      exact W.iret (v := (100 : Int32)) hx hb hr (fun t ht hW => ⟨_, rfl, hR, ht⟩) (fun q h => by cases h) dX1_costFor_84
    · skip
      rw [if_neg c1_8] at hR
      by_cases c1_9 : o = (9 : Int32)
      · skip
        rw [if_pos c1_9] at hR
        refine lv_tableIn (tgt := 82) hx hb dX1_costFor_1 (by rw [c1_9]; decide) (by rw [c1_9]; decide) (by rw [c1_9]; rfl) (by decide) ?_
        refine lv_bipush (v := (100 : Int32)) hx hb dX1_costFor_82 (by decide) ?_
        exact W.iret (v := (100 : Int32)) hx hb hr (fun t ht hW => ⟨_, rfl, hR, ht⟩) (fun q h => by cases h) dX1_costFor_84
      · skip
        rw [if_neg c1_9] at hR
        by_cases c1_10 : o = (10 : Int32)
        · skip
          rw [if_pos c1_10] at hR
          refine lv_tableIn (tgt := 85) hx hb dX1_costFor_1 (by rw [c1_10]; decide) (by rw [c1_10]; decide) (by rw [c1_10]; rfl) (by decide) ?_
          refine lv_iload_n hx hb dX1_costFor_85 rfl (lv_at hl 1 rfl) ?_
          refine lv_iconst (v := (3 : Int32)) hx hb dX1_costFor_86 (by decide) ?_
          refine lv_imul hx hb dX1_costFor_87 ?_
          exact W.iret (v := w * (3 : Int32)) hx hb hr (fun t ht hW => ⟨_, rfl, hR, ht⟩) (fun q h => by cases h) dX1_costFor_88
        · skip
          rw [if_neg c1_10] at hR
          by_cases c1_11 : o = (11 : Int32)
          · skip
            rw [if_pos c1_11] at hR
            refine lv_tableIn (tgt := 85) hx hb dX1_costFor_1 (by rw [c1_11]; decide) (by rw [c1_11]; decide) (by rw [c1_11]; rfl) (by decide) ?_
            refine lv_iload_n hx hb dX1_costFor_85 rfl (lv_at hl 1 rfl) ?_
            refine lv_iconst (v := (3 : Int32)) hx hb dX1_costFor_86 (by decide) ?_
            refine lv_imul hx hb dX1_costFor_87 ?_
            exact W.iret (v := w * (3 : Int32)) hx hb hr (fun t ht hW => ⟨_, rfl, hR, ht⟩) (fun q h => by cases h) dX1_costFor_88
          · skip
            rw [if_neg c1_11] at hR
            by_cases c1_12 : o = (12 : Int32)
            · skip
              rw [if_pos c1_12] at hR
              refine lv_tableIn (tgt := 85) hx hb dX1_costFor_1 (by rw [c1_12]; decide) (by rw [c1_12]; decide) (by rw [c1_12]; rfl) (by decide) ?_
              refine lv_iload_n hx hb dX1_costFor_85 rfl (lv_at hl 1 rfl) ?_
              refine lv_iconst (v := (3 : Int32)) hx hb dX1_costFor_86 (by decide) ?_
              refine lv_imul hx hb dX1_costFor_87 ?_
              exact W.iret (v := w * (3 : Int32)) hx hb hr (fun t ht hW => ⟨_, rfl, hR, ht⟩) (fun q h => by cases h) dX1_costFor_88
            · skip
              rw [if_neg c1_12] at hR
              by_cases c1_17 : o = (17 : Int32)
              · skip
                rw [if_pos c1_17] at hR
                refine lv_tableIn (tgt := 89) hx hb dX1_costFor_1 (by rw [c1_17]; decide) (by rw [c1_17]; decide) (by rw [c1_17]; rfl) (by decide) ?_
                refine lv_iconst (v := (0 : Int32)) hx hb dX1_costFor_89 (by decide) ?_
                exact W.iret (v := (0 : Int32)) hx hb hr (fun t ht hW => ⟨_, rfl, hR, ht⟩) (fun q h => by cases h) dX1_costFor_90
              · skip
                rw [if_neg c1_17] at hR
                by_cases c1_18 : o = (18 : Int32)
                · skip
                  rw [if_pos c1_18] at hR
                  refine lv_tableIn (tgt := 89) hx hb dX1_costFor_1 (by rw [c1_18]; decide) (by rw [c1_18]; decide) (by rw [c1_18]; rfl) (by decide) ?_
                  refine lv_iconst (v := (0 : Int32)) hx hb dX1_costFor_89 (by decide) ?_
                  exact W.iret (v := (0 : Int32)) hx hb hr (fun t ht hW => ⟨_, rfl, hR, ht⟩) (fun q h => by cases h) dX1_costFor_90
                · skip
                  rw [if_neg c1_18] at hR
                  by_cases c1_19 : o = (19 : Int32)
                  · skip
                    rw [if_pos c1_19] at hR
                    refine lv_tableIn (tgt := 89) hx hb dX1_costFor_1 (by rw [c1_19]; decide) (by rw [c1_19]; decide) (by rw [c1_19]; rfl) (by decide) ?_
                    refine lv_iconst (v := (0 : Int32)) hx hb dX1_costFor_89 (by decide) ?_
                    exact W.iret (v := (0 : Int32)) hx hb hr (fun t ht hW => ⟨_, rfl, hR, ht⟩) (fun q h => by cases h) dX1_costFor_90
                  · skip
                    rw [if_neg c1_19] at hR
                    by_cases c1_20 : o = (20 : Int32)
                    · skip
                      rw [if_pos c1_20] at hR
                      refine lv_tableIn (tgt := 91) hx hb dX1_costFor_1 (by rw [c1_20]; decide) (by rw [c1_20]; decide) (by rw [c1_20]; rfl) (by decide) ?_
                      refine lv_bipush (v := (40 : Int32)) hx hb dX1_costFor_91 (by decide) ?_
                      exact W.iret (v := (40 : Int32)) hx hb hr (fun t ht hW => ⟨_, rfl, hR, ht⟩) (fun q h => by cases h) dX1_costFor_93
                    · skip
                      rw [if_neg c1_20] at hR
                      have t1_7 := lv_neT (a := 7) c1_7 (by decide)
                      have t1_8 := lv_neT (a := 8) c1_8 (by decide)
                      have t1_9 := lv_neT (a := 9) c1_9 (by decide)
                      have t1_10 := lv_neT (a := 10) c1_10 (by decide)
                      have t1_11 := lv_neT (a := 11) c1_11 (by decide)
                      have t1_12 := lv_neT (a := 12) c1_12 (by decide)
                      have t1_17 := lv_neT (a := 17) c1_17 (by decide)
                      have t1_18 := lv_neT (a := 18) c1_18 (by decide)
                      have t1_19 := lv_neT (a := 19) c1_19 (by decide)
                      have t1_20 := lv_neT (a := 20) c1_20 (by decide)
                      refine wl_tabD (tgt := 94) (ks := [7, 8, 9, 10, 11, 12, 17, 18, 19, 20]) hx hb dX1_costFor_1 (by decide) (by decide +kernel) (by intro k hk; simp only [List.mem_cons, List.not_mem_nil, or_false] at hk; rcases hk with rfl | rfl | rfl | rfl | rfl | rfl | rfl | rfl | rfl | rfl; exacts [t1_7, t1_8, t1_9, t1_10, t1_11, t1_12, t1_17, t1_18, t1_19, t1_20]) (by decide) ?_
                      refine lv_iload_n hx hb dX1_costFor_94 rfl (lv_at hl 1 rfl) ?_
                      exact W.iret (v := w) hx hb hr (fun t ht hW => ⟨_, rfl, hR, ht⟩) (fun q h => by cases h) dX1_costFor_95

theorem mw_369 : (.constantLong RX1 13 (-1) : Cond) ∈ AW := List.mem_filter.mpr ⟨List.mem_of_getElem? (i := 369) (by decide +kernel), rfl⟩
theorem dX1_bit_0 : decode cX1_bit 0 = .ok (.iload_n 0, 1) := by decide +kernel
theorem dX1_bit_1 : decode cX1_bit 1 = .ok (.ifCond .eq 9, 3) := by decide +kernel
theorem dX1_bit_4 : decode cX1_bit 4 = .ok (.ldc2_w 13, 3) := by decide +kernel
theorem dX1_bit_7 : decode cX1_bit 7 = .ok (.goto 4, 3) := by decide +kernel
theorem dX1_bit_10 : decode cX1_bit 10 = .ok (.lconst 0, 1) := by decide +kernel
theorem dX1_bit_11 : decode cX1_bit 11 = .ok (.lreturn, 1) := by decide +kernel
def fx_Op_bit (z : Int32) : Int64 := 
  if z = (0 : Int32) then (0 : Int64)
  else (-1 : Int64)
set_option maxHeartbeats 4000000 in
set_option maxRecDepth 100000 in
theorem kx_Op_bit (l : Launch) (z : Int32) : Met l yX1_bit wsX1_bit ({ frames := 0, cells := 0, slots := 0, locals := 0 }) (fun v _ => v = ([.int z] : List Value).toArray) (vp_Sl (fun r => r = fx_Op_bit z)) 0 0 (fun _ => False) := by
  refine Met.ofW (cc := cX1_bit) (maxL := 1) (ret := (some .long)) (by decide) rfl ?_
  intro p e s m args below meth c s₁ B hml hv
  subst hv
  have hx := B.exec
  have hb := B.bytes
  have hr := B.returns
  have hta := aw_hts (atoms_spec (ws := wsX1_bit) B.pre)
  have hown : s.vm.findClass RX1 = some m.cls := findClass_of_methodNamed B.named
  have hlocks := B.notSynchronized
  have hc13 := hta _ mw_369
  have hl := lv_entry ([.int z]) (n := 1) (Nat.le_of_ble_eq_true rfl)
  rw [lg_entry_eq]
  generalize (lg_sl ([.int z]) ++ List.replicate (1 - (lg_sl ([.int z])).length) Slot.unset).toArray = ls at hl ⊢
  have hl : lv_has ls 1 [(0, .int z)] := hl
  generalize hR : fx_Op_bit z = R
  rw [fx_Op_bit] at hR
  refine lv_iload_n hx hb dX1_bit_0 rfl (lv_at hl 0 rfl) ?_
  refine lv_if_eq (tgt := 10) hx hb dX1_bit_1 (by decide) (fun c1 => ?_) (fun c1 => ?_)
  · skip
    rw [if_pos c1] at hR
    refine lv_lconst (v := (0 : Int64)) hx hb dX1_bit_10 (by decide) ?_
    exact W.lret (v := (0 : Int64)) hx hb hr (fun t ht hW => ⟨_, rfl, hR, ht⟩) (fun q h => by cases h) dX1_bit_11
  · skip
    rw [if_neg c1] at hR
    refine lv_ldc2 (v := (-1 : Int64)) hx hb hown hc13 dX1_bit_4 ?_
    refine lv_goto (tgt := 11) hx hb dX1_bit_7 (by decide) ?_
    exact W.lret (v := (-1 : Int64)) hx hb hr (fun t ht hW => ⟨_, rfl, hR, ht⟩) (fun q h => by cases h) dX1_bit_11

theorem mw_275 : (.code yX0_readSigned cX0_readSigned 4 (some .long) : Cond) ∈ AW := List.mem_filter.mpr ⟨List.mem_of_getElem? (i := 275) (by decide +kernel), rfl⟩
theorem mw_370 : (.methodLink RX1 15 yX0_readSigned : Cond) ∈ AW := List.mem_filter.mpr ⟨List.mem_of_getElem? (i := 370) (by decide +kernel), rfl⟩
theorem mw_47 : (.initialized RX0 : Cond) ∈ AW := List.mem_filter.mpr ⟨List.mem_of_getElem? (i := 47) (by decide +kernel), rfl⟩
theorem mw_274 : (.static yX0_readSigned : Cond) ∈ AW := List.mem_filter.mpr ⟨List.mem_of_getElem? (i := 274) (by decide +kernel), rfl⟩
theorem gX1_15 : GoodIn AW (va_wsS RX1 15 yX0_readSigned wsX0_readSigned) := aw_S mw_370 mw_274 mw_47 mw_275
theorem dX1_ofOne_0 : decode cX1_ofOne 0 = .ok (.iload_n 0, 1) := by decide +kernel
theorem dX1_ofOne_1 : decode cX1_ofOne 1 = .ok (.ifCond .ne 11, 3) := by decide +kernel
theorem dX1_ofOne_4 : decode cX1_ofOne 4 = .ok (.lload_n 2, 1) := by decide +kernel
theorem dX1_ofOne_5 : decode cX1_ofOne 5 = .ok (.ldc2_w 13, 3) := by decide +kernel
theorem dX1_ofOne_8 : decode cX1_ofOne 8 = .ok (.lxor, 1) := by decide +kernel
theorem dX1_ofOne_9 : decode cX1_ofOne 9 = .ok (.goto 9, 3) := by decide +kernel
theorem dX1_ofOne_12 : decode cX1_ofOne 12 = .ok (.iload_n 1, 1) := by decide +kernel
theorem dX1_ofOne_13 : decode cX1_ofOne 13 = .ok (.lload_n 2, 1) := by decide +kernel
theorem dX1_ofOne_14 : decode cX1_ofOne 14 = .ok (.lneg, 1) := by decide +kernel
theorem dX1_ofOne_15 : decode cX1_ofOne 15 = .ok (.invokestatic 15, 3) := by decide +kernel
theorem dX1_ofOne_18 : decode cX1_ofOne 18 = .ok (.lreturn, 1) := by decide +kernel
def fx_Op_ofOne (o : Int32) (w : Int32) (x : Int64) : Int64 := 
  if o = (0 : Int32) then x ^^^ (-1 : Int64)
  else fx_Width_readSigned w (-x)
set_option maxHeartbeats 4000000 in
set_option maxRecDepth 100000 in
theorem kx_Op_ofOne (l : Launch) (o : Int32) (w : Int32) (x : Int64) : Met l yX1_ofOne wsX1_ofOne ({ frames := 1, cells := 0, slots := 0, locals := 23 }) (fun v _ => v = ([.int o, .int w, .long x] : List Value).toArray) (vp_Sl (fun r => r = fx_Op_ofOne o w x)) 0 0 (fun _ => False) := by
  refine Met.ofW (cc := cX1_ofOne) (maxL := 4) (ret := (some .long)) (by decide) rfl ?_
  intro p e s m args below meth c s₁ B hml hv
  subst hv
  have hx := B.exec
  have hb := B.bytes
  have hr := B.returns
  have hta := aw_hts (atoms_spec (ws := wsX1_ofOne) B.pre)
  have hown : s.vm.findClass RX1 = some m.cls := findClass_of_methodNamed B.named
  have hlocks := B.notSynchronized
  have hc13 := hta _ mw_369
  have hl := lv_entry ([.int o, .int w, .long x]) (n := 4) (Nat.le_of_ble_eq_true rfl)
  rw [lg_entry_eq]
  generalize (lg_sl ([.int o, .int w, .long x]) ++ List.replicate (4 - (lg_sl ([.int o, .int w, .long x])).length) Slot.unset).toArray = ls at hl ⊢
  have hl : lv_has ls 4 [(0, .int o), (1, .int w), (2, .long x)] := hl
  generalize hR : fx_Op_ofOne o w x = R
  rw [fx_Op_ofOne] at hR
  refine lv_iload_n hx hb dX1_ofOne_0 rfl (lv_at hl 0 rfl) ?_
  refine lv_if_ne (tgt := 12) hx hb dX1_ofOne_1 (by decide) (fun c1 => ?_) (fun c1 => ?_)
  · skip
    rw [if_neg c1] at hR
    refine lv_iload_n hx hb dX1_ofOne_12 rfl (lv_at hl 1 rfl) ?_
    refine lv_lload_n hx hb dX1_ofOne_13 rfl (lv_at hl 2 rfl) ?_
    refine lv_lneg hx hb dX1_ofOne_14 ?_
    refine wl_cl (va_runS (As := [.int w, .long (-x)]) (rest := []) ⟨hx, hb, hml, hown, hta⟩ (kx_Width_readSigned l w (-x)) (va_cwS 2 hta gX1_15 rfl rfl rfl (by decide +kernel) ⟨Nat.le_of_ble_eq_true rfl, Nat.le_of_ble_eq_true rfl⟩) preEq rfl rfl hl.1 rfl (lv_room (Nat.le_of_ble_eq_true rfl)) dX1_ofOne_15 ⟨Nat.zero_le _, Nat.zero_le _⟩) ?_
    exact W.lret (v := fx_Width_readSigned w (-x)) hx hb hr (fun t ht hW => ⟨_, rfl, hR, ht⟩) (fun q h => by cases h) dX1_ofOne_18
  · skip
    rw [if_pos c1] at hR
    refine lv_lload_n hx hb dX1_ofOne_4 rfl (lv_at hl 2 rfl) ?_
    refine lv_ldc2 (v := (-1 : Int64)) hx hb hown hc13 dX1_ofOne_5 ?_
    refine lv_lxor hx hb dX1_ofOne_8 ?_
    refine lv_goto (tgt := 18) hx hb dX1_ofOne_9 (by decide) ?_
    exact W.lret (v := x ^^^ (-1 : Int64)) hx hb hr (fun t ht hW => ⟨_, rfl, hR, ht⟩) (fun q h => by cases h) dX1_ofOne_18

theorem mw_393 : (.code yX1_bit cX1_bit 1 (some .long) : Cond) ∈ AW := List.mem_filter.mpr ⟨List.mem_of_getElem? (i := 393) (by decide +kernel), rfl⟩
theorem mw_391 : (.methodLink RX1 21 yX1_bit : Cond) ∈ AW := List.mem_filter.mpr ⟨List.mem_of_getElem? (i := 391) (by decide +kernel), rfl⟩
theorem mw_392 : (.static yX1_bit : Cond) ∈ AW := List.mem_filter.mpr ⟨List.mem_of_getElem? (i := 392) (by decide +kernel), rfl⟩
theorem mw_394 : (.constantLong RX1 27 (-9223372036854775808) : Cond) ∈ AW := List.mem_filter.mpr ⟨List.mem_of_getElem? (i := 394) (by decide +kernel), rfl⟩
theorem gX1_21 : GoodIn AW (va_wsS RX1 21 yX1_bit wsX1_bit) := aw_S mw_391 mw_392 mw_48 mw_393
theorem dX1_ofTwo_0 : decode cX1_ofTwo 0 = .ok (.iload_n 0, 1) := by decide +kernel
theorem dX1_ofTwo_1 : decode cX1_ofTwo 1 = .ok (.tableswitch 149 2 14 #[67, 72, 77, 82, 91, 100, 149, 149, 149, 149, 149, 109, 125], 67) := by decide +kernel
theorem dX1_ofTwo_68 : decode cX1_ofTwo 68 = .ok (.lload_n 2, 1) := by decide +kernel
theorem dX1_ofTwo_69 : decode cX1_ofTwo 69 = .ok (.lload 4, 2) := by decide +kernel
theorem dX1_ofTwo_71 : decode cX1_ofTwo 71 = .ok (.land, 1) := by decide +kernel
theorem dX1_ofTwo_72 : decode cX1_ofTwo 72 = .ok (.lreturn, 1) := by decide +kernel
theorem dX1_ofTwo_73 : decode cX1_ofTwo 73 = .ok (.lload_n 2, 1) := by decide +kernel
theorem dX1_ofTwo_74 : decode cX1_ofTwo 74 = .ok (.lload 4, 2) := by decide +kernel
theorem dX1_ofTwo_76 : decode cX1_ofTwo 76 = .ok (.lor, 1) := by decide +kernel
theorem dX1_ofTwo_77 : decode cX1_ofTwo 77 = .ok (.lreturn, 1) := by decide +kernel
theorem dX1_ofTwo_78 : decode cX1_ofTwo 78 = .ok (.lload_n 2, 1) := by decide +kernel
theorem dX1_ofTwo_79 : decode cX1_ofTwo 79 = .ok (.lload 4, 2) := by decide +kernel
theorem dX1_ofTwo_81 : decode cX1_ofTwo 81 = .ok (.lxor, 1) := by decide +kernel
theorem dX1_ofTwo_82 : decode cX1_ofTwo 82 = .ok (.lreturn, 1) := by decide +kernel
theorem dX1_ofTwo_83 : decode cX1_ofTwo 83 = .ok (.iload_n 1, 1) := by decide +kernel
theorem dX1_ofTwo_84 : decode cX1_ofTwo 84 = .ok (.lload_n 2, 1) := by decide +kernel
theorem dX1_ofTwo_85 : decode cX1_ofTwo 85 = .ok (.lload 4, 2) := by decide +kernel
theorem dX1_ofTwo_87 : decode cX1_ofTwo 87 = .ok (.ladd, 1) := by decide +kernel
theorem dX1_ofTwo_88 : decode cX1_ofTwo 88 = .ok (.invokestatic 15, 3) := by decide +kernel
theorem dX1_ofTwo_91 : decode cX1_ofTwo 91 = .ok (.lreturn, 1) := by decide +kernel
theorem dX1_ofTwo_92 : decode cX1_ofTwo 92 = .ok (.iload_n 1, 1) := by decide +kernel
theorem dX1_ofTwo_93 : decode cX1_ofTwo 93 = .ok (.lload_n 2, 1) := by decide +kernel
theorem dX1_ofTwo_94 : decode cX1_ofTwo 94 = .ok (.lload 4, 2) := by decide +kernel
theorem dX1_ofTwo_96 : decode cX1_ofTwo 96 = .ok (.lsub, 1) := by decide +kernel
theorem dX1_ofTwo_97 : decode cX1_ofTwo 97 = .ok (.invokestatic 15, 3) := by decide +kernel
theorem dX1_ofTwo_100 : decode cX1_ofTwo 100 = .ok (.lreturn, 1) := by decide +kernel
theorem dX1_ofTwo_101 : decode cX1_ofTwo 101 = .ok (.iload_n 1, 1) := by decide +kernel
theorem dX1_ofTwo_102 : decode cX1_ofTwo 102 = .ok (.lload_n 2, 1) := by decide +kernel
theorem dX1_ofTwo_103 : decode cX1_ofTwo 103 = .ok (.lload 4, 2) := by decide +kernel
theorem dX1_ofTwo_105 : decode cX1_ofTwo 105 = .ok (.lmul, 1) := by decide +kernel
theorem dX1_ofTwo_106 : decode cX1_ofTwo 106 = .ok (.invokestatic 15, 3) := by decide +kernel
theorem dX1_ofTwo_109 : decode cX1_ofTwo 109 = .ok (.lreturn, 1) := by decide +kernel
theorem dX1_ofTwo_110 : decode cX1_ofTwo 110 = .ok (.lload_n 2, 1) := by decide +kernel
theorem dX1_ofTwo_111 : decode cX1_ofTwo 111 = .ok (.lload 4, 2) := by decide +kernel
theorem dX1_ofTwo_113 : decode cX1_ofTwo 113 = .ok (.lcmp, 1) := by decide +kernel
theorem dX1_ofTwo_114 : decode cX1_ofTwo 114 = .ok (.ifCond .ne 7, 3) := by decide +kernel
theorem dX1_ofTwo_117 : decode cX1_ofTwo 117 = .ok (.iconst 1, 1) := by decide +kernel
theorem dX1_ofTwo_118 : decode cX1_ofTwo 118 = .ok (.goto 4, 3) := by decide +kernel
theorem dX1_ofTwo_121 : decode cX1_ofTwo 121 = .ok (.iconst 0, 1) := by decide +kernel
theorem dX1_ofTwo_122 : decode cX1_ofTwo 122 = .ok (.invokestatic 21, 3) := by decide +kernel
theorem dX1_ofTwo_125 : decode cX1_ofTwo 125 = .ok (.lreturn, 1) := by decide +kernel
theorem dX1_ofTwo_126 : decode cX1_ofTwo 126 = .ok (.lload_n 2, 1) := by decide +kernel
theorem dX1_ofTwo_127 : decode cX1_ofTwo 127 = .ok (.ldc2_w 27, 3) := by decide +kernel
theorem dX1_ofTwo_130 : decode cX1_ofTwo 130 = .ok (.lxor, 1) := by decide +kernel
theorem dX1_ofTwo_131 : decode cX1_ofTwo 131 = .ok (.lload 4, 2) := by decide +kernel
theorem dX1_ofTwo_133 : decode cX1_ofTwo 133 = .ok (.ldc2_w 27, 3) := by decide +kernel
theorem dX1_ofTwo_136 : decode cX1_ofTwo 136 = .ok (.lxor, 1) := by decide +kernel
theorem dX1_ofTwo_137 : decode cX1_ofTwo 137 = .ok (.lcmp, 1) := by decide +kernel
theorem dX1_ofTwo_138 : decode cX1_ofTwo 138 = .ok (.ifCond .ge 7, 3) := by decide +kernel
theorem dX1_ofTwo_141 : decode cX1_ofTwo 141 = .ok (.iconst 1, 1) := by decide +kernel
theorem dX1_ofTwo_142 : decode cX1_ofTwo 142 = .ok (.goto 4, 3) := by decide +kernel
theorem dX1_ofTwo_145 : decode cX1_ofTwo 145 = .ok (.iconst 0, 1) := by decide +kernel
theorem dX1_ofTwo_146 : decode cX1_ofTwo 146 = .ok (.invokestatic 21, 3) := by decide +kernel
theorem dX1_ofTwo_149 : decode cX1_ofTwo 149 = .ok (.lreturn, 1) := by decide +kernel
theorem dX1_ofTwo_150 : decode cX1_ofTwo 150 = .ok (.lload_n 2, 1) := by decide +kernel
theorem dX1_ofTwo_151 : decode cX1_ofTwo 151 = .ok (.lload 4, 2) := by decide +kernel
theorem dX1_ofTwo_153 : decode cX1_ofTwo 153 = .ok (.lcmp, 1) := by decide +kernel
theorem dX1_ofTwo_154 : decode cX1_ofTwo 154 = .ok (.ifCond .ge 7, 3) := by decide +kernel
theorem dX1_ofTwo_157 : decode cX1_ofTwo 157 = .ok (.iconst 1, 1) := by decide +kernel
theorem dX1_ofTwo_158 : decode cX1_ofTwo 158 = .ok (.goto 4, 3) := by decide +kernel
theorem dX1_ofTwo_161 : decode cX1_ofTwo 161 = .ok (.iconst 0, 1) := by decide +kernel
theorem dX1_ofTwo_162 : decode cX1_ofTwo 162 = .ok (.invokestatic 21, 3) := by decide +kernel
theorem dX1_ofTwo_165 : decode cX1_ofTwo 165 = .ok (.lreturn, 1) := by decide +kernel
def fx_Op_ofTwo (o : Int32) (w : Int32) (x : Int64) (y : Int64) : Int64 := 
  if o = (2 : Int32) then x &&& y
  else 
    if o = (3 : Int32) then x ||| y
    else 
      if o = (4 : Int32) then x ^^^ y
      else 
        if o = (5 : Int32) then fx_Width_readSigned w (x + y)
        else 
          if o = (6 : Int32) then fx_Width_readSigned w (x - y)
          else 
            if o = (7 : Int32) then fx_Width_readSigned w (x * y)
            else 
              if o = (13 : Int32) then 
                if lg_cmp x y = (0 : Int32) then fx_Op_bit (1 : Int32)
                else fx_Op_bit (0 : Int32)
              else 
                if o = (14 : Int32) then 
                  if (0 : Int32) ≤ lg_cmp (x ^^^ (-9223372036854775808 : Int64)) (y ^^^ (-9223372036854775808 : Int64)) then fx_Op_bit (0 : Int32)
                  else fx_Op_bit (1 : Int32)
                else 
                  if (0 : Int32) ≤ lg_cmp x y then fx_Op_bit (0 : Int32)
                  else fx_Op_bit (1 : Int32)
set_option maxHeartbeats 4000000 in
set_option maxRecDepth 100000 in
theorem kx_Op_ofTwo (l : Launch) (o : Int32) (w : Int32) (x : Int64) (y : Int64) : Met l yX1_ofTwo wsX1_ofTwo ({ frames := 1, cells := 0, slots := 0, locals := 23 }) (fun v _ => v = ([.int o, .int w, .long x, .long y] : List Value).toArray) (vp_Sl (fun r => r = fx_Op_ofTwo o w x y)) 0 0 (fun _ => False) := by
  refine Met.ofW (cc := cX1_ofTwo) (maxL := 6) (ret := (some .long)) (by decide) rfl ?_
  intro p e s m args below meth c s₁ B hml hv
  subst hv
  have hx := B.exec
  have hb := B.bytes
  have hr := B.returns
  have hta := aw_hts (atoms_spec (ws := wsX1_ofTwo) B.pre)
  have hown : s.vm.findClass RX1 = some m.cls := findClass_of_methodNamed B.named
  have hlocks := B.notSynchronized
  have hc27 := hta _ mw_394
  have hl := lv_entry ([.int o, .int w, .long x, .long y]) (n := 6) (Nat.le_of_ble_eq_true rfl)
  rw [lg_entry_eq]
  generalize (lg_sl ([.int o, .int w, .long x, .long y]) ++ List.replicate (6 - (lg_sl ([.int o, .int w, .long x, .long y])).length) Slot.unset).toArray = ls at hl ⊢
  have hl : lv_has ls 6 [(0, .int o), (1, .int w), (2, .long x), (4, .long y)] := hl
  generalize hR : fx_Op_ofTwo o w x y = R
  rw [fx_Op_ofTwo] at hR
  refine lv_iload_n hx hb dX1_ofTwo_0 rfl (lv_at hl 0 rfl) ?_
  by_cases c1_2 : o = (2 : Int32)
  · skip
    rw [if_pos c1_2] at hR
    refine lv_tableIn (tgt := 68) hx hb dX1_ofTwo_1 (by rw [c1_2]; decide) (by rw [c1_2]; decide) (by rw [c1_2]; rfl) (by decide) ?_
    refine lv_lload_n hx hb dX1_ofTwo_68 rfl (lv_at hl 2 rfl) ?_
    refine lv_lload hx hb dX1_ofTwo_69 (lv_at hl 3 rfl) ?_
    refine lv_land hx hb dX1_ofTwo_71 ?_
    exact W.lret (v := x &&& y) hx hb hr (fun t ht hW => ⟨_, rfl, hR, ht⟩) (fun q h => by cases h) dX1_ofTwo_72
  · skip
    rw [if_neg c1_2] at hR
    by_cases c1_3 : o = (3 : Int32)
    · skip
      rw [if_pos c1_3] at hR
      refine lv_tableIn (tgt := 73) hx hb dX1_ofTwo_1 (by rw [c1_3]; decide) (by rw [c1_3]; decide) (by rw [c1_3]; rfl) (by decide) ?_
      refine lv_lload_n hx hb dX1_ofTwo_73 rfl (lv_at hl 2 rfl) ?_
      refine lv_lload hx hb dX1_ofTwo_74 (lv_at hl 3 rfl) ?_
      refine lv_lor hx hb dX1_ofTwo_76 ?_
      exact W.lret (v := x ||| y) hx hb hr (fun t ht hW => ⟨_, rfl, hR, ht⟩) (fun q h => by cases h) dX1_ofTwo_77
    · skip
      rw [if_neg c1_3] at hR
      by_cases c1_4 : o = (4 : Int32)
      · skip
        rw [if_pos c1_4] at hR
        refine lv_tableIn (tgt := 78) hx hb dX1_ofTwo_1 (by rw [c1_4]; decide) (by rw [c1_4]; decide) (by rw [c1_4]; rfl) (by decide) ?_
        refine lv_lload_n hx hb dX1_ofTwo_78 rfl (lv_at hl 2 rfl) ?_
        refine lv_lload hx hb dX1_ofTwo_79 (lv_at hl 3 rfl) ?_
        refine lv_lxor hx hb dX1_ofTwo_81 ?_
        exact W.lret (v := x ^^^ y) hx hb hr (fun t ht hW => ⟨_, rfl, hR, ht⟩) (fun q h => by cases h) dX1_ofTwo_82
      · skip
        rw [if_neg c1_4] at hR
        by_cases c1_5 : o = (5 : Int32)
        · skip
          rw [if_pos c1_5] at hR
          refine lv_tableIn (tgt := 83) hx hb dX1_ofTwo_1 (by rw [c1_5]; decide) (by rw [c1_5]; decide) (by rw [c1_5]; rfl) (by decide) ?_
          refine lv_iload_n hx hb dX1_ofTwo_83 rfl (lv_at hl 1 rfl) ?_
          refine lv_lload_n hx hb dX1_ofTwo_84 rfl (lv_at hl 2 rfl) ?_
          refine lv_lload hx hb dX1_ofTwo_85 (lv_at hl 3 rfl) ?_
          refine lv_ladd hx hb dX1_ofTwo_87 ?_
          refine wl_cl (va_runS (As := [.int w, .long (x + y)]) (rest := []) ⟨hx, hb, hml, hown, hta⟩ (kx_Width_readSigned l w (x + y)) (va_cwS 2 hta gX1_15 rfl rfl rfl (by decide +kernel) ⟨Nat.le_of_ble_eq_true rfl, Nat.le_of_ble_eq_true rfl⟩) preEq rfl rfl hl.1 rfl (lv_room (Nat.le_of_ble_eq_true rfl)) dX1_ofTwo_88 ⟨Nat.zero_le _, Nat.zero_le _⟩) ?_
          exact W.lret (v := fx_Width_readSigned w (x + y)) hx hb hr (fun t ht hW => ⟨_, rfl, hR, ht⟩) (fun q h => by cases h) dX1_ofTwo_91
        · skip
          rw [if_neg c1_5] at hR
          by_cases c1_6 : o = (6 : Int32)
          · skip
            rw [if_pos c1_6] at hR
            refine lv_tableIn (tgt := 92) hx hb dX1_ofTwo_1 (by rw [c1_6]; decide) (by rw [c1_6]; decide) (by rw [c1_6]; rfl) (by decide) ?_
            refine lv_iload_n hx hb dX1_ofTwo_92 rfl (lv_at hl 1 rfl) ?_
            refine lv_lload_n hx hb dX1_ofTwo_93 rfl (lv_at hl 2 rfl) ?_
            refine lv_lload hx hb dX1_ofTwo_94 (lv_at hl 3 rfl) ?_
            refine lv_lsub hx hb dX1_ofTwo_96 ?_
            refine wl_cl (va_runS (As := [.int w, .long (x - y)]) (rest := []) ⟨hx, hb, hml, hown, hta⟩ (kx_Width_readSigned l w (x - y)) (va_cwS 2 hta gX1_15 rfl rfl rfl (by decide +kernel) ⟨Nat.le_of_ble_eq_true rfl, Nat.le_of_ble_eq_true rfl⟩) preEq rfl rfl hl.1 rfl (lv_room (Nat.le_of_ble_eq_true rfl)) dX1_ofTwo_97 ⟨Nat.zero_le _, Nat.zero_le _⟩) ?_
            exact W.lret (v := fx_Width_readSigned w (x - y)) hx hb hr (fun t ht hW => ⟨_, rfl, hR, ht⟩) (fun q h => by cases h) dX1_ofTwo_100
          · skip
            rw [if_neg c1_6] at hR
            by_cases c1_7 : o = (7 : Int32)
            · skip
              rw [if_pos c1_7] at hR
              refine lv_tableIn (tgt := 101) hx hb dX1_ofTwo_1 (by rw [c1_7]; decide) (by rw [c1_7]; decide) (by rw [c1_7]; rfl) (by decide) ?_
              refine lv_iload_n hx hb dX1_ofTwo_101 rfl (lv_at hl 1 rfl) ?_
              refine lv_lload_n hx hb dX1_ofTwo_102 rfl (lv_at hl 2 rfl) ?_
              refine lv_lload hx hb dX1_ofTwo_103 (lv_at hl 3 rfl) ?_
              refine lv_lmul hx hb dX1_ofTwo_105 ?_
              refine wl_cl (va_runS (As := [.int w, .long (x * y)]) (rest := []) ⟨hx, hb, hml, hown, hta⟩ (kx_Width_readSigned l w (x * y)) (va_cwS 2 hta gX1_15 rfl rfl rfl (by decide +kernel) ⟨Nat.le_of_ble_eq_true rfl, Nat.le_of_ble_eq_true rfl⟩) preEq rfl rfl hl.1 rfl (lv_room (Nat.le_of_ble_eq_true rfl)) dX1_ofTwo_106 ⟨Nat.zero_le _, Nat.zero_le _⟩) ?_
              exact W.lret (v := fx_Width_readSigned w (x * y)) hx hb hr (fun t ht hW => ⟨_, rfl, hR, ht⟩) (fun q h => by cases h) dX1_ofTwo_109
            · skip
              rw [if_neg c1_7] at hR
              by_cases c1_13 : o = (13 : Int32)
              · skip
                rw [if_pos c1_13] at hR
                refine lv_tableIn (tgt := 110) hx hb dX1_ofTwo_1 (by rw [c1_13]; decide) (by rw [c1_13]; decide) (by rw [c1_13]; rfl) (by decide) ?_
                refine lv_lload_n hx hb dX1_ofTwo_110 rfl (lv_at hl 2 rfl) ?_
                refine lv_lload hx hb dX1_ofTwo_111 (lv_at hl 3 rfl) ?_
                refine W.lcmp hx hb dX1_ofTwo_113 ?_
                refine lv_if_ne (tgt := 121) hx hb dX1_ofTwo_114 (by decide) (fun c114 => ?_) (fun c114 => ?_)
                · skip
                  rw [if_neg c114] at hR
                  refine lv_iconst (v := (0 : Int32)) hx hb dX1_ofTwo_121 (by decide) ?_
                  refine wl_cl (va_runS (As := [.int (0 : Int32)]) (rest := []) ⟨hx, hb, hml, hown, hta⟩ (kx_Op_bit l (0 : Int32)) (va_cwS 1 hta gX1_21 rfl rfl rfl (by decide +kernel) ⟨Nat.le_of_ble_eq_true rfl, Nat.le_of_ble_eq_true rfl⟩) preEq rfl rfl hl.1 rfl (lv_room (Nat.le_of_ble_eq_true rfl)) dX1_ofTwo_122 ⟨Nat.zero_le _, Nat.zero_le _⟩) ?_
                  exact W.lret (v := fx_Op_bit (0 : Int32)) hx hb hr (fun t ht hW => ⟨_, rfl, hR, ht⟩) (fun q h => by cases h) dX1_ofTwo_125
                · skip
                  rw [if_pos c114] at hR
                  refine lv_iconst (v := (1 : Int32)) hx hb dX1_ofTwo_117 (by decide) ?_
                  refine lv_goto (tgt := 122) hx hb dX1_ofTwo_118 (by decide) ?_
                  refine wl_cl (va_runS (As := [.int (1 : Int32)]) (rest := []) ⟨hx, hb, hml, hown, hta⟩ (kx_Op_bit l (1 : Int32)) (va_cwS 1 hta gX1_21 rfl rfl rfl (by decide +kernel) ⟨Nat.le_of_ble_eq_true rfl, Nat.le_of_ble_eq_true rfl⟩) preEq rfl rfl hl.1 rfl (lv_room (Nat.le_of_ble_eq_true rfl)) dX1_ofTwo_122 ⟨Nat.zero_le _, Nat.zero_le _⟩) ?_
                  exact W.lret (v := fx_Op_bit (1 : Int32)) hx hb hr (fun t ht hW => ⟨_, rfl, hR, ht⟩) (fun q h => by cases h) dX1_ofTwo_125
              · skip
                rw [if_neg c1_13] at hR
                by_cases c1_14 : o = (14 : Int32)
                · skip
                  rw [if_pos c1_14] at hR
                  refine lv_tableIn (tgt := 126) hx hb dX1_ofTwo_1 (by rw [c1_14]; decide) (by rw [c1_14]; decide) (by rw [c1_14]; rfl) (by decide) ?_
                  refine lv_lload_n hx hb dX1_ofTwo_126 rfl (lv_at hl 2 rfl) ?_
                  refine lv_ldc2 (v := (-9223372036854775808 : Int64)) hx hb hown hc27 dX1_ofTwo_127 ?_
                  refine lv_lxor hx hb dX1_ofTwo_130 ?_
                  refine lv_lload hx hb dX1_ofTwo_131 (lv_at hl 3 rfl) ?_
                  refine lv_ldc2 (v := (-9223372036854775808 : Int64)) hx hb hown hc27 dX1_ofTwo_133 ?_
                  refine lv_lxor hx hb dX1_ofTwo_136 ?_
                  refine W.lcmp hx hb dX1_ofTwo_137 ?_
                  refine lv_if_ge (tgt := 145) hx hb dX1_ofTwo_138 (by decide) (fun c138 => ?_) (fun c138 => ?_)
                  · skip
                    rw [if_pos c138] at hR
                    refine lv_iconst (v := (0 : Int32)) hx hb dX1_ofTwo_145 (by decide) ?_
                    refine wl_cl (va_runS (As := [.int (0 : Int32)]) (rest := []) ⟨hx, hb, hml, hown, hta⟩ (kx_Op_bit l (0 : Int32)) (va_cwS 1 hta gX1_21 rfl rfl rfl (by decide +kernel) ⟨Nat.le_of_ble_eq_true rfl, Nat.le_of_ble_eq_true rfl⟩) preEq rfl rfl hl.1 rfl (lv_room (Nat.le_of_ble_eq_true rfl)) dX1_ofTwo_146 ⟨Nat.zero_le _, Nat.zero_le _⟩) ?_
                    exact W.lret (v := fx_Op_bit (0 : Int32)) hx hb hr (fun t ht hW => ⟨_, rfl, hR, ht⟩) (fun q h => by cases h) dX1_ofTwo_149
                  · skip
                    rw [if_neg c138] at hR
                    refine lv_iconst (v := (1 : Int32)) hx hb dX1_ofTwo_141 (by decide) ?_
                    refine lv_goto (tgt := 146) hx hb dX1_ofTwo_142 (by decide) ?_
                    refine wl_cl (va_runS (As := [.int (1 : Int32)]) (rest := []) ⟨hx, hb, hml, hown, hta⟩ (kx_Op_bit l (1 : Int32)) (va_cwS 1 hta gX1_21 rfl rfl rfl (by decide +kernel) ⟨Nat.le_of_ble_eq_true rfl, Nat.le_of_ble_eq_true rfl⟩) preEq rfl rfl hl.1 rfl (lv_room (Nat.le_of_ble_eq_true rfl)) dX1_ofTwo_146 ⟨Nat.zero_le _, Nat.zero_le _⟩) ?_
                    exact W.lret (v := fx_Op_bit (1 : Int32)) hx hb hr (fun t ht hW => ⟨_, rfl, hR, ht⟩) (fun q h => by cases h) dX1_ofTwo_149
                · skip
                  rw [if_neg c1_14] at hR
                  have t1_2 := lv_neT (a := 2) c1_2 (by decide)
                  have t1_3 := lv_neT (a := 3) c1_3 (by decide)
                  have t1_4 := lv_neT (a := 4) c1_4 (by decide)
                  have t1_5 := lv_neT (a := 5) c1_5 (by decide)
                  have t1_6 := lv_neT (a := 6) c1_6 (by decide)
                  have t1_7 := lv_neT (a := 7) c1_7 (by decide)
                  have t1_13 := lv_neT (a := 13) c1_13 (by decide)
                  have t1_14 := lv_neT (a := 14) c1_14 (by decide)
                  refine wl_tabD (tgt := 150) (ks := [2, 3, 4, 5, 6, 7, 13, 14]) hx hb dX1_ofTwo_1 (by decide) (by decide +kernel) (by intro k hk; simp only [List.mem_cons, List.not_mem_nil, or_false] at hk; rcases hk with rfl | rfl | rfl | rfl | rfl | rfl | rfl | rfl; exacts [t1_2, t1_3, t1_4, t1_5, t1_6, t1_7, t1_13, t1_14]) (by decide) ?_
                  refine lv_lload_n hx hb dX1_ofTwo_150 rfl (lv_at hl 2 rfl) ?_
                  refine lv_lload hx hb dX1_ofTwo_151 (lv_at hl 3 rfl) ?_
                  refine W.lcmp hx hb dX1_ofTwo_153 ?_
                  refine lv_if_ge (tgt := 161) hx hb dX1_ofTwo_154 (by decide) (fun c154 => ?_) (fun c154 => ?_)
                  · skip
                    rw [if_pos c154] at hR
                    refine lv_iconst (v := (0 : Int32)) hx hb dX1_ofTwo_161 (by decide) ?_
                    refine wl_cl (va_runS (As := [.int (0 : Int32)]) (rest := []) ⟨hx, hb, hml, hown, hta⟩ (kx_Op_bit l (0 : Int32)) (va_cwS 1 hta gX1_21 rfl rfl rfl (by decide +kernel) ⟨Nat.le_of_ble_eq_true rfl, Nat.le_of_ble_eq_true rfl⟩) preEq rfl rfl hl.1 rfl (lv_room (Nat.le_of_ble_eq_true rfl)) dX1_ofTwo_162 ⟨Nat.zero_le _, Nat.zero_le _⟩) ?_
                    exact W.lret (v := fx_Op_bit (0 : Int32)) hx hb hr (fun t ht hW => ⟨_, rfl, hR, ht⟩) (fun q h => by cases h) dX1_ofTwo_165
                  · skip
                    rw [if_neg c154] at hR
                    refine lv_iconst (v := (1 : Int32)) hx hb dX1_ofTwo_157 (by decide) ?_
                    refine lv_goto (tgt := 162) hx hb dX1_ofTwo_158 (by decide) ?_
                    refine wl_cl (va_runS (As := [.int (1 : Int32)]) (rest := []) ⟨hx, hb, hml, hown, hta⟩ (kx_Op_bit l (1 : Int32)) (va_cwS 1 hta gX1_21 rfl rfl rfl (by decide +kernel) ⟨Nat.le_of_ble_eq_true rfl, Nat.le_of_ble_eq_true rfl⟩) preEq rfl rfl hl.1 rfl (lv_room (Nat.le_of_ble_eq_true rfl)) dX1_ofTwo_162 ⟨Nat.zero_le _, Nat.zero_le _⟩) ?_
                    exact W.lret (v := fx_Op_bit (1 : Int32)) hx hb hr (fun t ht hW => ⟨_, rfl, hR, ht⟩) (fun q h => by cases h) dX1_ofTwo_165

theorem mw_376 : (.code yX0_readPlain cX0_readPlain 4 (some .long) : Cond) ∈ AW := List.mem_filter.mpr ⟨List.mem_of_getElem? (i := 376) (by decide +kernel), rfl⟩
theorem mw_374 : (.methodLink RX1 29 yX0_readPlain : Cond) ∈ AW := List.mem_filter.mpr ⟨List.mem_of_getElem? (i := 374) (by decide +kernel), rfl⟩
theorem mw_375 : (.static yX0_readPlain : Cond) ∈ AW := List.mem_filter.mpr ⟨List.mem_of_getElem? (i := 375) (by decide +kernel), rfl⟩
theorem gX1_29 : GoodIn AW (va_wsS RX1 29 yX0_readPlain wsX0_readPlain) := aw_S mw_374 mw_375 mw_47 mw_376
theorem dX1_resized_0 : decode cX1_resized 0 = .ok (.iload_n 0, 1) := by decide +kernel
theorem dX1_resized_1 : decode cX1_resized 1 = .ok (.lookupswitch 39 #[(17, 27), (19, 33)], 27) := by decide +kernel
theorem dX1_resized_28 : decode cX1_resized 28 = .ok (.iload_n 1, 1) := by decide +kernel
theorem dX1_resized_29 : decode cX1_resized 29 = .ok (.lload_n 3, 1) := by decide +kernel
theorem dX1_resized_30 : decode cX1_resized 30 = .ok (.invokestatic 29, 3) := by decide +kernel
theorem dX1_resized_33 : decode cX1_resized 33 = .ok (.lreturn, 1) := by decide +kernel
theorem dX1_resized_34 : decode cX1_resized 34 = .ok (.iload_n 2, 1) := by decide +kernel
theorem dX1_resized_35 : decode cX1_resized 35 = .ok (.lload_n 3, 1) := by decide +kernel
theorem dX1_resized_36 : decode cX1_resized 36 = .ok (.invokestatic 15, 3) := by decide +kernel
theorem dX1_resized_39 : decode cX1_resized 39 = .ok (.lreturn, 1) := by decide +kernel
theorem dX1_resized_40 : decode cX1_resized 40 = .ok (.lload_n 3, 1) := by decide +kernel
theorem dX1_resized_41 : decode cX1_resized 41 = .ok (.lreturn, 1) := by decide +kernel
def fx_Op_resized (o : Int32) (w : Int32) (nw : Int32) (x : Int64) : Int64 := 
  if o = (17 : Int32) then fx_Width_readPlain w x
  else 
    if o = (19 : Int32) then fx_Width_readSigned nw x
    else x
set_option maxHeartbeats 4000000 in
set_option maxRecDepth 100000 in
theorem kx_Op_resized (l : Launch) (o : Int32) (w : Int32) (nw : Int32) (x : Int64) : Met l yX1_resized wsX1_resized ({ frames := 1, cells := 0, slots := 0, locals := 23 }) (fun v _ => v = ([.int o, .int w, .int nw, .long x] : List Value).toArray) (vp_Sl (fun r => r = fx_Op_resized o w nw x)) 0 0 (fun _ => False) := by
  refine Met.ofW (cc := cX1_resized) (maxL := 5) (ret := (some .long)) (by decide) rfl ?_
  intro p e s m args below meth c s₁ B hml hv
  subst hv
  have hx := B.exec
  have hb := B.bytes
  have hr := B.returns
  have hta := aw_hts (atoms_spec (ws := wsX1_resized) B.pre)
  have hown : s.vm.findClass RX1 = some m.cls := findClass_of_methodNamed B.named
  have hlocks := B.notSynchronized
  have hl := lv_entry ([.int o, .int w, .int nw, .long x]) (n := 5) (Nat.le_of_ble_eq_true rfl)
  rw [lg_entry_eq]
  generalize (lg_sl ([.int o, .int w, .int nw, .long x]) ++ List.replicate (5 - (lg_sl ([.int o, .int w, .int nw, .long x])).length) Slot.unset).toArray = ls at hl ⊢
  have hl : lv_has ls 5 [(0, .int o), (1, .int w), (2, .int nw), (3, .long x)] := hl
  generalize hR : fx_Op_resized o w nw x = R
  rw [fx_Op_resized] at hR
  refine lv_iload_n hx hb dX1_resized_0 rfl (lv_at hl 0 rfl) ?_
  by_cases c1_17 : o = (17 : Int32)
  · skip
    rw [if_pos c1_17] at hR
    refine lv_lookup (tgt := 28) hx hb dX1_resized_1 (by decide) (by rw [c1_17]; rfl) (by decide) ?_
    refine lv_iload_n hx hb dX1_resized_28 rfl (lv_at hl 1 rfl) ?_
    refine lv_lload_n hx hb dX1_resized_29 rfl (lv_at hl 3 rfl) ?_
    refine wl_cl (va_runS (As := [.int w, .long x]) (rest := []) ⟨hx, hb, hml, hown, hta⟩ (kx_Width_readPlain l w x) (va_cwS 2 hta gX1_29 rfl rfl rfl (by decide +kernel) ⟨Nat.le_of_ble_eq_true rfl, Nat.le_of_ble_eq_true rfl⟩) preEq rfl rfl hl.1 rfl (lv_room (Nat.le_of_ble_eq_true rfl)) dX1_resized_30 ⟨Nat.zero_le _, Nat.zero_le _⟩) ?_
    exact W.lret (v := fx_Width_readPlain w x) hx hb hr (fun t ht hW => ⟨_, rfl, hR, ht⟩) (fun q h => by cases h) dX1_resized_33
  · skip
    rw [if_neg c1_17] at hR
    by_cases c1_19 : o = (19 : Int32)
    · skip
      rw [if_pos c1_19] at hR
      refine lv_lookup (tgt := 34) hx hb dX1_resized_1 (by decide) (by rw [c1_19]; rfl) (by decide) ?_
      refine lv_iload_n hx hb dX1_resized_34 rfl (lv_at hl 2 rfl) ?_
      refine lv_lload_n hx hb dX1_resized_35 rfl (lv_at hl 3 rfl) ?_
      refine wl_cl (va_runS (As := [.int nw, .long x]) (rest := []) ⟨hx, hb, hml, hown, hta⟩ (kx_Width_readSigned l nw x) (va_cwS 2 hta gX1_15 rfl rfl rfl (by decide +kernel) ⟨Nat.le_of_ble_eq_true rfl, Nat.le_of_ble_eq_true rfl⟩) preEq rfl rfl hl.1 rfl (lv_room (Nat.le_of_ble_eq_true rfl)) dX1_resized_36 ⟨Nat.zero_le _, Nat.zero_le _⟩) ?_
      exact W.lret (v := fx_Width_readSigned nw x) hx hb hr (fun t ht hW => ⟨_, rfl, hR, ht⟩) (fun q h => by cases h) dX1_resized_39
    · skip
      rw [if_neg c1_19] at hR
      refine lv_lookup (tgt := 40) hx hb dX1_resized_1 (by decide) (by rw [lv_osw c1_17 (by decide), lv_osw c1_19 (by decide)]; rfl) (by decide) ?_
      refine lv_lload_n hx hb dX1_resized_40 rfl (lv_at hl 3 rfl) ?_
      exact W.lret (v := x) hx hb hr (fun t ht hW => ⟨_, rfl, hR, ht⟩) (fun q h => by cases h) dX1_resized_41

theorem dX1_divided_0 : decode cX1_divided 0 = .ok (.lload 4, 2) := by decide +kernel
theorem dX1_divided_2 : decode cX1_divided 2 = .ok (.lconst 0, 1) := by decide +kernel
theorem dX1_divided_3 : decode cX1_divided 3 = .ok (.lcmp, 1) := by decide +kernel
theorem dX1_divided_4 : decode cX1_divided 4 = .ok (.ifCond .ne 17, 3) := by decide +kernel
theorem dX1_divided_7 : decode cX1_divided 7 = .ok (.iload_n 0, 1) := by decide +kernel
theorem dX1_divided_8 : decode cX1_divided 8 = .ok (.bipush 8, 2) := by decide +kernel
theorem dX1_divided_10 : decode cX1_divided 10 = .ok (.if_icmp .ne 9, 3) := by decide +kernel
theorem dX1_divided_13 : decode cX1_divided 13 = .ok (.ldc2_w 13, 3) := by decide +kernel
theorem dX1_divided_16 : decode cX1_divided 16 = .ok (.goto 4, 3) := by decide +kernel
theorem dX1_divided_19 : decode cX1_divided 19 = .ok (.lload_n 2, 1) := by decide +kernel
theorem dX1_divided_20 : decode cX1_divided 20 = .ok (.lreturn, 1) := by decide +kernel
theorem dX1_divided_21 : decode cX1_divided 21 = .ok (.iload_n 1, 1) := by decide +kernel
theorem dX1_divided_22 : decode cX1_divided 22 = .ok (.lload_n 2, 1) := by decide +kernel
theorem dX1_divided_23 : decode cX1_divided 23 = .ok (.invokestatic 29, 3) := by decide +kernel
theorem dX1_divided_26 : decode cX1_divided 26 = .ok (.lstore 6, 2) := by decide +kernel
theorem dX1_divided_28 : decode cX1_divided 28 = .ok (.iload_n 1, 1) := by decide +kernel
theorem dX1_divided_29 : decode cX1_divided 29 = .ok (.lload 4, 2) := by decide +kernel
theorem dX1_divided_31 : decode cX1_divided 31 = .ok (.invokestatic 29, 3) := by decide +kernel
theorem dX1_divided_34 : decode cX1_divided 34 = .ok (.lstore 8, 2) := by decide +kernel
theorem dX1_divided_36 : decode cX1_divided 36 = .ok (.iload_n 0, 1) := by decide +kernel
theorem dX1_divided_37 : decode cX1_divided 37 = .ok (.bipush 8, 2) := by decide +kernel
theorem dX1_divided_39 : decode cX1_divided 39 = .ok (.if_icmp .ne 11, 3) := by decide +kernel
theorem dX1_divided_42 : decode cX1_divided 42 = .ok (.lload 6, 2) := by decide +kernel
theorem dX1_divided_44 : decode cX1_divided 44 = .ok (.lload 8, 2) := by decide +kernel
theorem dX1_divided_46 : decode cX1_divided 46 = .ok (.ldiv, 1) := by decide +kernel
theorem dX1_divided_47 : decode cX1_divided 47 = .ok (.goto 8, 3) := by decide +kernel
theorem dX1_divided_50 : decode cX1_divided 50 = .ok (.lload 6, 2) := by decide +kernel
theorem dX1_divided_52 : decode cX1_divided 52 = .ok (.lload 8, 2) := by decide +kernel
theorem dX1_divided_54 : decode cX1_divided 54 = .ok (.lrem, 1) := by decide +kernel
theorem dX1_divided_55 : decode cX1_divided 55 = .ok (.lstore 10, 2) := by decide +kernel
theorem dX1_divided_57 : decode cX1_divided 57 = .ok (.iload_n 1, 1) := by decide +kernel
theorem dX1_divided_58 : decode cX1_divided 58 = .ok (.lload 10, 2) := by decide +kernel
theorem dX1_divided_60 : decode cX1_divided 60 = .ok (.invokestatic 15, 3) := by decide +kernel
theorem dX1_divided_63 : decode cX1_divided 63 = .ok (.lreturn, 1) := by decide +kernel
def fx_Op_divided (o : Int32) (w : Int32) (x : Int64) (y : Int64) : Int64 := 
  if lg_cmp y (0 : Int64) = (0 : Int32) then 
    if o = (8 : Int32) then (-1 : Int64)
    else x
  else 
    if o = (8 : Int32) then fx_Width_readSigned w ((fx_Width_readPlain w x) / (fx_Width_readPlain w y))
    else fx_Width_readSigned w ((fx_Width_readPlain w x) - (fx_Width_readPlain w x) / (fx_Width_readPlain w y) * (fx_Width_readPlain w y))
set_option maxHeartbeats 4000000 in
set_option maxRecDepth 100000 in
theorem kx_Op_divided (l : Launch) (o : Int32) (w : Int32) (x : Int64) (y : Int64) (hnz : ¬ y = 0 → ¬ fx_Width_readPlain w y = 0) : Met l yX1_divided wsX1_divided ({ frames := 1, cells := 0, slots := 0, locals := 23 }) (fun v _ => v = ([.int o, .int w, .long x, .long y] : List Value).toArray) (vp_Sl (fun r => r = fx_Op_divided o w x y)) 0 0 (fun _ => False) := by
  refine Met.ofW (cc := cX1_divided) (maxL := 12) (ret := (some .long)) (by decide) rfl ?_
  intro p e s m args below meth c s₁ B hml hv
  subst hv
  have hx := B.exec
  have hb := B.bytes
  have hr := B.returns
  have hta := aw_hts (atoms_spec (ws := wsX1_divided) B.pre)
  have hown : s.vm.findClass RX1 = some m.cls := findClass_of_methodNamed B.named
  have hlocks := B.notSynchronized
  have hc13 := hta _ mw_369
  have hl := lv_entry ([.int o, .int w, .long x, .long y]) (n := 12) (Nat.le_of_ble_eq_true rfl)
  rw [lg_entry_eq]
  generalize (lg_sl ([.int o, .int w, .long x, .long y]) ++ List.replicate (12 - (lg_sl ([.int o, .int w, .long x, .long y])).length) Slot.unset).toArray = ls at hl ⊢
  have hl : lv_has ls 12 [(0, .int o), (1, .int w), (2, .long x), (4, .long y)] := hl
  generalize hR : fx_Op_divided o w x y = R
  rw [fx_Op_divided] at hR
  refine lv_lload hx hb dX1_divided_0 (lv_at hl 3 rfl) ?_
  refine lv_lconst (v := (0 : Int64)) hx hb dX1_divided_2 (by decide) ?_
  refine W.lcmp hx hb dX1_divided_3 ?_
  refine lv_if_ne (tgt := 21) hx hb dX1_divided_4 (by decide) (fun c4 => ?_) (fun c4 => ?_)
  · skip
    rw [if_neg c4] at hR
    refine lv_iload_n hx hb dX1_divided_21 rfl (lv_at hl 1 rfl) ?_
    refine lv_lload_n hx hb dX1_divided_22 rfl (lv_at hl 2 rfl) ?_
    refine wl_cl (va_runS (As := [.int w, .long x]) (rest := []) ⟨hx, hb, hml, hown, hta⟩ (kx_Width_readPlain l w x) (va_cwS 2 hta gX1_29 rfl rfl rfl (by decide +kernel) ⟨Nat.le_of_ble_eq_true rfl, Nat.le_of_ble_eq_true rfl⟩) preEq rfl rfl hl.1 rfl (lv_room (Nat.le_of_ble_eq_true rfl)) dX1_divided_23 ⟨Nat.zero_le _, Nat.zero_le _⟩) ?_
    refine lv_lstore (lv' := [(6, .long (fx_Width_readPlain w x)), (0, .int o), (1, .int w), (2, .long x), (4, .long y)]) hx hb dX1_divided_26 hl (by decide) rfl (fun ls hl => ?_)
    refine lv_iload_n hx hb dX1_divided_28 rfl (lv_at hl 2 rfl) ?_
    refine lv_lload hx hb dX1_divided_29 (lv_at hl 4 rfl) ?_
    refine wl_cl (va_runS (As := [.int w, .long y]) (rest := []) ⟨hx, hb, hml, hown, hta⟩ (kx_Width_readPlain l w y) (va_cwS 2 hta gX1_29 rfl rfl rfl (by decide +kernel) ⟨Nat.le_of_ble_eq_true rfl, Nat.le_of_ble_eq_true rfl⟩) preEq rfl rfl hl.1 rfl (lv_room (Nat.le_of_ble_eq_true rfl)) dX1_divided_31 ⟨Nat.zero_le _, Nat.zero_le _⟩) ?_
    refine lv_lstore (lv' := [(8, .long (fx_Width_readPlain w y)), (6, .long (fx_Width_readPlain w x)), (0, .int o), (1, .int w), (2, .long x), (4, .long y)]) hx hb dX1_divided_34 hl (by decide) rfl (fun ls hl => ?_)
    refine lv_iload_n hx hb dX1_divided_36 rfl (lv_at hl 2 rfl) ?_
    refine lv_bipush (v := (8 : Int32)) hx hb dX1_divided_37 (by decide) ?_
    refine lv_icmp_ne (tgt := 50) hx hb dX1_divided_39 (by decide) (fun c39 => ?_) (fun c39 => ?_)
    · skip
      rw [if_neg c39] at hR
      refine lv_lload hx hb dX1_divided_50 (lv_at hl 1 rfl) ?_
      refine lv_lload hx hb dX1_divided_52 (lv_at hl 0 rfl) ?_
      refine lv_lrem hx hb dX1_divided_54 (hnz (fun h => c4 ((lg_cmp_eq _ _).mpr h))) ?_
      refine lv_lstore (lv' := [(10, .long ((fx_Width_readPlain w x) - (fx_Width_readPlain w x) / (fx_Width_readPlain w y) * (fx_Width_readPlain w y))), (8, .long (fx_Width_readPlain w y)), (6, .long (fx_Width_readPlain w x)), (0, .int o), (1, .int w), (2, .long x), (4, .long y)]) hx hb dX1_divided_55 hl (by decide) rfl (fun ls hl => ?_)
      refine lv_iload_n hx hb dX1_divided_57 rfl (lv_at hl 4 rfl) ?_
      refine lv_lload hx hb dX1_divided_58 (lv_at hl 0 rfl) ?_
      refine wl_cl (va_runS (As := [.int w, .long ((fx_Width_readPlain w x) - (fx_Width_readPlain w x) / (fx_Width_readPlain w y) * (fx_Width_readPlain w y))]) (rest := []) ⟨hx, hb, hml, hown, hta⟩ (kx_Width_readSigned l w ((fx_Width_readPlain w x) - (fx_Width_readPlain w x) / (fx_Width_readPlain w y) * (fx_Width_readPlain w y))) (va_cwS 2 hta gX1_15 rfl rfl rfl (by decide +kernel) ⟨Nat.le_of_ble_eq_true rfl, Nat.le_of_ble_eq_true rfl⟩) preEq rfl rfl hl.1 rfl (lv_room (Nat.le_of_ble_eq_true rfl)) dX1_divided_60 ⟨Nat.zero_le _, Nat.zero_le _⟩) ?_
      exact W.lret (v := fx_Width_readSigned w ((fx_Width_readPlain w x) - (fx_Width_readPlain w x) / (fx_Width_readPlain w y) * (fx_Width_readPlain w y))) hx hb hr (fun t ht hW => ⟨_, rfl, hR, ht⟩) (fun q h => by cases h) dX1_divided_63
    · skip
      rw [if_pos c39] at hR
      refine lv_lload hx hb dX1_divided_42 (lv_at hl 1 rfl) ?_
      refine lv_lload hx hb dX1_divided_44 (lv_at hl 0 rfl) ?_
      refine lv_ldiv hx hb dX1_divided_46 (hnz (fun h => c4 ((lg_cmp_eq _ _).mpr h))) ?_
      refine lv_goto (tgt := 55) hx hb dX1_divided_47 (by decide) ?_
      refine lv_lstore (lv' := [(10, .long ((fx_Width_readPlain w x) / (fx_Width_readPlain w y))), (8, .long (fx_Width_readPlain w y)), (6, .long (fx_Width_readPlain w x)), (0, .int o), (1, .int w), (2, .long x), (4, .long y)]) hx hb dX1_divided_55 hl (by decide) rfl (fun ls hl => ?_)
      refine lv_iload_n hx hb dX1_divided_57 rfl (lv_at hl 4 rfl) ?_
      refine lv_lload hx hb dX1_divided_58 (lv_at hl 0 rfl) ?_
      refine wl_cl (va_runS (As := [.int w, .long ((fx_Width_readPlain w x) / (fx_Width_readPlain w y))]) (rest := []) ⟨hx, hb, hml, hown, hta⟩ (kx_Width_readSigned l w ((fx_Width_readPlain w x) / (fx_Width_readPlain w y))) (va_cwS 2 hta gX1_15 rfl rfl rfl (by decide +kernel) ⟨Nat.le_of_ble_eq_true rfl, Nat.le_of_ble_eq_true rfl⟩) preEq rfl rfl hl.1 rfl (lv_room (Nat.le_of_ble_eq_true rfl)) dX1_divided_60 ⟨Nat.zero_le _, Nat.zero_le _⟩) ?_
      exact W.lret (v := fx_Width_readSigned w ((fx_Width_readPlain w x) / (fx_Width_readPlain w y))) hx hb hr (fun t ht hW => ⟨_, rfl, hR, ht⟩) (fun q h => by cases h) dX1_divided_63
  · skip
    rw [if_pos c4] at hR
    refine lv_iload_n hx hb dX1_divided_7 rfl (lv_at hl 0 rfl) ?_
    refine lv_bipush (v := (8 : Int32)) hx hb dX1_divided_8 (by decide) ?_
    refine lv_icmp_ne (tgt := 19) hx hb dX1_divided_10 (by decide) (fun c10 => ?_) (fun c10 => ?_)
    · skip
      rw [if_neg c10] at hR
      refine lv_lload_n hx hb dX1_divided_19 rfl (lv_at hl 2 rfl) ?_
      exact W.lret (v := x) hx hb hr (fun t ht hW => ⟨_, rfl, hR, ht⟩) (fun q h => by cases h) dX1_divided_20
    · skip
      rw [if_pos c10] at hR
      refine lv_ldc2 (v := (-1 : Int64)) hx hb hown hc13 dX1_divided_13 ?_
      refine lv_goto (tgt := 20) hx hb dX1_divided_16 (by decide) ?_
      exact W.lret (v := (-1 : Int64)) hx hb hr (fun t ht hW => ⟨_, rfl, hR, ht⟩) (fun q h => by cases h) dX1_divided_20

theorem dX1_moved_0 : decode cX1_moved 0 = .ok (.lload 4, 2) := by decide +kernel
theorem dX1_moved_2 : decode cX1_moved 2 = .ok (.lconst 0, 1) := by decide +kernel
theorem dX1_moved_3 : decode cX1_moved 3 = .ok (.lcmp, 1) := by decide +kernel
theorem dX1_moved_4 : decode cX1_moved 4 = .ok (.ifCond .lt 11, 3) := by decide +kernel
theorem dX1_moved_7 : decode cX1_moved 7 = .ok (.lload 4, 2) := by decide +kernel
theorem dX1_moved_9 : decode cX1_moved 9 = .ok (.iload_n 1, 1) := by decide +kernel
theorem dX1_moved_10 : decode cX1_moved 10 = .ok (.i2l, 1) := by decide +kernel
theorem dX1_moved_11 : decode cX1_moved 11 = .ok (.lcmp, 1) := by decide +kernel
theorem dX1_moved_12 : decode cX1_moved 12 = .ok (.ifCond .lt 23, 3) := by decide +kernel
theorem dX1_moved_15 : decode cX1_moved 15 = .ok (.iload_n 0, 1) := by decide +kernel
theorem dX1_moved_16 : decode cX1_moved 16 = .ok (.bipush 12, 2) := by decide +kernel
theorem dX1_moved_18 : decode cX1_moved 18 = .ok (.if_icmp .ne 15, 3) := by decide +kernel
theorem dX1_moved_21 : decode cX1_moved 21 = .ok (.lload_n 2, 1) := by decide +kernel
theorem dX1_moved_22 : decode cX1_moved 22 = .ok (.lconst 0, 1) := by decide +kernel
theorem dX1_moved_23 : decode cX1_moved 23 = .ok (.lcmp, 1) := by decide +kernel
theorem dX1_moved_24 : decode cX1_moved 24 = .ok (.ifCond .ge 9, 3) := by decide +kernel
theorem dX1_moved_27 : decode cX1_moved 27 = .ok (.ldc2_w 13, 3) := by decide +kernel
theorem dX1_moved_30 : decode cX1_moved 30 = .ok (.goto 4, 3) := by decide +kernel
theorem dX1_moved_33 : decode cX1_moved 33 = .ok (.lconst 0, 1) := by decide +kernel
theorem dX1_moved_34 : decode cX1_moved 34 = .ok (.lreturn, 1) := by decide +kernel
theorem dX1_moved_35 : decode cX1_moved 35 = .ok (.lload 4, 2) := by decide +kernel
theorem dX1_moved_37 : decode cX1_moved 37 = .ok (.l2i, 1) := by decide +kernel
theorem dX1_moved_38 : decode cX1_moved 38 = .ok (.istore 6, 2) := by decide +kernel
theorem dX1_moved_40 : decode cX1_moved 40 = .ok (.iload_n 0, 1) := by decide +kernel
theorem dX1_moved_41 : decode cX1_moved 41 = .ok (.lookupswitch 49 #[(10, 27), (11, 36)], 27) := by decide +kernel
theorem dX1_moved_68 : decode cX1_moved 68 = .ok (.iload_n 1, 1) := by decide +kernel
theorem dX1_moved_69 : decode cX1_moved 69 = .ok (.lload_n 2, 1) := by decide +kernel
theorem dX1_moved_70 : decode cX1_moved 70 = .ok (.iload 6, 2) := by decide +kernel
theorem dX1_moved_72 : decode cX1_moved 72 = .ok (.lshl, 1) := by decide +kernel
theorem dX1_moved_73 : decode cX1_moved 73 = .ok (.invokestatic 15, 3) := by decide +kernel
theorem dX1_moved_76 : decode cX1_moved 76 = .ok (.lreturn, 1) := by decide +kernel
theorem dX1_moved_77 : decode cX1_moved 77 = .ok (.iload_n 1, 1) := by decide +kernel
theorem dX1_moved_78 : decode cX1_moved 78 = .ok (.iload_n 1, 1) := by decide +kernel
theorem dX1_moved_79 : decode cX1_moved 79 = .ok (.lload_n 2, 1) := by decide +kernel
theorem dX1_moved_80 : decode cX1_moved 80 = .ok (.invokestatic 29, 3) := by decide +kernel
theorem dX1_moved_83 : decode cX1_moved 83 = .ok (.iload 6, 2) := by decide +kernel
theorem dX1_moved_85 : decode cX1_moved 85 = .ok (.lushr, 1) := by decide +kernel
theorem dX1_moved_86 : decode cX1_moved 86 = .ok (.invokestatic 15, 3) := by decide +kernel
theorem dX1_moved_89 : decode cX1_moved 89 = .ok (.lreturn, 1) := by decide +kernel
theorem dX1_moved_90 : decode cX1_moved 90 = .ok (.lload_n 2, 1) := by decide +kernel
theorem dX1_moved_91 : decode cX1_moved 91 = .ok (.iload 6, 2) := by decide +kernel
theorem dX1_moved_93 : decode cX1_moved 93 = .ok (.lshr, 1) := by decide +kernel
theorem dX1_moved_94 : decode cX1_moved 94 = .ok (.lreturn, 1) := by decide +kernel
def fx_Op_moved (o : Int32) (w : Int32) (x : Int64) (y : Int64) : Int64 := 
  if lg_cmp y (0 : Int64) < (0 : Int32) then 
    if o = (12 : Int32) then 
      if (0 : Int32) ≤ lg_cmp x (0 : Int64) then (0 : Int64)
      else (-1 : Int64)
    else (0 : Int64)
  else 
    if lg_cmp y w.toInt64 < (0 : Int32) then 
      if o = (10 : Int32) then fx_Width_readSigned w (x <<< (y.toInt32.toInt64 &&& 63))
      else 
        if o = (11 : Int32) then fx_Width_readSigned w (((fx_Width_readPlain w x).toUInt64 >>> (y.toInt32.toInt64.toUInt64 &&& Int64.toUInt64 63)).toInt64)
        else x >>> (y.toInt32.toInt64 &&& 63)
    else 
      if o = (12 : Int32) then 
        if (0 : Int32) ≤ lg_cmp x (0 : Int64) then (0 : Int64)
        else (-1 : Int64)
      else (0 : Int64)
set_option maxHeartbeats 4000000 in
set_option maxRecDepth 100000 in
theorem kx_Op_moved (l : Launch) (o : Int32) (w : Int32) (x : Int64) (y : Int64) : Met l yX1_moved wsX1_moved ({ frames := 1, cells := 0, slots := 0, locals := 23 }) (fun v _ => v = ([.int o, .int w, .long x, .long y] : List Value).toArray) (vp_Sl (fun r => r = fx_Op_moved o w x y)) 0 0 (fun _ => False) := by
  refine Met.ofW (cc := cX1_moved) (maxL := 7) (ret := (some .long)) (by decide) rfl ?_
  intro p e s m args below meth c s₁ B hml hv
  subst hv
  have hx := B.exec
  have hb := B.bytes
  have hr := B.returns
  have hta := aw_hts (atoms_spec (ws := wsX1_moved) B.pre)
  have hown : s.vm.findClass RX1 = some m.cls := findClass_of_methodNamed B.named
  have hlocks := B.notSynchronized
  have hc13 := hta _ mw_369
  have hl := lv_entry ([.int o, .int w, .long x, .long y]) (n := 7) (Nat.le_of_ble_eq_true rfl)
  rw [lg_entry_eq]
  generalize (lg_sl ([.int o, .int w, .long x, .long y]) ++ List.replicate (7 - (lg_sl ([.int o, .int w, .long x, .long y])).length) Slot.unset).toArray = ls at hl ⊢
  have hl : lv_has ls 7 [(0, .int o), (1, .int w), (2, .long x), (4, .long y)] := hl
  generalize hR : fx_Op_moved o w x y = R
  rw [fx_Op_moved] at hR
  refine lv_lload hx hb dX1_moved_0 (lv_at hl 3 rfl) ?_
  refine lv_lconst (v := (0 : Int64)) hx hb dX1_moved_2 (by decide) ?_
  refine W.lcmp hx hb dX1_moved_3 ?_
  refine lv_if_lt (tgt := 15) hx hb dX1_moved_4 (by decide) (fun c4 => ?_) (fun c4 => ?_)
  · skip
    rw [if_pos c4] at hR
    refine lv_iload_n hx hb dX1_moved_15 rfl (lv_at hl 0 rfl) ?_
    refine lv_bipush (v := (12 : Int32)) hx hb dX1_moved_16 (by decide) ?_
    refine lv_icmp_ne (tgt := 33) hx hb dX1_moved_18 (by decide) (fun c18 => ?_) (fun c18 => ?_)
    · skip
      rw [if_neg c18] at hR
      refine lv_lconst (v := (0 : Int64)) hx hb dX1_moved_33 (by decide) ?_
      exact W.lret (v := (0 : Int64)) hx hb hr (fun t ht hW => ⟨_, rfl, hR, ht⟩) (fun q h => by cases h) dX1_moved_34
    · skip
      rw [if_pos c18] at hR
      refine lv_lload_n hx hb dX1_moved_21 rfl (lv_at hl 2 rfl) ?_
      refine lv_lconst (v := (0 : Int64)) hx hb dX1_moved_22 (by decide) ?_
      refine W.lcmp hx hb dX1_moved_23 ?_
      refine lv_if_ge (tgt := 33) hx hb dX1_moved_24 (by decide) (fun c24 => ?_) (fun c24 => ?_)
      · skip
        rw [if_pos c24] at hR
        refine lv_lconst (v := (0 : Int64)) hx hb dX1_moved_33 (by decide) ?_
        exact W.lret (v := (0 : Int64)) hx hb hr (fun t ht hW => ⟨_, rfl, hR, ht⟩) (fun q h => by cases h) dX1_moved_34
      · skip
        rw [if_neg c24] at hR
        refine lv_ldc2 (v := (-1 : Int64)) hx hb hown hc13 dX1_moved_27 ?_
        refine lv_goto (tgt := 34) hx hb dX1_moved_30 (by decide) ?_
        exact W.lret (v := (-1 : Int64)) hx hb hr (fun t ht hW => ⟨_, rfl, hR, ht⟩) (fun q h => by cases h) dX1_moved_34
  · skip
    rw [if_neg c4] at hR
    refine lv_lload hx hb dX1_moved_7 (lv_at hl 3 rfl) ?_
    refine lv_iload_n hx hb dX1_moved_9 rfl (lv_at hl 1 rfl) ?_
    refine lv_i2l (v := w.toInt64) hx hb dX1_moved_10 rfl ?_
    refine W.lcmp hx hb dX1_moved_11 ?_
    refine lv_if_lt (tgt := 35) hx hb dX1_moved_12 (by decide) (fun c12 => ?_) (fun c12 => ?_)
    · skip
      rw [if_pos c12] at hR
      refine lv_lload hx hb dX1_moved_35 (lv_at hl 3 rfl) ?_
      refine lv_l2i (v := y.toInt32) hx hb dX1_moved_37 rfl ?_
      refine lv_istore (lv' := [(6, .int y.toInt32), (0, .int o), (1, .int w), (2, .long x), (4, .long y)]) hx hb dX1_moved_38 hl (by decide) rfl (fun ls hl => ?_)
      refine lv_iload_n hx hb dX1_moved_40 rfl (lv_at hl 1 rfl) ?_
      by_cases c41_10 : o = (10 : Int32)
      · skip
        rw [if_pos c41_10] at hR
        refine lv_lookup (tgt := 68) hx hb dX1_moved_41 (by decide) (by rw [c41_10]; rfl) (by decide) ?_
        refine lv_iload_n hx hb dX1_moved_68 rfl (lv_at hl 2 rfl) ?_
        refine lv_lload_n hx hb dX1_moved_69 rfl (lv_at hl 3 rfl) ?_
        refine lv_iload hx hb dX1_moved_70 (lv_at hl 0 rfl) ?_
        refine lv_lshl (v := x <<< (y.toInt32.toInt64 &&& 63)) hx hb dX1_moved_72 rfl ?_
        refine wl_cl (va_runS (As := [.int w, .long (x <<< (y.toInt32.toInt64 &&& 63))]) (rest := []) ⟨hx, hb, hml, hown, hta⟩ (kx_Width_readSigned l w (x <<< (y.toInt32.toInt64 &&& 63))) (va_cwS 2 hta gX1_15 rfl rfl rfl (by decide +kernel) ⟨Nat.le_of_ble_eq_true rfl, Nat.le_of_ble_eq_true rfl⟩) preEq rfl rfl hl.1 rfl (lv_room (Nat.le_of_ble_eq_true rfl)) dX1_moved_73 ⟨Nat.zero_le _, Nat.zero_le _⟩) ?_
        exact W.lret (v := fx_Width_readSigned w (x <<< (y.toInt32.toInt64 &&& 63))) hx hb hr (fun t ht hW => ⟨_, rfl, hR, ht⟩) (fun q h => by cases h) dX1_moved_76
      · skip
        rw [if_neg c41_10] at hR
        by_cases c41_11 : o = (11 : Int32)
        · skip
          rw [if_pos c41_11] at hR
          refine lv_lookup (tgt := 77) hx hb dX1_moved_41 (by decide) (by rw [c41_11]; rfl) (by decide) ?_
          refine lv_iload_n hx hb dX1_moved_77 rfl (lv_at hl 2 rfl) ?_
          refine lv_iload_n hx hb dX1_moved_78 rfl (lv_at hl 2 rfl) ?_
          refine lv_lload_n hx hb dX1_moved_79 rfl (lv_at hl 3 rfl) ?_
          refine wl_cl (va_runS (As := [.int w, .long x]) (rest := [.int w]) ⟨hx, hb, hml, hown, hta⟩ (kx_Width_readPlain l w x) (va_cwS 2 hta gX1_29 rfl rfl rfl (by decide +kernel) ⟨Nat.le_of_ble_eq_true rfl, Nat.le_of_ble_eq_true rfl⟩) preEq rfl rfl hl.1 rfl (lv_room (Nat.le_of_ble_eq_true rfl)) dX1_moved_80 ⟨Nat.zero_le _, Nat.zero_le _⟩) ?_
          refine lv_iload hx hb dX1_moved_83 (lv_at hl 0 rfl) ?_
          refine lv_lushr (v := ((fx_Width_readPlain w x).toUInt64 >>> (y.toInt32.toInt64.toUInt64 &&& Int64.toUInt64 63)).toInt64) hx hb dX1_moved_85 rfl ?_
          refine wl_cl (va_runS (As := [.int w, .long (((fx_Width_readPlain w x).toUInt64 >>> (y.toInt32.toInt64.toUInt64 &&& Int64.toUInt64 63)).toInt64)]) (rest := []) ⟨hx, hb, hml, hown, hta⟩ (kx_Width_readSigned l w (((fx_Width_readPlain w x).toUInt64 >>> (y.toInt32.toInt64.toUInt64 &&& Int64.toUInt64 63)).toInt64)) (va_cwS 2 hta gX1_15 rfl rfl rfl (by decide +kernel) ⟨Nat.le_of_ble_eq_true rfl, Nat.le_of_ble_eq_true rfl⟩) preEq rfl rfl hl.1 rfl (lv_room (Nat.le_of_ble_eq_true rfl)) dX1_moved_86 ⟨Nat.zero_le _, Nat.zero_le _⟩) ?_
          exact W.lret (v := fx_Width_readSigned w (((fx_Width_readPlain w x).toUInt64 >>> (y.toInt32.toInt64.toUInt64 &&& Int64.toUInt64 63)).toInt64)) hx hb hr (fun t ht hW => ⟨_, rfl, hR, ht⟩) (fun q h => by cases h) dX1_moved_89
        · skip
          rw [if_neg c41_11] at hR
          refine lv_lookup (tgt := 90) hx hb dX1_moved_41 (by decide) (by rw [lv_osw c41_10 (by decide), lv_osw c41_11 (by decide)]; rfl) (by decide) ?_
          refine lv_lload_n hx hb dX1_moved_90 rfl (lv_at hl 3 rfl) ?_
          refine lv_iload hx hb dX1_moved_91 (lv_at hl 0 rfl) ?_
          refine lv_lshr (v := x >>> (y.toInt32.toInt64 &&& 63)) hx hb dX1_moved_93 rfl ?_
          exact W.lret (v := x >>> (y.toInt32.toInt64 &&& 63)) hx hb hr (fun t ht hW => ⟨_, rfl, hR, ht⟩) (fun q h => by cases h) dX1_moved_94
    · skip
      rw [if_neg c12] at hR
      refine lv_iload_n hx hb dX1_moved_15 rfl (lv_at hl 0 rfl) ?_
      refine lv_bipush (v := (12 : Int32)) hx hb dX1_moved_16 (by decide) ?_
      refine lv_icmp_ne (tgt := 33) hx hb dX1_moved_18 (by decide) (fun c18 => ?_) (fun c18 => ?_)
      · skip
        rw [if_neg c18] at hR
        refine lv_lconst (v := (0 : Int64)) hx hb dX1_moved_33 (by decide) ?_
        exact W.lret (v := (0 : Int64)) hx hb hr (fun t ht hW => ⟨_, rfl, hR, ht⟩) (fun q h => by cases h) dX1_moved_34
      · skip
        rw [if_pos c18] at hR
        refine lv_lload_n hx hb dX1_moved_21 rfl (lv_at hl 2 rfl) ?_
        refine lv_lconst (v := (0 : Int64)) hx hb dX1_moved_22 (by decide) ?_
        refine W.lcmp hx hb dX1_moved_23 ?_
        refine lv_if_ge (tgt := 33) hx hb dX1_moved_24 (by decide) (fun c24 => ?_) (fun c24 => ?_)
        · skip
          rw [if_pos c24] at hR
          refine lv_lconst (v := (0 : Int64)) hx hb dX1_moved_33 (by decide) ?_
          exact W.lret (v := (0 : Int64)) hx hb hr (fun t ht hW => ⟨_, rfl, hR, ht⟩) (fun q h => by cases h) dX1_moved_34
        · skip
          rw [if_neg c24] at hR
          refine lv_ldc2 (v := (-1 : Int64)) hx hb hown hc13 dX1_moved_27 ?_
          refine lv_goto (tgt := 34) hx hb dX1_moved_30 (by decide) ?_
          exact W.lret (v := (-1 : Int64)) hx hb hr (fun t ht hW => ⟨_, rfl, hR, ht⟩) (fun q h => by cases h) dX1_moved_34
end
