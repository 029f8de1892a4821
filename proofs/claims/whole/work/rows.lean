section
-- ===== PART A: goes FIRST, ahead of the names: the tables' words, and 'selects' of the private methods out of them =====
/-- a private method of a class that the tables say can be made, by its rows of tables_1 -/
def lw_okq (q : MethodName × Nat) : Prop := (q.1.cls ≠ "java/lang/invoke/MethodHandle" ∧ q.1.cls ≠ "java/lang/invoke/VarHandle") ∧ Cond.instantiable q.1.cls q.2 ∈ tables_1 ∧ Cond.privateMethod q.1 ∈ tables_1 ∧ Cond.instanceMethod q.1 ∈ tables_1
theorem lw_p0 : lw_okq (⟨"PathSolver$Terms", "addPlain", "(II)I"⟩, 7) := ⟨⟨by decide +kernel, by decide +kernel⟩, List.mem_of_getElem? (i := 57) (by decide +kernel), List.mem_of_getElem? (i := 222) (by decide +kernel), List.mem_of_getElem? (i := 223) (by decide +kernel)⟩
theorem lw_p1 : lw_okq (⟨"PathSolver$Maker", "areAlike", "(II)Z"⟩, 2) := ⟨⟨by decide +kernel, by decide +kernel⟩, List.mem_of_getElem? (i := 107) (by decide +kernel), List.mem_of_getElem? (i := 288) (by decide +kernel), List.mem_of_getElem? (i := 289) (by decide +kernel)⟩
theorem lw_p2 : lw_okq (⟨"PathSolver$Maker", "areConstants", "(IIII)Z"⟩, 2) := ⟨⟨by decide +kernel, by decide +kernel⟩, List.mem_of_getElem? (i := 107) (by decide +kernel), List.mem_of_getElem? (i := 308) (by decide +kernel), List.mem_of_getElem? (i := 309) (by decide +kernel)⟩
theorem lw_p3 : lw_okq (⟨"PathSolver$Evaluator", "apply", "(IIII[J)J"⟩, 5) := ⟨⟨by decide +kernel, by decide +kernel⟩, List.mem_of_getElem? (i := 85) (by decide +kernel), List.mem_of_getElem? (i := 325) (by decide +kernel), List.mem_of_getElem? (i := 326) (by decide +kernel)⟩
theorem lw_p4 : lw_okq (⟨"PathSolver$Maker", "makeInPlace", "(IIII)I"⟩, 2) := ⟨⟨by decide +kernel, by decide +kernel⟩, List.mem_of_getElem? (i := 107) (by decide +kernel), List.mem_of_getElem? (i := 363) (by decide +kernel), List.mem_of_getElem? (i := 364) (by decide +kernel)⟩
theorem lw_p5 : lw_okq (⟨"PathSolver$Maker", "ofSameOperands", "(IIII)I"⟩, 2) := ⟨⟨by decide +kernel, by decide +kernel⟩, List.mem_of_getElem? (i := 107) (by decide +kernel), List.mem_of_getElem? (i := 367) (by decide +kernel), List.mem_of_getElem? (i := 368) (by decide +kernel)⟩
theorem lw_p6 : lw_okq (⟨"PathSolver$Maker", "ofSettledChoice", "(III)I"⟩, 2) := ⟨⟨by decide +kernel, by decide +kernel⟩, List.mem_of_getElem? (i := 107) (by decide +kernel), List.mem_of_getElem? (i := 371) (by decide +kernel), List.mem_of_getElem? (i := 372) (by decide +kernel)⟩
theorem lw_p7 : lw_okq (⟨"PathSolver$Maker", "ofZero", "(III)I"⟩, 2) := ⟨⟨by decide +kernel, by decide +kernel⟩, List.mem_of_getElem? (i := 107) (by decide +kernel), List.mem_of_getElem? (i := 379) (by decide +kernel), List.mem_of_getElem? (i := 380) (by decide +kernel)⟩
theorem lw_p8 : lw_okq (⟨"PathSolver$Maker", "ofUndoing", "(II)I"⟩, 2) := ⟨⟨by decide +kernel, by decide +kernel⟩, List.mem_of_getElem? (i := 107) (by decide +kernel), List.mem_of_getElem? (i := 383) (by decide +kernel), List.mem_of_getElem? (i := 384) (by decide +kernel)⟩
theorem lw_p9 : lw_okq (⟨"PathSolver$Terms", "noteTablesRead", "(I)V"⟩, 7) := ⟨⟨by decide +kernel, by decide +kernel⟩, List.mem_of_getElem? (i := 57) (by decide +kernel), List.mem_of_getElem? (i := 408) (by decide +kernel), List.mem_of_getElem? (i := 409) (by decide +kernel)⟩
theorem lw_p10 : lw_okq (⟨"PathSolver$TruthRows", "ask", "([II)V"⟩, 7) := ⟨⟨by decide +kernel, by decide +kernel⟩, List.mem_of_getElem? (i := 120) (by decide +kernel), List.mem_of_getElem? (i := 451) (by decide +kernel), List.mem_of_getElem? (i := 452) (by decide +kernel)⟩
theorem lw_p11 : lw_okq (⟨"PathSolver$TruthRows", "clearRow", "(I)V"⟩, 7) := ⟨⟨by decide +kernel, by decide +kernel⟩, List.mem_of_getElem? (i := 120) (by decide +kernel), List.mem_of_getElem? (i := 459) (by decide +kernel), List.mem_of_getElem? (i := 460) (by decide +kernel)⟩
theorem lw_p12 : lw_okq (⟨"PathSolver$TruthRows", "noteAsked", "(II)V"⟩, 7) := ⟨⟨by decide +kernel, by decide +kernel⟩, List.mem_of_getElem? (i := 120) (by decide +kernel), List.mem_of_getElem? (i := 489) (by decide +kernel), List.mem_of_getElem? (i := 490) (by decide +kernel)⟩
theorem lw_p13 : lw_okq (⟨"PathSolver$TruthRows", "setBits", "(III)V"⟩, 7) := ⟨⟨by decide +kernel, by decide +kernel⟩, List.mem_of_getElem? (i := 120) (by decide +kernel), List.mem_of_getElem? (i := 497) (by decide +kernel), List.mem_of_getElem? (i := 498) (by decide +kernel)⟩
theorem lw_p14 : lw_okq (⟨"PathSolver$Path", "holdingBefore", "(II)J"⟩, 3) := ⟨⟨by decide +kernel, by decide +kernel⟩, List.mem_of_getElem? (i := 148) (by decide +kernel), List.mem_of_getElem? (i := 501) (by decide +kernel), List.mem_of_getElem? (i := 502) (by decide +kernel)⟩
theorem lw_p15 : lw_okq (⟨"PathSolver", "settle", "(I)Z"⟩, 11) := ⟨⟨by decide +kernel, by decide +kernel⟩, List.mem_of_getElem? (i := 14) (by decide +kernel), List.mem_of_getElem? (i := 513) (by decide +kernel), List.mem_of_getElem? (i := 514) (by decide +kernel)⟩
def lw_privs_1 : List (MethodName × Nat) := [(⟨"PathSolver$Terms", "addPlain", "(II)I"⟩, 7), (⟨"PathSolver$Maker", "areAlike", "(II)Z"⟩, 2), (⟨"PathSolver$Maker", "areConstants", "(IIII)Z"⟩, 2), (⟨"PathSolver$Evaluator", "apply", "(IIII[J)J"⟩, 5), (⟨"PathSolver$Maker", "makeInPlace", "(IIII)I"⟩, 2), (⟨"PathSolver$Maker", "ofSameOperands", "(IIII)I"⟩, 2), (⟨"PathSolver$Maker", "ofSettledChoice", "(III)I"⟩, 2), (⟨"PathSolver$Maker", "ofZero", "(III)I"⟩, 2), (⟨"PathSolver$Maker", "ofUndoing", "(II)I"⟩, 2), (⟨"PathSolver$Terms", "noteTablesRead", "(I)V"⟩, 7), (⟨"PathSolver$TruthRows", "ask", "([II)V"⟩, 7), (⟨"PathSolver$TruthRows", "clearRow", "(I)V"⟩, 7), (⟨"PathSolver$TruthRows", "noteAsked", "(II)V"⟩, 7), (⟨"PathSolver$TruthRows", "setBits", "(III)V"⟩, 7), (⟨"PathSolver$Path", "holdingBefore", "(II)J"⟩, 3), (⟨"PathSolver", "settle", "(I)Z"⟩, 11)]
theorem lw_r1 : ∀ q ∈ lw_privs_1, lw_okq q := List.forall_mem_cons.mpr ⟨lw_p0, List.forall_mem_cons.mpr ⟨lw_p1, List.forall_mem_cons.mpr ⟨lw_p2, List.forall_mem_cons.mpr ⟨lw_p3, List.forall_mem_cons.mpr ⟨lw_p4, List.forall_mem_cons.mpr ⟨lw_p5, List.forall_mem_cons.mpr ⟨lw_p6, List.forall_mem_cons.mpr ⟨lw_p7, List.forall_mem_cons.mpr ⟨lw_p8, List.forall_mem_cons.mpr ⟨lw_p9, List.forall_mem_cons.mpr ⟨lw_p10, List.forall_mem_cons.mpr ⟨lw_p11, List.forall_mem_cons.mpr ⟨lw_p12, List.forall_mem_cons.mpr ⟨lw_p13, List.forall_mem_cons.mpr ⟨lw_p14, List.forall_mem_cons.mpr ⟨lw_p15, fun _ h => absurd h List.not_mem_nil⟩⟩⟩⟩⟩⟩⟩⟩⟩⟩⟩⟩⟩⟩⟩⟩
theorem lw_p16 : lw_okq (⟨"PathSolverModel", "fresh", "(IIIII)I"⟩, 21) := ⟨⟨by decide +kernel, by decide +kernel⟩, List.mem_of_getElem? (i := 591) (by decide +kernel), List.mem_of_getElem? (i := 665) (by decide +kernel), List.mem_of_getElem? (i := 666) (by decide +kernel)⟩
theorem lw_p17 : lw_okq (⟨"PathSolverModel", "isWidth", "(I)Z"⟩, 21) := ⟨⟨by decide +kernel, by decide +kernel⟩, List.mem_of_getElem? (i := 591) (by decide +kernel), List.mem_of_getElem? (i := 673) (by decide +kernel), List.mem_of_getElem? (i := 674) (by decide +kernel)⟩
theorem lw_p18 : lw_okq (⟨"PathSolverModel", "constantOf", "(IJ)I"⟩, 21) := ⟨⟨by decide +kernel, by decide +kernel⟩, List.mem_of_getElem? (i := 591) (by decide +kernel), List.mem_of_getElem? (i := 677) (by decide +kernel), List.mem_of_getElem? (i := 678) (by decide +kernel)⟩
theorem lw_p19 : lw_okq (⟨"PathSolverModel", "cut", "(JI)J"⟩, 21) := ⟨⟨by decide +kernel, by decide +kernel⟩, List.mem_of_getElem? (i := 591) (by decide +kernel), List.mem_of_getElem? (i := 681) (by decide +kernel), List.mem_of_getElem? (i := 682) (by decide +kernel)⟩
theorem lw_p20 : lw_okq (⟨"PathSolverModel", "fits", "(IIII)Z"⟩, 21) := ⟨⟨by decide +kernel, by decide +kernel⟩, List.mem_of_getElem? (i := 591) (by decide +kernel), List.mem_of_getElem? (i := 693) (by decide +kernel), List.mem_of_getElem? (i := 694) (by decide +kernel)⟩
theorem lw_p21 : lw_okq (⟨"PathSolverModel", "none", "(I)Z"⟩, 21) := ⟨⟨by decide +kernel, by decide +kernel⟩, List.mem_of_getElem? (i := 591) (by decide +kernel), List.mem_of_getElem? (i := 697) (by decide +kernel), List.mem_of_getElem? (i := 698) (by decide +kernel)⟩
theorem lw_p22 : lw_okq (⟨"PathSolverModel", "isConst", "(I)Z"⟩, 21) := ⟨⟨by decide +kernel, by decide +kernel⟩, List.mem_of_getElem? (i := 591) (by decide +kernel), List.mem_of_getElem? (i := 701) (by decide +kernel), List.mem_of_getElem? (i := 702) (by decide +kernel)⟩
theorem lw_p23 : lw_okq (⟨"PathSolverModel", "widthOf", "(III)I"⟩, 21) := ⟨⟨by decide +kernel, by decide +kernel⟩, List.mem_of_getElem? (i := 591) (by decide +kernel), List.mem_of_getElem? (i := 705) (by decide +kernel), List.mem_of_getElem? (i := 706) (by decide +kernel)⟩
theorem lw_p24 : lw_okq (⟨"PathSolverModel", "result", "(IIII)J"⟩, 21) := ⟨⟨by decide +kernel, by decide +kernel⟩, List.mem_of_getElem? (i := 591) (by decide +kernel), List.mem_of_getElem? (i := 709) (by decide +kernel), List.mem_of_getElem? (i := 710) (by decide +kernel)⟩
theorem lw_p25 : lw_okq (⟨"PathSolverModel", "sign", "(JI)J"⟩, 21) := ⟨⟨by decide +kernel, by decide +kernel⟩, List.mem_of_getElem? (i := 591) (by decide +kernel), List.mem_of_getElem? (i := 713) (by decide +kernel), List.mem_of_getElem? (i := 714) (by decide +kernel)⟩
theorem lw_p26 : lw_okq (⟨"PathSolverModel", "plain", "(IJJI)J"⟩, 21) := ⟨⟨by decide +kernel, by decide +kernel⟩, List.mem_of_getElem? (i := 591) (by decide +kernel), List.mem_of_getElem? (i := 718) (by decide +kernel), List.mem_of_getElem? (i := 719) (by decide +kernel)⟩
theorem lw_p27 : lw_okq (⟨"PathSolverModel", "less", "(JJ)J"⟩, 21) := ⟨⟨by decide +kernel, by decide +kernel⟩, List.mem_of_getElem? (i := 591) (by decide +kernel), List.mem_of_getElem? (i := 724) (by decide +kernel), List.mem_of_getElem? (i := 725) (by decide +kernel)⟩
theorem lw_p28 : lw_okq (⟨"PathSolverModel", "shifted", "(IJJI)J"⟩, 21) := ⟨⟨by decide +kernel, by decide +kernel⟩, List.mem_of_getElem? (i := 591) (by decide +kernel), List.mem_of_getElem? (i := 729) (by decide +kernel), List.mem_of_getElem? (i := 730) (by decide +kernel)⟩
theorem lw_p29 : lw_okq (⟨"PathSolverModel", "simple", "(IIII)I"⟩, 21) := ⟨⟨by decide +kernel, by decide +kernel⟩, List.mem_of_getElem? (i := 591) (by decide +kernel), List.mem_of_getElem? (i := 733) (by decide +kernel), List.mem_of_getElem? (i := 734) (by decide +kernel)⟩
theorem lw_p30 : lw_okq (⟨"PathSolverModel", "shorter", "(IIII)I"⟩, 21) := ⟨⟨by decide +kernel, by decide +kernel⟩, List.mem_of_getElem? (i := 591) (by decide +kernel), List.mem_of_getElem? (i := 737) (by decide +kernel), List.mem_of_getElem? (i := 738) (by decide +kernel)⟩
theorem lw_p31 : lw_okq (⟨"PathSolverModel", "isZero", "(I)Z"⟩, 21) := ⟨⟨by decide +kernel, by decide +kernel⟩, List.mem_of_getElem? (i := 591) (by decide +kernel), List.mem_of_getElem? (i := 741) (by decide +kernel), List.mem_of_getElem? (i := 742) (by decide +kernel)⟩
def lw_privs_2 : List (MethodName × Nat) := [(⟨"PathSolverModel", "fresh", "(IIIII)I"⟩, 21), (⟨"PathSolverModel", "isWidth", "(I)Z"⟩, 21), (⟨"PathSolverModel", "constantOf", "(IJ)I"⟩, 21), (⟨"PathSolverModel", "cut", "(JI)J"⟩, 21), (⟨"PathSolverModel", "fits", "(IIII)Z"⟩, 21), (⟨"PathSolverModel", "none", "(I)Z"⟩, 21), (⟨"PathSolverModel", "isConst", "(I)Z"⟩, 21), (⟨"PathSolverModel", "widthOf", "(III)I"⟩, 21), (⟨"PathSolverModel", "result", "(IIII)J"⟩, 21), (⟨"PathSolverModel", "sign", "(JI)J"⟩, 21), (⟨"PathSolverModel", "plain", "(IJJI)J"⟩, 21), (⟨"PathSolverModel", "less", "(JJ)J"⟩, 21), (⟨"PathSolverModel", "shifted", "(IJJI)J"⟩, 21), (⟨"PathSolverModel", "simple", "(IIII)I"⟩, 21), (⟨"PathSolverModel", "shorter", "(IIII)I"⟩, 21), (⟨"PathSolverModel", "isZero", "(I)Z"⟩, 21)]
theorem lw_r2 : ∀ q ∈ lw_privs_2, lw_okq q := List.forall_mem_cons.mpr ⟨lw_p16, List.forall_mem_cons.mpr ⟨lw_p17, List.forall_mem_cons.mpr ⟨lw_p18, List.forall_mem_cons.mpr ⟨lw_p19, List.forall_mem_cons.mpr ⟨lw_p20, List.forall_mem_cons.mpr ⟨lw_p21, List.forall_mem_cons.mpr ⟨lw_p22, List.forall_mem_cons.mpr ⟨lw_p23, List.forall_mem_cons.mpr ⟨lw_p24, List.forall_mem_cons.mpr ⟨lw_p25, List.forall_mem_cons.mpr ⟨lw_p26, List.forall_mem_cons.mpr ⟨lw_p27, List.forall_mem_cons.mpr ⟨lw_p28, List.forall_mem_cons.mpr ⟨lw_p29, List.forall_mem_cons.mpr ⟨lw_p30, List.forall_mem_cons.mpr ⟨lw_p31, fun _ h => absurd h List.not_mem_nil⟩⟩⟩⟩⟩⟩⟩⟩⟩⟩⟩⟩⟩⟩⟩⟩
theorem lw_p32 : lw_okq (⟨"PathSolverModel", "cost", "(II)I"⟩, 21) := ⟨⟨by decide +kernel, by decide +kernel⟩, List.mem_of_getElem? (i := 591) (by decide +kernel), List.mem_of_getElem? (i := 745) (by decide +kernel), List.mem_of_getElem? (i := 746) (by decide +kernel)⟩
theorem lw_p33 : lw_okq (⟨"PathSolverModel", "solve", "(IZ)Z"⟩, 21) := ⟨⟨by decide +kernel, by decide +kernel⟩, List.mem_of_getElem? (i := 591) (by decide +kernel), List.mem_of_getElem? (i := 761) (by decide +kernel), List.mem_of_getElem? (i := 762) (by decide +kernel)⟩
theorem lw_p34 : lw_okq (⟨"PathSolverModel", "work", "()V"⟩, 21) := ⟨⟨by decide +kernel, by decide +kernel⟩, List.mem_of_getElem? (i := 591) (by decide +kernel), List.mem_of_getElem? (i := 765) (by decide +kernel), List.mem_of_getElem? (i := 766) (by decide +kernel)⟩
theorem lw_p35 : lw_okq (⟨"PathSolverModel", "answer", "(Z)I"⟩, 21) := ⟨⟨by decide +kernel, by decide +kernel⟩, List.mem_of_getElem? (i := 591) (by decide +kernel), List.mem_of_getElem? (i := 769) (by decide +kernel), List.mem_of_getElem? (i := 770) (by decide +kernel)⟩
theorem lw_p36 : lw_okq (⟨"PathSolverModel", "takeModel", "()V"⟩, 21) := ⟨⟨by decide +kernel, by decide +kernel⟩, List.mem_of_getElem? (i := 591) (by decide +kernel), List.mem_of_getElem? (i := 791) (by decide +kernel), List.mem_of_getElem? (i := 792) (by decide +kernel)⟩
def lw_privs_3 : List (MethodName × Nat) := [(⟨"PathSolverModel", "cost", "(II)I"⟩, 21), (⟨"PathSolverModel", "solve", "(IZ)Z"⟩, 21), (⟨"PathSolverModel", "work", "()V"⟩, 21), (⟨"PathSolverModel", "answer", "(Z)I"⟩, 21), (⟨"PathSolverModel", "takeModel", "()V"⟩, 21)]
theorem lw_r3 : ∀ q ∈ lw_privs_3, lw_okq q := List.forall_mem_cons.mpr ⟨lw_p32, List.forall_mem_cons.mpr ⟨lw_p33, List.forall_mem_cons.mpr ⟨lw_p34, List.forall_mem_cons.mpr ⟨lw_p35, List.forall_mem_cons.mpr ⟨lw_p36, fun _ h => absurd h List.not_mem_nil⟩⟩⟩⟩⟩
def lw_privs : List (MethodName × Nat) := lw_privs_1 ++ (lw_privs_2 ++ (lw_privs_3))
def lw_tbl : List Cond := k2_sels lw_privs ++ tables_1
theorem lw_privs_ok : ∀ q ∈ lw_privs, lw_okq q := by
  show ∀ q ∈ lw_privs_1 ++ (lw_privs_2 ++ (lw_privs_3)), lw_okq q
  exact List.forall_mem_append.mpr ⟨lw_r1, List.forall_mem_append.mpr ⟨lw_r2, lw_r3⟩⟩

def AW : List Cond := lw_tbl.filter goodWord
def RX0 : String := "PathSolver$Width"
def RX1 : String := "PathSolver$Operation"
def RX2 : String := "PathSolver$Variables"
def TX2 : u_T := fun k => match k with
  | 0 => ("PathSolver$Variables", "bits", "[I", true)
  | 1 => ("PathSolver$Variables", "lowest", "[I", true)
  | 2 => ("PathSolver$Variables", "signed", "[Z", true)
  | 3 => ("PathSolver$Variables", "size", "I", false)
  | _ => ("PathSolver$Variables", "bitsTogether", "I", false)
def tyX2 : Nat → FieldType := fun k => match k with
  | 0 => .array .int
  | 1 => .array .int
  | 2 => .array .boolean
  | 3 => .int
  | _ => .int
abbrev wsX20 : List Cond := u_ws RX2 TX2 5
theorem nmX2 : ∀ a, a < 5 → ∀ b, b < 5 → a ≠ b → (TX2 a).2.1 ≠ (TX2 b).2.1 := by decide +kernel
theorem tyX2_ok : ∀ k, k < 5 → parseFieldDescriptor (TX2 k).2.2.1 = some (tyX2 k) := by decide +kernel
theorem inX2 : ∀ w ∈ wsX20, w ∈ AW := by decide +kernel
def RX3 : String := "PathSolver$Tables"
def TX3 : u_T := fun k => match k with
  | _ => ("PathSolver$Tables", "entries", "[J", true)
def tyX3 : Nat → FieldType := fun k => match k with
  | _ => .array .long
abbrev wsX30 : List Cond := u_ws RX3 TX3 1
theorem nmX3 : ∀ a, a < 1 → ∀ b, b < 1 → a ≠ b → (TX3 a).2.1 ≠ (TX3 b).2.1 := by decide +kernel
theorem tyX3_ok : ∀ k, k < 1 → parseFieldDescriptor (TX3 k).2.2.1 = some (tyX3 k) := by decide +kernel
theorem inX3 : ∀ w ∈ wsX30, w ∈ AW := by decide +kernel
def RX4 : String := "PathSolver$Terms"
def TX4 : u_T := fun k => match k with
  | 0 => ("PathSolver$Terms", "operations", "[I", true)
  | 1 => ("PathSolver$Terms", "widths", "[I", true)
  | 2 => ("PathSolver$Terms", "operands", "[I", true)
  | 3 => ("PathSolver$Terms", "tablesRead", "[I", true)
  | 4 => ("PathSolver$Terms", "constants", "[J", true)
  | 5 => ("PathSolver$Terms", "size", "I", false)
  | _ => ("PathSolver$Terms", "totalCost", "I", false)
def tyX4 : Nat → FieldType := fun k => match k with
  | 0 => .array .int
  | 1 => .array .int
  | 2 => .array .int
  | 3 => .array .int
  | 4 => .array .long
  | 5 => .int
  | _ => .int
abbrev wsX40 : List Cond := u_ws RX4 TX4 7
theorem nmX4 : ∀ a, a < 7 → ∀ b, b < 7 → a ≠ b → (TX4 a).2.1 ≠ (TX4 b).2.1 := by decide +kernel
theorem tyX4_ok : ∀ k, k < 7 → parseFieldDescriptor (TX4 k).2.2.1 = some (tyX4 k) := by decide +kernel
theorem inX4 : ∀ w ∈ wsX40, w ∈ AW := by decide +kernel
def RX5 : String := "PathSolver$Evaluator"
def TX5 : u_T := fun k => match k with
  | 0 => ("PathSolver$Evaluator", "terms", "LPathSolver$Terms;", true)
  | 1 => ("PathSolver$Evaluator", "variables", "LPathSolver$Variables;", true)
  | 2 => ("PathSolver$Evaluator", "tables", "LPathSolver$Tables;", true)
  | 3 => ("PathSolver$Evaluator", "results", "[J", true)
  | _ => ("PathSolver$Evaluator", "needed", "[Z", true)
def tyX5 : Nat → FieldType := fun k => match k with
  | 0 => .object "PathSolver$Terms"
  | 1 => .object "PathSolver$Variables"
  | 2 => .object "PathSolver$Tables"
  | 3 => .array .long
  | _ => .array .boolean
abbrev wsX50 : List Cond := u_ws RX5 TX5 5
theorem nmX5 : ∀ a, a < 5 → ∀ b, b < 5 → a ≠ b → (TX5 a).2.1 ≠ (TX5 b).2.1 := by decide +kernel
theorem tyX5_ok : ∀ k, k < 5 → parseFieldDescriptor (TX5 k).2.2.1 = some (tyX5 k) := by decide +kernel
theorem inX5 : ∀ w ∈ wsX50, w ∈ AW := by decide +kernel
def RX6 : String := "PathSolver$Maker"
def TX6 : u_T := fun k => match k with
  | 0 => ("PathSolver$Maker", "terms", "LPathSolver$Terms;", true)
  | _ => ("PathSolver$Maker", "evaluator", "LPathSolver$Evaluator;", true)
def tyX6 : Nat → FieldType := fun k => match k with
  | 0 => .object "PathSolver$Terms"
  | _ => .object "PathSolver$Evaluator"
abbrev wsX60 : List Cond := u_ws RX6 TX6 2
theorem nmX6 : ∀ a, a < 2 → ∀ b, b < 2 → a ≠ b → (TX6 a).2.1 ≠ (TX6 b).2.1 := by decide +kernel
theorem tyX6_ok : ∀ k, k < 2 → parseFieldDescriptor (TX6 k).2.2.1 = some (tyX6 k) := by decide +kernel
theorem inX6 : ∀ w ∈ wsX60, w ∈ AW := by decide +kernel
def RX7 : String := "PathSolver$TruthRows"
def TX7 : u_T := fun k => match k with
  | 0 => ("PathSolver$TruthRows", "terms", "LPathSolver$Terms;", true)
  | 1 => ("PathSolver$TruthRows", "variables", "LPathSolver$Variables;", true)
  | 2 => ("PathSolver$TruthRows", "evaluator", "LPathSolver$Evaluator;", true)
  | 3 => ("PathSolver$TruthRows", "rows", "[J", true)
  | 4 => ("PathSolver$TruthRows", "known", "[Z", true)
  | 5 => ("PathSolver$TruthRows", "asked", "[I", true)
  | _ => ("PathSolver$TruthRows", "askedSize", "I", false)
def tyX7 : Nat → FieldType := fun k => match k with
  | 0 => .object "PathSolver$Terms"
  | 1 => .object "PathSolver$Variables"
  | 2 => .object "PathSolver$Evaluator"
  | 3 => .array .long
  | 4 => .array .boolean
  | 5 => .array .int
  | _ => .int
abbrev wsX70 : List Cond := u_ws RX7 TX7 7
theorem nmX7 : ∀ a, a < 7 → ∀ b, b < 7 → a ≠ b → (TX7 a).2.1 ≠ (TX7 b).2.1 := by decide +kernel
theorem tyX7_ok : ∀ k, k < 7 → parseFieldDescriptor (TX7 k).2.2.1 = some (tyX7 k) := by decide +kernel
theorem inX7 : ∀ w ∈ wsX70, w ∈ AW := by decide +kernel
def RX8 : String := "PathSolver$Path"
def TX8 : u_T := fun k => match k with
  | 0 => ("PathSolver$Path", "rows", "LPathSolver$TruthRows;", true)
  | 1 => ("PathSolver$Path", "conditions", "[I", true)
  | _ => ("PathSolver$Path", "length", "I", false)
def tyX8 : Nat → FieldType := fun k => match k with
  | 0 => .object "PathSolver$TruthRows"
  | 1 => .array .int
  | _ => .int
abbrev wsX80 : List Cond := u_ws RX8 TX8 3
theorem nmX8 : ∀ a, a < 3 → ∀ b, b < 3 → a ≠ b → (TX8 a).2.1 ≠ (TX8 b).2.1 := by decide +kernel
theorem tyX8_ok : ∀ k, k < 3 → parseFieldDescriptor (TX8 k).2.2.1 = some (tyX8 k) := by decide +kernel
theorem inX8 : ∀ w ∈ wsX80, w ∈ AW := by decide +kernel
def RX9 : String := "PathSolver"
def TX9 : u_T := fun k => match k with
  | 0 => ("PathSolver", "variables", "LPathSolver$Variables;", true)
  | 1 => ("PathSolver", "tables", "LPathSolver$Tables;", true)
  | 2 => ("PathSolver", "terms", "LPathSolver$Terms;", true)
  | 3 => ("PathSolver", "evaluator", "LPathSolver$Evaluator;", true)
  | 4 => ("PathSolver", "maker", "LPathSolver$Maker;", true)
  | 5 => ("PathSolver", "rows", "LPathSolver$TruthRows;", true)
  | 6 => ("PathSolver", "path", "LPathSolver$Path;", true)
  | 7 => ("PathSolver", "modelAssignment", "I", false)
  | 8 => ("PathSolver", "modelVariables", "I", false)
  | 9 => ("PathSolver", "feasibleChecks", "I", false)
  | _ => ("PathSolver", "otherChecks", "I", false)
def tyX9 : Nat → FieldType := fun k => match k with
  | 0 => .object "PathSolver$Variables"
  | 1 => .object "PathSolver$Tables"
  | 2 => .object "PathSolver$Terms"
  | 3 => .object "PathSolver$Evaluator"
  | 4 => .object "PathSolver$Maker"
  | 5 => .object "PathSolver$TruthRows"
  | 6 => .object "PathSolver$Path"
  | 7 => .int
  | 8 => .int
  | 9 => .int
  | _ => .int
abbrev wsX90 : List Cond := u_ws RX9 TX9 11
theorem nmX9 : ∀ a, a < 11 → ∀ b, b < 11 → a ≠ b → (TX9 a).2.1 ≠ (TX9 b).2.1 := by decide +kernel
theorem tyX9_ok : ∀ k, k < 11 → parseFieldDescriptor (TX9 k).2.2.1 = some (tyX9 k) := by decide +kernel
theorem inX9 : ∀ w ∈ wsX90, w ∈ AW := by decide +kernel
def RX10 : String := "PathSolverModel"
def TX10 : u_T := fun k => match k with
  | 0 => ("PathSolverModel", "terms", "I", false)
  | 1 => ("PathSolverModel", "costs", "I", false)
  | 2 => ("PathSolverModel", "variables", "I", false)
  | 3 => ("PathSolverModel", "path", "I", false)
  | 4 => ("PathSolverModel", "yes", "I", false)
  | 5 => ("PathSolverModel", "no", "I", false)
  | 6 => ("PathSolverModel", "modelled", "I", false)
  | 7 => ("PathSolverModel", "op", "[I", true)
  | 8 => ("PathSolverModel", "a", "[I", true)
  | 9 => ("PathSolverModel", "b", "[I", true)
  | 10 => ("PathSolverModel", "c", "[I", true)
  | 11 => ("PathSolverModel", "wide", "[I", true)
  | 12 => ("PathSolverModel", "fixed", "[J", true)
  | 13 => ("PathSolverModel", "now", "[J", true)
  | 14 => ("PathSolverModel", "bits", "[I", true)
  | 15 => ("PathSolverModel", "termOf", "[I", true)
  | 16 => ("PathSolverModel", "value", "[I", true)
  | 17 => ("PathSolverModel", "model", "[I", true)
  | 18 => ("PathSolverModel", "signed", "[Z", true)
  | 19 => ("PathSolverModel", "table", "[I", true)
  | _ => ("PathSolverModel", "row", "[I", true)
def tyX10 : Nat → FieldType := fun k => match k with
  | 0 => .int
  | 1 => .int
  | 2 => .int
  | 3 => .int
  | 4 => .int
  | 5 => .int
  | 6 => .int
  | 7 => .array .int
  | 8 => .array .int
  | 9 => .array .int
  | 10 => .array .int
  | 11 => .array .int
  | 12 => .array .long
  | 13 => .array .long
  | 14 => .array .int
  | 15 => .array .int
  | 16 => .array .int
  | 17 => .array .int
  | 18 => .array .boolean
  | 19 => .array .int
  | _ => .array .int
abbrev wsX100 : List Cond := u_ws RX10 TX10 21
theorem nmX10 : ∀ a, a < 21 → ∀ b, b < 21 → a ≠ b → (TX10 a).2.1 ≠ (TX10 b).2.1 := by decide +kernel
theorem tyX10_ok : ∀ k, k < 21 → parseFieldDescriptor (TX10 k).2.2.1 = some (tyX10 k) := by decide +kernel
theorem inX10 : ∀ w ∈ wsX100, w ∈ AW := by decide +kernel
def RL : String := "PathSolverLaw"
abbrev cX9_init : ByteArray := prog_1_method_1_code
def yX9_init : MethodName := ⟨RX9, "<init>", "()V"⟩
def wsX9_init : List Cond := .code yX9_init cX9_init 1 none :: AW
abbrev cX2_init : ByteArray := prog_9_method_1_code
def yX2_init : MethodName := ⟨RX2, "<init>", "()V"⟩
def wsX2_init : List Cond := .code yX2_init cX2_init 1 none :: AW
abbrev cX3_init : ByteArray := prog_6_method_1_code
def yX3_init : MethodName := ⟨RX3, "<init>", "()V"⟩
def wsX3_init : List Cond := .code yX3_init cX3_init 1 none :: AW
abbrev cX4_init : ByteArray := prog_7_method_1_code
def yX4_init : MethodName := ⟨RX4, "<init>", "()V"⟩
def wsX4_init : List Cond := .code yX4_init cX4_init 1 none :: AW
abbrev cX5_init : ByteArray := prog_2_method_1_code
def yX5_init : MethodName := ⟨RX5, "<init>", "(LPathSolver$Terms;LPathSolver$Variables;LPathSolver$Tables;)V"⟩
def wsX5_init : List Cond := .code yX5_init cX5_init 4 none :: AW
abbrev cX6_init : ByteArray := prog_3_method_1_code
def yX6_init : MethodName := ⟨RX6, "<init>", "(LPathSolver$Terms;LPathSolver$Evaluator;)V"⟩
def wsX6_init : List Cond := .code yX6_init cX6_init 3 none :: AW
abbrev cX7_init : ByteArray := prog_8_method_1_code
def yX7_init : MethodName := ⟨RX7, "<init>", "(LPathSolver$Terms;LPathSolver$Variables;LPathSolver$Evaluator;)V"⟩
def wsX7_init : List Cond := .code yX7_init cX7_init 4 none :: AW
abbrev cX8_init : ByteArray := prog_5_method_1_code
def yX8_init : MethodName := ⟨RX8, "<init>", "(LPathSolver$TruthRows;)V"⟩
def wsX8_init : List Cond := .code yX8_init cX8_init 2 none :: AW
abbrev cX9_variable : ByteArray := prog_1_method_2_code
def yX9_variable : MethodName := ⟨RX9, "variable", "(IZ)I"⟩
def wsX9_variable : List Cond := .code yX9_variable cX9_variable 3 (some .int) :: AW
abbrev cX2_admits : ByteArray := prog_9_method_3_code
def yX2_admits : MethodName := ⟨RX2, "admits", "(I)Z"⟩
def wsX2_admits : List Cond := .code yX2_admits cX2_admits 2 (some .boolean) :: AW
abbrev cX4_isFull : ByteArray := prog_7_method_4_code
def yX4_isFull : MethodName := ⟨RX4, "isFull", "()Z"⟩
def wsX4_isFull : List Cond := .code yX4_isFull cX4_isFull 1 (some .boolean) :: AW
abbrev cX2_add : ByteArray := prog_9_method_4_code
def yX2_add : MethodName := ⟨RX2, "add", "(IZ)I"⟩
def wsX2_add : List Cond := .code yX2_add cX2_add 3 (some .int) :: AW
abbrev cX2_freeBits : ByteArray := prog_9_method_5_code
def yX2_freeBits : MethodName := ⟨RX2, "freeBits", "()I"⟩
def wsX2_freeBits : List Cond := .code yX2_freeBits cX2_freeBits 1 (some .int) :: AW
abbrev cX4_addVariable : ByteArray := prog_7_method_13_code
def yX4_addVariable : MethodName := ⟨RX4, "addVariable", "(I)I"⟩
def wsX4_addVariable : List Cond := .code yX4_addVariable cX4_addVariable 3 (some .int) :: AW
abbrev cX4_addPlain : ByteArray := prog_7_method_18_code
def yX4_addPlain : MethodName := ⟨RX4, "addPlain", "(II)I"⟩
def wsX4_addPlain : List Cond := .code yX4_addPlain cX4_addPlain 3 (some .int) :: AW
abbrev cX9_constant : ByteArray := prog_1_method_3_code
def yX9_constant : MethodName := ⟨RX9, "constant", "(IJ)I"⟩
def wsX9_constant : List Cond := .code yX9_constant cX9_constant 4 (some .int) :: AW
abbrev cX0_isOne : ByteArray := prog_10_method_2_code
def yX0_isOne : MethodName := ⟨RX0, "isOne", "(I)Z"⟩
def wsX0_isOne : List Cond := .code yX0_isOne cX0_isOne 1 (some .boolean) :: AW
abbrev cX4_findOrAddConstant : ByteArray := prog_7_method_14_code
def yX4_findOrAddConstant : MethodName := ⟨RX4, "findOrAddConstant", "(IJ)I"⟩
def wsX4_findOrAddConstant : List Cond := .code yX4_findOrAddConstant cX4_findOrAddConstant 7 (some .int) :: AW
abbrev cX0_readSigned : ByteArray := prog_10_method_3_code
def yX0_readSigned : MethodName := ⟨RX0, "readSigned", "(IJ)J"⟩
def wsX0_readSigned : List Cond := .code yX0_readSigned cX0_readSigned 4 (some .long) :: AW
abbrev cX4_isConstant : ByteArray := prog_7_method_9_code
def yX4_isConstant : MethodName := ⟨RX4, "isConstant", "(I)Z"⟩
def wsX4_isConstant : List Cond := .code yX4_isConstant cX4_isConstant 2 (some .boolean) :: AW
abbrev cX9_entry : ByteArray := prog_1_method_4_code
def yX9_entry : MethodName := ⟨RX9, "entry", "(III)I"⟩
def wsX9_entry : List Cond := .code yX9_entry cX9_entry 4 (some .int) :: AW
abbrev cX3_isTable : ByteArray := prog_6_method_2_code
def yX3_isTable : MethodName := ⟨RX3, "isTable", "(I)Z"⟩
def wsX3_isTable : List Cond := .code yX3_isTable cX3_isTable 1 (some .boolean) :: AW
abbrev cX3_isPlace : ByteArray := prog_6_method_3_code
def yX3_isPlace : MethodName := ⟨RX3, "isPlace", "(I)Z"⟩
def wsX3_isPlace : List Cond := .code yX3_isPlace cX3_isPlace 1 (some .boolean) :: AW
abbrev cX3_set : ByteArray := prog_6_method_4_code
def yX3_set : MethodName := ⟨RX3, "set", "(III)V"⟩
def wsX3_set : List Cond := .code yX3_set cX3_set 4 none :: AW
abbrev cX7_forgetReadersOf : ByteArray := prog_8_method_3_code
def yX7_forgetReadersOf : MethodName := ⟨RX7, "forgetReadersOf", "(I)V"⟩
def wsX7_forgetReadersOf : List Cond := .code yX7_forgetReadersOf cX7_forgetReadersOf 4 none :: AW
abbrev cX4_size : ByteArray := prog_7_method_2_code
def yX4_size : MethodName := ⟨RX4, "size", "()I"⟩
def wsX4_size : List Cond := .code yX4_size cX4_size 1 (some .int) :: AW
abbrev cX4_readsTable : ByteArray := prog_7_method_12_code
def yX4_readsTable : MethodName := ⟨RX4, "readsTable", "(II)Z"⟩
def wsX4_readsTable : List Cond := .code yX4_readsTable cX4_readsTable 3 (some .boolean) :: AW
abbrev cX9_term : ByteArray := prog_1_method_5_code
def yX9_term : MethodName := ⟨RX9, "term", "(IIII)I"⟩
def wsX9_term : List Cond := .code yX9_term cX9_term 5 (some .int) :: AW
abbrev cX6_accepts : ByteArray := prog_3_method_2_code
def yX6_accepts : MethodName := ⟨RX6, "accepts", "(IIII)Z"⟩
def wsX6_accepts : List Cond := .code yX6_accepts cX6_accepts 6 (some .boolean) :: AW
abbrev cX4_has : ByteArray := prog_7_method_5_code
def yX4_has : MethodName := ⟨RX4, "has", "(I)Z"⟩
def wsX4_has : List Cond := .code yX4_has cX4_has 2 (some .boolean) :: AW
abbrev cX4_widthOf : ByteArray := prog_7_method_6_code
def yX4_widthOf : MethodName := ⟨RX4, "widthOf", "(I)I"⟩
def wsX4_widthOf : List Cond := .code yX4_widthOf cX4_widthOf 2 (some .int) :: AW
abbrev cX6_areAlike : ByteArray := prog_3_method_5_code
def yX6_areAlike : MethodName := ⟨RX6, "areAlike", "(II)Z"⟩
def wsX6_areAlike : List Cond := .code yX6_areAlike cX6_areAlike 3 (some .boolean) :: AW
abbrev cX1_isThereFor : ByteArray := prog_4_method_5_code
def yX1_isThereFor : MethodName := ⟨RX1, "isThereFor", "(II)Z"⟩
def wsX1_isThereFor : List Cond := .code yX1_isThereFor cX1_isThereFor 2 (some .boolean) :: AW
abbrev cX6_make : ByteArray := prog_3_method_3_code
def yX6_make : MethodName := ⟨RX6, "make", "(IIII)I"⟩
def wsX6_make : List Cond := .code yX6_make cX6_make 8 (some .int) :: AW
abbrev cX1_named : ByteArray := prog_4_method_2_code
def yX1_named : MethodName := ⟨RX1, "named", "(I)I"⟩
def wsX1_named : List Cond := .code yX1_named cX1_named 1 (some .int) :: AW
abbrev cX1_namedTerms : ByteArray := prog_4_method_3_code
def yX1_namedTerms : MethodName := ⟨RX1, "namedTerms", "(I)I"⟩
def wsX1_namedTerms : List Cond := .code yX1_namedTerms cX1_namedTerms 1 (some .int) :: AW
abbrev cX6_areConstants : ByteArray := prog_3_method_6_code
def yX6_areConstants : MethodName := ⟨RX6, "areConstants", "(IIII)Z"⟩
def wsX6_areConstants : List Cond := .code yX6_areConstants cX6_areConstants 5 (some .boolean) :: AW
abbrev cX4_widthOfResult : ByteArray := prog_7_method_17_code
def yX4_widthOfResult : MethodName := ⟨RX4, "widthOfResult", "(III)I"⟩
def wsX4_widthOfResult : List Cond := .code yX4_widthOfResult cX4_widthOfResult 4 (some .int) :: AW
abbrev cX5_applyToConstants : ByteArray := prog_2_method_8_code
def yX5_applyToConstants : MethodName := ⟨RX5, "applyToConstants", "(IIII)J"⟩
def wsX5_applyToConstants : List Cond := .code yX5_applyToConstants cX5_applyToConstants 5 (some .long) :: AW
abbrev cX4_constants : ByteArray := prog_7_method_11_code
def yX4_constants : MethodName := ⟨RX4, "constants", "()[J"⟩
def wsX4_constants : List Cond := .code yX4_constants cX4_constants 1 (some (.array .long)) :: AW
abbrev cX5_apply : ByteArray := prog_2_method_9_code
def yX5_apply : MethodName := ⟨RX5, "apply", "(IIII[J)J"⟩
def wsX5_apply : List Cond := .code yX5_apply cX5_apply 7 (some .long) :: AW
abbrev cX1_ofOne : ByteArray := prog_4_method_7_code
def yX1_ofOne : MethodName := ⟨RX1, "ofOne", "(IIJ)J"⟩
def wsX1_ofOne : List Cond := .code yX1_ofOne cX1_ofOne 4 (some .long) :: AW
abbrev cX1_resized : ByteArray := prog_4_method_9_code
def yX1_resized : MethodName := ⟨RX1, "resized", "(IIIJ)J"⟩
def wsX1_resized : List Cond := .code yX1_resized cX1_resized 5 (some .long) :: AW
abbrev cX0_readPlain : ByteArray := prog_10_method_4_code
def yX0_readPlain : MethodName := ⟨RX0, "readPlain", "(IJ)J"⟩
def wsX0_readPlain : List Cond := .code yX0_readPlain cX0_readPlain 4 (some .long) :: AW
abbrev cX3_lookUp : ByteArray := prog_6_method_5_code
def yX3_lookUp : MethodName := ⟨RX3, "lookUp", "(IJ)J"⟩
def wsX3_lookUp : List Cond := .code yX3_lookUp cX3_lookUp 4 (some .long) :: AW
abbrev cX1_divided : ByteArray := prog_4_method_10_code
def yX1_divided : MethodName := ⟨RX1, "divided", "(IIJJ)J"⟩
def wsX1_divided : List Cond := .code yX1_divided cX1_divided 12 (some .long) :: AW
abbrev cX1_moved : ByteArray := prog_4_method_11_code
def yX1_moved : MethodName := ⟨RX1, "moved", "(IIJJ)J"⟩
def wsX1_moved : List Cond := .code yX1_moved cX1_moved 7 (some .long) :: AW
abbrev cX1_ofTwo : ByteArray := prog_4_method_8_code
def yX1_ofTwo : MethodName := ⟨RX1, "ofTwo", "(IIJJ)J"⟩
def wsX1_ofTwo : List Cond := .code yX1_ofTwo cX1_ofTwo 6 (some .long) :: AW
abbrev cX1_bit : ByteArray := prog_4_method_12_code
def yX1_bit : MethodName := ⟨RX1, "bit", "(Z)J"⟩
def wsX1_bit : List Cond := .code yX1_bit cX1_bit 1 (some .long) :: AW
abbrev cX1_changesPlaces : ByteArray := prog_4_method_4_code
def yX1_changesPlaces : MethodName := ⟨RX1, "changesPlaces", "(I)Z"⟩
def wsX1_changesPlaces : List Cond := .code yX1_changesPlaces cX1_changesPlaces 1 (some .boolean) :: AW
abbrev cX6_makeInPlace : ByteArray := prog_3_method_4_code
def yX6_makeInPlace : MethodName := ⟨RX6, "makeInPlace", "(IIII)I"⟩
def wsX6_makeInPlace : List Cond := .code yX6_makeInPlace cX6_makeInPlace 6 (some .int) :: AW
abbrev cX6_ofSameOperands : ByteArray := prog_3_method_7_code
def yX6_ofSameOperands : MethodName := ⟨RX6, "ofSameOperands", "(IIII)I"⟩
def wsX6_ofSameOperands : List Cond := .code yX6_ofSameOperands cX6_ofSameOperands 5 (some .int) :: AW
abbrev cX6_ofSettledChoice : ByteArray := prog_3_method_8_code
def yX6_ofSettledChoice : MethodName := ⟨RX6, "ofSettledChoice", "(III)I"⟩
def wsX6_ofSettledChoice : List Cond := .code yX6_ofSettledChoice cX6_ofSettledChoice 4 (some .int) :: AW
abbrev cX4_isZero : ByteArray := prog_7_method_10_code
def yX4_isZero : MethodName := ⟨RX4, "isZero", "(I)Z"⟩
def wsX4_isZero : List Cond := .code yX4_isZero cX4_isZero 2 (some .boolean) :: AW
abbrev cX6_ofZero : ByteArray := prog_3_method_9_code
def yX6_ofZero : MethodName := ⟨RX6, "ofZero", "(III)I"⟩
def wsX6_ofZero : List Cond := .code yX6_ofZero cX6_ofZero 4 (some .int) :: AW
abbrev cX6_ofUndoing : ByteArray := prog_3_method_10_code
def yX6_ofUndoing : MethodName := ⟨RX6, "ofUndoing", "(II)I"⟩
def wsX6_ofUndoing : List Cond := .code yX6_ofUndoing cX6_ofUndoing 4 (some .int) :: AW
abbrev cX4_operationOf : ByteArray := prog_7_method_7_code
def yX4_operationOf : MethodName := ⟨RX4, "operationOf", "(I)I"⟩
def wsX4_operationOf : List Cond := .code yX4_operationOf cX4_operationOf 2 (some .int) :: AW
abbrev cX4_operandOf : ByteArray := prog_7_method_8_code
def yX4_operandOf : MethodName := ⟨RX4, "operandOf", "(II)I"⟩
def wsX4_operandOf : List Cond := .code yX4_operandOf cX4_operandOf 3 (some .int) :: AW
abbrev cX4_find : ByteArray := prog_7_method_15_code
def yX4_find : MethodName := ⟨RX4, "find", "(IIII)I"⟩
def wsX4_find : List Cond := .code yX4_find cX4_find 6 (some .int) :: AW
abbrev cX4_add : ByteArray := prog_7_method_16_code
def yX4_add : MethodName := ⟨RX4, "add", "(IIII)I"⟩
def wsX4_add : List Cond := .code yX4_add cX4_add 8 (some .int) :: AW
abbrev cX1_costFor : ByteArray := prog_4_method_6_code
def yX1_costFor : MethodName := ⟨RX1, "costFor", "(II)I"⟩
def wsX1_costFor : List Cond := .code yX1_costFor cX1_costFor 2 (some .int) :: AW
abbrev cX4_noteTablesRead : ByteArray := prog_7_method_19_code
def yX4_noteTablesRead : MethodName := ⟨RX4, "noteTablesRead", "(I)V"⟩
def wsX4_noteTablesRead : List Cond := .code yX4_noteTablesRead cX4_noteTablesRead 5 none :: AW
abbrev cX9_take : ByteArray := prog_1_method_6_code
def yX9_take : MethodName := ⟨RX9, "take", "(I)I"⟩
def wsX9_take : List Cond := .code yX9_take cX9_take 2 (some .int) :: AW
abbrev cX8_isFull : ByteArray := prog_5_method_3_code
def yX8_isFull : MethodName := ⟨RX8, "isFull", "()Z"⟩
def wsX8_isFull : List Cond := .code yX8_isFull cX8_isFull 1 (some .boolean) :: AW
abbrev cX8_push : ByteArray := prog_5_method_5_code
def yX8_push : MethodName := ⟨RX8, "push", "(I)I"⟩
def wsX8_push : List Cond := .code yX8_push cX8_push 2 (some .int) :: AW
abbrev cX9_back : ByteArray := prog_1_method_7_code
def yX9_back : MethodName := ⟨RX9, "back", "()I"⟩
def wsX9_back : List Cond := .code yX9_back cX9_back 1 (some .int) :: AW
abbrev cX8_length : ByteArray := prog_5_method_2_code
def yX8_length : MethodName := ⟨RX8, "length", "()I"⟩
def wsX8_length : List Cond := .code yX8_length cX8_length 1 (some .int) :: AW
abbrev cX8_pop : ByteArray := prog_5_method_6_code
def yX8_pop : MethodName := ⟨RX8, "pop", "()I"⟩
def wsX8_pop : List Cond := .code yX8_pop cX8_pop 1 (some .int) :: AW
abbrev cX9_check : ByteArray := prog_1_method_8_code
def yX9_check : MethodName := ⟨RX9, "check", "()I"⟩
def wsX9_check : List Cond := .code yX9_check cX9_check 1 (some .int) :: AW
abbrev cX8_firstTaking : ByteArray := prog_5_method_7_code
def yX8_firstTaking : MethodName := ⟨RX8, "firstTaking", "()I"⟩
def wsX8_firstTaking : List Cond := .code yX8_firstTaking cX8_firstTaking 4 (some .int) :: AW
abbrev cX7_learn : ByteArray := prog_8_method_4_code
def yX7_learn : MethodName := ⟨RX7, "learn", "([II)V"⟩
def wsX7_learn : List Cond := .code yX7_learn cX7_learn 6 none :: AW
abbrev cX7_ask : ByteArray := prog_8_method_5_code
def yX7_ask : MethodName := ⟨RX7, "ask", "([II)V"⟩
def wsX7_ask : List Cond := .code yX7_ask cX7_ask 5 none :: AW
abbrev cX5_needNothing : ByteArray := prog_2_method_4_code
def yX5_needNothing : MethodName := ⟨RX5, "needNothing", "()V"⟩
def wsX5_needNothing : List Cond := .code yX5_needNothing cX5_needNothing 2 none :: AW
abbrev cX7_clearRow : ByteArray := prog_8_method_6_code
def yX7_clearRow : MethodName := ⟨RX7, "clearRow", "(I)V"⟩
def wsX7_clearRow : List Cond := .code yX7_clearRow cX7_clearRow 3 none :: AW
abbrev cX5_need : ByteArray := prog_2_method_5_code
def yX5_need : MethodName := ⟨RX5, "need", "(I)V"⟩
def wsX5_need : List Cond := .code yX5_need cX5_need 2 none :: AW
abbrev cX5_needOperands : ByteArray := prog_2_method_6_code
def yX5_needOperands : MethodName := ⟨RX5, "needOperands", "()V"⟩
def wsX5_needOperands : List Cond := .code yX5_needOperands cX5_needOperands 4 none :: AW
abbrev cX5_evaluateNeeded : ByteArray := prog_2_method_7_code
def yX5_evaluateNeeded : MethodName := ⟨RX5, "evaluateNeeded", "(I)V"⟩
def wsX5_evaluateNeeded : List Cond := .code yX5_evaluateNeeded cX5_evaluateNeeded 7 none :: AW
abbrev cX2_readAt : ByteArray := prog_9_method_7_code
def yX2_readAt : MethodName := ⟨RX2, "readAt", "(II)J"⟩
def wsX2_readAt : List Cond := .code yX2_readAt cX2_readAt 3 (some .long) :: AW
abbrev cX2_bitsAt : ByteArray := prog_9_method_6_code
def yX2_bitsAt : MethodName := ⟨RX2, "bitsAt", "(II)I"⟩
def wsX2_bitsAt : List Cond := .code yX2_bitsAt cX2_bitsAt 3 (some .int) :: AW
abbrev cX7_noteAsked : ByteArray := prog_8_method_7_code
def yX7_noteAsked : MethodName := ⟨RX7, "noteAsked", "(II)V"⟩
def wsX7_noteAsked : List Cond := .code yX7_noteAsked cX7_noteAsked 4 none :: AW
abbrev cX5_resultAt : ByteArray := prog_2_method_2_code
def yX5_resultAt : MethodName := ⟨RX5, "resultAt", "(I)J"⟩
def wsX5_resultAt : List Cond := .code yX5_resultAt cX5_resultAt 2 (some .long) :: AW
abbrev cX7_setBits : ByteArray := prog_8_method_8_code
def yX7_setBits : MethodName := ⟨RX7, "setBits", "(III)V"⟩
def wsX7_setBits : List Cond := .code yX7_setBits cX7_setBits 5 none :: AW
abbrev cX8_holdingBefore : ByteArray := prog_5_method_9_code
def yX8_holdingBefore : MethodName := ⟨RX8, "holdingBefore", "(II)J"⟩
def wsX8_holdingBefore : List Cond := .code yX8_holdingBefore cX8_holdingBefore 6 (some .long) :: AW
abbrev cX7_wordOf : ByteArray := prog_8_method_2_code
def yX7_wordOf : MethodName := ⟨RX7, "wordOf", "(II)J"⟩
def wsX7_wordOf : List Cond := .code yX7_wordOf cX7_wordOf 3 (some .long) :: AW
abbrev cX8_lowestBit : ByteArray := prog_5_method_10_code
def yX8_lowestBit : MethodName := ⟨RX8, "lowestBit", "(J)I"⟩
def wsX8_lowestBit : List Cond := .code yX8_lowestBit cX8_lowestBit 3 (some .int) :: AW
abbrev cX9_settle : ByteArray := prog_1_method_18_code
def yX9_settle : MethodName := ⟨RX9, "settle", "(I)Z"⟩
def wsX9_settle : List Cond := .code yX9_settle cX9_settle 2 (some .boolean) :: AW
abbrev cX2_size : ByteArray := prog_9_method_2_code
def yX2_size : MethodName := ⟨RX2, "size", "()I"⟩
def wsX2_size : List Cond := .code yX2_size cX2_size 1 (some .int) :: AW
abbrev cX9_flip : ByteArray := prog_1_method_9_code
def yX9_flip : MethodName := ⟨RX9, "flip", "(I)I"⟩
def wsX9_flip : List Cond := .code yX9_flip cX9_flip 2 (some .int) :: AW
abbrev cX8_firstLeavingAt : ByteArray := prog_5_method_8_code
def yX8_firstLeavingAt : MethodName := ⟨RX8, "firstLeavingAt", "(I)I"⟩
def wsX8_firstLeavingAt : List Cond := .code yX8_firstLeavingAt cX8_firstLeavingAt 5 (some .int) :: AW
abbrev cX9_search : ByteArray := prog_1_method_10_code
def yX9_search : MethodName := ⟨RX9, "search", "(I)I"⟩
def wsX9_search : List Cond := .code yX9_search cX9_search 4 (some .int) :: AW
abbrev cX9_model : ByteArray := prog_1_method_11_code
def yX9_model : MethodName := ⟨RX9, "model", "(I)I"⟩
def wsX9_model : List Cond := .code yX9_model cX9_model 2 (some .int) :: AW
abbrev cX9_value : ByteArray := prog_1_method_12_code
def yX9_value : MethodName := ⟨RX9, "value", "(I)J"⟩
def wsX9_value : List Cond := .code yX9_value cX9_value 2 (some .long) :: AW
abbrev cX5_needOnly : ByteArray := prog_2_method_3_code
def yX5_needOnly : MethodName := ⟨RX5, "needOnly", "(I)V"⟩
def wsX5_needOnly : List Cond := .code yX5_needOnly cX5_needOnly 2 none :: AW
abbrev cX9_follows : ByteArray := prog_1_method_13_code
def yX9_follows : MethodName := ⟨RX9, "follows", "()I"⟩
def wsX9_follows : List Cond := .code yX9_follows cX9_follows 3 (some .int) :: AW
abbrev cX8_conditionAt : ByteArray := prog_5_method_4_code
def yX8_conditionAt : MethodName := ⟨RX8, "conditionAt", "(I)I"⟩
def wsX8_conditionAt : List Cond := .code yX8_conditionAt cX8_conditionAt 2 (some .int) :: AW
abbrev cX9_width : ByteArray := prog_1_method_14_code
def yX9_width : MethodName := ⟨RX9, "width", "(I)I"⟩
def wsX9_width : List Cond := .code yX9_width cX9_width 2 (some .int) :: AW
abbrev cX9_operation : ByteArray := prog_1_method_15_code
def yX9_operation : MethodName := ⟨RX9, "operation", "(I)I"⟩
def wsX9_operation : List Cond := .code yX9_operation cX9_operation 2 (some .int) :: AW
abbrev cX9_operand : ByteArray := prog_1_method_16_code
def yX9_operand : MethodName := ⟨RX9, "operand", "(II)I"⟩
def wsX9_operand : List Cond := .code yX9_operand cX9_operand 3 (some .int) :: AW
abbrev cX9_count : ByteArray := prog_1_method_17_code
def yX9_count : MethodName := ⟨RX9, "count", "(I)I"⟩
def wsX9_count : List Cond := .code yX9_count cX9_count 2 (some .int) :: AW
abbrev cX4_totalCost : ByteArray := prog_7_method_3_code
def yX4_totalCost : MethodName := ⟨RX4, "totalCost", "()I"⟩
def wsX4_totalCost : List Cond := .code yX4_totalCost cX4_totalCost 1 (some .int) :: AW
abbrev cX10_init : ByteArray := prog_12_method_1_code
def yX10_init : MethodName := ⟨RX10, "<init>", "()V"⟩
def wsX10_init : List Cond := .code yX10_init cX10_init 1 none :: AW
abbrev cX10_variable : ByteArray := prog_12_method_7_code
def yX10_variable : MethodName := ⟨RX10, "variable", "(IZ)I"⟩
def wsX10_variable : List Cond := .code yX10_variable cX10_variable 5 (some .int) :: AW
abbrev cX10_fresh : ByteArray := prog_12_method_6_code
def yX10_fresh : MethodName := ⟨RX10, "fresh", "(IIIII)I"⟩
def wsX10_fresh : List Cond := .code yX10_fresh cX10_fresh 6 (some .int) :: AW
abbrev cX10_constant : ByteArray := prog_12_method_8_code
def yX10_constant : MethodName := ⟨RX10, "constant", "(IJ)I"⟩
def wsX10_constant : List Cond := .code yX10_constant cX10_constant 4 (some .int) :: AW
abbrev cX10_isWidth : ByteArray := prog_12_method_2_code
def yX10_isWidth : MethodName := ⟨RX10, "isWidth", "(I)Z"⟩
def wsX10_isWidth : List Cond := .code yX10_isWidth cX10_isWidth 2 (some .boolean) :: AW
abbrev cX10_constantOf : ByteArray := prog_12_method_9_code
def yX10_constantOf : MethodName := ⟨RX10, "constantOf", "(IJ)I"⟩
def wsX10_constantOf : List Cond := .code yX10_constantOf cX10_constantOf 5 (some .int) :: AW
abbrev cX10_cut : ByteArray := prog_12_method_3_code
def yX10_cut : MethodName := ⟨RX10, "cut", "(JI)J"⟩
def wsX10_cut : List Cond := .code yX10_cut cX10_cut 4 (some .long) :: AW
abbrev cX10_entry : ByteArray := prog_12_method_10_code
def yX10_entry : MethodName := ⟨RX10, "entry", "(III)I"⟩
def wsX10_entry : List Cond := .code yX10_entry cX10_entry 4 (some .int) :: AW
abbrev cX10_term : ByteArray := prog_12_method_20_code
def yX10_term : MethodName := ⟨RX10, "term", "(IIII)I"⟩
def wsX10_term : List Cond := .code yX10_term cX10_term 7 (some .int) :: AW
abbrev cX10_fits : ByteArray := prog_12_method_15_code
def yX10_fits : MethodName := ⟨RX10, "fits", "(IIII)Z"⟩
def wsX10_fits : List Cond := .code yX10_fits cX10_fits 6 (some .boolean) :: AW
abbrev cX10_none : ByteArray := prog_12_method_5_code
def yX10_none : MethodName := ⟨RX10, "none", "(I)Z"⟩
def wsX10_none : List Cond := .code yX10_none cX10_none 2 (some .boolean) :: AW
abbrev cX10_isConst : ByteArray := prog_12_method_16_code
def yX10_isConst : MethodName := ⟨RX10, "isConst", "(I)Z"⟩
def wsX10_isConst : List Cond := .code yX10_isConst cX10_isConst 2 (some .boolean) :: AW
abbrev cX10_widthOf : ByteArray := prog_12_method_18_code
def yX10_widthOf : MethodName := ⟨RX10, "widthOf", "(III)I"⟩
def wsX10_widthOf : List Cond := .code yX10_widthOf cX10_widthOf 4 (some .int) :: AW
abbrev cX10_result : ByteArray := prog_12_method_14_code
def yX10_result : MethodName := ⟨RX10, "result", "(IIII)J"⟩
def wsX10_result : List Cond := .code yX10_result cX10_result 5 (some .long) :: AW
abbrev cX10_sign : ByteArray := prog_12_method_4_code
def yX10_sign : MethodName := ⟨RX10, "sign", "(JI)J"⟩
def wsX10_sign : List Cond := .code yX10_sign cX10_sign 4 (some .long) :: AW
abbrev cX10_plain : ByteArray := prog_12_method_13_code
def yX10_plain : MethodName := ⟨RX10, "plain", "(IJJI)J"⟩
def wsX10_plain : List Cond := .code yX10_plain cX10_plain 7 (some .long) :: AW
abbrev cX10_less : ByteArray := prog_12_method_12_code
def yX10_less : MethodName := ⟨RX10, "less", "(JJ)J"⟩
def wsX10_less : List Cond := .code yX10_less cX10_less 5 (some .long) :: AW
abbrev cX10_shifted : ByteArray := prog_12_method_11_code
def yX10_shifted : MethodName := ⟨RX10, "shifted", "(IJJI)J"⟩
def wsX10_shifted : List Cond := .code yX10_shifted cX10_shifted 8 (some .long) :: AW
abbrev cX10_simple : ByteArray := prog_12_method_22_code
def yX10_simple : MethodName := ⟨RX10, "simple", "(IIII)I"⟩
def wsX10_simple : List Cond := .code yX10_simple cX10_simple 10 (some .int) :: AW
abbrev cX10_shorter : ByteArray := prog_12_method_21_code
def yX10_shorter : MethodName := ⟨RX10, "shorter", "(IIII)I"⟩
def wsX10_shorter : List Cond := .code yX10_shorter cX10_shorter 6 (some .int) :: AW
abbrev cX10_isZero : ByteArray := prog_12_method_17_code
def yX10_isZero : MethodName := ⟨RX10, "isZero", "(I)Z"⟩
def wsX10_isZero : List Cond := .code yX10_isZero cX10_isZero 2 (some .boolean) :: AW
abbrev cX10_cost : ByteArray := prog_12_method_19_code
def yX10_cost : MethodName := ⟨RX10, "cost", "(II)I"⟩
def wsX10_cost : List Cond := .code yX10_cost cX10_cost 3 (some .int) :: AW
abbrev cX10_take : ByteArray := prog_12_method_23_code
def yX10_take : MethodName := ⟨RX10, "take", "(I)I"⟩
def wsX10_take : List Cond := .code yX10_take cX10_take 2 (some .int) :: AW
abbrev cX10_back : ByteArray := prog_12_method_24_code
def yX10_back : MethodName := ⟨RX10, "back", "()I"⟩
def wsX10_back : List Cond := .code yX10_back cX10_back 1 (some .int) :: AW
abbrev cX10_check : ByteArray := prog_12_method_28_code
def yX10_check : MethodName := ⟨RX10, "check", "()I"⟩
def wsX10_check : List Cond := .code yX10_check cX10_check 1 (some .int) :: AW
abbrev cX10_solve : ByteArray := prog_12_method_26_code
def yX10_solve : MethodName := ⟨RX10, "solve", "(IZ)Z"⟩
def wsX10_solve : List Cond := .code yX10_solve cX10_solve 8 (some .boolean) :: AW
abbrev cX10_work : ByteArray := prog_12_method_25_code
def yX10_work : MethodName := ⟨RX10, "work", "()V"⟩
def wsX10_work : List Cond := .code yX10_work cX10_work 2 none :: AW
abbrev cX10_answer : ByteArray := prog_12_method_27_code
def yX10_answer : MethodName := ⟨RX10, "answer", "(Z)I"⟩
def wsX10_answer : List Cond := .code yX10_answer cX10_answer 3 (some .int) :: AW
abbrev cX10_flip : ByteArray := prog_12_method_29_code
def yX10_flip : MethodName := ⟨RX10, "flip", "(I)I"⟩
def wsX10_flip : List Cond := .code yX10_flip cX10_flip 2 (some .int) :: AW
abbrev cX10_search : ByteArray := prog_12_method_30_code
def yX10_search : MethodName := ⟨RX10, "search", "(I)I"⟩
def wsX10_search : List Cond := .code yX10_search cX10_search 4 (some .int) :: AW
abbrev cX10_model : ByteArray := prog_12_method_32_code
def yX10_model : MethodName := ⟨RX10, "model", "(I)I"⟩
def wsX10_model : List Cond := .code yX10_model cX10_model 2 (some .int) :: AW
abbrev cX10_value : ByteArray := prog_12_method_33_code
def yX10_value : MethodName := ⟨RX10, "value", "(I)J"⟩
def wsX10_value : List Cond := .code yX10_value cX10_value 2 (some .long) :: AW
abbrev cX10_takeModel : ByteArray := prog_12_method_31_code
def yX10_takeModel : MethodName := ⟨RX10, "takeModel", "()V"⟩
def wsX10_takeModel : List Cond := .code yX10_takeModel cX10_takeModel 2 none :: AW
abbrev cX10_follows : ByteArray := prog_12_method_34_code
def yX10_follows : MethodName := ⟨RX10, "follows", "()I"⟩
def wsX10_follows : List Cond := .code yX10_follows cX10_follows 2 (some .int) :: AW
abbrev cX10_width : ByteArray := prog_12_method_35_code
def yX10_width : MethodName := ⟨RX10, "width", "(I)I"⟩
def wsX10_width : List Cond := .code yX10_width cX10_width 2 (some .int) :: AW
abbrev cX10_operation : ByteArray := prog_12_method_36_code
def yX10_operation : MethodName := ⟨RX10, "operation", "(I)I"⟩
def wsX10_operation : List Cond := .code yX10_operation cX10_operation 2 (some .int) :: AW
abbrev cX10_operand : ByteArray := prog_12_method_37_code
def yX10_operand : MethodName := ⟨RX10, "operand", "(II)I"⟩
def wsX10_operand : List Cond := .code yX10_operand cX10_operand 4 (some .int) :: AW
abbrev cX10_count : ByteArray := prog_12_method_38_code
def yX10_count : MethodName := ⟨RX10, "count", "(I)I"⟩
def wsX10_count : List Cond := .code yX10_count cX10_count 2 (some .int) :: AW
abbrev vwCl : List vw_C := [(RX2, TX2, 5), (RX3, TX3, 1), (RX4, TX4, 7), (RX5, TX5, 5), (RX6, TX6, 2), (RX7, TX7, 7), (RX8, TX8, 3), (RX9, TX9, 11), (RX10, TX10, 21)]
theorem aw_in {w : Cond} (h : w ∈ AW) : w ∈ AW ∧ ((w.onTables && w.keeps) = true ∨ ∃ ty, w = .arrayClass ty) := ⟨h, good_of_word (List.mem_filter.mp h).2⟩
theorem aw_cons {cw : Cond} (h : cw ∈ AW) : ∀ w ∈ cw :: AW, w ∈ AW := fun w hw => (List.mem_cons.mp hw).elim (fun e => e ▸ h) (fun h => h)
theorem aw_V {own C : String} {idx : Nat} {y : MethodName} {cw : Cond} (h1 : .methodLink own idx y ∈ AW) (h2 : .instanceMethod y ∈ AW) (h3 : .selects C y y ∈ AW) (h4 : .initialized C ∈ AW) (h5 : cw ∈ AW) : GoodIn AW (wsV own idx C y (cw :: AW)) := by
  intro w hw
  refine aw_in ?_
  rcases List.mem_append.mp hw with h | h
  · simp only [List.mem_cons, List.not_mem_nil, or_false] at h
    rcases h with rfl | rfl | rfl | rfl <;> assumption
  · exact aw_cons h5 w h
theorem aw_S {own : String} {idx : Nat} {y : MethodName} {cw : Cond} (h1 : .methodLink own idx y ∈ AW) (h2 : .static y ∈ AW) (h3 : .initialized y.cls ∈ AW) (h5 : cw ∈ AW) : GoodIn AW (va_wsS own idx y (cw :: AW)) := by
  intro w hw
  refine aw_in ?_
  rcases List.mem_append.mp hw with h | h
  · simp only [List.mem_cons, List.not_mem_nil, or_false] at h
    rcases h with rfl | rfl | rfl <;> assumption
  · exact aw_cons h5 w h
theorem aw_law {args : Array Value} {s : State} (h : ∀ w ∈ lw_tbl, w.before args s = true) : ∀ w ∈ AW, w.before args s = true := fun w hw => h w (List.mem_filter.mp hw).1
theorem aw_I {cw : Cond} (h5 : cw ∈ AW) : GoodIn AW (cw :: AW) := fun w hw => aw_in (aw_cons h5 w hw)
theorem aw_hts {cw : Cond} {args : Array Value} {s : State} (h : ∀ w ∈ cw :: AW, w.before args s = true) : ∀ w ∈ AW, w.before args s = true := fun w hw => h w (List.mem_cons_of_mem _ hw)
end
section
/-! THE STATE of a side: its int fields, its int arrays (booleans as ints), its long arrays, each by a number of ours -/
abbrev XS : Type := (Nat → Int32) × (Nat → Nat → Int32) × (Nat → Nat → Int64)
def gI (S : XS) (k : Nat) : Int32 := S.1 k
def fA (S : XS) (k : Nat) : Nat → Int32 := S.2.1 k
def fL (S : XS) (k : Nat) : Nat → Int64 := S.2.2 k
def wI (S : XS) (k : Nat) (v : Int32) : XS := (va_up S.1 k v, S.2)
def wA (S : XS) (k n : Nat) (v : Int32) : XS := (S.1, va_up S.2.1 k (upd (S.2.1 k) n v), S.2.2)
def wL (S : XS) (k n : Nat) (v : Int64) : XS := (S.1, S.2.1, va_up S.2.2 k (vp_updL (S.2.2 k) n v))
abbrev wl_prR (D : va_G) (cl : List vw_C) (tys : List (ClassId × FieldType)) (ws : va_W) (U : State) : Prop := va_P D cl ws U.heap ∧ va_K D cl tys U
abbrev wl_pre {S : Type} (D : va_G) (cl : List vw_C) (tys : List (ClassId × FieldType)) (wf : S → va_W) (st : S) (sz : Nat) (U : State) : Prop := U.heap.size = sz ∧ va_P D cl (wf st) U.heap ∧ va_K D cl tys U ∧ va_D (fun _ => True) (wf st)
abbrev wl_at {S : Type} (D : va_G) (cl : List vw_C) (tys : List (ClassId × FieldType)) (wf : S → va_W) (A : Nat → Prop) (u : S) (t : State) : Prop := va_P D cl (wf u) t.heap ∧ va_K D cl tys t ∧ va_D A (wf u)
theorem wl_pR {s : State} {H : Heap} {D : va_G} {cl : List vw_C} {tys : List (ClassId × FieldType)} {ws : va_W} {b q0 ci : Nat} {C : String} {T : u_T} {N : Nat} {fs : List Value} {As : List Value} (hK : va_K D cl tys s) (hP : va_P D cl ws H) (hc : cl[ci]? = some (C, T, N)) (he : ws[q0]? = some (b, .inr (ci, fs))) : PreV s H C b (va_Pc (.ref b :: As) (wl_prR D cl tys ws)) As :=
  ⟨fun a U g mk q => ⟨q.1, q.2.1, va_K.moved (u := U) (U := U.calling g mk a) (Vm.Alike.refl U.vm) q.2.2⟩, va_recv hK hP hc he, fun U hU hW => ⟨rfl, by rw [hU]; exact hP, va_K.moved hW.alike hK⟩⟩
theorem wl_pM {S : Type} {s : State} {H : Heap} {D : va_G} {cl : List vw_C} {tys : List (ClassId × FieldType)} {A : Nat → Prop} {wf : S → va_W} {st : S} {b q0 ci : Nat} {C : String} {T : u_T} {N : Nat} {fs : List Value} {As : List Value} (hK : va_K D cl tys s) (hP : va_P D cl (wf st) H) (hD : va_D A (wf st)) (hc : cl[ci]? = some (C, T, N)) (he : (wf st)[q0]? = some (b, .inr (ci, fs))) : PreV s H C b (va_Pc (.ref b :: As) (wl_pre D cl tys wf st H.size)) As :=
  ⟨fun a U g mk q => ⟨q.1, q.2.1, q.2.2.1, va_K.moved (u := U) (U := U.calling g mk a) (Vm.Alike.refl U.vm) q.2.2.2.1, q.2.2.2.2⟩, va_recv hK hP hc he, fun U hU hW => ⟨rfl, by rw [hU], by rw [hU]; exact hP, va_K.moved hW.alike hK, hD.weaken (fun _ _ _ _ => trivial)⟩⟩
section WL
variable {p : Program} {l : Launch} {e : Env} {R : Room} {s : State} {m : MethodId} {args : Array Value} {below : List Frame} {meth : Method} {c : Code} {H : Heap} {locs : List Loc} {cells slots : Nat} {Q : State → Prop} {pc : Nat} {ls : Array Slot} {st0 rest : List Value} {a : Array Value} {A : Nat → Prop} {D : va_G} {cl : List vw_C} {tys : List (ClassId × FieldType)}
theorem wl_ci {F : Int32} (hr : va_Run p l e R s m args below meth c H locs cells slots 0 0 (F0 m pc ls st0) rest (vp_Si (fun r => r = F) a) (fun _ => False)) (kk : W p l e R s m args below meth c H locs cells slots Q (F0 m (pc + 3) ls (.int F :: rest))) : W p l e R s m args below meth c H locs cells slots Q (F0 m pc ls st0) :=
  vp_callSi hr.run (fun r h => by subst h; exact kk)
theorem wl_cl {F : Int64} (hr : va_Run p l e R s m args below meth c H locs cells slots 0 0 (F0 m pc ls st0) rest (vp_Sl (fun r => r = F) a) (fun _ => False)) (kk : W p l e R s m args below meth c H locs cells slots Q (F0 m (pc + 3) ls (.long F :: rest))) : W p l e R s m args below meth c H locs cells slots Q (F0 m pc ls st0) :=
  vp_callSl hr.run (fun r h => by subst h; exact kk)
theorem wl_cr {v : Value} (hr : va_Run p l e R s m args below meth c H locs cells slots 0 0 (F0 m pc ls st0) rest (va_Sr (fun _ => True) (fun _ => v) a) (fun _ => False)) (kk : W p l e R s m args below meth c H locs cells slots Q (F0 m (pc + 3) ls (v :: rest))) : W p l e R s m args below meth c H locs cells slots Q (F0 m pc ls st0) :=
  va_csr hr.run (fun _ _ => kk)
theorem wl_cu (hr : va_Run p l e R s m args below meth c H locs cells slots 0 0 (F0 m pc ls st0) rest (va_Sv (fun _ => True) a) (fun _ => False)) (kk : W p l e R s m args below meth c H locs cells slots Q (F0 m (pc + 3) ls rest)) : W p l e R s m args below meth c H locs cells slots Q (F0 m pc ls st0) :=
  va_csv hr.run (fun _ => kk)
theorem wl_fr {S : Type} {wf : S → va_W} {st : S} {H0 : Heap} (hD : va_D A (wf st)) (hS : va_S A H0 H locs) (hA : ∀ q, H0.size ≤ q → A q) : ∀ q, va_A (wf st) H.size q → A q := by
  intro q h
  rcases h with ⟨k, x, h⟩ | h
  · exact hD.2 k (q, x) h
  · exact hA q (Nat.le_trans hS.1 h)
theorem wl_mi {S : Type} {wf : S → va_W} {st : S} {F : Int32 × S} (hr : va_Run p l e R s m args below meth c H locs cells slots 0 0 (F0 m pc ls st0) rest (va_Qi (fun r u => (r, u) = F) (wl_at D cl tys wf (va_A (wf st) H.size)) (va_A (wf st) H.size) a) (va_A (wf st) H.size)) (hP : va_P D cl (wf st) H) (hD : va_D A (wf st)) (hS : va_S A s.heap H locs) (hA : ∀ q, s.heap.size ≤ q → A q) (kk : ∀ (r : Int32) (u : S) (H1 : Heap) (locs1 : List Loc), (r, u) = F → va_P D cl (wf u) H1 → va_D A (wf u) → va_S A s.heap H1 locs1 → W p l e R s m args below meth c H1 locs1 cells slots Q (F0 m (pc + 3) ls (.int r :: rest))) : W p l e R s m args below meth c H locs cells slots Q (F0 m pc ls st0) := by
  have hF := wl_fr hD hS hA
  refine va_calli hr hS (fun q _ h => hF q h) hF (fun r u t H1 locs1 ht hvm hw hB hz1 hk1 hS1 => ?_)
  obtain ⟨hP1, hK1, hD1⟩ := hB
  exact kk r u H1 locs1 hw (by rw [← ht]; exact hP1) (hD1.weaken (fun k q _ h => hF q.1 h)) hS1
theorem wl_ml {S : Type} {wf : S → va_W} {st : S} {F : Int64 × S} (hr : va_Run p l e R s m args below meth c H locs cells slots 0 0 (F0 m pc ls st0) rest (va_Ql (fun r u => (r, u) = F) (wl_at D cl tys wf (va_A (wf st) H.size)) (va_A (wf st) H.size) a) (va_A (wf st) H.size)) (hP : va_P D cl (wf st) H) (hD : va_D A (wf st)) (hS : va_S A s.heap H locs) (hA : ∀ q, s.heap.size ≤ q → A q) (kk : ∀ (r : Int64) (u : S) (H1 : Heap) (locs1 : List Loc), (r, u) = F → va_P D cl (wf u) H1 → va_D A (wf u) → va_S A s.heap H1 locs1 → W p l e R s m args below meth c H1 locs1 cells slots Q (F0 m (pc + 3) ls (.long r :: rest))) : W p l e R s m args below meth c H locs cells slots Q (F0 m pc ls st0) := by
  have hF := wl_fr hD hS hA
  refine va_calll hr hS (fun q _ h => hF q h) hF (fun r u t H1 locs1 ht hvm hw hB hz1 hk1 hS1 => ?_)
  obtain ⟨hP1, hK1, hD1⟩ := hB
  exact kk r u H1 locs1 hw (by rw [← ht]; exact hP1) (hD1.weaken (fun k q _ h => hF q.1 h)) hS1
theorem wl_mv {S : Type} {wf : S → va_W} {st : S} {F : S} (hr : va_Run p l e R s m args below meth c H locs cells slots 0 0 (F0 m pc ls st0) rest (va_Qv (fun u => u = F) (wl_at D cl tys wf (va_A (wf st) H.size)) (va_A (wf st) H.size) a) (va_A (wf st) H.size)) (hP : va_P D cl (wf st) H) (hD : va_D A (wf st)) (hS : va_S A s.heap H locs) (hA : ∀ q, s.heap.size ≤ q → A q) (kk : ∀ (u : S) (H1 : Heap) (locs1 : List Loc), u = F → va_P D cl (wf u) H1 → va_D A (wf u) → va_S A s.heap H1 locs1 → W p l e R s m args below meth c H1 locs1 cells slots Q (F0 m (pc + 3) ls rest)) : W p l e R s m args below meth c H locs cells slots Q (F0 m pc ls st0) := by
  have hF := wl_fr hD hS hA
  refine va_callv hr hS (fun q _ h => hF q h) hF (fun u t H1 locs1 ht hvm hw hB hz1 hk1 hS1 => ?_)
  obtain ⟨hP1, hK1, hD1⟩ := hB
  exact kk u H1 locs1 hw (by rw [← ht]; exact hP1) (hD1.weaken (fun k q _ h => hF q.1 h)) hS1
end WL
theorem wl_lt {N i : Nat} (h : ¬ nI N ≤ nI i) (hi : i < 2147483648) : i < N := by
  rcases Nat.lt_or_ge i N with q | q
  · exact q
  · exact absurd (nI_le q hi) h
theorem wl_ge {N i : Nat} (h : nI N ≤ nI i) (hN : N < 2147483648) : N ≤ i := by
  rcases Nat.lt_or_ge i N with q | q
  · exact absurd h (nI_ge q hN)
  · exact q
theorem wl_in {j N : Nat} (h : j < N) (hN : N < 2147483648) : vp_in (nI j) N := vp_in_nI h hN
theorem wl_tabD {p : Program} {l : Launch} {e : Env} {R : Room} {s : State} {m : MethodId} {args : Array Value} {below : List Frame} {meth : Method} {c : Code} {H : Heap} {locs : List Loc} {cells slots : Nat} {Q : State → Prop} {pc : Nat} {ls : Array Slot} {rest : List Value} {cc : ByteArray} (hexec : p.tables.exec = Jvm.exec) (hb : c.code = cc) {dflt lo hi : Int} {offs : Array Int} {len : Nat} {x : Int32} {tgt : Nat} {ks : List Int} (hdg : decode cc pc = .ok (.tableswitch dflt lo hi offs, len)) (hN : hi - lo + 1 = (offs.size : Int)) (hoff : ∀ j : Fin offs.size, lo + ((j.1 : Nat) : Int) ∈ ks ∨ offs[j.1] = dflt) (hks : ∀ k ∈ ks, ¬ x.toInt = k) (ht : (pc : Int) + dflt = (tgt : Int)) (k : W p l e R s m args below meth c H locs cells slots Q (F0 m tgt ls rest)) : W p l e R s m args below meth c H locs cells slots Q (F0 m pc ls (.int x :: rest)) := by
  by_cases h1 : x.toInt < lo
  · exact lv_tableOut hexec hb hdg (Or.inl h1) ht k
  · by_cases h2 : hi < x.toInt
    · exact lv_tableOut hexec hb hdg (Or.inr h2) ht k
    · have hj : (x.toInt - lo).toNat < offs.size := by omega
      refine lv_tableIn hexec hb hdg h1 h2 (off := dflt) ?_ ht k
      rcases hoff ⟨_, hj⟩ with h | h
      · exact absurd (by show x.toInt = lo + ((x.toInt - lo).toNat : Int); omega) (hks _ h)
      · rw [Array.getElem?_eq_getElem hj]
        exact congrArg some h

/-! numbers in range, as the walks need them -/
theorem wl_i3 {t : Nat} (j : Nat) (ht : t < 64) (hj : j < 3) : vp_in (nI t * (3 : Int32) + nI j) 192 := by
  rw [show (3 : Int32) = nI 3 from rfl, pk_mul, nI_add]; exact vp_in_nI (by omega) (by decide)
theorem wl_i30 {t : Nat} (ht : t < 64) : vp_in (nI t * (3 : Int32)) 192 := by
  rw [show (3 : Int32) = nI 3 from rfl, pk_mul]; exact vp_in_nI (by omega) (by decide)
theorem wl_c3 {t : Nat} (j : Nat) (ht : t < 64) (hj : j < 3) : (nI t * (3 : Int32) + nI j).toNatClampNeg = 3 * t + j := by
  rw [show (3 : Int32) = nI 3 from rfl, pk_mul, nI_add, nI_clamp (by omega)]; omega
theorem wl_c30 {t : Nat} (ht : t < 64) : (nI t * (3 : Int32)).toNatClampNeg = 3 * t := by
  rw [show (3 : Int32) = nI 3 from rfl, pk_mul, nI_clamp (by omega)]; omega
theorem wl_i16 {x : Int32} {j : Nat} (h : vp_in x 64) (hj : j < 16) : vp_in (x * (16 : Int32) + nI j) 1024 := by
  obtain ⟨t, ht, rfl⟩ := vp_in_of h (by decide)
  rw [show (16 : Int32) = nI 16 from rfl, pk_mul, nI_add]; exact vp_in_nI (by omega) (by decide)
theorem wl_c16 {t j : Nat} (ht : t < 64) (hj : j < 16) : (nI t * (16 : Int32) + nI j).toNatClampNeg = 16 * t + j := by
  rw [show (16 : Int32) = nI 16 from rfl, pk_mul, nI_add, nI_clamp (by omega)]; omega
theorem wl_sb {x : Int32} {i : Nat} (h : vp_in x 64) (hi : i < 1024) : vp_in (x * (16 : Int32) + nI i / (64 : Int32)) 1024 := by
  rw [show (64 : Int32) = nI 64 from rfl, pk_div (by omega) (by decide) (by decide)]
  exact wl_i16 h (by omega)
/-- of the fields and arrays all but those named are as they were -/
def XF (Is As Ls : List Nat) (st S : XS) : Prop := (∀ k, k ∉ Is → S.1 k = st.1 k) ∧ (∀ k, k ∉ As → S.2.1 k = st.2.1 k) ∧ ∀ k, k ∉ Ls → S.2.2 k = st.2.2 k
theorem XF.rf {Is As Ls : List Nat} {st : XS} : XF Is As Ls st st := ⟨fun _ _ => rfl, fun _ _ => rfl, fun _ _ => rfl⟩
theorem XF.wI {Is As Ls : List Nat} {st S : XS} {k : Nat} {v : Int32} (hk : k ∈ Is) (h : XF Is As Ls st S) : XF Is As Ls st (wI S k v) := by
  refine ⟨fun j hj => ?_, h.2.1, h.2.2⟩
  show va_up S.1 k v j = _
  unfold va_up
  rw [if_neg (fun q => hj (by rw [q]; exact hk))]
  exact h.1 j hj
theorem XF.wA {Is As Ls : List Nat} {st S : XS} {k n : Nat} {v : Int32} (hk : k ∈ As) (h : XF Is As Ls st S) : XF Is As Ls st (wA S k n v) := by
  refine ⟨h.1, fun j hj => ?_, h.2.2⟩
  show va_up S.2.1 k _ j = _
  unfold va_up
  rw [if_neg (fun q => hj (by rw [q]; exact hk))]
  exact h.2.1 j hj
theorem XF.wL {Is As Ls : List Nat} {st S : XS} {k n : Nat} {v : Int64} (hk : k ∈ Ls) (h : XF Is As Ls st S) : XF Is As Ls st (wL S k n v) := by
  refine ⟨h.1, h.2.1, fun j hj => ?_⟩
  show va_up S.2.2 k _ j = _
  unfold va_up
  rw [if_neg (fun q => hj (by rw [q]; exact hk))]
  exact h.2.2 j hj
theorem XF.tr {Is As Ls : List Nat} {st S T : XS} (h : XF Is As Ls st S) (g : XF Is As Ls S T) : XF Is As Ls st T :=
  ⟨fun k hk => (g.1 k hk).trans (h.1 k hk), fun k hk => (g.2.1 k hk).trans (h.2.1 k hk), fun k hk => (g.2.2 k hk).trans (h.2.2 k hk)⟩
theorem XF.mono {I1 A1 L1 I2 A2 L2 : List Nat} {st S : XS} (h : XF I1 A1 L1 st S) (h1 : ∀ k ∈ I1, k ∈ I2) (h2 : ∀ k ∈ A1, k ∈ A2) (h3 : ∀ k ∈ L1, k ∈ L2) : XF I2 A2 L2 st S :=
  ⟨fun k hk => h.1 k (fun q => hk (h1 k q)), fun k hk => h.2.1 k (fun q => hk (h2 k q)), fun k hk => h.2.2 k (fun q => hk (h3 k q))⟩
theorem XF.I {Is As Ls : List Nat} {st S : XS} (h : XF Is As Ls st S) (k : Nat) (hk : k ∉ Is) : gI S k = gI st k := h.1 k hk
theorem XF.A {Is As Ls : List Nat} {st S : XS} (h : XF Is As Ls st S) (k : Nat) (hk : k ∉ As) : fA S k = fA st k := h.2.1 k hk
theorem XF.L {Is As Ls : List Nat} {st S : XS} (h : XF Is As Ls st S) (k : Nat) (hk : k ∉ Ls) : fL S k = fL st k := h.2.2 k hk
theorem wl_ite {c : Prop} [Decidable c] {α : Type} {P : α → Prop} {a b : α} (ha : P a) (hb : P b) : P (if c then a else b) := by
  split
  · exact ha
  · exact hb

def xw (a : Nat → Nat) (k : Nat → ClassId) (st : XS) : va_W := [(a 0, .inr (7, [.ref (a 1), .ref (a 5), .ref (a 7), .ref (a 13), .ref (a 16), .ref (a 17), .ref (a 21), .int (gI st 0), .int (gI st 1), .int (gI st 2), .int (gI st 3)])), (a 1, .inr (0, [.ref (a 2), .ref (a 3), .ref (a 4), .int (gI st 4), .int (gI st 5)])), (a 2, .inl (k 2, 4, .inl (fA st 0))), (a 3, .inl (k 3, 4, .inl (fA st 1))), (a 4, .inl (k 4, 4, .inl (fA st 2))), (a 5, .inr (1, [.ref (a 6)])), (a 6, .inl (k 6, 16, .inr (.inl (fL st 0)))), (a 7, .inr (2, [.ref (a 8), .ref (a 9), .ref (a 10), .ref (a 11), .ref (a 12), .int (gI st 6), .int (gI st 7)])), (a 8, .inl (k 8, 64, .inl (fA st 3))), (a 9, .inl (k 9, 64, .inl (fA st 4))), (a 10, .inl (k 10, 192, .inl (fA st 5))), (a 11, .inl (k 11, 64, .inl (fA st 6))), (a 12, .inl (k 12, 64, .inr (.inl (fL st 1)))), (a 13, .inr (3, [.ref (a 7), .ref (a 1), .ref (a 5), .ref (a 14), .ref (a 15)])), (a 14, .inl (k 14, 64, .inr (.inl (fL st 2)))), (a 15, .inl (k 15, 64, .inl (fA st 7))), (a 16, .inr (4, [.ref (a 7), .ref (a 13)])), (a 17, .inr (5, [.ref (a 7), .ref (a 1), .ref (a 13), .ref (a 18), .ref (a 19), .ref (a 20), .int (gI st 8)])), (a 18, .inl (k 18, 1024, .inr (.inl (fL st 3)))), (a 19, .inl (k 19, 64, .inl (fA st 8))), (a 20, .inl (k 20, 64, .inl (fA st 9))), (a 21, .inr (6, [.ref (a 17), .ref (a 22), .int (gI st 9)])), (a 22, .inl (k 22, 16, .inl (fA st 10)))]
def xt (k : Nat → ClassId) : List (ClassId × FieldType) := [(k 2, .int), (k 3, .int), (k 4, .boolean), (k 6, .long), (k 8, .int), (k 9, .int), (k 10, .int), (k 11, .int), (k 12, .long), (k 14, .long), (k 15, .boolean), (k 18, .long), (k 19, .boolean), (k 20, .int), (k 22, .int)]
theorem xr_0 (a : Nat → Nat) (k : Nat → ClassId) (S : XS) : (xw a k S)[0]? = some (a 0, .inr (7, [.ref (a 1), .ref (a 5), .ref (a 7), .ref (a 13), .ref (a 16), .ref (a 17), .ref (a 21), .int (gI S 0), .int (gI S 1), .int (gI S 2), .int (gI S 3)])) := rfl
theorem xp_I0 {D : va_G} {cl : List vw_C} {H : Heap} {a : Nat → Nat} {k : Nat → ClassId} {S : XS} {v : Int32} (h : va_P D cl ((xw a k S).set 0 (a 0, .inr (7, ([.ref (a 1), .ref (a 5), .ref (a 7), .ref (a 13), .ref (a 16), .ref (a 17), .ref (a 21), .int (gI S 0), .int (gI S 1), .int (gI S 2), .int (gI S 3)] : List Value).set 7 (.int v)))) H) : va_P D cl (xw a k (wI S 0 v)) H := h
theorem xd_I0 {A : Nat → Prop} {a : Nat → Nat} {k : Nat → ClassId} {S : XS} {v : Int32} (h : va_D A ((xw a k S).set 0 (a 0, .inr (7, ([.ref (a 1), .ref (a 5), .ref (a 7), .ref (a 13), .ref (a 16), .ref (a 17), .ref (a 21), .int (gI S 0), .int (gI S 1), .int (gI S 2), .int (gI S 3)] : List Value).set 7 (.int v))))) : va_D A (xw a k (wI S 0 v)) := h
theorem xp_I1 {D : va_G} {cl : List vw_C} {H : Heap} {a : Nat → Nat} {k : Nat → ClassId} {S : XS} {v : Int32} (h : va_P D cl ((xw a k S).set 0 (a 0, .inr (7, ([.ref (a 1), .ref (a 5), .ref (a 7), .ref (a 13), .ref (a 16), .ref (a 17), .ref (a 21), .int (gI S 0), .int (gI S 1), .int (gI S 2), .int (gI S 3)] : List Value).set 8 (.int v)))) H) : va_P D cl (xw a k (wI S 1 v)) H := h
theorem xd_I1 {A : Nat → Prop} {a : Nat → Nat} {k : Nat → ClassId} {S : XS} {v : Int32} (h : va_D A ((xw a k S).set 0 (a 0, .inr (7, ([.ref (a 1), .ref (a 5), .ref (a 7), .ref (a 13), .ref (a 16), .ref (a 17), .ref (a 21), .int (gI S 0), .int (gI S 1), .int (gI S 2), .int (gI S 3)] : List Value).set 8 (.int v))))) : va_D A (xw a k (wI S 1 v)) := h
theorem xp_I2 {D : va_G} {cl : List vw_C} {H : Heap} {a : Nat → Nat} {k : Nat → ClassId} {S : XS} {v : Int32} (h : va_P D cl ((xw a k S).set 0 (a 0, .inr (7, ([.ref (a 1), .ref (a 5), .ref (a 7), .ref (a 13), .ref (a 16), .ref (a 17), .ref (a 21), .int (gI S 0), .int (gI S 1), .int (gI S 2), .int (gI S 3)] : List Value).set 9 (.int v)))) H) : va_P D cl (xw a k (wI S 2 v)) H := h
theorem xd_I2 {A : Nat → Prop} {a : Nat → Nat} {k : Nat → ClassId} {S : XS} {v : Int32} (h : va_D A ((xw a k S).set 0 (a 0, .inr (7, ([.ref (a 1), .ref (a 5), .ref (a 7), .ref (a 13), .ref (a 16), .ref (a 17), .ref (a 21), .int (gI S 0), .int (gI S 1), .int (gI S 2), .int (gI S 3)] : List Value).set 9 (.int v))))) : va_D A (xw a k (wI S 2 v)) := h
theorem xp_I3 {D : va_G} {cl : List vw_C} {H : Heap} {a : Nat → Nat} {k : Nat → ClassId} {S : XS} {v : Int32} (h : va_P D cl ((xw a k S).set 0 (a 0, .inr (7, ([.ref (a 1), .ref (a 5), .ref (a 7), .ref (a 13), .ref (a 16), .ref (a 17), .ref (a 21), .int (gI S 0), .int (gI S 1), .int (gI S 2), .int (gI S 3)] : List Value).set 10 (.int v)))) H) : va_P D cl (xw a k (wI S 3 v)) H := h
theorem xd_I3 {A : Nat → Prop} {a : Nat → Nat} {k : Nat → ClassId} {S : XS} {v : Int32} (h : va_D A ((xw a k S).set 0 (a 0, .inr (7, ([.ref (a 1), .ref (a 5), .ref (a 7), .ref (a 13), .ref (a 16), .ref (a 17), .ref (a 21), .int (gI S 0), .int (gI S 1), .int (gI S 2), .int (gI S 3)] : List Value).set 10 (.int v))))) : va_D A (xw a k (wI S 3 v)) := h
theorem xr_1 (a : Nat → Nat) (k : Nat → ClassId) (S : XS) : (xw a k S)[1]? = some (a 1, .inr (0, [.ref (a 2), .ref (a 3), .ref (a 4), .int (gI S 4), .int (gI S 5)])) := rfl
theorem xp_I4 {D : va_G} {cl : List vw_C} {H : Heap} {a : Nat → Nat} {k : Nat → ClassId} {S : XS} {v : Int32} (h : va_P D cl ((xw a k S).set 1 (a 1, .inr (0, ([.ref (a 2), .ref (a 3), .ref (a 4), .int (gI S 4), .int (gI S 5)] : List Value).set 3 (.int v)))) H) : va_P D cl (xw a k (wI S 4 v)) H := h
theorem xd_I4 {A : Nat → Prop} {a : Nat → Nat} {k : Nat → ClassId} {S : XS} {v : Int32} (h : va_D A ((xw a k S).set 1 (a 1, .inr (0, ([.ref (a 2), .ref (a 3), .ref (a 4), .int (gI S 4), .int (gI S 5)] : List Value).set 3 (.int v))))) : va_D A (xw a k (wI S 4 v)) := h
theorem xp_I5 {D : va_G} {cl : List vw_C} {H : Heap} {a : Nat → Nat} {k : Nat → ClassId} {S : XS} {v : Int32} (h : va_P D cl ((xw a k S).set 1 (a 1, .inr (0, ([.ref (a 2), .ref (a 3), .ref (a 4), .int (gI S 4), .int (gI S 5)] : List Value).set 4 (.int v)))) H) : va_P D cl (xw a k (wI S 5 v)) H := h
theorem xd_I5 {A : Nat → Prop} {a : Nat → Nat} {k : Nat → ClassId} {S : XS} {v : Int32} (h : va_D A ((xw a k S).set 1 (a 1, .inr (0, ([.ref (a 2), .ref (a 3), .ref (a 4), .int (gI S 4), .int (gI S 5)] : List Value).set 4 (.int v))))) : va_D A (xw a k (wI S 5 v)) := h
theorem xr_2 (a : Nat → Nat) (k : Nat → ClassId) (S : XS) : (xw a k S)[2]? = some (a 2, .inl (k 2, 4, .inl (fA S 0))) := rfl
theorem xp_A0 {D : va_G} {cl : List vw_C} {H : Heap} {a : Nat → Nat} {k : Nat → ClassId} {S : XS} {n : Nat} {v : Int32} (h : va_P D cl ((xw a k S).set 2 (a 2, .inl (k 2, 4, .inl (upd (fA S 0) n v)))) H) : va_P D cl (xw a k (wA S 0 n v)) H := h
theorem xd_A0 {A : Nat → Prop} {a : Nat → Nat} {k : Nat → ClassId} {S : XS} {n : Nat} {v : Int32} (h : va_D A ((xw a k S).set 2 (a 2, .inl (k 2, 4, .inl (upd (fA S 0) n v))))) : va_D A (xw a k (wA S 0 n v)) := h
theorem xr_3 (a : Nat → Nat) (k : Nat → ClassId) (S : XS) : (xw a k S)[3]? = some (a 3, .inl (k 3, 4, .inl (fA S 1))) := rfl
theorem xp_A1 {D : va_G} {cl : List vw_C} {H : Heap} {a : Nat → Nat} {k : Nat → ClassId} {S : XS} {n : Nat} {v : Int32} (h : va_P D cl ((xw a k S).set 3 (a 3, .inl (k 3, 4, .inl (upd (fA S 1) n v)))) H) : va_P D cl (xw a k (wA S 1 n v)) H := h
theorem xd_A1 {A : Nat → Prop} {a : Nat → Nat} {k : Nat → ClassId} {S : XS} {n : Nat} {v : Int32} (h : va_D A ((xw a k S).set 3 (a 3, .inl (k 3, 4, .inl (upd (fA S 1) n v))))) : va_D A (xw a k (wA S 1 n v)) := h
theorem xr_4 (a : Nat → Nat) (k : Nat → ClassId) (S : XS) : (xw a k S)[4]? = some (a 4, .inl (k 4, 4, .inl (fA S 2))) := rfl
theorem xp_A2 {D : va_G} {cl : List vw_C} {H : Heap} {a : Nat → Nat} {k : Nat → ClassId} {S : XS} {n : Nat} {v : Int32} (h : va_P D cl ((xw a k S).set 4 (a 4, .inl (k 4, 4, .inl (upd (fA S 2) n v)))) H) : va_P D cl (xw a k (wA S 2 n v)) H := h
theorem xd_A2 {A : Nat → Prop} {a : Nat → Nat} {k : Nat → ClassId} {S : XS} {n : Nat} {v : Int32} (h : va_D A ((xw a k S).set 4 (a 4, .inl (k 4, 4, .inl (upd (fA S 2) n v))))) : va_D A (xw a k (wA S 2 n v)) := h
theorem xr_5 (a : Nat → Nat) (k : Nat → ClassId) (S : XS) : (xw a k S)[5]? = some (a 5, .inr (1, [.ref (a 6)])) := rfl
theorem xr_6 (a : Nat → Nat) (k : Nat → ClassId) (S : XS) : (xw a k S)[6]? = some (a 6, .inl (k 6, 16, .inr (.inl (fL S 0)))) := rfl
theorem xp_L0 {D : va_G} {cl : List vw_C} {H : Heap} {a : Nat → Nat} {k : Nat → ClassId} {S : XS} {n : Nat} {v : Int64} (h : va_P D cl ((xw a k S).set 6 (a 6, .inl (k 6, 16, .inr (.inl (vp_updL (fL S 0) n v))))) H) : va_P D cl (xw a k (wL S 0 n v)) H := h
theorem xd_L0 {A : Nat → Prop} {a : Nat → Nat} {k : Nat → ClassId} {S : XS} {n : Nat} {v : Int64} (h : va_D A ((xw a k S).set 6 (a 6, .inl (k 6, 16, .inr (.inl (vp_updL (fL S 0) n v)))))) : va_D A (xw a k (wL S 0 n v)) := h
theorem xr_7 (a : Nat → Nat) (k : Nat → ClassId) (S : XS) : (xw a k S)[7]? = some (a 7, .inr (2, [.ref (a 8), .ref (a 9), .ref (a 10), .ref (a 11), .ref (a 12), .int (gI S 6), .int (gI S 7)])) := rfl
theorem xp_I6 {D : va_G} {cl : List vw_C} {H : Heap} {a : Nat → Nat} {k : Nat → ClassId} {S : XS} {v : Int32} (h : va_P D cl ((xw a k S).set 7 (a 7, .inr (2, ([.ref (a 8), .ref (a 9), .ref (a 10), .ref (a 11), .ref (a 12), .int (gI S 6), .int (gI S 7)] : List Value).set 5 (.int v)))) H) : va_P D cl (xw a k (wI S 6 v)) H := h
theorem xd_I6 {A : Nat → Prop} {a : Nat → Nat} {k : Nat → ClassId} {S : XS} {v : Int32} (h : va_D A ((xw a k S).set 7 (a 7, .inr (2, ([.ref (a 8), .ref (a 9), .ref (a 10), .ref (a 11), .ref (a 12), .int (gI S 6), .int (gI S 7)] : List Value).set 5 (.int v))))) : va_D A (xw a k (wI S 6 v)) := h
theorem xp_I7 {D : va_G} {cl : List vw_C} {H : Heap} {a : Nat → Nat} {k : Nat → ClassId} {S : XS} {v : Int32} (h : va_P D cl ((xw a k S).set 7 (a 7, .inr (2, ([.ref (a 8), .ref (a 9), .ref (a 10), .ref (a 11), .ref (a 12), .int (gI S 6), .int (gI S 7)] : List Value).set 6 (.int v)))) H) : va_P D cl (xw a k (wI S 7 v)) H := h
theorem xd_I7 {A : Nat → Prop} {a : Nat → Nat} {k : Nat → ClassId} {S : XS} {v : Int32} (h : va_D A ((xw a k S).set 7 (a 7, .inr (2, ([.ref (a 8), .ref (a 9), .ref (a 10), .ref (a 11), .ref (a 12), .int (gI S 6), .int (gI S 7)] : List Value).set 6 (.int v))))) : va_D A (xw a k (wI S 7 v)) := h
theorem xr_8 (a : Nat → Nat) (k : Nat → ClassId) (S : XS) : (xw a k S)[8]? = some (a 8, .inl (k 8, 64, .inl (fA S 3))) := rfl
theorem xp_A3 {D : va_G} {cl : List vw_C} {H : Heap} {a : Nat → Nat} {k : Nat → ClassId} {S : XS} {n : Nat} {v : Int32} (h : va_P D cl ((xw a k S).set 8 (a 8, .inl (k 8, 64, .inl (upd (fA S 3) n v)))) H) : va_P D cl (xw a k (wA S 3 n v)) H := h
theorem xd_A3 {A : Nat → Prop} {a : Nat → Nat} {k : Nat → ClassId} {S : XS} {n : Nat} {v : Int32} (h : va_D A ((xw a k S).set 8 (a 8, .inl (k 8, 64, .inl (upd (fA S 3) n v))))) : va_D A (xw a k (wA S 3 n v)) := h
theorem xr_9 (a : Nat → Nat) (k : Nat → ClassId) (S : XS) : (xw a k S)[9]? = some (a 9, .inl (k 9, 64, .inl (fA S 4))) := rfl
theorem xp_A4 {D : va_G} {cl : List vw_C} {H : Heap} {a : Nat → Nat} {k : Nat → ClassId} {S : XS} {n : Nat} {v : Int32} (h : va_P D cl ((xw a k S).set 9 (a 9, .inl (k 9, 64, .inl (upd (fA S 4) n v)))) H) : va_P D cl (xw a k (wA S 4 n v)) H := h
theorem xd_A4 {A : Nat → Prop} {a : Nat → Nat} {k : Nat → ClassId} {S : XS} {n : Nat} {v : Int32} (h : va_D A ((xw a k S).set 9 (a 9, .inl (k 9, 64, .inl (upd (fA S 4) n v))))) : va_D A (xw a k (wA S 4 n v)) := h
theorem xr_10 (a : Nat → Nat) (k : Nat → ClassId) (S : XS) : (xw a k S)[10]? = some (a 10, .inl (k 10, 192, .inl (fA S 5))) := rfl
theorem xp_A5 {D : va_G} {cl : List vw_C} {H : Heap} {a : Nat → Nat} {k : Nat → ClassId} {S : XS} {n : Nat} {v : Int32} (h : va_P D cl ((xw a k S).set 10 (a 10, .inl (k 10, 192, .inl (upd (fA S 5) n v)))) H) : va_P D cl (xw a k (wA S 5 n v)) H := h
theorem xd_A5 {A : Nat → Prop} {a : Nat → Nat} {k : Nat → ClassId} {S : XS} {n : Nat} {v : Int32} (h : va_D A ((xw a k S).set 10 (a 10, .inl (k 10, 192, .inl (upd (fA S 5) n v))))) : va_D A (xw a k (wA S 5 n v)) := h
theorem xr_11 (a : Nat → Nat) (k : Nat → ClassId) (S : XS) : (xw a k S)[11]? = some (a 11, .inl (k 11, 64, .inl (fA S 6))) := rfl
theorem xp_A6 {D : va_G} {cl : List vw_C} {H : Heap} {a : Nat → Nat} {k : Nat → ClassId} {S : XS} {n : Nat} {v : Int32} (h : va_P D cl ((xw a k S).set 11 (a 11, .inl (k 11, 64, .inl (upd (fA S 6) n v)))) H) : va_P D cl (xw a k (wA S 6 n v)) H := h
theorem xd_A6 {A : Nat → Prop} {a : Nat → Nat} {k : Nat → ClassId} {S : XS} {n : Nat} {v : Int32} (h : va_D A ((xw a k S).set 11 (a 11, .inl (k 11, 64, .inl (upd (fA S 6) n v))))) : va_D A (xw a k (wA S 6 n v)) := h
theorem xr_12 (a : Nat → Nat) (k : Nat → ClassId) (S : XS) : (xw a k S)[12]? = some (a 12, .inl (k 12, 64, .inr (.inl (fL S 1)))) := rfl
theorem xp_L1 {D : va_G} {cl : List vw_C} {H : Heap} {a : Nat → Nat} {k : Nat → ClassId} {S : XS} {n : Nat} {v : Int64} (h : va_P D cl ((xw a k S).set 12 (a 12, .inl (k 12, 64, .inr (.inl (vp_updL (fL S 1) n v))))) H) : va_P D cl (xw a k (wL S 1 n v)) H := h
theorem xd_L1 {A : Nat → Prop} {a : Nat → Nat} {k : Nat → ClassId} {S : XS} {n : Nat} {v : Int64} (h : va_D A ((xw a k S).set 12 (a 12, .inl (k 12, 64, .inr (.inl (vp_updL (fL S 1) n v)))))) : va_D A (xw a k (wL S 1 n v)) := h
theorem xr_13 (a : Nat → Nat) (k : Nat → ClassId) (S : XS) : (xw a k S)[13]? = some (a 13, .inr (3, [.ref (a 7), .ref (a 1), .ref (a 5), .ref (a 14), .ref (a 15)])) := rfl
theorem xr_14 (a : Nat → Nat) (k : Nat → ClassId) (S : XS) : (xw a k S)[14]? = some (a 14, .inl (k 14, 64, .inr (.inl (fL S 2)))) := rfl
theorem xp_L2 {D : va_G} {cl : List vw_C} {H : Heap} {a : Nat → Nat} {k : Nat → ClassId} {S : XS} {n : Nat} {v : Int64} (h : va_P D cl ((xw a k S).set 14 (a 14, .inl (k 14, 64, .inr (.inl (vp_updL (fL S 2) n v))))) H) : va_P D cl (xw a k (wL S 2 n v)) H := h
theorem xd_L2 {A : Nat → Prop} {a : Nat → Nat} {k : Nat → ClassId} {S : XS} {n : Nat} {v : Int64} (h : va_D A ((xw a k S).set 14 (a 14, .inl (k 14, 64, .inr (.inl (vp_updL (fL S 2) n v)))))) : va_D A (xw a k (wL S 2 n v)) := h
theorem xr_15 (a : Nat → Nat) (k : Nat → ClassId) (S : XS) : (xw a k S)[15]? = some (a 15, .inl (k 15, 64, .inl (fA S 7))) := rfl
theorem xp_A7 {D : va_G} {cl : List vw_C} {H : Heap} {a : Nat → Nat} {k : Nat → ClassId} {S : XS} {n : Nat} {v : Int32} (h : va_P D cl ((xw a k S).set 15 (a 15, .inl (k 15, 64, .inl (upd (fA S 7) n v)))) H) : va_P D cl (xw a k (wA S 7 n v)) H := h
theorem xd_A7 {A : Nat → Prop} {a : Nat → Nat} {k : Nat → ClassId} {S : XS} {n : Nat} {v : Int32} (h : va_D A ((xw a k S).set 15 (a 15, .inl (k 15, 64, .inl (upd (fA S 7) n v))))) : va_D A (xw a k (wA S 7 n v)) := h
theorem xr_16 (a : Nat → Nat) (k : Nat → ClassId) (S : XS) : (xw a k S)[16]? = some (a 16, .inr (4, [.ref (a 7), .ref (a 13)])) := rfl
theorem xr_17 (a : Nat → Nat) (k : Nat → ClassId) (S : XS) : (xw a k S)[17]? = some (a 17, .inr (5, [.ref (a 7), .ref (a 1), .ref (a 13), .ref (a 18), .ref (a 19), .ref (a 20), .int (gI S 8)])) := rfl
theorem xp_I8 {D : va_G} {cl : List vw_C} {H : Heap} {a : Nat → Nat} {k : Nat → ClassId} {S : XS} {v : Int32} (h : va_P D cl ((xw a k S).set 17 (a 17, .inr (5, ([.ref (a 7), .ref (a 1), .ref (a 13), .ref (a 18), .ref (a 19), .ref (a 20), .int (gI S 8)] : List Value).set 6 (.int v)))) H) : va_P D cl (xw a k (wI S 8 v)) H := h
theorem xd_I8 {A : Nat → Prop} {a : Nat → Nat} {k : Nat → ClassId} {S : XS} {v : Int32} (h : va_D A ((xw a k S).set 17 (a 17, .inr (5, ([.ref (a 7), .ref (a 1), .ref (a 13), .ref (a 18), .ref (a 19), .ref (a 20), .int (gI S 8)] : List Value).set 6 (.int v))))) : va_D A (xw a k (wI S 8 v)) := h
theorem xr_18 (a : Nat → Nat) (k : Nat → ClassId) (S : XS) : (xw a k S)[18]? = some (a 18, .inl (k 18, 1024, .inr (.inl (fL S 3)))) := rfl
theorem xp_L3 {D : va_G} {cl : List vw_C} {H : Heap} {a : Nat → Nat} {k : Nat → ClassId} {S : XS} {n : Nat} {v : Int64} (h : va_P D cl ((xw a k S).set 18 (a 18, .inl (k 18, 1024, .inr (.inl (vp_updL (fL S 3) n v))))) H) : va_P D cl (xw a k (wL S 3 n v)) H := h
theorem xd_L3 {A : Nat → Prop} {a : Nat → Nat} {k : Nat → ClassId} {S : XS} {n : Nat} {v : Int64} (h : va_D A ((xw a k S).set 18 (a 18, .inl (k 18, 1024, .inr (.inl (vp_updL (fL S 3) n v)))))) : va_D A (xw a k (wL S 3 n v)) := h
theorem xr_19 (a : Nat → Nat) (k : Nat → ClassId) (S : XS) : (xw a k S)[19]? = some (a 19, .inl (k 19, 64, .inl (fA S 8))) := rfl
theorem xp_A8 {D : va_G} {cl : List vw_C} {H : Heap} {a : Nat → Nat} {k : Nat → ClassId} {S : XS} {n : Nat} {v : Int32} (h : va_P D cl ((xw a k S).set 19 (a 19, .inl (k 19, 64, .inl (upd (fA S 8) n v)))) H) : va_P D cl (xw a k (wA S 8 n v)) H := h
theorem xd_A8 {A : Nat → Prop} {a : Nat → Nat} {k : Nat → ClassId} {S : XS} {n : Nat} {v : Int32} (h : va_D A ((xw a k S).set 19 (a 19, .inl (k 19, 64, .inl (upd (fA S 8) n v))))) : va_D A (xw a k (wA S 8 n v)) := h
theorem xr_20 (a : Nat → Nat) (k : Nat → ClassId) (S : XS) : (xw a k S)[20]? = some (a 20, .inl (k 20, 64, .inl (fA S 9))) := rfl
theorem xp_A9 {D : va_G} {cl : List vw_C} {H : Heap} {a : Nat → Nat} {k : Nat → ClassId} {S : XS} {n : Nat} {v : Int32} (h : va_P D cl ((xw a k S).set 20 (a 20, .inl (k 20, 64, .inl (upd (fA S 9) n v)))) H) : va_P D cl (xw a k (wA S 9 n v)) H := h
theorem xd_A9 {A : Nat → Prop} {a : Nat → Nat} {k : Nat → ClassId} {S : XS} {n : Nat} {v : Int32} (h : va_D A ((xw a k S).set 20 (a 20, .inl (k 20, 64, .inl (upd (fA S 9) n v))))) : va_D A (xw a k (wA S 9 n v)) := h
theorem xr_21 (a : Nat → Nat) (k : Nat → ClassId) (S : XS) : (xw a k S)[21]? = some (a 21, .inr (6, [.ref (a 17), .ref (a 22), .int (gI S 9)])) := rfl
theorem xp_I9 {D : va_G} {cl : List vw_C} {H : Heap} {a : Nat → Nat} {k : Nat → ClassId} {S : XS} {v : Int32} (h : va_P D cl ((xw a k S).set 21 (a 21, .inr (6, ([.ref (a 17), .ref (a 22), .int (gI S 9)] : List Value).set 2 (.int v)))) H) : va_P D cl (xw a k (wI S 9 v)) H := h
theorem xd_I9 {A : Nat → Prop} {a : Nat → Nat} {k : Nat → ClassId} {S : XS} {v : Int32} (h : va_D A ((xw a k S).set 21 (a 21, .inr (6, ([.ref (a 17), .ref (a 22), .int (gI S 9)] : List Value).set 2 (.int v))))) : va_D A (xw a k (wI S 9 v)) := h
theorem xr_22 (a : Nat → Nat) (k : Nat → ClassId) (S : XS) : (xw a k S)[22]? = some (a 22, .inl (k 22, 16, .inl (fA S 10))) := rfl
theorem xp_A10 {D : va_G} {cl : List vw_C} {H : Heap} {a : Nat → Nat} {k : Nat → ClassId} {S : XS} {n : Nat} {v : Int32} (h : va_P D cl ((xw a k S).set 22 (a 22, .inl (k 22, 16, .inl (upd (fA S 10) n v)))) H) : va_P D cl (xw a k (wA S 10 n v)) H := h
theorem xd_A10 {A : Nat → Prop} {a : Nat → Nat} {k : Nat → ClassId} {S : XS} {n : Nat} {v : Int32} (h : va_D A ((xw a k S).set 22 (a 22, .inl (k 22, 16, .inl (upd (fA S 10) n v))))) : va_D A (xw a k (wA S 10 n v)) := h
end
section
theorem dX0_isOne_0 : decode cX0_isOne 0 = .ok (.iload_n 0, 1) := by decide +kernel
theorem dX0_isOne_1 : decode cX0_isOne 1 = .ok (.iconst 1, 1) := by decide +kernel
theorem dX0_isOne_2 : decode cX0_isOne 2 = .ok (.if_icmp .eq 27, 3) := by decide +kernel
theorem dX0_isOne_5 : decode cX0_isOne 5 = .ok (.iload_n 0, 1) := by decide +kernel
theorem dX0_isOne_6 : decode cX0_isOne 6 = .ok (.bipush 8, 2) := by decide +kernel
theorem dX0_isOne_8 : decode cX0_isOne 8 = .ok (.if_icmp .eq 21, 3) := by decide +kernel
theorem dX0_isOne_11 : decode cX0_isOne 11 = .ok (.iload_n 0, 1) := by decide +kernel
theorem dX0_isOne_12 : decode cX0_isOne 12 = .ok (.bipush 16, 2) := by decide +kernel
theorem dX0_isOne_14 : decode cX0_isOne 14 = .ok (.if_icmp .eq 15, 3) := by decide +kernel
theorem dX0_isOne_17 : decode cX0_isOne 17 = .ok (.iload_n 0, 1) := by decide +kernel
theorem dX0_isOne_18 : decode cX0_isOne 18 = .ok (.bipush 32, 2) := by decide +kernel
theorem dX0_isOne_20 : decode cX0_isOne 20 = .ok (.if_icmp .eq 9, 3) := by decide +kernel
theorem dX0_isOne_23 : decode cX0_isOne 23 = .ok (.iload_n 0, 1) := by decide +kernel
theorem dX0_isOne_24 : decode cX0_isOne 24 = .ok (.bipush 64, 2) := by decide +kernel
theorem dX0_isOne_26 : decode cX0_isOne 26 = .ok (.if_icmp .ne 7, 3) := by decide +kernel
theorem dX0_isOne_29 : decode cX0_isOne 29 = .ok (.iconst 1, 1) := by decide +kernel
theorem dX0_isOne_30 : decode cX0_isOne 30 = .ok (.goto 4, 3) := by decide +kernel
theorem dX0_isOne_33 : decode cX0_isOne 33 = .ok (.iconst 0, 1) := by decide +kernel
theorem dX0_isOne_34 : decode cX0_isOne 34 = .ok (.ireturn, 1) := by decide +kernel
def fx_Width_isOne (w : Int32) : Int32 := 
  if w = (1 : Int32) then (1 : Int32)
  else 
    if w = (8 : Int32) then (1 : Int32)
    else 
      if w = (16 : Int32) then (1 : Int32)
      else 
        if w = (32 : Int32) then (1 : Int32)
        else 
          if w = (64 : Int32) then (1 : Int32)
          else (0 : Int32)
set_option maxHeartbeats 4000000 in
set_option maxRecDepth 100000 in
theorem kx_Width_isOne (l : Launch) (w : Int32) : Met l yX0_isOne wsX0_isOne ({ frames := 0, cells := 0, slots := 0, locals := 0 }) (fun v _ => v = ([.int w] : List Value).toArray) (vp_Si (fun r9 => r9 = fx_Width_isOne w)) 0 0 (fun _ => False) := by
  refine Met.ofW (cc := cX0_isOne) (maxL := 1) (ret := (some .boolean)) (by decide) rfl ?_
  intro p e s m args below meth c s₁ B hml hv
  subst hv
  have hx := B.exec
  have hb := B.bytes
  have hr := B.returns
  have hta := aw_hts (atoms_spec (ws := wsX0_isOne) B.pre)
  have hown : s.vm.findClass RX0 = some m.cls := findClass_of_methodNamed B.named
  have hlocks := B.notSynchronized
  have hl := lv_entry ([.int w]) (n := 1) (Nat.le_of_ble_eq_true rfl)
  rw [lg_entry_eq]
  generalize (lg_sl ([.int w]) ++ List.replicate (1 - (lg_sl ([.int w])).length) Slot.unset).toArray = ls at hl ⊢
  have hl : lv_has ls 1 [(0, .int w)] := hl
  generalize hR : fx_Width_isOne w = R
  rw [fx_Width_isOne] at hR
  refine lv_iload_n hx hb dX0_isOne_0 rfl (lv_at hl 0 rfl) ?_
  refine lv_iconst (v := (1 : Int32)) hx hb dX0_isOne_1 (by decide) ?_
  refine lv_icmp_eq (tgt := 29) hx hb dX0_isOne_2 (by decide) (fun c2 => ?_) (fun c2 => ?_)
  · skip
    rw [if_pos c2] at hR
    refine lv_iconst (v := (1 : Int32)) hx hb dX0_isOne_29 (by decide) ?_
    refine lv_goto (tgt := 34) hx hb dX0_isOne_30 (by decide) ?_
    exact W.zret (v := (1 : Int32)) (ty := .boolean) hx hb hr rfl (fun t ht hW => ⟨_, rfl, hR, ht⟩) (fun q h => by cases h) dX0_isOne_34
  · skip
    rw [if_neg c2] at hR
    refine lv_iload_n hx hb dX0_isOne_5 rfl (lv_at hl 0 rfl) ?_
    refine lv_bipush (v := (8 : Int32)) hx hb dX0_isOne_6 (by decide) ?_
    refine lv_icmp_eq (tgt := 29) hx hb dX0_isOne_8 (by decide) (fun c8 => ?_) (fun c8 => ?_)
    · skip
      rw [if_pos c8] at hR
      refine lv_iconst (v := (1 : Int32)) hx hb dX0_isOne_29 (by decide) ?_
      refine lv_goto (tgt := 34) hx hb dX0_isOne_30 (by decide) ?_
      exact W.zret (v := (1 : Int32)) (ty := .boolean) hx hb hr rfl (fun t ht hW => ⟨_, rfl, hR, ht⟩) (fun q h => by cases h) dX0_isOne_34
    · skip
      rw [if_neg c8] at hR
      refine lv_iload_n hx hb dX0_isOne_11 rfl (lv_at hl 0 rfl) ?_
      refine lv_bipush (v := (16 : Int32)) hx hb dX0_isOne_12 (by decide) ?_
      refine lv_icmp_eq (tgt := 29) hx hb dX0_isOne_14 (by decide) (fun c14 => ?_) (fun c14 => ?_)
      · skip
        rw [if_pos c14] at hR
        refine lv_iconst (v := (1 : Int32)) hx hb dX0_isOne_29 (by decide) ?_
        refine lv_goto (tgt := 34) hx hb dX0_isOne_30 (by decide) ?_
        exact W.zret (v := (1 : Int32)) (ty := .boolean) hx hb hr rfl (fun t ht hW => ⟨_, rfl, hR, ht⟩) (fun q h => by cases h) dX0_isOne_34
      · skip
        rw [if_neg c14] at hR
        refine lv_iload_n hx hb dX0_isOne_17 rfl (lv_at hl 0 rfl) ?_
        refine lv_bipush (v := (32 : Int32)) hx hb dX0_isOne_18 (by decide) ?_
        refine lv_icmp_eq (tgt := 29) hx hb dX0_isOne_20 (by decide) (fun c20 => ?_) (fun c20 => ?_)
        · skip
          rw [if_pos c20] at hR
          refine lv_iconst (v := (1 : Int32)) hx hb dX0_isOne_29 (by decide) ?_
          refine lv_goto (tgt := 34) hx hb dX0_isOne_30 (by decide) ?_
          exact W.zret (v := (1 : Int32)) (ty := .boolean) hx hb hr rfl (fun t ht hW => ⟨_, rfl, hR, ht⟩) (fun q h => by cases h) dX0_isOne_34
        · skip
          rw [if_neg c20] at hR
          refine lv_iload_n hx hb dX0_isOne_23 rfl (lv_at hl 0 rfl) ?_
          refine lv_bipush (v := (64 : Int32)) hx hb dX0_isOne_24 (by decide) ?_
          refine lv_icmp_ne (tgt := 33) hx hb dX0_isOne_26 (by decide) (fun c26 => ?_) (fun c26 => ?_)
          · skip
            rw [if_neg c26] at hR
            refine lv_iconst (v := (0 : Int32)) hx hb dX0_isOne_33 (by decide) ?_
            exact W.zret (v := (0 : Int32)) (ty := .boolean) hx hb hr rfl (fun t ht hW => ⟨_, rfl, hR, ht⟩) (fun q h => by cases h) dX0_isOne_34
          · skip
            rw [if_pos c26] at hR
            refine lv_iconst (v := (1 : Int32)) hx hb dX0_isOne_29 (by decide) ?_
            refine lv_goto (tgt := 34) hx hb dX0_isOne_30 (by decide) ?_
            exact W.zret (v := (1 : Int32)) (ty := .boolean) hx hb hr rfl (fun t ht hW => ⟨_, rfl, hR, ht⟩) (fun q h => by cases h) dX0_isOne_34

theorem dX0_readSigned_0 : decode cX0_readSigned 0 = .ok (.bipush 64, 2) := by decide +kernel
theorem dX0_readSigned_2 : decode cX0_readSigned 2 = .ok (.iload_n 0, 1) := by decide +kernel
theorem dX0_readSigned_3 : decode cX0_readSigned 3 = .ok (.isub, 1) := by decide +kernel
theorem dX0_readSigned_4 : decode cX0_readSigned 4 = .ok (.istore_n 3, 1) := by decide +kernel
theorem dX0_readSigned_5 : decode cX0_readSigned 5 = .ok (.lload_n 1, 1) := by decide +kernel
theorem dX0_readSigned_6 : decode cX0_readSigned 6 = .ok (.iload_n 3, 1) := by decide +kernel
theorem dX0_readSigned_7 : decode cX0_readSigned 7 = .ok (.lshl, 1) := by decide +kernel
theorem dX0_readSigned_8 : decode cX0_readSigned 8 = .ok (.iload_n 3, 1) := by decide +kernel
theorem dX0_readSigned_9 : decode cX0_readSigned 9 = .ok (.lshr, 1) := by decide +kernel
theorem dX0_readSigned_10 : decode cX0_readSigned 10 = .ok (.lreturn, 1) := by decide +kernel
def fx_Width_readSigned (w : Int32) (x : Int64) : Int64 := (x <<< (((64 : Int32) - w).toInt64 &&& 63)) >>> (((64 : Int32) - w).toInt64 &&& 63)
set_option maxHeartbeats 4000000 in
set_option maxRecDepth 100000 in
theorem kx_Width_readSigned (l : Launch) (w : Int32) (x : Int64) : Met l yX0_readSigned wsX0_readSigned ({ frames := 0, cells := 0, slots := 0, locals := 0 }) (fun v _ => v = ([.int w, .long x] : List Value).toArray) (vp_Sl (fun r9 => r9 = fx_Width_readSigned w x)) 0 0 (fun _ => False) := by
  refine Met.ofW (cc := cX0_readSigned) (maxL := 4) (ret := (some .long)) (by decide) rfl ?_
  intro p e s m args below meth c s₁ B hml hv
  subst hv
  have hx := B.exec
  have hb := B.bytes
  have hr := B.returns
  have hta := aw_hts (atoms_spec (ws := wsX0_readSigned) B.pre)
  have hown : s.vm.findClass RX0 = some m.cls := findClass_of_methodNamed B.named
  have hlocks := B.notSynchronized
  have hl := lv_entry ([.int w, .long x]) (n := 4) (Nat.le_of_ble_eq_true rfl)
  rw [lg_entry_eq]
  generalize (lg_sl ([.int w, .long x]) ++ List.replicate (4 - (lg_sl ([.int w, .long x])).length) Slot.unset).toArray = ls at hl ⊢
  have hl : lv_has ls 4 [(0, .int w), (1, .long x)] := hl
  generalize hR : fx_Width_readSigned w x = R
  rw [fx_Width_readSigned] at hR
  refine lv_bipush (v := (64 : Int32)) hx hb dX0_readSigned_0 (by decide) ?_
  refine lv_iload_n hx hb dX0_readSigned_2 rfl (lv_at hl 0 rfl) ?_
  refine lv_isub hx hb dX0_readSigned_3 ?_
  refine lv_istore_n (lv' := [(3, .int ((64 : Int32) - w)), (0, .int w), (1, .long x)]) hx hb dX0_readSigned_4 rfl hl (by decide) rfl (fun ls hl => ?_)
  refine lv_lload_n hx hb dX0_readSigned_5 rfl (lv_at hl 2 rfl) ?_
  refine lv_iload_n hx hb dX0_readSigned_6 rfl (lv_at hl 0 rfl) ?_
  refine lv_lshl (v := x <<< (((64 : Int32) - w).toInt64 &&& 63)) hx hb dX0_readSigned_7 rfl ?_
  refine lv_iload_n hx hb dX0_readSigned_8 rfl (lv_at hl 0 rfl) ?_
  refine lv_lshr (v := (x <<< (((64 : Int32) - w).toInt64 &&& 63)) >>> (((64 : Int32) - w).toInt64 &&& 63)) hx hb dX0_readSigned_9 rfl ?_
  exact W.lret (v := (x <<< (((64 : Int32) - w).toInt64 &&& 63)) >>> (((64 : Int32) - w).toInt64 &&& 63)) hx hb hr (fun t ht hW => ⟨_, rfl, hR, ht⟩) (fun q h => by cases h) dX0_readSigned_10

theorem dX0_readPlain_0 : decode cX0_readPlain 0 = .ok (.bipush 64, 2) := by decide +kernel
theorem dX0_readPlain_2 : decode cX0_readPlain 2 = .ok (.iload_n 0, 1) := by decide +kernel
theorem dX0_readPlain_3 : decode cX0_readPlain 3 = .ok (.isub, 1) := by decide +kernel
theorem dX0_readPlain_4 : decode cX0_readPlain 4 = .ok (.istore_n 3, 1) := by decide +kernel
theorem dX0_readPlain_5 : decode cX0_readPlain 5 = .ok (.lload_n 1, 1) := by decide +kernel
theorem dX0_readPlain_6 : decode cX0_readPlain 6 = .ok (.iload_n 3, 1) := by decide +kernel
theorem dX0_readPlain_7 : decode cX0_readPlain 7 = .ok (.lshl, 1) := by decide +kernel
theorem dX0_readPlain_8 : decode cX0_readPlain 8 = .ok (.iload_n 3, 1) := by decide +kernel
theorem dX0_readPlain_9 : decode cX0_readPlain 9 = .ok (.lushr, 1) := by decide +kernel
theorem dX0_readPlain_10 : decode cX0_readPlain 10 = .ok (.lreturn, 1) := by decide +kernel
def fx_Width_readPlain (w : Int32) (x : Int64) : Int64 := ((x <<< (((64 : Int32) - w).toInt64 &&& 63)).toUInt64 >>> (((64 : Int32) - w).toInt64.toUInt64 &&& Int64.toUInt64 63)).toInt64
set_option maxHeartbeats 4000000 in
set_option maxRecDepth 100000 in
theorem kx_Width_readPlain (l : Launch) (w : Int32) (x : Int64) : Met l yX0_readPlain wsX0_readPlain ({ frames := 0, cells := 0, slots := 0, locals := 0 }) (fun v _ => v = ([.int w, .long x] : List Value).toArray) (vp_Sl (fun r9 => r9 = fx_Width_readPlain w x)) 0 0 (fun _ => False) := by
  refine Met.ofW (cc := cX0_readPlain) (maxL := 4) (ret := (some .long)) (by decide) rfl ?_
  intro p e s m args below meth c s₁ B hml hv
  subst hv
  have hx := B.exec
  have hb := B.bytes
  have hr := B.returns
  have hta := aw_hts (atoms_spec (ws := wsX0_readPlain) B.pre)
  have hown : s.vm.findClass RX0 = some m.cls := findClass_of_methodNamed B.named
  have hlocks := B.notSynchronized
  have hl := lv_entry ([.int w, .long x]) (n := 4) (Nat.le_of_ble_eq_true rfl)
  rw [lg_entry_eq]
  generalize (lg_sl ([.int w, .long x]) ++ List.replicate (4 - (lg_sl ([.int w, .long x])).length) Slot.unset).toArray = ls at hl ⊢
  have hl : lv_has ls 4 [(0, .int w), (1, .long x)] := hl
  generalize hR : fx_Width_readPlain w x = R
  rw [fx_Width_readPlain] at hR
  refine lv_bipush (v := (64 : Int32)) hx hb dX0_readPlain_0 (by decide) ?_
  refine lv_iload_n hx hb dX0_readPlain_2 rfl (lv_at hl 0 rfl) ?_
  refine lv_isub hx hb dX0_readPlain_3 ?_
  refine lv_istore_n (lv' := [(3, .int ((64 : Int32) - w)), (0, .int w), (1, .long x)]) hx hb dX0_readPlain_4 rfl hl (by decide) rfl (fun ls hl => ?_)
  refine lv_lload_n hx hb dX0_readPlain_5 rfl (lv_at hl 2 rfl) ?_
  refine lv_iload_n hx hb dX0_readPlain_6 rfl (lv_at hl 0 rfl) ?_
  refine lv_lshl (v := x <<< (((64 : Int32) - w).toInt64 &&& 63)) hx hb dX0_readPlain_7 rfl ?_
  refine lv_iload_n hx hb dX0_readPlain_8 rfl (lv_at hl 0 rfl) ?_
  refine lv_lushr (v := ((x <<< (((64 : Int32) - w).toInt64 &&& 63)).toUInt64 >>> (((64 : Int32) - w).toInt64.toUInt64 &&& Int64.toUInt64 63)).toInt64) hx hb dX0_readPlain_9 rfl ?_
  exact W.lret (v := ((x <<< (((64 : Int32) - w).toInt64 &&& 63)).toUInt64 >>> (((64 : Int32) - w).toInt64.toUInt64 &&& Int64.toUInt64 63)).toInt64) hx hb hr (fun t ht hW => ⟨_, rfl, hR, ht⟩) (fun q h => by cases h) dX0_readPlain_10

theorem dX1_named_0 : decode cX1_named 0 = .ok (.iload_n 0, 1) := by decide +kernel
theorem dX1_named_1 : decode cX1_named 1 = .ok (.bipush 20, 2) := by decide +kernel
theorem dX1_named_3 : decode cX1_named 3 = .ok (.if_icmp .le 5, 3) := by decide +kernel
theorem dX1_named_6 : decode cX1_named 6 = .ok (.iconst 0, 1) := by decide +kernel
theorem dX1_named_7 : decode cX1_named 7 = .ok (.ireturn, 1) := by decide +kernel
theorem dX1_named_8 : decode cX1_named 8 = .ok (.iload_n 0, 1) := by decide +kernel
theorem dX1_named_9 : decode cX1_named 9 = .ok (.iconst 1, 1) := by decide +kernel
theorem dX1_named_10 : decode cX1_named 10 = .ok (.if_icmp .gt 5, 3) := by decide +kernel
theorem dX1_named_13 : decode cX1_named 13 = .ok (.iconst 1, 1) := by decide +kernel
theorem dX1_named_14 : decode cX1_named 14 = .ok (.ireturn, 1) := by decide +kernel
theorem dX1_named_15 : decode cX1_named 15 = .ok (.iload_n 0, 1) := by decide +kernel
theorem dX1_named_16 : decode cX1_named 16 = .ok (.bipush 16, 2) := by decide +kernel
theorem dX1_named_18 : decode cX1_named 18 = .ok (.if_icmp .ne 7, 3) := by decide +kernel
theorem dX1_named_21 : decode cX1_named 21 = .ok (.iconst 3, 1) := by decide +kernel
theorem dX1_named_22 : decode cX1_named 22 = .ok (.goto 4, 3) := by decide +kernel
theorem dX1_named_25 : decode cX1_named 25 = .ok (.iconst 2, 1) := by decide +kernel
theorem dX1_named_26 : decode cX1_named 26 = .ok (.ireturn, 1) := by decide +kernel
def fx_Op_named (o : Int32) : Int32 := 
  if o ≤ (20 : Int32) then 
    if (1 : Int32) < o then 
      if o = (16 : Int32) then (3 : Int32)
      else (2 : Int32)
    else (1 : Int32)
  else (0 : Int32)
set_option maxHeartbeats 4000000 in
set_option maxRecDepth 100000 in
theorem kx_Op_named (l : Launch) (o : Int32) : Met l yX1_named wsX1_named ({ frames := 0, cells := 0, slots := 0, locals := 0 }) (fun v _ => v = ([.int o] : List Value).toArray) (vp_Si (fun r9 => r9 = fx_Op_named o)) 0 0 (fun _ => False) := by
  refine Met.ofW (cc := cX1_named) (maxL := 1) (ret := (some .int)) (by decide) rfl ?_
  intro p e s m args below meth c s₁ B hml hv
  subst hv
  have hx := B.exec
  have hb := B.bytes
  have hr := B.returns
  have hta := aw_hts (atoms_spec (ws := wsX1_named) B.pre)
  have hown : s.vm.findClass RX1 = some m.cls := findClass_of_methodNamed B.named
  have hlocks := B.notSynchronized
  have hl := lv_entry ([.int o]) (n := 1) (Nat.le_of_ble_eq_true rfl)
  rw [lg_entry_eq]
  generalize (lg_sl ([.int o]) ++ List.replicate (1 - (lg_sl ([.int o])).length) Slot.unset).toArray = ls at hl ⊢
  have hl : lv_has ls 1 [(0, .int o)] := hl
  generalize hR : fx_Op_named o = R
  rw [fx_Op_named] at hR
  refine lv_iload_n hx hb dX1_named_0 rfl (lv_at hl 0 rfl) ?_
  refine lv_bipush (v := (20 : Int32)) hx hb dX1_named_1 (by decide) ?_
  refine lv_icmp_le (tgt := 8) hx hb dX1_named_3 (by decide) (fun c3 => ?_) (fun c3 => ?_)
  · skip
    rw [if_pos c3] at hR
    refine lv_iload_n hx hb dX1_named_8 rfl (lv_at hl 0 rfl) ?_
    refine lv_iconst (v := (1 : Int32)) hx hb dX1_named_9 (by decide) ?_
    refine lv_icmp_gt (tgt := 15) hx hb dX1_named_10 (by decide) (fun c10 => ?_) (fun c10 => ?_)
    · skip
      rw [if_pos c10] at hR
      refine lv_iload_n hx hb dX1_named_15 rfl (lv_at hl 0 rfl) ?_
      refine lv_bipush (v := (16 : Int32)) hx hb dX1_named_16 (by decide) ?_
      refine lv_icmp_ne (tgt := 25) hx hb dX1_named_18 (by decide) (fun c18 => ?_) (fun c18 => ?_)
      · skip
        rw [if_neg c18] at hR
        refine lv_iconst (v := (2 : Int32)) hx hb dX1_named_25 (by decide) ?_
        exact W.iret (v := (2 : Int32)) hx hb hr (fun t ht hW => ⟨_, rfl, hR, ht⟩) (fun q h => by cases h) dX1_named_26
      · skip
        rw [if_pos c18] at hR
        refine lv_iconst (v := (3 : Int32)) hx hb dX1_named_21 (by decide) ?_
        refine lv_goto (tgt := 26) hx hb dX1_named_22 (by decide) ?_
        exact W.iret (v := (3 : Int32)) hx hb hr (fun t ht hW => ⟨_, rfl, hR, ht⟩) (fun q h => by cases h) dX1_named_26
    · skip
      rw [if_neg c10] at hR
      refine lv_iconst (v := (1 : Int32)) hx hb dX1_named_13 (by decide) ?_
      exact W.iret (v := (1 : Int32)) hx hb hr (fun t ht hW => ⟨_, rfl, hR, ht⟩) (fun q h => by cases h) dX1_named_14
  · skip
    rw [if_neg c3] at hR
    refine lv_iconst (v := (0 : Int32)) hx hb dX1_named_6 (by decide) ?_
    exact W.iret (v := (0 : Int32)) hx hb hr (fun t ht hW => ⟨_, rfl, hR, ht⟩) (fun q h => by cases h) dX1_named_7

theorem mw_339 : (.code yX1_named cX1_named 1 (some .int) : Cond) ∈ AW := List.mem_filter.mpr ⟨List.mem_of_getElem? (i := 339) (by decide +kernel), rfl⟩
theorem mw_343 : (.methodLink RX1 9 yX1_named : Cond) ∈ AW := List.mem_filter.mpr ⟨List.mem_of_getElem? (i := 343) (by decide +kernel), rfl⟩
theorem mw_48 : (.initialized RX1 : Cond) ∈ AW := List.mem_filter.mpr ⟨List.mem_of_getElem? (i := 48) (by decide +kernel), rfl⟩
theorem mw_338 : (.static yX1_named : Cond) ∈ AW := List.mem_filter.mpr ⟨List.mem_of_getElem? (i := 338) (by decide +kernel), rfl⟩
theorem gX1_9 : GoodIn AW (va_wsS RX1 9 yX1_named wsX1_named) := aw_S mw_343 mw_338 mw_48 mw_339
theorem dX1_namedTerms_0 : decode cX1_namedTerms 0 = .ok (.iload_n 0, 1) := by decide +kernel
theorem dX1_namedTerms_1 : decode cX1_namedTerms 1 = .ok (.bipush 17, 2) := by decide +kernel
theorem dX1_namedTerms_3 : decode cX1_namedTerms 3 = .ok (.if_icmp .lt 13, 3) := by decide +kernel
theorem dX1_namedTerms_6 : decode cX1_namedTerms 6 = .ok (.iload_n 0, 1) := by decide +kernel
theorem dX1_namedTerms_7 : decode cX1_namedTerms 7 = .ok (.bipush 20, 2) := by decide +kernel
theorem dX1_namedTerms_9 : decode cX1_namedTerms 9 = .ok (.if_icmp .gt 7, 3) := by decide +kernel
theorem dX1_namedTerms_12 : decode cX1_namedTerms 12 = .ok (.iconst 1, 1) := by decide +kernel
theorem dX1_namedTerms_13 : decode cX1_namedTerms 13 = .ok (.goto 7, 3) := by decide +kernel
theorem dX1_namedTerms_16 : decode cX1_namedTerms 16 = .ok (.iload_n 0, 1) := by decide +kernel
theorem dX1_namedTerms_17 : decode cX1_namedTerms 17 = .ok (.invokestatic 9, 3) := by decide +kernel
theorem dX1_namedTerms_20 : decode cX1_namedTerms 20 = .ok (.ireturn, 1) := by decide +kernel
def fx_Op_namedTerms (o : Int32) : Int32 := 
  if o < (17 : Int32) then fx_Op_named o
  else 
    if (20 : Int32) < o then fx_Op_named o
    else (1 : Int32)
set_option maxHeartbeats 4000000 in
set_option maxRecDepth 100000 in
theorem kx_Op_namedTerms (l : Launch) (o : Int32) : Met l yX1_namedTerms wsX1_namedTerms ({ frames := 1, cells := 0, slots := 0, locals := 20 }) (fun v _ => v = ([.int o] : List Value).toArray) (vp_Si (fun r9 => r9 = fx_Op_namedTerms o)) 0 0 (fun _ => False) := by
  refine Met.ofW (cc := cX1_namedTerms) (maxL := 1) (ret := (some .int)) (by decide) rfl ?_
  intro p e s m args below meth c s₁ B hml hv
  subst hv
  have hx := B.exec
  have hb := B.bytes
  have hr := B.returns
  have hta := aw_hts (atoms_spec (ws := wsX1_namedTerms) B.pre)
  have hown : s.vm.findClass RX1 = some m.cls := findClass_of_methodNamed B.named
  have hlocks := B.notSynchronized
  have hl := lv_entry ([.int o]) (n := 1) (Nat.le_of_ble_eq_true rfl)
  rw [lg_entry_eq]
  generalize (lg_sl ([.int o]) ++ List.replicate (1 - (lg_sl ([.int o])).length) Slot.unset).toArray = ls at hl ⊢
  have hl : lv_has ls 1 [(0, .int o)] := hl
  generalize hR : fx_Op_namedTerms o = R
  rw [fx_Op_namedTerms] at hR
  refine lv_iload_n hx hb dX1_namedTerms_0 rfl (lv_at hl 0 rfl) ?_
  refine lv_bipush (v := (17 : Int32)) hx hb dX1_namedTerms_1 (by decide) ?_
  refine lv_icmp_lt (tgt := 16) hx hb dX1_namedTerms_3 (by decide) (fun c3 => ?_) (fun c3 => ?_)
  · skip
    rw [if_pos c3] at hR
    refine lv_iload_n hx hb dX1_namedTerms_16 rfl (lv_at hl 0 rfl) ?_
    refine wl_ci (va_runS (As := [.int o]) (rest := []) ⟨hx, hb, hml, hown, hta⟩ (kx_Op_named l o) (va_cwS 1 hta gX1_9 rfl rfl rfl (by decide +kernel) ⟨Nat.le_of_ble_eq_true rfl, Nat.le_of_ble_eq_true rfl⟩) preEq rfl rfl hl.1 rfl (lv_room (Nat.le_of_ble_eq_true rfl)) dX1_namedTerms_17 ⟨Nat.zero_le _, Nat.zero_le _⟩) ?_
    exact W.iret (v := fx_Op_named o) hx hb hr (fun t ht hW => ⟨_, rfl, hR, ht⟩) (fun q h => by cases h) dX1_namedTerms_20
  · skip
    rw [if_neg c3] at hR
    refine lv_iload_n hx hb dX1_namedTerms_6 rfl (lv_at hl 0 rfl) ?_
    refine lv_bipush (v := (20 : Int32)) hx hb dX1_namedTerms_7 (by decide) ?_
    refine lv_icmp_gt (tgt := 16) hx hb dX1_namedTerms_9 (by decide) (fun c9 => ?_) (fun c9 => ?_)
    · skip
      rw [if_pos c9] at hR
      refine lv_iload_n hx hb dX1_namedTerms_16 rfl (lv_at hl 0 rfl) ?_
      refine wl_ci (va_runS (As := [.int o]) (rest := []) ⟨hx, hb, hml, hown, hta⟩ (kx_Op_named l o) (va_cwS 1 hta gX1_9 rfl rfl rfl (by decide +kernel) ⟨Nat.le_of_ble_eq_true rfl, Nat.le_of_ble_eq_true rfl⟩) preEq rfl rfl hl.1 rfl (lv_room (Nat.le_of_ble_eq_true rfl)) dX1_namedTerms_17 ⟨Nat.zero_le _, Nat.zero_le _⟩) ?_
      exact W.iret (v := fx_Op_named o) hx hb hr (fun t ht hW => ⟨_, rfl, hR, ht⟩) (fun q h => by cases h) dX1_namedTerms_20
    · skip
      rw [if_neg c9] at hR
      refine lv_iconst (v := (1 : Int32)) hx hb dX1_namedTerms_12 (by decide) ?_
      refine lv_goto (tgt := 20) hx hb dX1_namedTerms_13 (by decide) ?_
      exact W.iret (v := (1 : Int32)) hx hb hr (fun t ht hW => ⟨_, rfl, hR, ht⟩) (fun q h => by cases h) dX1_namedTerms_20

theorem dX1_changesPlaces_0 : decode cX1_changesPlaces 0 = .ok (.iload_n 0, 1) := by decide +kernel
theorem dX1_changesPlaces_1 : decode cX1_changesPlaces 1 = .ok (.iconst 2, 1) := by decide +kernel
theorem dX1_changesPlaces_2 : decode cX1_changesPlaces 2 = .ok (.if_icmp .lt 8, 3) := by decide +kernel
theorem dX1_changesPlaces_5 : decode cX1_changesPlaces 5 = .ok (.iload_n 0, 1) := by decide +kernel
theorem dX1_changesPlaces_6 : decode cX1_changesPlaces 6 = .ok (.iconst 5, 1) := by decide +kernel
theorem dX1_changesPlaces_7 : decode cX1_changesPlaces 7 = .ok (.if_icmp .le 15, 3) := by decide +kernel
theorem dX1_changesPlaces_10 : decode cX1_changesPlaces 10 = .ok (.iload_n 0, 1) := by decide +kernel
theorem dX1_changesPlaces_11 : decode cX1_changesPlaces 11 = .ok (.bipush 7, 2) := by decide +kernel
theorem dX1_changesPlaces_13 : decode cX1_changesPlaces 13 = .ok (.if_icmp .eq 9, 3) := by decide +kernel
theorem dX1_changesPlaces_16 : decode cX1_changesPlaces 16 = .ok (.iload_n 0, 1) := by decide +kernel
theorem dX1_changesPlaces_17 : decode cX1_changesPlaces 17 = .ok (.bipush 13, 2) := by decide +kernel
theorem dX1_changesPlaces_19 : decode cX1_changesPlaces 19 = .ok (.if_icmp .ne 7, 3) := by decide +kernel
theorem dX1_changesPlaces_22 : decode cX1_changesPlaces 22 = .ok (.iconst 1, 1) := by decide +kernel
theorem dX1_changesPlaces_23 : decode cX1_changesPlaces 23 = .ok (.goto 4, 3) := by decide +kernel
theorem dX1_changesPlaces_26 : decode cX1_changesPlaces 26 = .ok (.iconst 0, 1) := by decide +kernel
theorem dX1_changesPlaces_27 : decode cX1_changesPlaces 27 = .ok (.ireturn, 1) := by decide +kernel
def fx_Op_changesPlaces (o : Int32) : Int32 := 
  if o < (2 : Int32) then 
    if o = (7 : Int32) then (1 : Int32)
    else 
      if o = (13 : Int32) then (1 : Int32)
      else (0 : Int32)
  else 
    if o ≤ (5 : Int32) then (1 : Int32)
    else 
      if o = (7 : Int32) then (1 : Int32)
      else 
        if o = (13 : Int32) then (1 : Int32)
        else (0 : Int32)
set_option maxHeartbeats 4000000 in
set_option maxRecDepth 100000 in
theorem kx_Op_changesPlaces (l : Launch) (o : Int32) : Met l yX1_changesPlaces wsX1_changesPlaces ({ frames := 0, cells := 0, slots := 0, locals := 0 }) (fun v _ => v = ([.int o] : List Value).toArray) (vp_Si (fun r9 => r9 = fx_Op_changesPlaces o)) 0 0 (fun _ => False) := by
  refine Met.ofW (cc := cX1_changesPlaces) (maxL := 1) (ret := (some .boolean)) (by decide) rfl ?_
  intro p e s m args below meth c s₁ B hml hv
  subst hv
  have hx := B.exec
  have hb := B.bytes
  have hr := B.returns
  have hta := aw_hts (atoms_spec (ws := wsX1_changesPlaces) B.pre)
  have hown : s.vm.findClass RX1 = some m.cls := findClass_of_methodNamed B.named
  have hlocks := B.notSynchronized
  have hl := lv_entry ([.int o]) (n := 1) (Nat.le_of_ble_eq_true rfl)
  rw [lg_entry_eq]
  generalize (lg_sl ([.int o]) ++ List.replicate (1 - (lg_sl ([.int o])).length) Slot.unset).toArray = ls at hl ⊢
  have hl : lv_has ls 1 [(0, .int o)] := hl
  generalize hR : fx_Op_changesPlaces o = R
  rw [fx_Op_changesPlaces] at hR
  refine lv_iload_n hx hb dX1_changesPlaces_0 rfl (lv_at hl 0 rfl) ?_
  refine lv_iconst (v := (2 : Int32)) hx hb dX1_changesPlaces_1 (by decide) ?_
  refine lv_icmp_lt (tgt := 10) hx hb dX1_changesPlaces_2 (by decide) (fun c2 => ?_) (fun c2 => ?_)
  · skip
    rw [if_pos c2] at hR
    refine lv_iload_n hx hb dX1_changesPlaces_10 rfl (lv_at hl 0 rfl) ?_
    refine lv_bipush (v := (7 : Int32)) hx hb dX1_changesPlaces_11 (by decide) ?_
    refine lv_icmp_eq (tgt := 22) hx hb dX1_changesPlaces_13 (by decide) (fun c13 => ?_) (fun c13 => ?_)
    · skip
      rw [if_pos c13] at hR
      refine lv_iconst (v := (1 : Int32)) hx hb dX1_changesPlaces_22 (by decide) ?_
      refine lv_goto (tgt := 27) hx hb dX1_changesPlaces_23 (by decide) ?_
      exact W.zret (v := (1 : Int32)) (ty := .boolean) hx hb hr rfl (fun t ht hW => ⟨_, rfl, hR, ht⟩) (fun q h => by cases h) dX1_changesPlaces_27
    · skip
      rw [if_neg c13] at hR
      refine lv_iload_n hx hb dX1_changesPlaces_16 rfl (lv_at hl 0 rfl) ?_
      refine lv_bipush (v := (13 : Int32)) hx hb dX1_changesPlaces_17 (by decide) ?_
      refine lv_icmp_ne (tgt := 26) hx hb dX1_changesPlaces_19 (by decide) (fun c19 => ?_) (fun c19 => ?_)
      · skip
        rw [if_neg c19] at hR
        refine lv_iconst (v := (0 : Int32)) hx hb dX1_changesPlaces_26 (by decide) ?_
        exact W.zret (v := (0 : Int32)) (ty := .boolean) hx hb hr rfl (fun t ht hW => ⟨_, rfl, hR, ht⟩) (fun q h => by cases h) dX1_changesPlaces_27
      · skip
        rw [if_pos c19] at hR
        refine lv_iconst (v := (1 : Int32)) hx hb dX1_changesPlaces_22 (by decide) ?_
        refine lv_goto (tgt := 27) hx hb dX1_changesPlaces_23 (by decide) ?_
        exact W.zret (v := (1 : Int32)) (ty := .boolean) hx hb hr rfl (fun t ht hW => ⟨_, rfl, hR, ht⟩) (fun q h => by cases h) dX1_changesPlaces_27
  · skip
    rw [if_neg c2] at hR
    refine lv_iload_n hx hb dX1_changesPlaces_5 rfl (lv_at hl 0 rfl) ?_
    refine lv_iconst (v := (5 : Int32)) hx hb dX1_changesPlaces_6 (by decide) ?_
    refine lv_icmp_le (tgt := 22) hx hb dX1_changesPlaces_7 (by decide) (fun c7 => ?_) (fun c7 => ?_)
    · skip
      rw [if_pos c7] at hR
      refine lv_iconst (v := (1 : Int32)) hx hb dX1_changesPlaces_22 (by decide) ?_
      refine lv_goto (tgt := 27) hx hb dX1_changesPlaces_23 (by decide) ?_
      exact W.zret (v := (1 : Int32)) (ty := .boolean) hx hb hr rfl (fun t ht hW => ⟨_, rfl, hR, ht⟩) (fun q h => by cases h) dX1_changesPlaces_27
    · skip
      rw [if_neg c7] at hR
      refine lv_iload_n hx hb dX1_changesPlaces_10 rfl (lv_at hl 0 rfl) ?_
      refine lv_bipush (v := (7 : Int32)) hx hb dX1_changesPlaces_11 (by decide) ?_
      refine lv_icmp_eq (tgt := 22) hx hb dX1_changesPlaces_13 (by decide) (fun c13 => ?_) (fun c13 => ?_)
      · skip
        rw [if_pos c13] at hR
        refine lv_iconst (v := (1 : Int32)) hx hb dX1_changesPlaces_22 (by decide) ?_
        refine lv_goto (tgt := 27) hx hb dX1_changesPlaces_23 (by decide) ?_
        exact W.zret (v := (1 : Int32)) (ty := .boolean) hx hb hr rfl (fun t ht hW => ⟨_, rfl, hR, ht⟩) (fun q h => by cases h) dX1_changesPlaces_27
      · skip
        rw [if_neg c13] at hR
        refine lv_iload_n hx hb dX1_changesPlaces_16 rfl (lv_at hl 0 rfl) ?_
        refine lv_bipush (v := (13 : Int32)) hx hb dX1_changesPlaces_17 (by decide) ?_
        refine lv_icmp_ne (tgt := 26) hx hb dX1_changesPlaces_19 (by decide) (fun c19 => ?_) (fun c19 => ?_)
        · skip
          rw [if_neg c19] at hR
          refine lv_iconst (v := (0 : Int32)) hx hb dX1_changesPlaces_26 (by decide) ?_
          exact W.zret (v := (0 : Int32)) (ty := .boolean) hx hb hr rfl (fun t ht hW => ⟨_, rfl, hR, ht⟩) (fun q h => by cases h) dX1_changesPlaces_27
        · skip
          rw [if_pos c19] at hR
          refine lv_iconst (v := (1 : Int32)) hx hb dX1_changesPlaces_22 (by decide) ?_
          refine lv_goto (tgt := 27) hx hb dX1_changesPlaces_23 (by decide) ?_
          exact W.zret (v := (1 : Int32)) (ty := .boolean) hx hb hr rfl (fun t ht hW => ⟨_, rfl, hR, ht⟩) (fun q h => by cases h) dX1_changesPlaces_27

theorem dX1_isThereFor_0 : decode cX1_isThereFor 0 = .ok (.iload_n 0, 1) := by decide +kernel
theorem dX1_isThereFor_1 : decode cX1_isThereFor 1 = .ok (.bipush 7, 2) := by decide +kernel
theorem dX1_isThereFor_3 : decode cX1_isThereFor 3 = .ok (.if_icmp .ne 15, 3) := by decide +kernel
theorem dX1_isThereFor_6 : decode cX1_isThereFor 6 = .ok (.iload_n 1, 1) := by decide +kernel
theorem dX1_isThereFor_7 : decode cX1_isThereFor 7 = .ok (.bipush 16, 2) := by decide +kernel
theorem dX1_isThereFor_9 : decode cX1_isThereFor 9 = .ok (.if_icmp .gt 7, 3) := by decide +kernel
theorem dX1_isThereFor_12 : decode cX1_isThereFor 12 = .ok (.iconst 1, 1) := by decide +kernel
theorem dX1_isThereFor_13 : decode cX1_isThereFor 13 = .ok (.goto 4, 3) := by decide +kernel
theorem dX1_isThereFor_16 : decode cX1_isThereFor 16 = .ok (.iconst 0, 1) := by decide +kernel
theorem dX1_isThereFor_17 : decode cX1_isThereFor 17 = .ok (.ireturn, 1) := by decide +kernel
theorem dX1_isThereFor_18 : decode cX1_isThereFor 18 = .ok (.iload_n 0, 1) := by decide +kernel
theorem dX1_isThereFor_19 : decode cX1_isThereFor 19 = .ok (.bipush 8, 2) := by decide +kernel
theorem dX1_isThereFor_21 : decode cX1_isThereFor 21 = .ok (.if_icmp .eq 9, 3) := by decide +kernel
theorem dX1_isThereFor_24 : decode cX1_isThereFor 24 = .ok (.iload_n 0, 1) := by decide +kernel
theorem dX1_isThereFor_25 : decode cX1_isThereFor 25 = .ok (.bipush 9, 2) := by decide +kernel
theorem dX1_isThereFor_27 : decode cX1_isThereFor 27 = .ok (.if_icmp .ne 9, 3) := by decide +kernel
theorem dX1_isThereFor_30 : decode cX1_isThereFor 30 = .ok (.iload_n 1, 1) := by decide +kernel
theorem dX1_isThereFor_31 : decode cX1_isThereFor 31 = .ok (.bipush 8, 2) := by decide +kernel
theorem dX1_isThereFor_33 : decode cX1_isThereFor 33 = .ok (.if_icmp .ne 7, 3) := by decide +kernel
theorem dX1_isThereFor_36 : decode cX1_isThereFor 36 = .ok (.iconst 1, 1) := by decide +kernel
theorem dX1_isThereFor_37 : decode cX1_isThereFor 37 = .ok (.goto 4, 3) := by decide +kernel
theorem dX1_isThereFor_40 : decode cX1_isThereFor 40 = .ok (.iconst 0, 1) := by decide +kernel
theorem dX1_isThereFor_41 : decode cX1_isThereFor 41 = .ok (.ireturn, 1) := by decide +kernel
def fx_Op_isThereFor (o : Int32) (w : Int32) : Int32 := 
  if o = (7 : Int32) then 
    if (16 : Int32) < w then (0 : Int32)
    else (1 : Int32)
  else 
    if o = (8 : Int32) then 
      if w = (8 : Int32) then (1 : Int32)
      else (0 : Int32)
    else 
      if o = (9 : Int32) then 
        if w = (8 : Int32) then (1 : Int32)
        else (0 : Int32)
      else (1 : Int32)
set_option maxHeartbeats 4000000 in
set_option maxRecDepth 100000 in
theorem kx_Op_isThereFor (l : Launch) (o : Int32) (w : Int32) : Met l yX1_isThereFor wsX1_isThereFor ({ frames := 0, cells := 0, slots := 0, locals := 0 }) (fun v _ => v = ([.int o, .int w] : List Value).toArray) (vp_Si (fun r9 => r9 = fx_Op_isThereFor o w)) 0 0 (fun _ => False) := by
  refine Met.ofW (cc := cX1_isThereFor) (maxL := 2) (ret := (some .boolean)) (by decide) rfl ?_
  intro p e s m args below meth c s₁ B hml hv
  subst hv
  have hx := B.exec
  have hb := B.bytes
  have hr := B.returns
  have hta := aw_hts (atoms_spec (ws := wsX1_isThereFor) B.pre)
  have hown : s.vm.findClass RX1 = some m.cls := findClass_of_methodNamed B.named
  have hlocks := B.notSynchronized
  have hl := lv_entry ([.int o, .int w]) (n := 2) (Nat.le_of_ble_eq_true rfl)
  rw [lg_entry_eq]
  generalize (lg_sl ([.int o, .int w]) ++ List.replicate (2 - (lg_sl ([.int o, .int w])).length) Slot.unset).toArray = ls at hl ⊢
  have hl : lv_has ls 2 [(0, .int o), (1, .int w)] := hl
  generalize hR : fx_Op_isThereFor o w = R
  rw [fx_Op_isThereFor] at hR
  refine lv_iload_n hx hb dX1_isThereFor_0 rfl (lv_at hl 0 rfl) ?_
  refine lv_bipush (v := (7 : Int32)) hx hb dX1_isThereFor_1 (by decide) ?_
  refine lv_icmp_ne (tgt := 18) hx hb dX1_isThereFor_3 (by decide) (fun c3 => ?_) (fun c3 => ?_)
  · skip
    rw [if_neg c3] at hR
    refine lv_iload_n hx hb dX1_isThereFor_18 rfl (lv_at hl 0 rfl) ?_
    refine lv_bipush (v := (8 : Int32)) hx hb dX1_isThereFor_19 (by decide) ?_
    refine lv_icmp_eq (tgt := 30) hx hb dX1_isThereFor_21 (by decide) (fun c21 => ?_) (fun c21 => ?_)
    · skip
      rw [if_pos c21] at hR
      refine lv_iload_n hx hb dX1_isThereFor_30 rfl (lv_at hl 1 rfl) ?_
      refine lv_bipush (v := (8 : Int32)) hx hb dX1_isThereFor_31 (by decide) ?_
      refine lv_icmp_ne (tgt := 40) hx hb dX1_isThereFor_33 (by decide) (fun c33 => ?_) (fun c33 => ?_)
      · skip
        rw [if_neg c33] at hR
        refine lv_iconst (v := (0 : Int32)) hx hb dX1_isThereFor_40 (by decide) ?_
        exact W.zret (v := (0 : Int32)) (ty := .boolean) hx hb hr rfl (fun t ht hW => ⟨_, rfl, hR, ht⟩) (fun q h => by cases h) dX1_isThereFor_41
      · skip
        rw [if_pos c33] at hR
        refine lv_iconst (v := (1 : Int32)) hx hb dX1_isThereFor_36 (by decide) ?_
        refine lv_goto (tgt := 41) hx hb dX1_isThereFor_37 (by decide) ?_
        exact W.zret (v := (1 : Int32)) (ty := .boolean) hx hb hr rfl (fun t ht hW => ⟨_, rfl, hR, ht⟩) (fun q h => by cases h) dX1_isThereFor_41
    · skip
      rw [if_neg c21] at hR
      refine lv_iload_n hx hb dX1_isThereFor_24 rfl (lv_at hl 0 rfl) ?_
      refine lv_bipush (v := (9 : Int32)) hx hb dX1_isThereFor_25 (by decide) ?_
      refine lv_icmp_ne (tgt := 36) hx hb dX1_isThereFor_27 (by decide) (fun c27 => ?_) (fun c27 => ?_)
      · skip
        rw [if_neg c27] at hR
        refine lv_iconst (v := (1 : Int32)) hx hb dX1_isThereFor_36 (by decide) ?_
        refine lv_goto (tgt := 41) hx hb dX1_isThereFor_37 (by decide) ?_
        exact W.zret (v := (1 : Int32)) (ty := .boolean) hx hb hr rfl (fun t ht hW => ⟨_, rfl, hR, ht⟩) (fun q h => by cases h) dX1_isThereFor_41
      · skip
        rw [if_pos c27] at hR
        refine lv_iload_n hx hb dX1_isThereFor_30 rfl (lv_at hl 1 rfl) ?_
        refine lv_bipush (v := (8 : Int32)) hx hb dX1_isThereFor_31 (by decide) ?_
        refine lv_icmp_ne (tgt := 40) hx hb dX1_isThereFor_33 (by decide) (fun c33 => ?_) (fun c33 => ?_)
        · skip
          rw [if_neg c33] at hR
          refine lv_iconst (v := (0 : Int32)) hx hb dX1_isThereFor_40 (by decide) ?_
          exact W.zret (v := (0 : Int32)) (ty := .boolean) hx hb hr rfl (fun t ht hW => ⟨_, rfl, hR, ht⟩) (fun q h => by cases h) dX1_isThereFor_41
        · skip
          rw [if_pos c33] at hR
          refine lv_iconst (v := (1 : Int32)) hx hb dX1_isThereFor_36 (by decide) ?_
          refine lv_goto (tgt := 41) hx hb dX1_isThereFor_37 (by decide) ?_
          exact W.zret (v := (1 : Int32)) (ty := .boolean) hx hb hr rfl (fun t ht hW => ⟨_, rfl, hR, ht⟩) (fun q h => by cases h) dX1_isThereFor_41
  · skip
    rw [if_pos c3] at hR
    refine lv_iload_n hx hb dX1_isThereFor_6 rfl (lv_at hl 1 rfl) ?_
    refine lv_bipush (v := (16 : Int32)) hx hb dX1_isThereFor_7 (by decide) ?_
    refine lv_icmp_gt (tgt := 16) hx hb dX1_isThereFor_9 (by decide) (fun c9 => ?_) (fun c9 => ?_)
    · skip
      rw [if_pos c9] at hR
      refine lv_iconst (v := (0 : Int32)) hx hb dX1_isThereFor_16 (by decide) ?_
      exact W.zret (v := (0 : Int32)) (ty := .boolean) hx hb hr rfl (fun t ht hW => ⟨_, rfl, hR, ht⟩) (fun q h => by cases h) dX1_isThereFor_17
    · skip
      rw [if_neg c9] at hR
      refine lv_iconst (v := (1 : Int32)) hx hb dX1_isThereFor_12 (by decide) ?_
      refine lv_goto (tgt := 17) hx hb dX1_isThereFor_13 (by decide) ?_
      exact W.zret (v := (1 : Int32)) (ty := .boolean) hx hb hr rfl (fun t ht hW => ⟨_, rfl, hR, ht⟩) (fun q h => by cases h) dX1_isThereFor_17

theorem dX1_costFor_0 : decode cX1_costFor 0 = .ok (.iload_n 0, 1) := by decide +kernel
theorem dX1_costFor_1 : decode cX1_costFor 1 = .ok (.tableswitch 93 7 20 #[71, 81, 81, 84, 84, 84, 93, 93, 93, 93, 88, 88, 88, 90], 71) := by decide +kernel
theorem dX1_costFor_72 : decode cX1_costFor 72 = .ok (.iload_n 1, 1) := by decide +kernel
theorem dX1_costFor_73 : decode cX1_costFor 73 = .ok (.iload_n 1, 1) := by decide +kernel
theorem dX1_costFor_74 : decode cX1_costFor 74 = .ok (.imul, 1) := by decide +kernel
theorem dX1_costFor_75 : decode cX1_costFor 75 = .ok (.iconst 5, 1) := by decide +kernel
theorem dX1_costFor_76 : decode cX1_costFor 76 = .ok (.imul, 1) := by decide +kernel
theorem dX1_costFor_77 : decode cX1_costFor 77 = .ok (.iconst 4, 1) := by decide +kernel
theorem dX1_costFor_78 : decode cX1_costFor 78 = .ok (.idiv, 1) := by decide +kernel
theorem dX1_costFor_79 : decode cX1_costFor 79 = .ok (.iconst 1, 1) := by decide +kernel
theorem dX1_costFor_80 : decode cX1_costFor 80 = .ok (.iadd, 1) := by decide +kernel
theorem dX1_costFor_81 : decode cX1_costFor 81 = .ok (.ireturn, 1) := by decide +kernel
theorem dX1_costFor_82 : decode cX1_costFor 82 = .ok (.bipush 100, 2) := by decide +kernel
theorem dX1_costFor_84 : decode cX1_costFor 84 = .ok (.ireturn, 1) := by decide +kernel
theorem dX1_costFor_85 : decode cX1_costFor 85 = .ok (.iload_n 1, 1) := by decide +kernel
theorem dX1_costFor_86 : decode cX1_costFor 86 = .ok (.iconst 3, 1) := by decide +kernel
theorem dX1_costFor_87 : decode cX1_costFor 87 = .ok (.imul, 1) := by decide +kernel
theorem dX1_costFor_88 : decode cX1_costFor 88 = .ok (.ireturn, 1) := by decide +kernel
theorem dX1_costFor_89 : decode cX1_costFor 89 = .ok (.iconst 0, 1) := by decide +kernel
theorem dX1_costFor_90 : decode cX1_costFor 90 = .ok (.ireturn, 1) := by decide +kernel
theorem dX1_costFor_91 : decode cX1_costFor 91 = .ok (.bipush 40, 2) := by decide +kernel
theorem dX1_costFor_93 : decode cX1_costFor 93 = .ok (.ireturn, 1) := by decide +kernel
theorem dX1_costFor_94 : decode cX1_costFor 94 = .ok (.iload_n 1, 1) := by decide +kernel
theorem dX1_costFor_95 : decode cX1_costFor 95 = .ok (.ireturn, 1) := by decide +kernel
def fx_Op_costFor (o : Int32) (w : Int32) : Int32 := 
  if o = (7 : Int32) then (((w * w) * (5 : Int32)) / (4 : Int32)) + (1 : Int32)
  else 
    if o = (8 : Int32) then (100 : Int32)
    else 
      if o = (9 : Int32) then (100 : Int32)
      else 
        if o = (10 : Int32) then w * (3 : Int32)
        else 
          if o = (11 : Int32) then w * (3 : Int32)
          else 
            if o = (12 : Int32) then w * (3 : Int32)
            else 
              if o = (17 : Int32) then (0 : Int32)
              else 
                if o = (18 : Int32) then (0 : Int32)
                else 
                  if o = (19 : Int32) then (0 : Int32)
                  else 
                    if o = (20 : Int32) then (40 : Int32)
                    else w
set_option maxHeartbeats 4000000 in
set_option maxRecDepth 100000 in
theorem kx_Op_costFor (l : Launch) (o : Int32) (w : Int32) : Met l yX1_costFor wsX1_costFor ({ frames := 0, cells := 0, slots := 0, locals := 0 }) (fun v _ => v = ([.int o, .int w] : List Value).toArray) (vp_Si (fun r9 => r9 = fx_Op_costFor o w)) 0 0 (fun _ => False) := by
  refine Met.ofW (cc := cX1_costFor) (maxL := 2) (ret := (some .int)) (by decide) rfl ?_
  intro p e s m args below meth c s₁ B hml hv
  subst hv
  have hx := B.exec
  have hb := B.bytes
  have hr := B.returns
  have hta := aw_hts (atoms_spec (ws := wsX1_costFor) B.pre)
  have hown : s.vm.findClass RX1 = some m.cls := findClass_of_methodNamed B.named
  have hlocks := B.notSynchronized
  have hl := lv_entry ([.int o, .int w]) (n := 2) (Nat.le_of_ble_eq_true rfl)
  rw [lg_entry_eq]
  generalize (lg_sl ([.int o, .int w]) ++ List.replicate (2 - (lg_sl ([.int o, .int w])).length) Slot.unset).toArray = ls at hl ⊢
  have hl : lv_has ls 2 [(0, .int o), (1, .int w)] := hl
  generalize hR : fx_Op_costFor o w = R
  rw [fx_Op_costFor] at hR
  refine lv_iload_n hx hb dX1_costFor_0 rfl (lv_at hl 0 rfl) ?_
  by_cases c1_7 : o = (7 : Int32)
  · skip
    rw [if_pos c1_7] at hR
    refine lv_tableIn (tgt := 72) hx hb dX1_costFor_1 (by rw [c1_7]; decide) (by rw [c1_7]; decide) (by rw [c1_7] <;> rfl) (by decide) ?_
    refine lv_iload_n hx hb dX1_costFor_72 rfl (lv_at hl 1 rfl) ?_
    refine lv_iload_n hx hb dX1_costFor_73 rfl (lv_at hl 1 rfl) ?_
    refine lv_imul hx hb dX1_costFor_74 ?_
    refine lv_iconst (v := (5 : Int32)) hx hb dX1_costFor_75 (by decide) ?_
    refine lv_imul hx hb dX1_costFor_76 ?_
    refine lv_iconst (v := (4 : Int32)) hx hb dX1_costFor_77 (by decide) ?_
    refine lv_idiv hx hb dX1_costFor_78 (by decide) ?_
    refine lv_iconst (v := (1 : Int32)) hx hb dX1_costFor_79 (by decide) ?_
    refine lv_iadd hx hb dX1_costFor_80 ?_
    exact W.iret (v := (((w * w) * (5 : Int32)) / (4 : Int32)) + (1 : Int32)) hx hb hr (fun t ht hW => ⟨_, rfl, hR, ht⟩) (fun q h => by cases h) dX1_costFor_81
  · skip
    rw [if_neg c1_7] at hR
    by_cases c1_8 : o = (8 : Int32)
    · skip
      rw [if_pos c1_8] at hR
      refine lv_tableIn (tgt := 82) hx hb dX1_costFor_1 (by rw [c1_8]; decide) (by rw [c1_8]; decide) (by rw [c1_8] <;> rfl) (by decide) ?_
      refine lv_bipush (v := (100 : Int32)) hx hb dX1_costFor_82 (by decide) ?_
      exact W.iret (v := (100 : Int32)) hx hb hr (fun t ht hW => ⟨_, rfl, hR, ht⟩) (fun q h => by cases h) dX1_costFor_84
    · skip
      rw [if_neg c1_8] at hR
      by_cases c1_9 : o = (9 : Int32)
      · skip
        rw [if_pos c1_9] at hR
        refine lv_tableIn (tgt := 82) hx hb dX1_costFor_1 (by rw [c1_9]; decide) (by rw [c1_9]; decide) (by rw [c1_9] <;> rfl) (by decide) ?_
        refine lv_bipush (v := (100 : Int32)) hx hb dX1_costFor_82 (by decide) ?_
        exact W.iret (v := (100 : Int32)) hx hb hr (fun t ht hW => ⟨_, rfl, hR, ht⟩) (fun q h => by cases h) dX1_costFor_84
      · skip
        rw [if_neg c1_9] at hR
        by_cases c1_10 : o = (10 : Int32)
        · skip
          rw [if_pos c1_10] at hR
          refine lv_tableIn (tgt := 85) hx hb dX1_costFor_1 (by rw [c1_10]; decide) (by rw [c1_10]; decide) (by rw [c1_10] <;> rfl) (by decide) ?_
          refine lv_iload_n hx hb dX1_costFor_85 rfl (lv_at hl 1 rfl) ?_
          refine lv_iconst (v := (3 : Int32)) hx hb dX1_costFor_86 (by decide) ?_
          refine lv_imul hx hb dX1_costFor_87 ?_
          exact W.iret (v := w * (3 : Int32)) hx hb hr (fun t ht hW => ⟨_, rfl, hR, ht⟩) (fun q h => by cases h) dX1_costFor_88
        · skip
          rw [if_neg c1_10] at hR
          by_cases c1_11 : o = (11 : Int32)
          · skip
            rw [if_pos c1_11] at hR
            refine lv_tableIn (tgt := 85) hx hb dX1_costFor_1 (by rw [c1_11]; decide) (by rw [c1_11]; decide) (by rw [c1_11] <;> rfl) (by decide) ?_
            refine lv_iload_n hx hb dX1_costFor_85 rfl (lv_at hl 1 rfl) ?_
            refine lv_iconst (v := (3 : Int32)) hx hb dX1_costFor_86 (by decide) ?_
            refine lv_imul hx hb dX1_costFor_87 ?_
            exact W.iret (v := w * (3 : Int32)) hx hb hr (fun t ht hW => ⟨_, rfl, hR, ht⟩) (fun q h => by cases h) dX1_costFor_88
          · skip
            rw [if_neg c1_11] at hR
            by_cases c1_12 : o = (12 : Int32)
            · skip
              rw [if_pos c1_12] at hR
              refine lv_tableIn (tgt := 85) hx hb dX1_costFor_1 (by rw [c1_12]; decide) (by rw [c1_12]; decide) (by rw [c1_12] <;> rfl) (by decide) ?_
              refine lv_iload_n hx hb dX1_costFor_85 rfl (lv_at hl 1 rfl) ?_
              refine lv_iconst (v := (3 : Int32)) hx hb dX1_costFor_86 (by decide) ?_
              refine lv_imul hx hb dX1_costFor_87 ?_
              exact W.iret (v := w * (3 : Int32)) hx hb hr (fun t ht hW => ⟨_, rfl, hR, ht⟩) (fun q h => by cases h) dX1_costFor_88
            · skip
              rw [if_neg c1_12] at hR
              by_cases c1_17 : o = (17 : Int32)
              · skip
                rw [if_pos c1_17] at hR
                refine lv_tableIn (tgt := 89) hx hb dX1_costFor_1 (by rw [c1_17]; decide) (by rw [c1_17]; decide) (by rw [c1_17] <;> rfl) (by decide) ?_
                refine lv_iconst (v := (0 : Int32)) hx hb dX1_costFor_89 (by decide) ?_
                exact W.iret (v := (0 : Int32)) hx hb hr (fun t ht hW => ⟨_, rfl, hR, ht⟩) (fun q h => by cases h) dX1_costFor_90
              · skip
                rw [if_neg c1_17] at hR
                by_cases c1_18 : o = (18 : Int32)
                · skip
                  rw [if_pos c1_18] at hR
                  refine lv_tableIn (tgt := 89) hx hb dX1_costFor_1 (by rw [c1_18]; decide) (by rw [c1_18]; decide) (by rw [c1_18] <;> rfl) (by decide) ?_
                  refine lv_iconst (v := (0 : Int32)) hx hb dX1_costFor_89 (by decide) ?_
                  exact W.iret (v := (0 : Int32)) hx hb hr (fun t ht hW => ⟨_, rfl, hR, ht⟩) (fun q h => by cases h) dX1_costFor_90
                · skip
                  rw [if_neg c1_18] at hR
                  by_cases c1_19 : o = (19 : Int32)
                  · skip
                    rw [if_pos c1_19] at hR
                    refine lv_tableIn (tgt := 89) hx hb dX1_costFor_1 (by rw [c1_19]; decide) (by rw [c1_19]; decide) (by rw [c1_19] <;> rfl) (by decide) ?_
                    refine lv_iconst (v := (0 : Int32)) hx hb dX1_costFor_89 (by decide) ?_
                    exact W.iret (v := (0 : Int32)) hx hb hr (fun t ht hW => ⟨_, rfl, hR, ht⟩) (fun q h => by cases h) dX1_costFor_90
                  · skip
                    rw [if_neg c1_19] at hR
                    by_cases c1_20 : o = (20 : Int32)
                    · skip
                      rw [if_pos c1_20] at hR
                      refine lv_tableIn (tgt := 91) hx hb dX1_costFor_1 (by rw [c1_20]; decide) (by rw [c1_20]; decide) (by rw [c1_20] <;> rfl) (by decide) ?_
                      refine lv_bipush (v := (40 : Int32)) hx hb dX1_costFor_91 (by decide) ?_
                      exact W.iret (v := (40 : Int32)) hx hb hr (fun t ht hW => ⟨_, rfl, hR, ht⟩) (fun q h => by cases h) dX1_costFor_93
                    · skip
                      rw [if_neg c1_20] at hR
                      have t1_7 := lv_neT (a := 7) c1_7 (by decide)
                      have t1_8 := lv_neT (a := 8) c1_8 (by decide)
                      have t1_9 := lv_neT (a := 9) c1_9 (by decide)
                      have t1_10 := lv_neT (a := 10) c1_10 (by decide)
                      have t1_11 := lv_neT (a := 11) c1_11 (by decide)
                      have t1_12 := lv_neT (a := 12) c1_12 (by decide)
                      have t1_17 := lv_neT (a := 17) c1_17 (by decide)
                      have t1_18 := lv_neT (a := 18) c1_18 (by decide)
                      have t1_19 := lv_neT (a := 19) c1_19 (by decide)
                      have t1_20 := lv_neT (a := 20) c1_20 (by decide)
                      refine wl_tabD (tgt := 94) (ks := [7, 8, 9, 10, 11, 12, 17, 18, 19, 20]) hx hb dX1_costFor_1 (by decide) (by decide +kernel) (by intro k hk; simp only [List.mem_cons, List.not_mem_nil, or_false] at hk; rcases hk with rfl | rfl | rfl | rfl | rfl | rfl | rfl | rfl | rfl | rfl <;> assumption) (by decide) ?_
                      refine lv_iload_n hx hb dX1_costFor_94 rfl (lv_at hl 1 rfl) ?_
                      exact W.iret (v := w) hx hb hr (fun t ht hW => ⟨_, rfl, hR, ht⟩) (fun q h => by cases h) dX1_costFor_95

theorem mw_369 : (.constantLong RX1 13 (-1) : Cond) ∈ AW := List.mem_filter.mpr ⟨List.mem_of_getElem? (i := 369) (by decide +kernel), rfl⟩
theorem dX1_bit_0 : decode cX1_bit 0 = .ok (.iload_n 0, 1) := by decide +kernel
theorem dX1_bit_1 : decode cX1_bit 1 = .ok (.ifCond .eq 9, 3) := by decide +kernel
theorem dX1_bit_4 : decode cX1_bit 4 = .ok (.ldc2_w 13, 3) := by decide +kernel
theorem dX1_bit_7 : decode cX1_bit 7 = .ok (.goto 4, 3) := by decide +kernel
theorem dX1_bit_10 : decode cX1_bit 10 = .ok (.lconst 0, 1) := by decide +kernel
theorem dX1_bit_11 : decode cX1_bit 11 = .ok (.lreturn, 1) := by decide +kernel
def fx_Op_bit (z : Int32) : Int64 := 
  if z = (0 : Int32) then (0 : Int64)
  else (-1 : Int64)
set_option maxHeartbeats 4000000 in
set_option maxRecDepth 100000 in
theorem kx_Op_bit (l : Launch) (z : Int32) : Met l yX1_bit wsX1_bit ({ frames := 0, cells := 0, slots := 0, locals := 0 }) (fun v _ => v = ([.int z] : List Value).toArray) (vp_Sl (fun r9 => r9 = fx_Op_bit z)) 0 0 (fun _ => False) := by
  refine Met.ofW (cc := cX1_bit) (maxL := 1) (ret := (some .long)) (by decide) rfl ?_
  intro p e s m args below meth c s₁ B hml hv
  subst hv
  have hx := B.exec
  have hb := B.bytes
  have hr := B.returns
  have hta := aw_hts (atoms_spec (ws := wsX1_bit) B.pre)
  have hown : s.vm.findClass RX1 = some m.cls := findClass_of_methodNamed B.named
  have hlocks := B.notSynchronized
  have hc13 := hta _ mw_369
  have hl := lv_entry ([.int z]) (n := 1) (Nat.le_of_ble_eq_true rfl)
  rw [lg_entry_eq]
  generalize (lg_sl ([.int z]) ++ List.replicate (1 - (lg_sl ([.int z])).length) Slot.unset).toArray = ls at hl ⊢
  have hl : lv_has ls 1 [(0, .int z)] := hl
  generalize hR : fx_Op_bit z = R
  rw [fx_Op_bit] at hR
  refine lv_iload_n hx hb dX1_bit_0 rfl (lv_at hl 0 rfl) ?_
  refine lv_if_eq (tgt := 10) hx hb dX1_bit_1 (by decide) (fun c1 => ?_) (fun c1 => ?_)
  · skip
    rw [if_pos c1] at hR
    refine lv_lconst (v := (0 : Int64)) hx hb dX1_bit_10 (by decide) ?_
    exact W.lret (v := (0 : Int64)) hx hb hr (fun t ht hW => ⟨_, rfl, hR, ht⟩) (fun q h => by cases h) dX1_bit_11
  · skip
    rw [if_neg c1] at hR
    refine lv_ldc2 (v := (-1 : Int64)) hx hb hown hc13 dX1_bit_4 ?_
    refine lv_goto (tgt := 11) hx hb dX1_bit_7 (by decide) ?_
    exact W.lret (v := (-1 : Int64)) hx hb hr (fun t ht hW => ⟨_, rfl, hR, ht⟩) (fun q h => by cases h) dX1_bit_11

theorem mw_275 : (.code yX0_readSigned cX0_readSigned 4 (some .long) : Cond) ∈ AW := List.mem_filter.mpr ⟨List.mem_of_getElem? (i := 275) (by decide +kernel), rfl⟩
theorem mw_370 : (.methodLink RX1 15 yX0_readSigned : Cond) ∈ AW := List.mem_filter.mpr ⟨List.mem_of_getElem? (i := 370) (by decide +kernel), rfl⟩
theorem mw_47 : (.initialized RX0 : Cond) ∈ AW := List.mem_filter.mpr ⟨List.mem_of_getElem? (i := 47) (by decide +kernel), rfl⟩
theorem mw_274 : (.static yX0_readSigned : Cond) ∈ AW := List.mem_filter.mpr ⟨List.mem_of_getElem? (i := 274) (by decide +kernel), rfl⟩
theorem gX1_15 : GoodIn AW (va_wsS RX1 15 yX0_readSigned wsX0_readSigned) := aw_S mw_370 mw_274 mw_47 mw_275
theorem dX1_ofOne_0 : decode cX1_ofOne 0 = .ok (.iload_n 0, 1) := by decide +kernel
theorem dX1_ofOne_1 : decode cX1_ofOne 1 = .ok (.ifCond .ne 11, 3) := by decide +kernel
theorem dX1_ofOne_4 : decode cX1_ofOne 4 = .ok (.lload_n 2, 1) := by decide +kernel
theorem dX1_ofOne_5 : decode cX1_ofOne 5 = .ok (.ldc2_w 13, 3) := by decide +kernel
theorem dX1_ofOne_8 : decode cX1_ofOne 8 = .ok (.lxor, 1) := by decide +kernel
theorem dX1_ofOne_9 : decode cX1_ofOne 9 = .ok (.goto 9, 3) := by decide +kernel
theorem dX1_ofOne_12 : decode cX1_ofOne 12 = .ok (.iload_n 1, 1) := by decide +kernel
theorem dX1_ofOne_13 : decode cX1_ofOne 13 = .ok (.lload_n 2, 1) := by decide +kernel
theorem dX1_ofOne_14 : decode cX1_ofOne 14 = .ok (.lneg, 1) := by decide +kernel
theorem dX1_ofOne_15 : decode cX1_ofOne 15 = .ok (.invokestatic 15, 3) := by decide +kernel
theorem dX1_ofOne_18 : decode cX1_ofOne 18 = .ok (.lreturn, 1) := by decide +kernel
def fx_Op_ofOne (o : Int32) (w : Int32) (x : Int64) : Int64 := 
  if o = (0 : Int32) then x ^^^ (-1 : Int64)
  else fx_Width_readSigned w (-x)
set_option maxHeartbeats 4000000 in
set_option maxRecDepth 100000 in
theorem kx_Op_ofOne (l : Launch) (o : Int32) (w : Int32) (x : Int64) : Met l yX1_ofOne wsX1_ofOne ({ frames := 1, cells := 0, slots := 0, locals := 23 }) (fun v _ => v = ([.int o, .int w, .long x] : List Value).toArray) (vp_Sl (fun r9 => r9 = fx_Op_ofOne o w x)) 0 0 (fun _ => False) := by
  refine Met.ofW (cc := cX1_ofOne) (maxL := 4) (ret := (some .long)) (by decide) rfl ?_
  intro p e s m args below meth c s₁ B hml hv
  subst hv
  have hx := B.exec
  have hb := B.bytes
  have hr := B.returns
  have hta := aw_hts (atoms_spec (ws := wsX1_ofOne) B.pre)
  have hown : s.vm.findClass RX1 = some m.cls := findClass_of_methodNamed B.named
  have hlocks := B.notSynchronized
  have hc13 := hta _ mw_369
  have hl := lv_entry ([.int o, .int w, .long x]) (n := 4) (Nat.le_of_ble_eq_true rfl)
  rw [lg_entry_eq]
  generalize (lg_sl ([.int o, .int w, .long x]) ++ List.replicate (4 - (lg_sl ([.int o, .int w, .long x])).length) Slot.unset).toArray = ls at hl ⊢
  have hl : lv_has ls 4 [(0, .int o), (1, .int w), (2, .long x)] := hl
  generalize hR : fx_Op_ofOne o w x = R
  rw [fx_Op_ofOne] at hR
  refine lv_iload_n hx hb dX1_ofOne_0 rfl (lv_at hl 0 rfl) ?_
  refine lv_if_ne (tgt := 12) hx hb dX1_ofOne_1 (by decide) (fun c1 => ?_) (fun c1 => ?_)
  · skip
    rw [if_neg c1] at hR
    refine lv_iload_n hx hb dX1_ofOne_12 rfl (lv_at hl 1 rfl) ?_
    refine lv_lload_n hx hb dX1_ofOne_13 rfl (lv_at hl 2 rfl) ?_
    refine lv_lneg hx hb dX1_ofOne_14 ?_
    refine wl_cl (va_runS (As := [.int w, .long (-x)]) (rest := []) ⟨hx, hb, hml, hown, hta⟩ (kx_Width_readSigned l w (-x)) (va_cwS 2 hta gX1_15 rfl rfl rfl (by decide +kernel) ⟨Nat.le_of_ble_eq_true rfl, Nat.le_of_ble_eq_true rfl⟩) preEq rfl rfl hl.1 rfl (lv_room (Nat.le_of_ble_eq_true rfl)) dX1_ofOne_15 ⟨Nat.zero_le _, Nat.zero_le _⟩) ?_
    exact W.lret (v := fx_Width_readSigned w (-x)) hx hb hr (fun t ht hW => ⟨_, rfl, hR, ht⟩) (fun q h => by cases h) dX1_ofOne_18
  · skip
    rw [if_pos c1] at hR
    refine lv_lload_n hx hb dX1_ofOne_4 rfl (lv_at hl 2 rfl) ?_
    refine lv_ldc2 (v := (-1 : Int64)) hx hb hown hc13 dX1_ofOne_5 ?_
    refine lv_lxor hx hb dX1_ofOne_8 ?_
    refine lv_goto (tgt := 18) hx hb dX1_ofOne_9 (by decide) ?_
    exact W.lret (v := x ^^^ (-1 : Int64)) hx hb hr (fun t ht hW => ⟨_, rfl, hR, ht⟩) (fun q h => by cases h) dX1_ofOne_18

theorem mw_393 : (.code yX1_bit cX1_bit 1 (some .long) : Cond) ∈ AW := List.mem_filter.mpr ⟨List.mem_of_getElem? (i := 393) (by decide +kernel), rfl⟩
theorem mw_391 : (.methodLink RX1 21 yX1_bit : Cond) ∈ AW := List.mem_filter.mpr ⟨List.mem_of_getElem? (i := 391) (by decide +kernel), rfl⟩
theorem mw_392 : (.static yX1_bit : Cond) ∈ AW := List.mem_filter.mpr ⟨List.mem_of_getElem? (i := 392) (by decide +kernel), rfl⟩
theorem mw_394 : (.constantLong RX1 27 (-9223372036854775808) : Cond) ∈ AW := List.mem_filter.mpr ⟨List.mem_of_getElem? (i := 394) (by decide +kernel), rfl⟩
theorem gX1_21 : GoodIn AW (va_wsS RX1 21 yX1_bit wsX1_bit) := aw_S mw_391 mw_392 mw_48 mw_393
theorem dX1_ofTwo_0 : decode cX1_ofTwo 0 = .ok (.iload_n 0, 1) := by decide +kernel
theorem dX1_ofTwo_1 : decode cX1_ofTwo 1 = .ok (.tableswitch 149 2 14 #[67, 72, 77, 82, 91, 100, 149, 149, 149, 149, 149, 109, 125], 67) := by decide +kernel
theorem dX1_ofTwo_68 : decode cX1_ofTwo 68 = .ok (.lload_n 2, 1) := by decide +kernel
theorem dX1_ofTwo_69 : decode cX1_ofTwo 69 = .ok (.lload 4, 2) := by decide +kernel
theorem dX1_ofTwo_71 : decode cX1_ofTwo 71 = .ok (.land, 1) := by decide +kernel
theorem dX1_ofTwo_72 : decode cX1_ofTwo 72 = .ok (.lreturn, 1) := by decide +kernel
theorem dX1_ofTwo_73 : decode cX1_ofTwo 73 = .ok (.lload_n 2, 1) := by decide +kernel
theorem dX1_ofTwo_74 : decode cX1_ofTwo 74 = .ok (.lload 4, 2) := by decide +kernel
theorem dX1_ofTwo_76 : decode cX1_ofTwo 76 = .ok (.lor, 1) := by decide +kernel
theorem dX1_ofTwo_77 : decode cX1_ofTwo 77 = .ok (.lreturn, 1) := by decide +kernel
theorem dX1_ofTwo_78 : decode cX1_ofTwo 78 = .ok (.lload_n 2, 1) := by decide +kernel
theorem dX1_ofTwo_79 : decode cX1_ofTwo 79 = .ok (.lload 4, 2) := by decide +kernel
theorem dX1_ofTwo_81 : decode cX1_ofTwo 81 = .ok (.lxor, 1) := by decide +kernel
theorem dX1_ofTwo_82 : decode cX1_ofTwo 82 = .ok (.lreturn, 1) := by decide +kernel
theorem dX1_ofTwo_83 : decode cX1_ofTwo 83 = .ok (.iload_n 1, 1) := by decide +kernel
theorem dX1_ofTwo_84 : decode cX1_ofTwo 84 = .ok (.lload_n 2, 1) := by decide +kernel
theorem dX1_ofTwo_85 : decode cX1_ofTwo 85 = .ok (.lload 4, 2) := by decide +kernel
theorem dX1_ofTwo_87 : decode cX1_ofTwo 87 = .ok (.ladd, 1) := by decide +kernel
theorem dX1_ofTwo_88 : decode cX1_ofTwo 88 = .ok (.invokestatic 15, 3) := by decide +kernel
theorem dX1_ofTwo_91 : decode cX1_ofTwo 91 = .ok (.lreturn, 1) := by decide +kernel
theorem dX1_ofTwo_92 : decode cX1_ofTwo 92 = .ok (.iload_n 1, 1) := by decide +kernel
theorem dX1_ofTwo_93 : decode cX1_ofTwo 93 = .ok (.lload_n 2, 1) := by decide +kernel
theorem dX1_ofTwo_94 : decode cX1_ofTwo 94 = .ok (.lload 4, 2) := by decide +kernel
theorem dX1_ofTwo_96 : decode cX1_ofTwo 96 = .ok (.lsub, 1) := by decide +kernel
theorem dX1_ofTwo_97 : decode cX1_ofTwo 97 = .ok (.invokestatic 15, 3) := by decide +kernel
theorem dX1_ofTwo_100 : decode cX1_ofTwo 100 = .ok (.lreturn, 1) := by decide +kernel
theorem dX1_ofTwo_101 : decode cX1_ofTwo 101 = .ok (.iload_n 1, 1) := by decide +kernel
theorem dX1_ofTwo_102 : decode cX1_ofTwo 102 = .ok (.lload_n 2, 1) := by decide +kernel
theorem dX1_ofTwo_103 : decode cX1_ofTwo 103 = .ok (.lload 4, 2) := by decide +kernel
theorem dX1_ofTwo_105 : decode cX1_ofTwo 105 = .ok (.lmul, 1) := by decide +kernel
theorem dX1_ofTwo_106 : decode cX1_ofTwo 106 = .ok (.invokestatic 15, 3) := by decide +kernel
theorem dX1_ofTwo_109 : decode cX1_ofTwo 109 = .ok (.lreturn, 1) := by decide +kernel
theorem dX1_ofTwo_110 : decode cX1_ofTwo 110 = .ok (.lload_n 2, 1) := by decide +kernel
theorem dX1_ofTwo_111 : decode cX1_ofTwo 111 = .ok (.lload 4, 2) := by decide +kernel
theorem dX1_ofTwo_113 : decode cX1_ofTwo 113 = .ok (.lcmp, 1) := by decide +kernel
theorem dX1_ofTwo_114 : decode cX1_ofTwo 114 = .ok (.ifCond .ne 7, 3) := by decide +kernel
theorem dX1_ofTwo_117 : decode cX1_ofTwo 117 = .ok (.iconst 1, 1) := by decide +kernel
theorem dX1_ofTwo_118 : decode cX1_ofTwo 118 = .ok (.goto 4, 3) := by decide +kernel
theorem dX1_ofTwo_121 : decode cX1_ofTwo 121 = .ok (.iconst 0, 1) := by decide +kernel
theorem dX1_ofTwo_122 : decode cX1_ofTwo 122 = .ok (.invokestatic 21, 3) := by decide +kernel
theorem dX1_ofTwo_125 : decode cX1_ofTwo 125 = .ok (.lreturn, 1) := by decide +kernel
theorem dX1_ofTwo_126 : decode cX1_ofTwo 126 = .ok (.lload_n 2, 1) := by decide +kernel
theorem dX1_ofTwo_127 : decode cX1_ofTwo 127 = .ok (.ldc2_w 27, 3) := by decide +kernel
theorem dX1_ofTwo_130 : decode cX1_ofTwo 130 = .ok (.lxor, 1) := by decide +kernel
theorem dX1_ofTwo_131 : decode cX1_ofTwo 131 = .ok (.lload 4, 2) := by decide +kernel
theorem dX1_ofTwo_133 : decode cX1_ofTwo 133 = .ok (.ldc2_w 27, 3) := by decide +kernel
theorem dX1_ofTwo_136 : decode cX1_ofTwo 136 = .ok (.lxor, 1) := by decide +kernel
theorem dX1_ofTwo_137 : decode cX1_ofTwo 137 = .ok (.lcmp, 1) := by decide +kernel
theorem dX1_ofTwo_138 : decode cX1_ofTwo 138 = .ok (.ifCond .ge 7, 3) := by decide +kernel
theorem dX1_ofTwo_141 : decode cX1_ofTwo 141 = .ok (.iconst 1, 1) := by decide +kernel
theorem dX1_ofTwo_142 : decode cX1_ofTwo 142 = .ok (.goto 4, 3) := by decide +kernel
theorem dX1_ofTwo_145 : decode cX1_ofTwo 145 = .ok (.iconst 0, 1) := by decide +kernel
theorem dX1_ofTwo_146 : decode cX1_ofTwo 146 = .ok (.invokestatic 21, 3) := by decide +kernel
theorem dX1_ofTwo_149 : decode cX1_ofTwo 149 = .ok (.lreturn, 1) := by decide +kernel
theorem dX1_ofTwo_150 : decode cX1_ofTwo 150 = .ok (.lload_n 2, 1) := by decide +kernel
theorem dX1_ofTwo_151 : decode cX1_ofTwo 151 = .ok (.lload 4, 2) := by decide +kernel
theorem dX1_ofTwo_153 : decode cX1_ofTwo 153 = .ok (.lcmp, 1) := by decide +kernel
theorem dX1_ofTwo_154 : decode cX1_ofTwo 154 = .ok (.ifCond .ge 7, 3) := by decide +kernel
theorem dX1_ofTwo_157 : decode cX1_ofTwo 157 = .ok (.iconst 1, 1) := by decide +kernel
theorem dX1_ofTwo_158 : decode cX1_ofTwo 158 = .ok (.goto 4, 3) := by decide +kernel
theorem dX1_ofTwo_161 : decode cX1_ofTwo 161 = .ok (.iconst 0, 1) := by decide +kernel
theorem dX1_ofTwo_162 : decode cX1_ofTwo 162 = .ok (.invokestatic 21, 3) := by decide +kernel
theorem dX1_ofTwo_165 : decode cX1_ofTwo 165 = .ok (.lreturn, 1) := by decide +kernel
def fx_Op_ofTwo (o : Int32) (w : Int32) (x : Int64) (y : Int64) : Int64 := 
  if o = (2 : Int32) then x &&& y
  else 
    if o = (3 : Int32) then x ||| y
    else 
      if o = (4 : Int32) then x ^^^ y
      else 
        if o = (5 : Int32) then fx_Width_readSigned w (x + y)
        else 
          if o = (6 : Int32) then fx_Width_readSigned w (x - y)
          else 
            if o = (7 : Int32) then fx_Width_readSigned w (x * y)
            else 
              if o = (13 : Int32) then 
                if lg_cmp x y = (0 : Int32) then fx_Op_bit (1 : Int32)
                else fx_Op_bit (0 : Int32)
              else 
                if o = (14 : Int32) then 
                  if (0 : Int32) ≤ lg_cmp (x ^^^ (-9223372036854775808 : Int64)) (y ^^^ (-9223372036854775808 : Int64)) then fx_Op_bit (0 : Int32)
                  else fx_Op_bit (1 : Int32)
                else 
                  if (0 : Int32) ≤ lg_cmp x y then fx_Op_bit (0 : Int32)
                  else fx_Op_bit (1 : Int32)
set_option maxHeartbeats 4000000 in
set_option maxRecDepth 100000 in
theorem kx_Op_ofTwo (l : Launch) (o : Int32) (w : Int32) (x : Int64) (y : Int64) : Met l yX1_ofTwo wsX1_ofTwo ({ frames := 1, cells := 0, slots := 0, locals := 23 }) (fun v _ => v = ([.int o, .int w, .long x, .long y] : List Value).toArray) (vp_Sl (fun r9 => r9 = fx_Op_ofTwo o w x y)) 0 0 (fun _ => False) := by
  refine Met.ofW (cc := cX1_ofTwo) (maxL := 6) (ret := (some .long)) (by decide) rfl ?_
  intro p e s m args below meth c s₁ B hml hv
  subst hv
  have hx := B.exec
  have hb := B.bytes
  have hr := B.returns
  have hta := aw_hts (atoms_spec (ws := wsX1_ofTwo) B.pre)
  have hown : s.vm.findClass RX1 = some m.cls := findClass_of_methodNamed B.named
  have hlocks := B.notSynchronized
  have hc27 := hta _ mw_394
  have hl := lv_entry ([.int o, .int w, .long x, .long y]) (n := 6) (Nat.le_of_ble_eq_true rfl)
  rw [lg_entry_eq]
  generalize (lg_sl ([.int o, .int w, .long x, .long y]) ++ List.replicate (6 - (lg_sl ([.int o, .int w, .long x, .long y])).length) Slot.unset).toArray = ls at hl ⊢
  have hl : lv_has ls 6 [(0, .int o), (1, .int w), (2, .long x), (4, .long y)] := hl
  generalize hR : fx_Op_ofTwo o w x y = R
  rw [fx_Op_ofTwo] at hR
  refine lv_iload_n hx hb dX1_ofTwo_0 rfl (lv_at hl 0 rfl) ?_
  by_cases c1_2 : o = (2 : Int32)
  · skip
    rw [if_pos c1_2] at hR
    refine lv_tableIn (tgt := 68) hx hb dX1_ofTwo_1 (by rw [c1_2]; decide) (by rw [c1_2]; decide) (by rw [c1_2] <;> rfl) (by decide) ?_
    refine lv_lload_n hx hb dX1_ofTwo_68 rfl (lv_at hl 2 rfl) ?_
    refine lv_lload hx hb dX1_ofTwo_69 (lv_at hl 3 rfl) ?_
    refine lv_land hx hb dX1_ofTwo_71 ?_
    exact W.lret (v := x &&& y) hx hb hr (fun t ht hW => ⟨_, rfl, hR, ht⟩) (fun q h => by cases h) dX1_ofTwo_72
  · skip
    rw [if_neg c1_2] at hR
    by_cases c1_3 : o = (3 : Int32)
    · skip
      rw [if_pos c1_3] at hR
      refine lv_tableIn (tgt := 73) hx hb dX1_ofTwo_1 (by rw [c1_3]; decide) (by rw [c1_3]; decide) (by rw [c1_3] <;> rfl) (by decide) ?_
      refine lv_lload_n hx hb dX1_ofTwo_73 rfl (lv_at hl 2 rfl) ?_
      refine lv_lload hx hb dX1_ofTwo_74 (lv_at hl 3 rfl) ?_
      refine lv_lor hx hb dX1_ofTwo_76 ?_
      exact W.lret (v := x ||| y) hx hb hr (fun t ht hW => ⟨_, rfl, hR, ht⟩) (fun q h => by cases h) dX1_ofTwo_77
    · skip
      rw [if_neg c1_3] at hR
      by_cases c1_4 : o = (4 : Int32)
      · skip
        rw [if_pos c1_4] at hR
        refine lv_tableIn (tgt := 78) hx hb dX1_ofTwo_1 (by rw [c1_4]; decide) (by rw [c1_4]; decide) (by rw [c1_4] <;> rfl) (by decide) ?_
        refine lv_lload_n hx hb dX1_ofTwo_78 rfl (lv_at hl 2 rfl) ?_
        refine lv_lload hx hb dX1_ofTwo_79 (lv_at hl 3 rfl) ?_
        refine lv_lxor hx hb dX1_ofTwo_81 ?_
        exact W.lret (v := x ^^^ y) hx hb hr (fun t ht hW => ⟨_, rfl, hR, ht⟩) (fun q h => by cases h) dX1_ofTwo_82
      · skip
        rw [if_neg c1_4] at hR
        by_cases c1_5 : o = (5 : Int32)
        · skip
          rw [if_pos c1_5] at hR
          refine lv_tableIn (tgt := 83) hx hb dX1_ofTwo_1 (by rw [c1_5]; decide) (by rw [c1_5]; decide) (by rw [c1_5] <;> rfl) (by decide) ?_
          refine lv_iload_n hx hb dX1_ofTwo_83 rfl (lv_at hl 1 rfl) ?_
          refine lv_lload_n hx hb dX1_ofTwo_84 rfl (lv_at hl 2 rfl) ?_
          refine lv_lload hx hb dX1_ofTwo_85 (lv_at hl 3 rfl) ?_
          refine lv_ladd hx hb dX1_ofTwo_87 ?_
          refine wl_cl (va_runS (As := [.int w, .long (x + y)]) (rest := []) ⟨hx, hb, hml, hown, hta⟩ (kx_Width_readSigned l w (x + y)) (va_cwS 2 hta gX1_15 rfl rfl rfl (by decide +kernel) ⟨Nat.le_of_ble_eq_true rfl, Nat.le_of_ble_eq_true rfl⟩) preEq rfl rfl hl.1 rfl (lv_room (Nat.le_of_ble_eq_true rfl)) dX1_ofTwo_88 ⟨Nat.zero_le _, Nat.zero_le _⟩) ?_
          exact W.lret (v := fx_Width_readSigned w (x + y)) hx hb hr (fun t ht hW => ⟨_, rfl, hR, ht⟩) (fun q h => by cases h) dX1_ofTwo_91
        · skip
          rw [if_neg c1_5] at hR
          by_cases c1_6 : o = (6 : Int32)
          · skip
            rw [if_pos c1_6] at hR
            refine lv_tableIn (tgt := 92) hx hb dX1_ofTwo_1 (by rw [c1_6]; decide) (by rw [c1_6]; decide) (by rw [c1_6] <;> rfl) (by decide) ?_
            refine lv_iload_n hx hb dX1_ofTwo_92 rfl (lv_at hl 1 rfl) ?_
            refine lv_lload_n hx hb dX1_ofTwo_93 rfl (lv_at hl 2 rfl) ?_
            refine lv_lload hx hb dX1_ofTwo_94 (lv_at hl 3 rfl) ?_
            refine lv_lsub hx hb dX1_ofTwo_96 ?_
            refine wl_cl (va_runS (As := [.int w, .long (x - y)]) (rest := []) ⟨hx, hb, hml, hown, hta⟩ (kx_Width_readSigned l w (x - y)) (va_cwS 2 hta gX1_15 rfl rfl rfl (by decide +kernel) ⟨Nat.le_of_ble_eq_true rfl, Nat.le_of_ble_eq_true rfl⟩) preEq rfl rfl hl.1 rfl (lv_room (Nat.le_of_ble_eq_true rfl)) dX1_ofTwo_97 ⟨Nat.zero_le _, Nat.zero_le _⟩) ?_
            exact W.lret (v := fx_Width_readSigned w (x - y)) hx hb hr (fun t ht hW => ⟨_, rfl, hR, ht⟩) (fun q h => by cases h) dX1_ofTwo_100
          · skip
            rw [if_neg c1_6] at hR
            by_cases c1_7 : o = (7 : Int32)
            · skip
              rw [if_pos c1_7] at hR
              refine lv_tableIn (tgt := 101) hx hb dX1_ofTwo_1 (by rw [c1_7]; decide) (by rw [c1_7]; decide) (by rw [c1_7] <;> rfl) (by decide) ?_
              refine lv_iload_n hx hb dX1_ofTwo_101 rfl (lv_at hl 1 rfl) ?_
              refine lv_lload_n hx hb dX1_ofTwo_102 rfl (lv_at hl 2 rfl) ?_
              refine lv_lload hx hb dX1_ofTwo_103 (lv_at hl 3 rfl) ?_
              refine lv_lmul hx hb dX1_ofTwo_105 ?_
              refine wl_cl (va_runS (As := [.int w, .long (x * y)]) (rest := []) ⟨hx, hb, hml, hown, hta⟩ (kx_Width_readSigned l w (x * y)) (va_cwS 2 hta gX1_15 rfl rfl rfl (by decide +kernel) ⟨Nat.le_of_ble_eq_true rfl, Nat.le_of_ble_eq_true rfl⟩) preEq rfl rfl hl.1 rfl (lv_room (Nat.le_of_ble_eq_true rfl)) dX1_ofTwo_106 ⟨Nat.zero_le _, Nat.zero_le _⟩) ?_
              exact W.lret (v := fx_Width_readSigned w (x * y)) hx hb hr (fun t ht hW => ⟨_, rfl, hR, ht⟩) (fun q h => by cases h) dX1_ofTwo_109
            · skip
              rw [if_neg c1_7] at hR
              by_cases c1_13 : o = (13 : Int32)
              · skip
                rw [if_pos c1_13] at hR
                refine lv_tableIn (tgt := 110) hx hb dX1_ofTwo_1 (by rw [c1_13]; decide) (by rw [c1_13]; decide) (by rw [c1_13] <;> rfl) (by decide) ?_
                refine lv_lload_n hx hb dX1_ofTwo_110 rfl (lv_at hl 2 rfl) ?_
                refine lv_lload hx hb dX1_ofTwo_111 (lv_at hl 3 rfl) ?_
                refine W.lcmp hx hb dX1_ofTwo_113 ?_
                refine lv_if_ne (tgt := 121) hx hb dX1_ofTwo_114 (by decide) (fun c114 => ?_) (fun c114 => ?_)
                · skip
                  rw [if_neg c114] at hR
                  refine lv_iconst (v := (0 : Int32)) hx hb dX1_ofTwo_121 (by decide) ?_
                  refine wl_cl (va_runS (As := [.int (0 : Int32)]) (rest := []) ⟨hx, hb, hml, hown, hta⟩ (kx_Op_bit l (0 : Int32)) (va_cwS 1 hta gX1_21 rfl rfl rfl (by decide +kernel) ⟨Nat.le_of_ble_eq_true rfl, Nat.le_of_ble_eq_true rfl⟩) preEq rfl rfl hl.1 rfl (lv_room (Nat.le_of_ble_eq_true rfl)) dX1_ofTwo_122 ⟨Nat.zero_le _, Nat.zero_le _⟩) ?_
                  exact W.lret (v := fx_Op_bit (0 : Int32)) hx hb hr (fun t ht hW => ⟨_, rfl, hR, ht⟩) (fun q h => by cases h) dX1_ofTwo_125
                · skip
                  rw [if_pos c114] at hR
                  refine lv_iconst (v := (1 : Int32)) hx hb dX1_ofTwo_117 (by decide) ?_
                  refine lv_goto (tgt := 122) hx hb dX1_ofTwo_118 (by decide) ?_
                  refine wl_cl (va_runS (As := [.int (1 : Int32)]) (rest := []) ⟨hx, hb, hml, hown, hta⟩ (kx_Op_bit l (1 : Int32)) (va_cwS 1 hta gX1_21 rfl rfl rfl (by decide +kernel) ⟨Nat.le_of_ble_eq_true rfl, Nat.le_of_ble_eq_true rfl⟩) preEq rfl rfl hl.1 rfl (lv_room (Nat.le_of_ble_eq_true rfl)) dX1_ofTwo_122 ⟨Nat.zero_le _, Nat.zero_le _⟩) ?_
                  exact W.lret (v := fx_Op_bit (1 : Int32)) hx hb hr (fun t ht hW => ⟨_, rfl, hR, ht⟩) (fun q h => by cases h) dX1_ofTwo_125
              · skip
                rw [if_neg c1_13] at hR
                by_cases c1_14 : o = (14 : Int32)
                · skip
                  rw [if_pos c1_14] at hR
                  refine lv_tableIn (tgt := 126) hx hb dX1_ofTwo_1 (by rw [c1_14]; decide) (by rw [c1_14]; decide) (by rw [c1_14] <;> rfl) (by decide) ?_
                  refine lv_lload_n hx hb dX1_ofTwo_126 rfl (lv_at hl 2 rfl) ?_
                  refine lv_ldc2 (v := (-9223372036854775808 : Int64)) hx hb hown hc27 dX1_ofTwo_127 ?_
                  refine lv_lxor hx hb dX1_ofTwo_130 ?_
                  refine lv_lload hx hb dX1_ofTwo_131 (lv_at hl 3 rfl) ?_
                  refine lv_ldc2 (v := (-9223372036854775808 : Int64)) hx hb hown hc27 dX1_ofTwo_133 ?_
                  refine lv_lxor hx hb dX1_ofTwo_136 ?_
                  refine W.lcmp hx hb dX1_ofTwo_137 ?_
                  refine lv_if_ge (tgt := 145) hx hb dX1_ofTwo_138 (by decide) (fun c138 => ?_) (fun c138 => ?_)
                  · skip
                    rw [if_pos c138] at hR
                    refine lv_iconst (v := (0 : Int32)) hx hb dX1_ofTwo_145 (by decide) ?_
                    refine wl_cl (va_runS (As := [.int (0 : Int32)]) (rest := []) ⟨hx, hb, hml, hown, hta⟩ (kx_Op_bit l (0 : Int32)) (va_cwS 1 hta gX1_21 rfl rfl rfl (by decide +kernel) ⟨Nat.le_of_ble_eq_true rfl, Nat.le_of_ble_eq_true rfl⟩) preEq rfl rfl hl.1 rfl (lv_room (Nat.le_of_ble_eq_true rfl)) dX1_ofTwo_146 ⟨Nat.zero_le _, Nat.zero_le _⟩) ?_
                    exact W.lret (v := fx_Op_bit (0 : Int32)) hx hb hr (fun t ht hW => ⟨_, rfl, hR, ht⟩) (fun q h => by cases h) dX1_ofTwo_149
                  · skip
                    rw [if_neg c138] at hR
                    refine lv_iconst (v := (1 : Int32)) hx hb dX1_ofTwo_141 (by decide) ?_
                    refine lv_goto (tgt := 146) hx hb dX1_ofTwo_142 (by decide) ?_
                    refine wl_cl (va_runS (As := [.int (1 : Int32)]) (rest := []) ⟨hx, hb, hml, hown, hta⟩ (kx_Op_bit l (1 : Int32)) (va_cwS 1 hta gX1_21 rfl rfl rfl (by decide +kernel) ⟨Nat.le_of_ble_eq_true rfl, Nat.le_of_ble_eq_true rfl⟩) preEq rfl rfl hl.1 rfl (lv_room (Nat.le_of_ble_eq_true rfl)) dX1_ofTwo_146 ⟨Nat.zero_le _, Nat.zero_le _⟩) ?_
                    exact W.lret (v := fx_Op_bit (1 : Int32)) hx hb hr (fun t ht hW => ⟨_, rfl, hR, ht⟩) (fun q h => by cases h) dX1_ofTwo_149
                · skip
                  rw [if_neg c1_14] at hR
                  have t1_2 := lv_neT (a := 2) c1_2 (by decide)
                  have t1_3 := lv_neT (a := 3) c1_3 (by decide)
                  have t1_4 := lv_neT (a := 4) c1_4 (by decide)
                  have t1_5 := lv_neT (a := 5) c1_5 (by decide)
                  have t1_6 := lv_neT (a := 6) c1_6 (by decide)
                  have t1_7 := lv_neT (a := 7) c1_7 (by decide)
                  have t1_13 := lv_neT (a := 13) c1_13 (by decide)
                  have t1_14 := lv_neT (a := 14) c1_14 (by decide)
                  refine wl_tabD (tgt := 150) (ks := [2, 3, 4, 5, 6, 7, 13, 14]) hx hb dX1_ofTwo_1 (by decide) (by decide +kernel) (by intro k hk; simp only [List.mem_cons, List.not_mem_nil, or_false] at hk; rcases hk with rfl | rfl | rfl | rfl | rfl | rfl | rfl | rfl <;> assumption) (by decide) ?_
                  refine lv_lload_n hx hb dX1_ofTwo_150 rfl (lv_at hl 2 rfl) ?_
                  refine lv_lload hx hb dX1_ofTwo_151 (lv_at hl 3 rfl) ?_
                  refine W.lcmp hx hb dX1_ofTwo_153 ?_
                  refine lv_if_ge (tgt := 161) hx hb dX1_ofTwo_154 (by decide) (fun c154 => ?_) (fun c154 => ?_)
                  · skip
                    rw [if_pos c154] at hR
                    refine lv_iconst (v := (0 : Int32)) hx hb dX1_ofTwo_161 (by decide) ?_
                    refine wl_cl (va_runS (As := [.int (0 : Int32)]) (rest := []) ⟨hx, hb, hml, hown, hta⟩ (kx_Op_bit l (0 : Int32)) (va_cwS 1 hta gX1_21 rfl rfl rfl (by decide +kernel) ⟨Nat.le_of_ble_eq_true rfl, Nat.le_of_ble_eq_true rfl⟩) preEq rfl rfl hl.1 rfl (lv_room (Nat.le_of_ble_eq_true rfl)) dX1_ofTwo_162 ⟨Nat.zero_le _, Nat.zero_le _⟩) ?_
                    exact W.lret (v := fx_Op_bit (0 : Int32)) hx hb hr (fun t ht hW => ⟨_, rfl, hR, ht⟩) (fun q h => by cases h) dX1_ofTwo_165
                  · skip
                    rw [if_neg c154] at hR
                    refine lv_iconst (v := (1 : Int32)) hx hb dX1_ofTwo_157 (by decide) ?_
                    refine lv_goto (tgt := 162) hx hb dX1_ofTwo_158 (by decide) ?_
                    refine wl_cl (va_runS (As := [.int (1 : Int32)]) (rest := []) ⟨hx, hb, hml, hown, hta⟩ (kx_Op_bit l (1 : Int32)) (va_cwS 1 hta gX1_21 rfl rfl rfl (by decide +kernel) ⟨Nat.le_of_ble_eq_true rfl, Nat.le_of_ble_eq_true rfl⟩) preEq rfl rfl hl.1 rfl (lv_room (Nat.le_of_ble_eq_true rfl)) dX1_ofTwo_162 ⟨Nat.zero_le _, Nat.zero_le _⟩) ?_
                    exact W.lret (v := fx_Op_bit (1 : Int32)) hx hb hr (fun t ht hW => ⟨_, rfl, hR, ht⟩) (fun q h => by cases h) dX1_ofTwo_165

theorem mw_376 : (.code yX0_readPlain cX0_readPlain 4 (some .long) : Cond) ∈ AW := List.mem_filter.mpr ⟨List.mem_of_getElem? (i := 376) (by decide +kernel), rfl⟩
theorem mw_374 : (.methodLink RX1 29 yX0_readPlain : Cond) ∈ AW := List.mem_filter.mpr ⟨List.mem_of_getElem? (i := 374) (by decide +kernel), rfl⟩
theorem mw_375 : (.static yX0_readPlain : Cond) ∈ AW := List.mem_filter.mpr ⟨List.mem_of_getElem? (i := 375) (by decide +kernel), rfl⟩
theorem gX1_29 : GoodIn AW (va_wsS RX1 29 yX0_readPlain wsX0_readPlain) := aw_S mw_374 mw_375 mw_47 mw_376
theorem dX1_resized_0 : decode cX1_resized 0 = .ok (.iload_n 0, 1) := by decide +kernel
theorem dX1_resized_1 : decode cX1_resized 1 = .ok (.lookupswitch 39 #[(17, 27), (19, 33)], 27) := by decide +kernel
theorem dX1_resized_28 : decode cX1_resized 28 = .ok (.iload_n 1, 1) := by decide +kernel
theorem dX1_resized_29 : decode cX1_resized 29 = .ok (.lload_n 3, 1) := by decide +kernel
theorem dX1_resized_30 : decode cX1_resized 30 = .ok (.invokestatic 29, 3) := by decide +kernel
theorem dX1_resized_33 : decode cX1_resized 33 = .ok (.lreturn, 1) := by decide +kernel
theorem dX1_resized_34 : decode cX1_resized 34 = .ok (.iload_n 2, 1) := by decide +kernel
theorem dX1_resized_35 : decode cX1_resized 35 = .ok (.lload_n 3, 1) := by decide +kernel
theorem dX1_resized_36 : decode cX1_resized 36 = .ok (.invokestatic 15, 3) := by decide +kernel
theorem dX1_resized_39 : decode cX1_resized 39 = .ok (.lreturn, 1) := by decide +kernel
theorem dX1_resized_40 : decode cX1_resized 40 = .ok (.lload_n 3, 1) := by decide +kernel
theorem dX1_resized_41 : decode cX1_resized 41 = .ok (.lreturn, 1) := by decide +kernel
def fx_Op_resized (o : Int32) (w : Int32) (nw : Int32) (x : Int64) : Int64 := 
  if o = (17 : Int32) then fx_Width_readPlain w x
  else 
    if o = (19 : Int32) then fx_Width_readSigned nw x
    else x
set_option maxHeartbeats 4000000 in
set_option maxRecDepth 100000 in
theorem kx_Op_resized (l : Launch) (o : Int32) (w : Int32) (nw : Int32) (x : Int64) : Met l yX1_resized wsX1_resized ({ frames := 1, cells := 0, slots := 0, locals := 23 }) (fun v _ => v = ([.int o, .int w, .int nw, .long x] : List Value).toArray) (vp_Sl (fun r9 => r9 = fx_Op_resized o w nw x)) 0 0 (fun _ => False) := by
  refine Met.ofW (cc := cX1_resized) (maxL := 5) (ret := (some .long)) (by decide) rfl ?_
  intro p e s m args below meth c s₁ B hml hv
  subst hv
  have hx := B.exec
  have hb := B.bytes
  have hr := B.returns
  have hta := aw_hts (atoms_spec (ws := wsX1_resized) B.pre)
  have hown : s.vm.findClass RX1 = some m.cls := findClass_of_methodNamed B.named
  have hlocks := B.notSynchronized
  have hl := lv_entry ([.int o, .int w, .int nw, .long x]) (n := 5) (Nat.le_of_ble_eq_true rfl)
  rw [lg_entry_eq]
  generalize (lg_sl ([.int o, .int w, .int nw, .long x]) ++ List.replicate (5 - (lg_sl ([.int o, .int w, .int nw, .long x])).length) Slot.unset).toArray = ls at hl ⊢
  have hl : lv_has ls 5 [(0, .int o), (1, .int w), (2, .int nw), (3, .long x)] := hl
  generalize hR : fx_Op_resized o w nw x = R
  rw [fx_Op_resized] at hR
  refine lv_iload_n hx hb dX1_resized_0 rfl (lv_at hl 0 rfl) ?_
  by_cases c1_17 : o = (17 : Int32)
  · skip
    rw [if_pos c1_17] at hR
    refine lv_lookup (tgt := 28) hx hb dX1_resized_1 (by decide) (by rw [c1_17] <;> rfl) (by decide) ?_
    refine lv_iload_n hx hb dX1_resized_28 rfl (lv_at hl 1 rfl) ?_
    refine lv_lload_n hx hb dX1_resized_29 rfl (lv_at hl 3 rfl) ?_
    refine wl_cl (va_runS (As := [.int w, .long x]) (rest := []) ⟨hx, hb, hml, hown, hta⟩ (kx_Width_readPlain l w x) (va_cwS 2 hta gX1_29 rfl rfl rfl (by decide +kernel) ⟨Nat.le_of_ble_eq_true rfl, Nat.le_of_ble_eq_true rfl⟩) preEq rfl rfl hl.1 rfl (lv_room (Nat.le_of_ble_eq_true rfl)) dX1_resized_30 ⟨Nat.zero_le _, Nat.zero_le _⟩) ?_
    exact W.lret (v := fx_Width_readPlain w x) hx hb hr (fun t ht hW => ⟨_, rfl, hR, ht⟩) (fun q h => by cases h) dX1_resized_33
  · skip
    rw [if_neg c1_17] at hR
    by_cases c1_19 : o = (19 : Int32)
    · skip
      rw [if_pos c1_19] at hR
      refine lv_lookup (tgt := 34) hx hb dX1_resized_1 (by decide) (by rw [c1_19] <;> rfl) (by decide) ?_
      refine lv_iload_n hx hb dX1_resized_34 rfl (lv_at hl 2 rfl) ?_
      refine lv_lload_n hx hb dX1_resized_35 rfl (lv_at hl 3 rfl) ?_
      refine wl_cl (va_runS (As := [.int nw, .long x]) (rest := []) ⟨hx, hb, hml, hown, hta⟩ (kx_Width_readSigned l nw x) (va_cwS 2 hta gX1_15 rfl rfl rfl (by decide +kernel) ⟨Nat.le_of_ble_eq_true rfl, Nat.le_of_ble_eq_true rfl⟩) preEq rfl rfl hl.1 rfl (lv_room (Nat.le_of_ble_eq_true rfl)) dX1_resized_36 ⟨Nat.zero_le _, Nat.zero_le _⟩) ?_
      exact W.lret (v := fx_Width_readSigned nw x) hx hb hr (fun t ht hW => ⟨_, rfl, hR, ht⟩) (fun q h => by cases h) dX1_resized_39
    · skip
      rw [if_neg c1_19] at hR
      refine lv_lookup (off := 39) (tgt := 40) hx hb dX1_resized_1 (by decide) (by rw [lv_osw (a := 17) c1_17 (by decide), lv_osw (a := 19) c1_19 (by decide)] <;> rfl) (by decide) ?_
      refine lv_lload_n hx hb dX1_resized_40 rfl (lv_at hl 3 rfl) ?_
      exact W.lret (v := x) hx hb hr (fun t ht hW => ⟨_, rfl, hR, ht⟩) (fun q h => by cases h) dX1_resized_41

theorem dX1_divided_0 : decode cX1_divided 0 = .ok (.lload 4, 2) := by decide +kernel
theorem dX1_divided_2 : decode cX1_divided 2 = .ok (.lconst 0, 1) := by decide +kernel
theorem dX1_divided_3 : decode cX1_divided 3 = .ok (.lcmp, 1) := by decide +kernel
theorem dX1_divided_4 : decode cX1_divided 4 = .ok (.ifCond .ne 17, 3) := by decide +kernel
theorem dX1_divided_7 : decode cX1_divided 7 = .ok (.iload_n 0, 1) := by decide +kernel
theorem dX1_divided_8 : decode cX1_divided 8 = .ok (.bipush 8, 2) := by decide +kernel
theorem dX1_divided_10 : decode cX1_divided 10 = .ok (.if_icmp .ne 9, 3) := by decide +kernel
theorem dX1_divided_13 : decode cX1_divided 13 = .ok (.ldc2_w 13, 3) := by decide +kernel
theorem dX1_divided_16 : decode cX1_divided 16 = .ok (.goto 4, 3) := by decide +kernel
theorem dX1_divided_19 : decode cX1_divided 19 = .ok (.lload_n 2, 1) := by decide +kernel
theorem dX1_divided_20 : decode cX1_divided 20 = .ok (.lreturn, 1) := by decide +kernel
theorem dX1_divided_21 : decode cX1_divided 21 = .ok (.iload_n 1, 1) := by decide +kernel
theorem dX1_divided_22 : decode cX1_divided 22 = .ok (.lload_n 2, 1) := by decide +kernel
theorem dX1_divided_23 : decode cX1_divided 23 = .ok (.invokestatic 29, 3) := by decide +kernel
theorem dX1_divided_26 : decode cX1_divided 26 = .ok (.lstore 6, 2) := by decide +kernel
theorem dX1_divided_28 : decode cX1_divided 28 = .ok (.iload_n 1, 1) := by decide +kernel
theorem dX1_divided_29 : decode cX1_divided 29 = .ok (.lload 4, 2) := by decide +kernel
theorem dX1_divided_31 : decode cX1_divided 31 = .ok (.invokestatic 29, 3) := by decide +kernel
theorem dX1_divided_34 : decode cX1_divided 34 = .ok (.lstore 8, 2) := by decide +kernel
theorem dX1_divided_36 : decode cX1_divided 36 = .ok (.iload_n 0, 1) := by decide +kernel
theorem dX1_divided_37 : decode cX1_divided 37 = .ok (.bipush 8, 2) := by decide +kernel
theorem dX1_divided_39 : decode cX1_divided 39 = .ok (.if_icmp .ne 11, 3) := by decide +kernel
theorem dX1_divided_42 : decode cX1_divided 42 = .ok (.lload 6, 2) := by decide +kernel
theorem dX1_divided_44 : decode cX1_divided 44 = .ok (.lload 8, 2) := by decide +kernel
theorem dX1_divided_46 : decode cX1_divided 46 = .ok (.ldiv, 1) := by decide +kernel
theorem dX1_divided_47 : decode cX1_divided 47 = .ok (.goto 8, 3) := by decide +kernel
theorem dX1_divided_50 : decode cX1_divided 50 = .ok (.lload 6, 2) := by decide +kernel
theorem dX1_divided_52 : decode cX1_divided 52 = .ok (.lload 8, 2) := by decide +kernel
theorem dX1_divided_54 : decode cX1_divided 54 = .ok (.lrem, 1) := by decide +kernel
theorem dX1_divided_55 : decode cX1_divided 55 = .ok (.lstore 10, 2) := by decide +kernel
theorem dX1_divided_57 : decode cX1_divided 57 = .ok (.iload_n 1, 1) := by decide +kernel
theorem dX1_divided_58 : decode cX1_divided 58 = .ok (.lload 10, 2) := by decide +kernel
theorem dX1_divided_60 : decode cX1_divided 60 = .ok (.invokestatic 15, 3) := by decide +kernel
theorem dX1_divided_63 : decode cX1_divided 63 = .ok (.lreturn, 1) := by decide +kernel
def fx_Op_divided (o : Int32) (w : Int32) (x : Int64) (y : Int64) : Int64 := 
  if lg_cmp y (0 : Int64) = (0 : Int32) then 
    if o = (8 : Int32) then (-1 : Int64)
    else x
  else 
    if o = (8 : Int32) then fx_Width_readSigned w ((fx_Width_readPlain w x) / (fx_Width_readPlain w y))
    else fx_Width_readSigned w ((fx_Width_readPlain w x) - (fx_Width_readPlain w x) / (fx_Width_readPlain w y) * (fx_Width_readPlain w y))
set_option maxHeartbeats 4000000 in
set_option maxRecDepth 100000 in
theorem kx_Op_divided (l : Launch) (o : Int32) (w : Int32) (x : Int64) (y : Int64) (hnz : ¬ y = 0 → ¬ fx_Width_readPlain w y = 0) : Met l yX1_divided wsX1_divided ({ frames := 1, cells := 0, slots := 0, locals := 23 }) (fun v _ => v = ([.int o, .int w, .long x, .long y] : List Value).toArray) (vp_Sl (fun r9 => r9 = fx_Op_divided o w x y)) 0 0 (fun _ => False) := by
  refine Met.ofW (cc := cX1_divided) (maxL := 12) (ret := (some .long)) (by decide) rfl ?_
  intro p e s m args below meth c s₁ B hml hv
  subst hv
  have hx := B.exec
  have hb := B.bytes
  have hr := B.returns
  have hta := aw_hts (atoms_spec (ws := wsX1_divided) B.pre)
  have hown : s.vm.findClass RX1 = some m.cls := findClass_of_methodNamed B.named
  have hlocks := B.notSynchronized
  have hc13 := hta _ mw_369
  have hl := lv_entry ([.int o, .int w, .long x, .long y]) (n := 12) (Nat.le_of_ble_eq_true rfl)
  rw [lg_entry_eq]
  generalize (lg_sl ([.int o, .int w, .long x, .long y]) ++ List.replicate (12 - (lg_sl ([.int o, .int w, .long x, .long y])).length) Slot.unset).toArray = ls at hl ⊢
  have hl : lv_has ls 12 [(0, .int o), (1, .int w), (2, .long x), (4, .long y)] := hl
  generalize hR : fx_Op_divided o w x y = R
  rw [fx_Op_divided] at hR
  refine lv_lload hx hb dX1_divided_0 (lv_at hl 3 rfl) ?_
  refine lv_lconst (v := (0 : Int64)) hx hb dX1_divided_2 (by decide) ?_
  refine W.lcmp hx hb dX1_divided_3 ?_
  refine lv_if_ne (tgt := 21) hx hb dX1_divided_4 (by decide) (fun c4 => ?_) (fun c4 => ?_)
  · skip
    rw [if_neg c4] at hR
    refine lv_iload_n hx hb dX1_divided_21 rfl (lv_at hl 1 rfl) ?_
    refine lv_lload_n hx hb dX1_divided_22 rfl (lv_at hl 2 rfl) ?_
    refine wl_cl (va_runS (As := [.int w, .long x]) (rest := []) ⟨hx, hb, hml, hown, hta⟩ (kx_Width_readPlain l w x) (va_cwS 2 hta gX1_29 rfl rfl rfl (by decide +kernel) ⟨Nat.le_of_ble_eq_true rfl, Nat.le_of_ble_eq_true rfl⟩) preEq rfl rfl hl.1 rfl (lv_room (Nat.le_of_ble_eq_true rfl)) dX1_divided_23 ⟨Nat.zero_le _, Nat.zero_le _⟩) ?_
    refine lv_lstore (lv' := [(6, .long (fx_Width_readPlain w x)), (0, .int o), (1, .int w), (2, .long x), (4, .long y)]) hx hb dX1_divided_26 hl (by decide) rfl (fun ls hl => ?_)
    refine lv_iload_n hx hb dX1_divided_28 rfl (lv_at hl 2 rfl) ?_
    refine lv_lload hx hb dX1_divided_29 (lv_at hl 4 rfl) ?_
    refine wl_cl (va_runS (As := [.int w, .long y]) (rest := []) ⟨hx, hb, hml, hown, hta⟩ (kx_Width_readPlain l w y) (va_cwS 2 hta gX1_29 rfl rfl rfl (by decide +kernel) ⟨Nat.le_of_ble_eq_true rfl, Nat.le_of_ble_eq_true rfl⟩) preEq rfl rfl hl.1 rfl (lv_room (Nat.le_of_ble_eq_true rfl)) dX1_divided_31 ⟨Nat.zero_le _, Nat.zero_le _⟩) ?_
    refine lv_lstore (lv' := [(8, .long (fx_Width_readPlain w y)), (6, .long (fx_Width_readPlain w x)), (0, .int o), (1, .int w), (2, .long x), (4, .long y)]) hx hb dX1_divided_34 hl (by decide) rfl (fun ls hl => ?_)
    refine lv_iload_n hx hb dX1_divided_36 rfl (lv_at hl 2 rfl) ?_
    refine lv_bipush (v := (8 : Int32)) hx hb dX1_divided_37 (by decide) ?_
    refine lv_icmp_ne (tgt := 50) hx hb dX1_divided_39 (by decide) (fun c39 => ?_) (fun c39 => ?_)
    · skip
      rw [if_neg c39] at hR
      refine lv_lload hx hb dX1_divided_50 (lv_at hl 1 rfl) ?_
      refine lv_lload hx hb dX1_divided_52 (lv_at hl 0 rfl) ?_
      refine lv_lrem hx hb dX1_divided_54 (hnz (fun h => c4 ((lg_cmp_eq _ _).mpr h))) ?_
      refine lv_lstore (lv' := [(10, .long ((fx_Width_readPlain w x) - (fx_Width_readPlain w x) / (fx_Width_readPlain w y) * (fx_Width_readPlain w y))), (8, .long (fx_Width_readPlain w y)), (6, .long (fx_Width_readPlain w x)), (0, .int o), (1, .int w), (2, .long x), (4, .long y)]) hx hb dX1_divided_55 hl (by decide) rfl (fun ls hl => ?_)
      refine lv_iload_n hx hb dX1_divided_57 rfl (lv_at hl 4 rfl) ?_
      refine lv_lload hx hb dX1_divided_58 (lv_at hl 0 rfl) ?_
      refine wl_cl (va_runS (As := [.int w, .long ((fx_Width_readPlain w x) - (fx_Width_readPlain w x) / (fx_Width_readPlain w y) * (fx_Width_readPlain w y))]) (rest := []) ⟨hx, hb, hml, hown, hta⟩ (kx_Width_readSigned l w ((fx_Width_readPlain w x) - (fx_Width_readPlain w x) / (fx_Width_readPlain w y) * (fx_Width_readPlain w y))) (va_cwS 2 hta gX1_15 rfl rfl rfl (by decide +kernel) ⟨Nat.le_of_ble_eq_true rfl, Nat.le_of_ble_eq_true rfl⟩) preEq rfl rfl hl.1 rfl (lv_room (Nat.le_of_ble_eq_true rfl)) dX1_divided_60 ⟨Nat.zero_le _, Nat.zero_le _⟩) ?_
      exact W.lret (v := fx_Width_readSigned w ((fx_Width_readPlain w x) - (fx_Width_readPlain w x) / (fx_Width_readPlain w y) * (fx_Width_readPlain w y))) hx hb hr (fun t ht hW => ⟨_, rfl, hR, ht⟩) (fun q h => by cases h) dX1_divided_63
    · skip
      rw [if_pos c39] at hR
      refine lv_lload hx hb dX1_divided_42 (lv_at hl 1 rfl) ?_
      refine lv_lload hx hb dX1_divided_44 (lv_at hl 0 rfl) ?_
      refine lv_ldiv hx hb dX1_divided_46 (hnz (fun h => c4 ((lg_cmp_eq _ _).mpr h))) ?_
      refine lv_goto (tgt := 55) hx hb dX1_divided_47 (by decide) ?_
      refine lv_lstore (lv' := [(10, .long ((fx_Width_readPlain w x) / (fx_Width_readPlain w y))), (8, .long (fx_Width_readPlain w y)), (6, .long (fx_Width_readPlain w x)), (0, .int o), (1, .int w), (2, .long x), (4, .long y)]) hx hb dX1_divided_55 hl (by decide) rfl (fun ls hl => ?_)
      refine lv_iload_n hx hb dX1_divided_57 rfl (lv_at hl 4 rfl) ?_
      refine lv_lload hx hb dX1_divided_58 (lv_at hl 0 rfl) ?_
      refine wl_cl (va_runS (As := [.int w, .long ((fx_Width_readPlain w x) / (fx_Width_readPlain w y))]) (rest := []) ⟨hx, hb, hml, hown, hta⟩ (kx_Width_readSigned l w ((fx_Width_readPlain w x) / (fx_Width_readPlain w y))) (va_cwS 2 hta gX1_15 rfl rfl rfl (by decide +kernel) ⟨Nat.le_of_ble_eq_true rfl, Nat.le_of_ble_eq_true rfl⟩) preEq rfl rfl hl.1 rfl (lv_room (Nat.le_of_ble_eq_true rfl)) dX1_divided_60 ⟨Nat.zero_le _, Nat.zero_le _⟩) ?_
      exact W.lret (v := fx_Width_readSigned w ((fx_Width_readPlain w x) / (fx_Width_readPlain w y))) hx hb hr (fun t ht hW => ⟨_, rfl, hR, ht⟩) (fun q h => by cases h) dX1_divided_63
  · skip
    rw [if_pos c4] at hR
    refine lv_iload_n hx hb dX1_divided_7 rfl (lv_at hl 0 rfl) ?_
    refine lv_bipush (v := (8 : Int32)) hx hb dX1_divided_8 (by decide) ?_
    refine lv_icmp_ne (tgt := 19) hx hb dX1_divided_10 (by decide) (fun c10 => ?_) (fun c10 => ?_)
    · skip
      rw [if_neg c10] at hR
      refine lv_lload_n hx hb dX1_divided_19 rfl (lv_at hl 2 rfl) ?_
      exact W.lret (v := x) hx hb hr (fun t ht hW => ⟨_, rfl, hR, ht⟩) (fun q h => by cases h) dX1_divided_20
    · skip
      rw [if_pos c10] at hR
      refine lv_ldc2 (v := (-1 : Int64)) hx hb hown hc13 dX1_divided_13 ?_
      refine lv_goto (tgt := 20) hx hb dX1_divided_16 (by decide) ?_
      exact W.lret (v := (-1 : Int64)) hx hb hr (fun t ht hW => ⟨_, rfl, hR, ht⟩) (fun q h => by cases h) dX1_divided_20

theorem dX1_moved_0 : decode cX1_moved 0 = .ok (.lload 4, 2) := by decide +kernel
theorem dX1_moved_2 : decode cX1_moved 2 = .ok (.lconst 0, 1) := by decide +kernel
theorem dX1_moved_3 : decode cX1_moved 3 = .ok (.lcmp, 1) := by decide +kernel
theorem dX1_moved_4 : decode cX1_moved 4 = .ok (.ifCond .lt 11, 3) := by decide +kernel
theorem dX1_moved_7 : decode cX1_moved 7 = .ok (.lload 4, 2) := by decide +kernel
theorem dX1_moved_9 : decode cX1_moved 9 = .ok (.iload_n 1, 1) := by decide +kernel
theorem dX1_moved_10 : decode cX1_moved 10 = .ok (.i2l, 1) := by decide +kernel
theorem dX1_moved_11 : decode cX1_moved 11 = .ok (.lcmp, 1) := by decide +kernel
theorem dX1_moved_12 : decode cX1_moved 12 = .ok (.ifCond .lt 23, 3) := by decide +kernel
theorem dX1_moved_15 : decode cX1_moved 15 = .ok (.iload_n 0, 1) := by decide +kernel
theorem dX1_moved_16 : decode cX1_moved 16 = .ok (.bipush 12, 2) := by decide +kernel
theorem dX1_moved_18 : decode cX1_moved 18 = .ok (.if_icmp .ne 15, 3) := by decide +kernel
theorem dX1_moved_21 : decode cX1_moved 21 = .ok (.lload_n 2, 1) := by decide +kernel
theorem dX1_moved_22 : decode cX1_moved 22 = .ok (.lconst 0, 1) := by decide +kernel
theorem dX1_moved_23 : decode cX1_moved 23 = .ok (.lcmp, 1) := by decide +kernel
theorem dX1_moved_24 : decode cX1_moved 24 = .ok (.ifCond .ge 9, 3) := by decide +kernel
theorem dX1_moved_27 : decode cX1_moved 27 = .ok (.ldc2_w 13, 3) := by decide +kernel
theorem dX1_moved_30 : decode cX1_moved 30 = .ok (.goto 4, 3) := by decide +kernel
theorem dX1_moved_33 : decode cX1_moved 33 = .ok (.lconst 0, 1) := by decide +kernel
theorem dX1_moved_34 : decode cX1_moved 34 = .ok (.lreturn, 1) := by decide +kernel
theorem dX1_moved_35 : decode cX1_moved 35 = .ok (.lload 4, 2) := by decide +kernel
theorem dX1_moved_37 : decode cX1_moved 37 = .ok (.l2i, 1) := by decide +kernel
theorem dX1_moved_38 : decode cX1_moved 38 = .ok (.istore 6, 2) := by decide +kernel
theorem dX1_moved_40 : decode cX1_moved 40 = .ok (.iload_n 0, 1) := by decide +kernel
theorem dX1_moved_41 : decode cX1_moved 41 = .ok (.lookupswitch 49 #[(10, 27), (11, 36)], 27) := by decide +kernel
theorem dX1_moved_68 : decode cX1_moved 68 = .ok (.iload_n 1, 1) := by decide +kernel
theorem dX1_moved_69 : decode cX1_moved 69 = .ok (.lload_n 2, 1) := by decide +kernel
theorem dX1_moved_70 : decode cX1_moved 70 = .ok (.iload 6, 2) := by decide +kernel
theorem dX1_moved_72 : decode cX1_moved 72 = .ok (.lshl, 1) := by decide +kernel
theorem dX1_moved_73 : decode cX1_moved 73 = .ok (.invokestatic 15, 3) := by decide +kernel
theorem dX1_moved_76 : decode cX1_moved 76 = .ok (.lreturn, 1) := by decide +kernel
theorem dX1_moved_77 : decode cX1_moved 77 = .ok (.iload_n 1, 1) := by decide +kernel
theorem dX1_moved_78 : decode cX1_moved 78 = .ok (.iload_n 1, 1) := by decide +kernel
theorem dX1_moved_79 : decode cX1_moved 79 = .ok (.lload_n 2, 1) := by decide +kernel
theorem dX1_moved_80 : decode cX1_moved 80 = .ok (.invokestatic 29, 3) := by decide +kernel
theorem dX1_moved_83 : decode cX1_moved 83 = .ok (.iload 6, 2) := by decide +kernel
theorem dX1_moved_85 : decode cX1_moved 85 = .ok (.lushr, 1) := by decide +kernel
theorem dX1_moved_86 : decode cX1_moved 86 = .ok (.invokestatic 15, 3) := by decide +kernel
theorem dX1_moved_89 : decode cX1_moved 89 = .ok (.lreturn, 1) := by decide +kernel
theorem dX1_moved_90 : decode cX1_moved 90 = .ok (.lload_n 2, 1) := by decide +kernel
theorem dX1_moved_91 : decode cX1_moved 91 = .ok (.iload 6, 2) := by decide +kernel
theorem dX1_moved_93 : decode cX1_moved 93 = .ok (.lshr, 1) := by decide +kernel
theorem dX1_moved_94 : decode cX1_moved 94 = .ok (.lreturn, 1) := by decide +kernel
def fx_Op_moved (o : Int32) (w : Int32) (x : Int64) (y : Int64) : Int64 := 
  if lg_cmp y (0 : Int64) < (0 : Int32) then 
    if o = (12 : Int32) then 
      if (0 : Int32) ≤ lg_cmp x (0 : Int64) then (0 : Int64)
      else (-1 : Int64)
    else (0 : Int64)
  else 
    if lg_cmp y w.toInt64 < (0 : Int32) then 
      if o = (10 : Int32) then fx_Width_readSigned w (x <<< (y.toInt32.toInt64 &&& 63))
      else 
        if o = (11 : Int32) then fx_Width_readSigned w (((fx_Width_readPlain w x).toUInt64 >>> (y.toInt32.toInt64.toUInt64 &&& Int64.toUInt64 63)).toInt64)
        else x >>> (y.toInt32.toInt64 &&& 63)
    else 
      if o = (12 : Int32) then 
        if (0 : Int32) ≤ lg_cmp x (0 : Int64) then (0 : Int64)
        else (-1 : Int64)
      else (0 : Int64)
set_option maxHeartbeats 4000000 in
set_option maxRecDepth 100000 in
theorem kx_Op_moved (l : Launch) (o : Int32) (w : Int32) (x : Int64) (y : Int64) : Met l yX1_moved wsX1_moved ({ frames := 1, cells := 0, slots := 0, locals := 23 }) (fun v _ => v = ([.int o, .int w, .long x, .long y] : List Value).toArray) (vp_Sl (fun r9 => r9 = fx_Op_moved o w x y)) 0 0 (fun _ => False) := by
  refine Met.ofW (cc := cX1_moved) (maxL := 7) (ret := (some .long)) (by decide) rfl ?_
  intro p e s m args below meth c s₁ B hml hv
  subst hv
  have hx := B.exec
  have hb := B.bytes
  have hr := B.returns
  have hta := aw_hts (atoms_spec (ws := wsX1_moved) B.pre)
  have hown : s.vm.findClass RX1 = some m.cls := findClass_of_methodNamed B.named
  have hlocks := B.notSynchronized
  have hc13 := hta _ mw_369
  have hl := lv_entry ([.int o, .int w, .long x, .long y]) (n := 7) (Nat.le_of_ble_eq_true rfl)
  rw [lg_entry_eq]
  generalize (lg_sl ([.int o, .int w, .long x, .long y]) ++ List.replicate (7 - (lg_sl ([.int o, .int w, .long x, .long y])).length) Slot.unset).toArray = ls at hl ⊢
  have hl : lv_has ls 7 [(0, .int o), (1, .int w), (2, .long x), (4, .long y)] := hl
  generalize hR : fx_Op_moved o w x y = R
  rw [fx_Op_moved] at hR
  refine lv_lload hx hb dX1_moved_0 (lv_at hl 3 rfl) ?_
  refine lv_lconst (v := (0 : Int64)) hx hb dX1_moved_2 (by decide) ?_
  refine W.lcmp hx hb dX1_moved_3 ?_
  refine lv_if_lt (tgt := 15) hx hb dX1_moved_4 (by decide) (fun c4 => ?_) (fun c4 => ?_)
  · skip
    rw [if_pos c4] at hR
    refine lv_iload_n hx hb dX1_moved_15 rfl (lv_at hl 0 rfl) ?_
    refine lv_bipush (v := (12 : Int32)) hx hb dX1_moved_16 (by decide) ?_
    refine lv_icmp_ne (tgt := 33) hx hb dX1_moved_18 (by decide) (fun c18 => ?_) (fun c18 => ?_)
    · skip
      rw [if_neg c18] at hR
      refine lv_lconst (v := (0 : Int64)) hx hb dX1_moved_33 (by decide) ?_
      exact W.lret (v := (0 : Int64)) hx hb hr (fun t ht hW => ⟨_, rfl, hR, ht⟩) (fun q h => by cases h) dX1_moved_34
    · skip
      rw [if_pos c18] at hR
      refine lv_lload_n hx hb dX1_moved_21 rfl (lv_at hl 2 rfl) ?_
      refine lv_lconst (v := (0 : Int64)) hx hb dX1_moved_22 (by decide) ?_
      refine W.lcmp hx hb dX1_moved_23 ?_
      refine lv_if_ge (tgt := 33) hx hb dX1_moved_24 (by decide) (fun c24 => ?_) (fun c24 => ?_)
      · skip
        rw [if_pos c24] at hR
        refine lv_lconst (v := (0 : Int64)) hx hb dX1_moved_33 (by decide) ?_
        exact W.lret (v := (0 : Int64)) hx hb hr (fun t ht hW => ⟨_, rfl, hR, ht⟩) (fun q h => by cases h) dX1_moved_34
      · skip
        rw [if_neg c24] at hR
        refine lv_ldc2 (v := (-1 : Int64)) hx hb hown hc13 dX1_moved_27 ?_
        refine lv_goto (tgt := 34) hx hb dX1_moved_30 (by decide) ?_
        exact W.lret (v := (-1 : Int64)) hx hb hr (fun t ht hW => ⟨_, rfl, hR, ht⟩) (fun q h => by cases h) dX1_moved_34
  · skip
    rw [if_neg c4] at hR
    refine lv_lload hx hb dX1_moved_7 (lv_at hl 3 rfl) ?_
    refine lv_iload_n hx hb dX1_moved_9 rfl (lv_at hl 1 rfl) ?_
    refine lv_i2l (v := w.toInt64) hx hb dX1_moved_10 rfl ?_
    refine W.lcmp hx hb dX1_moved_11 ?_
    refine lv_if_lt (tgt := 35) hx hb dX1_moved_12 (by decide) (fun c12 => ?_) (fun c12 => ?_)
    · skip
      rw [if_pos c12] at hR
      refine lv_lload hx hb dX1_moved_35 (lv_at hl 3 rfl) ?_
      refine lv_l2i (v := y.toInt32) hx hb dX1_moved_37 rfl ?_
      refine lv_istore (lv' := [(6, .int y.toInt32), (0, .int o), (1, .int w), (2, .long x), (4, .long y)]) hx hb dX1_moved_38 hl (by decide) rfl (fun ls hl => ?_)
      refine lv_iload_n hx hb dX1_moved_40 rfl (lv_at hl 1 rfl) ?_
      by_cases c41_10 : o = (10 : Int32)
      · skip
        rw [if_pos c41_10] at hR
        refine lv_lookup (tgt := 68) hx hb dX1_moved_41 (by decide) (by rw [c41_10] <;> rfl) (by decide) ?_
        refine lv_iload_n hx hb dX1_moved_68 rfl (lv_at hl 2 rfl) ?_
        refine lv_lload_n hx hb dX1_moved_69 rfl (lv_at hl 3 rfl) ?_
        refine lv_iload hx hb dX1_moved_70 (lv_at hl 0 rfl) ?_
        refine lv_lshl (v := x <<< (y.toInt32.toInt64 &&& 63)) hx hb dX1_moved_72 rfl ?_
        refine wl_cl (va_runS (As := [.int w, .long (x <<< (y.toInt32.toInt64 &&& 63))]) (rest := []) ⟨hx, hb, hml, hown, hta⟩ (kx_Width_readSigned l w (x <<< (y.toInt32.toInt64 &&& 63))) (va_cwS 2 hta gX1_15 rfl rfl rfl (by decide +kernel) ⟨Nat.le_of_ble_eq_true rfl, Nat.le_of_ble_eq_true rfl⟩) preEq rfl rfl hl.1 rfl (lv_room (Nat.le_of_ble_eq_true rfl)) dX1_moved_73 ⟨Nat.zero_le _, Nat.zero_le _⟩) ?_
        exact W.lret (v := fx_Width_readSigned w (x <<< (y.toInt32.toInt64 &&& 63))) hx hb hr (fun t ht hW => ⟨_, rfl, hR, ht⟩) (fun q h => by cases h) dX1_moved_76
      · skip
        rw [if_neg c41_10] at hR
        by_cases c41_11 : o = (11 : Int32)
        · skip
          rw [if_pos c41_11] at hR
          refine lv_lookup (tgt := 77) hx hb dX1_moved_41 (by decide) (by rw [c41_11] <;> rfl) (by decide) ?_
          refine lv_iload_n hx hb dX1_moved_77 rfl (lv_at hl 2 rfl) ?_
          refine lv_iload_n hx hb dX1_moved_78 rfl (lv_at hl 2 rfl) ?_
          refine lv_lload_n hx hb dX1_moved_79 rfl (lv_at hl 3 rfl) ?_
          refine wl_cl (va_runS (As := [.int w, .long x]) (rest := [.int w]) ⟨hx, hb, hml, hown, hta⟩ (kx_Width_readPlain l w x) (va_cwS 2 hta gX1_29 rfl rfl rfl (by decide +kernel) ⟨Nat.le_of_ble_eq_true rfl, Nat.le_of_ble_eq_true rfl⟩) preEq rfl rfl hl.1 rfl (lv_room (Nat.le_of_ble_eq_true rfl)) dX1_moved_80 ⟨Nat.zero_le _, Nat.zero_le _⟩) ?_
          refine lv_iload hx hb dX1_moved_83 (lv_at hl 0 rfl) ?_
          refine lv_lushr (v := ((fx_Width_readPlain w x).toUInt64 >>> (y.toInt32.toInt64.toUInt64 &&& Int64.toUInt64 63)).toInt64) hx hb dX1_moved_85 rfl ?_
          refine wl_cl (va_runS (As := [.int w, .long (((fx_Width_readPlain w x).toUInt64 >>> (y.toInt32.toInt64.toUInt64 &&& Int64.toUInt64 63)).toInt64)]) (rest := []) ⟨hx, hb, hml, hown, hta⟩ (kx_Width_readSigned l w (((fx_Width_readPlain w x).toUInt64 >>> (y.toInt32.toInt64.toUInt64 &&& Int64.toUInt64 63)).toInt64)) (va_cwS 2 hta gX1_15 rfl rfl rfl (by decide +kernel) ⟨Nat.le_of_ble_eq_true rfl, Nat.le_of_ble_eq_true rfl⟩) preEq rfl rfl hl.1 rfl (lv_room (Nat.le_of_ble_eq_true rfl)) dX1_moved_86 ⟨Nat.zero_le _, Nat.zero_le _⟩) ?_
          exact W.lret (v := fx_Width_readSigned w (((fx_Width_readPlain w x).toUInt64 >>> (y.toInt32.toInt64.toUInt64 &&& Int64.toUInt64 63)).toInt64)) hx hb hr (fun t ht hW => ⟨_, rfl, hR, ht⟩) (fun q h => by cases h) dX1_moved_89
        · skip
          rw [if_neg c41_11] at hR
          refine lv_lookup (off := 49) (tgt := 90) hx hb dX1_moved_41 (by decide) (by rw [lv_osw (a := 10) c41_10 (by decide), lv_osw (a := 11) c41_11 (by decide)] <;> rfl) (by decide) ?_
          refine lv_lload_n hx hb dX1_moved_90 rfl (lv_at hl 3 rfl) ?_
          refine lv_iload hx hb dX1_moved_91 (lv_at hl 0 rfl) ?_
          refine lv_lshr (v := x >>> (y.toInt32.toInt64 &&& 63)) hx hb dX1_moved_93 rfl ?_
          exact W.lret (v := x >>> (y.toInt32.toInt64 &&& 63)) hx hb hr (fun t ht hW => ⟨_, rfl, hR, ht⟩) (fun q h => by cases h) dX1_moved_94
    · skip
      rw [if_neg c12] at hR
      refine lv_iload_n hx hb dX1_moved_15 rfl (lv_at hl 0 rfl) ?_
      refine lv_bipush (v := (12 : Int32)) hx hb dX1_moved_16 (by decide) ?_
      refine lv_icmp_ne (tgt := 33) hx hb dX1_moved_18 (by decide) (fun c18 => ?_) (fun c18 => ?_)
      · skip
        rw [if_neg c18] at hR
        refine lv_lconst (v := (0 : Int64)) hx hb dX1_moved_33 (by decide) ?_
        exact W.lret (v := (0 : Int64)) hx hb hr (fun t ht hW => ⟨_, rfl, hR, ht⟩) (fun q h => by cases h) dX1_moved_34
      · skip
        rw [if_pos c18] at hR
        refine lv_lload_n hx hb dX1_moved_21 rfl (lv_at hl 2 rfl) ?_
        refine lv_lconst (v := (0 : Int64)) hx hb dX1_moved_22 (by decide) ?_
        refine W.lcmp hx hb dX1_moved_23 ?_
        refine lv_if_ge (tgt := 33) hx hb dX1_moved_24 (by decide) (fun c24 => ?_) (fun c24 => ?_)
        · skip
          rw [if_pos c24] at hR
          refine lv_lconst (v := (0 : Int64)) hx hb dX1_moved_33 (by decide) ?_
          exact W.lret (v := (0 : Int64)) hx hb hr (fun t ht hW => ⟨_, rfl, hR, ht⟩) (fun q h => by cases h) dX1_moved_34
        · skip
          rw [if_neg c24] at hR
          refine lv_ldc2 (v := (-1 : Int64)) hx hb hown hc13 dX1_moved_27 ?_
          refine lv_goto (tgt := 34) hx hb dX1_moved_30 (by decide) ?_
          exact W.lret (v := (-1 : Int64)) hx hb hr (fun t ht hW => ⟨_, rfl, hR, ht⟩) (fun q h => by cases h) dX1_moved_34
end
section
theorem mw_67 : (.fieldLink RX2 20 RX2 "size" "I" : Cond) ∈ AW := List.mem_filter.mpr ⟨List.mem_of_getElem? (i := 67) (by decide +kernel), rfl⟩
theorem dX2_size_0 : decode cX2_size 0 = .ok (.aload_n 0, 1) := by decide +kernel
theorem dX2_size_1 : decode cX2_size 1 = .ok (.getfield 20, 3) := by decide +kernel
theorem dX2_size_4 : decode cX2_size 4 = .ok (.ireturn, 1) := by decide +kernel
def fx_Vars_size (st : XS) : Int32 := gI st 4
set_option maxHeartbeats 4000000 in
set_option maxRecDepth 100000 in
theorem kx_Vars_size (l : Launch) (dC : Nat → ClassId) (dI : Nat → Nat → Nat) (a : Nat → Nat) (k : Nat → ClassId) (st : XS) : Met l yX2_size wsX2_size ({ frames := 0, cells := 0, slots := 0, locals := 0 }) (va_Pc [.ref (a 1)] (wl_prR (dC, dI) vwCl (xt k) (xw a k st))) (vp_Si (fun r9 => r9 = fx_Vars_size st)) 0 0 (fun _ => False) := by
  refine Met.ofW (cc := cX2_size) (maxL := 1) (ret := (some .int)) (by decide) rfl ?_
  intro p e s m args below meth c s₁ B hml hv
  obtain ⟨rfl, hP, hK⟩ := hv
  have hx := B.exec
  have hb := B.bytes
  have hr := B.returns
  have hta := aw_hts (atoms_spec (ws := wsX2_size) B.pre)
  have hown : s.vm.findClass RX2 = some m.cls := findClass_of_methodNamed B.named
  have hlocks := B.notSynchronized
  have hf20 := hta _ mw_67
  have hl := lv_entry ([.ref (a 1)]) (n := 1) (Nat.le_of_ble_eq_true rfl)
  rw [lg_entry_eq]
  generalize (lg_sl ([.ref (a 1)]) ++ List.replicate (1 - (lg_sl ([.ref (a 1)])).length) Slot.unset).toArray = ls at hl ⊢
  have hl : lv_has ls 1 [(0, .ref (a 1))] := hl
  generalize hR : fx_Vars_size st = R
  rw [fx_Vars_size] at hR
  refine lv_aload_n hx hb dX2_size_0 rfl (lv_at hl 0 rfl) ?_
  refine va_get (D := (dC, dI)) (ci := 0) (v := .int (gI st 4)) (C := RX2) (T := TX2) (N := 5) hx hb hta inX2 hown hK hP 1 (xr_1 a k st) rfl 3 (by decide) hf20 (fun _ h9 => h9) rfl dX2_size_1 ?_
  exact W.iret (v := gI st 4) hx hb hr (fun t ht hW => ⟨_, rfl, hR, ht⟩) (fun q h => by cases h) dX2_size_4

theorem mw_68 : (.fieldLink RX2 24 RX2 "bitsTogether" "I" : Cond) ∈ AW := List.mem_filter.mpr ⟨List.mem_of_getElem? (i := 68) (by decide +kernel), rfl⟩
theorem dX2_admits_0 : decode cX2_admits 0 = .ok (.iload_n 1, 1) := by decide +kernel
theorem dX2_admits_1 : decode cX2_admits 1 = .ok (.iconst 1, 1) := by decide +kernel
theorem dX2_admits_2 : decode cX2_admits 2 = .ok (.if_icmp .lt 32, 3) := by decide +kernel
theorem dX2_admits_5 : decode cX2_admits 5 = .ok (.iload_n 1, 1) := by decide +kernel
theorem dX2_admits_6 : decode cX2_admits 6 = .ok (.bipush 8, 2) := by decide +kernel
theorem dX2_admits_8 : decode cX2_admits 8 = .ok (.if_icmp .gt 26, 3) := by decide +kernel
theorem dX2_admits_11 : decode cX2_admits 11 = .ok (.aload_n 0, 1) := by decide +kernel
theorem dX2_admits_12 : decode cX2_admits 12 = .ok (.getfield 20, 3) := by decide +kernel
theorem dX2_admits_15 : decode cX2_admits 15 = .ok (.iconst 4, 1) := by decide +kernel
theorem dX2_admits_16 : decode cX2_admits 16 = .ok (.if_icmp .ge 18, 3) := by decide +kernel
theorem dX2_admits_19 : decode cX2_admits 19 = .ok (.aload_n 0, 1) := by decide +kernel
theorem dX2_admits_20 : decode cX2_admits 20 = .ok (.getfield 24, 3) := by decide +kernel
theorem dX2_admits_23 : decode cX2_admits 23 = .ok (.iload_n 1, 1) := by decide +kernel
theorem dX2_admits_24 : decode cX2_admits 24 = .ok (.iadd, 1) := by decide +kernel
theorem dX2_admits_25 : decode cX2_admits 25 = .ok (.bipush 10, 2) := by decide +kernel
theorem dX2_admits_27 : decode cX2_admits 27 = .ok (.if_icmp .gt 7, 3) := by decide +kernel
theorem dX2_admits_30 : decode cX2_admits 30 = .ok (.iconst 1, 1) := by decide +kernel
theorem dX2_admits_31 : decode cX2_admits 31 = .ok (.goto 4, 3) := by decide +kernel
theorem dX2_admits_34 : decode cX2_admits 34 = .ok (.iconst 0, 1) := by decide +kernel
theorem dX2_admits_35 : decode cX2_admits 35 = .ok (.ireturn, 1) := by decide +kernel
def fx_Vars_admits (st : XS) (b : Int32) : Int32 := 
  if b < (1 : Int32) then (0 : Int32)
  else 
    if (8 : Int32) < b then (0 : Int32)
    else 
      if (4 : Int32) ≤ gI st 4 then (0 : Int32)
      else 
        if (10 : Int32) < (gI st 5) + b then (0 : Int32)
        else (1 : Int32)
set_option maxHeartbeats 4000000 in
set_option maxRecDepth 100000 in
theorem kx_Vars_admits (l : Launch) (dC : Nat → ClassId) (dI : Nat → Nat → Nat) (a : Nat → Nat) (k : Nat → ClassId) (st : XS) (b : Int32) : Met l yX2_admits wsX2_admits ({ frames := 0, cells := 0, slots := 0, locals := 0 }) (va_Pc [.ref (a 1), .int b] (wl_prR (dC, dI) vwCl (xt k) (xw a k st))) (vp_Si (fun r9 => r9 = fx_Vars_admits st b)) 0 0 (fun _ => False) := by
  refine Met.ofW (cc := cX2_admits) (maxL := 2) (ret := (some .boolean)) (by decide) rfl ?_
  intro p e s m args below meth c s₁ B hml hv
  obtain ⟨rfl, hP, hK⟩ := hv
  have hx := B.exec
  have hb := B.bytes
  have hr := B.returns
  have hta := aw_hts (atoms_spec (ws := wsX2_admits) B.pre)
  have hown : s.vm.findClass RX2 = some m.cls := findClass_of_methodNamed B.named
  have hlocks := B.notSynchronized
  have hf20 := hta _ mw_67
  have hf24 := hta _ mw_68
  have hl := lv_entry ([.ref (a 1), .int b]) (n := 2) (Nat.le_of_ble_eq_true rfl)
  rw [lg_entry_eq]
  generalize (lg_sl ([.ref (a 1), .int b]) ++ List.replicate (2 - (lg_sl ([.ref (a 1), .int b])).length) Slot.unset).toArray = ls at hl ⊢
  have hl : lv_has ls 2 [(0, .ref (a 1)), (1, .int b)] := hl
  generalize hR : fx_Vars_admits st b = R
  rw [fx_Vars_admits] at hR
  refine lv_iload_n hx hb dX2_admits_0 rfl (lv_at hl 1 rfl) ?_
  refine lv_iconst (v := (1 : Int32)) hx hb dX2_admits_1 (by decide) ?_
  refine lv_icmp_lt (tgt := 34) hx hb dX2_admits_2 (by decide) (fun c2 => ?_) (fun c2 => ?_)
  · skip
    rw [if_pos c2] at hR
    refine lv_iconst (v := (0 : Int32)) hx hb dX2_admits_34 (by decide) ?_
    exact W.zret (v := (0 : Int32)) (ty := .boolean) hx hb hr rfl (fun t ht hW => ⟨_, rfl, hR, ht⟩) (fun q h => by cases h) dX2_admits_35
  · skip
    rw [if_neg c2] at hR
    refine lv_iload_n hx hb dX2_admits_5 rfl (lv_at hl 1 rfl) ?_
    refine lv_bipush (v := (8 : Int32)) hx hb dX2_admits_6 (by decide) ?_
    refine lv_icmp_gt (tgt := 34) hx hb dX2_admits_8 (by decide) (fun c8 => ?_) (fun c8 => ?_)
    · skip
      rw [if_pos c8] at hR
      refine lv_iconst (v := (0 : Int32)) hx hb dX2_admits_34 (by decide) ?_
      exact W.zret (v := (0 : Int32)) (ty := .boolean) hx hb hr rfl (fun t ht hW => ⟨_, rfl, hR, ht⟩) (fun q h => by cases h) dX2_admits_35
    · skip
      rw [if_neg c8] at hR
      refine lv_aload_n hx hb dX2_admits_11 rfl (lv_at hl 0 rfl) ?_
      refine va_get (D := (dC, dI)) (ci := 0) (v := .int (gI st 4)) (C := RX2) (T := TX2) (N := 5) hx hb hta inX2 hown hK hP 1 (xr_1 a k st) rfl 3 (by decide) hf20 (fun _ h9 => h9) rfl dX2_admits_12 ?_
      refine lv_iconst (v := (4 : Int32)) hx hb dX2_admits_15 (by decide) ?_
      refine lv_icmp_ge (tgt := 34) hx hb dX2_admits_16 (by decide) (fun c16 => ?_) (fun c16 => ?_)
      · skip
        rw [if_pos c16] at hR
        refine lv_iconst (v := (0 : Int32)) hx hb dX2_admits_34 (by decide) ?_
        exact W.zret (v := (0 : Int32)) (ty := .boolean) hx hb hr rfl (fun t ht hW => ⟨_, rfl, hR, ht⟩) (fun q h => by cases h) dX2_admits_35
      · skip
        rw [if_neg c16] at hR
        refine lv_aload_n hx hb dX2_admits_19 rfl (lv_at hl 0 rfl) ?_
        refine va_get (D := (dC, dI)) (ci := 0) (v := .int (gI st 5)) (C := RX2) (T := TX2) (N := 5) hx hb hta inX2 hown hK hP 1 (xr_1 a k st) rfl 4 (by decide) hf24 (fun _ h9 => h9) rfl dX2_admits_20 ?_
        refine lv_iload_n hx hb dX2_admits_23 rfl (lv_at hl 1 rfl) ?_
        refine lv_iadd hx hb dX2_admits_24 ?_
        refine lv_bipush (v := (10 : Int32)) hx hb dX2_admits_25 (by decide) ?_
        refine lv_icmp_gt (tgt := 34) hx hb dX2_admits_27 (by decide) (fun c27 => ?_) (fun c27 => ?_)
        · skip
          rw [if_pos c27] at hR
          refine lv_iconst (v := (0 : Int32)) hx hb dX2_admits_34 (by decide) ?_
          exact W.zret (v := (0 : Int32)) (ty := .boolean) hx hb hr rfl (fun t ht hW => ⟨_, rfl, hR, ht⟩) (fun q h => by cases h) dX2_admits_35
        · skip
          rw [if_neg c27] at hR
          refine lv_iconst (v := (1 : Int32)) hx hb dX2_admits_30 (by decide) ?_
          refine lv_goto (tgt := 35) hx hb dX2_admits_31 (by decide) ?_
          exact W.zret (v := (1 : Int32)) (ty := .boolean) hx hb hr rfl (fun t ht hW => ⟨_, rfl, hR, ht⟩) (fun q h => by cases h) dX2_admits_35

theorem dX2_freeBits_0 : decode cX2_freeBits 0 = .ok (.bipush 10, 2) := by decide +kernel
theorem dX2_freeBits_2 : decode cX2_freeBits 2 = .ok (.aload_n 0, 1) := by decide +kernel
theorem dX2_freeBits_3 : decode cX2_freeBits 3 = .ok (.getfield 24, 3) := by decide +kernel
theorem dX2_freeBits_6 : decode cX2_freeBits 6 = .ok (.isub, 1) := by decide +kernel
theorem dX2_freeBits_7 : decode cX2_freeBits 7 = .ok (.ireturn, 1) := by decide +kernel
def fx_Vars_freeBits (st : XS) : Int32 := (10 : Int32) - (gI st 5)
set_option maxHeartbeats 4000000 in
set_option maxRecDepth 100000 in
theorem kx_Vars_freeBits (l : Launch) (dC : Nat → ClassId) (dI : Nat → Nat → Nat) (a : Nat → Nat) (k : Nat → ClassId) (st : XS) : Met l yX2_freeBits wsX2_freeBits ({ frames := 0, cells := 0, slots := 0, locals := 0 }) (va_Pc [.ref (a 1)] (wl_prR (dC, dI) vwCl (xt k) (xw a k st))) (vp_Si (fun r9 => r9 = fx_Vars_freeBits st)) 0 0 (fun _ => False) := by
  refine Met.ofW (cc := cX2_freeBits) (maxL := 1) (ret := (some .int)) (by decide) rfl ?_
  intro p e s m args below meth c s₁ B hml hv
  obtain ⟨rfl, hP, hK⟩ := hv
  have hx := B.exec
  have hb := B.bytes
  have hr := B.returns
  have hta := aw_hts (atoms_spec (ws := wsX2_freeBits) B.pre)
  have hown : s.vm.findClass RX2 = some m.cls := findClass_of_methodNamed B.named
  have hlocks := B.notSynchronized
  have hf24 := hta _ mw_68
  have hl := lv_entry ([.ref (a 1)]) (n := 1) (Nat.le_of_ble_eq_true rfl)
  rw [lg_entry_eq]
  generalize (lg_sl ([.ref (a 1)]) ++ List.replicate (1 - (lg_sl ([.ref (a 1)])).length) Slot.unset).toArray = ls at hl ⊢
  have hl : lv_has ls 1 [(0, .ref (a 1))] := hl
  generalize hR : fx_Vars_freeBits st = R
  rw [fx_Vars_freeBits] at hR
  refine lv_bipush (v := (10 : Int32)) hx hb dX2_freeBits_0 (by decide) ?_
  refine lv_aload_n hx hb dX2_freeBits_2 rfl (lv_at hl 0 rfl) ?_
  refine va_get (D := (dC, dI)) (ci := 0) (v := .int (gI st 5)) (C := RX2) (T := TX2) (N := 5) hx hb hta inX2 hown hK hP 1 (xr_1 a k st) rfl 4 (by decide) hf24 (fun _ h9 => h9) rfl dX2_freeBits_3 ?_
  refine lv_isub hx hb dX2_freeBits_6 ?_
  exact W.iret (v := (10 : Int32) - (gI st 5)) hx hb hr (fun t ht hW => ⟨_, rfl, hR, ht⟩) (fun q h => by cases h) dX2_freeBits_7

theorem mw_64 : (.fieldLink RX2 9 RX2 "bits" "[I" : Cond) ∈ AW := List.mem_filter.mpr ⟨List.mem_of_getElem? (i := 64) (by decide +kernel), rfl⟩
theorem mw_65 : (.fieldLink RX2 13 RX2 "lowest" "[I" : Cond) ∈ AW := List.mem_filter.mpr ⟨List.mem_of_getElem? (i := 65) (by decide +kernel), rfl⟩
theorem mw_253 : (.code yX2_freeBits cX2_freeBits 1 (some .int) : Cond) ∈ AW := List.mem_filter.mpr ⟨List.mem_of_getElem? (i := 253) (by decide +kernel), rfl⟩
theorem mw_250 : (.methodLink RX2 27 yX2_freeBits : Cond) ∈ AW := List.mem_filter.mpr ⟨List.mem_of_getElem? (i := 250) (by decide +kernel), rfl⟩
theorem mw_39 : (.initialized RX2 : Cond) ∈ AW := List.mem_filter.mpr ⟨List.mem_of_getElem? (i := 39) (by decide +kernel), rfl⟩
theorem mw_251 : (.instanceMethod yX2_freeBits : Cond) ∈ AW := List.mem_filter.mpr ⟨List.mem_of_getElem? (i := 251) (by decide +kernel), rfl⟩
theorem mw_252 : (.selects RX2 yX2_freeBits yX2_freeBits : Cond) ∈ AW := List.mem_filter.mpr ⟨List.mem_of_getElem? (i := 252) (by decide +kernel), rfl⟩
theorem mw_66 : (.fieldLink RX2 16 RX2 "signed" "[Z" : Cond) ∈ AW := List.mem_filter.mpr ⟨List.mem_of_getElem? (i := 66) (by decide +kernel), rfl⟩
theorem gX2_27 : GoodIn AW (wsV RX2 27 RX2 yX2_freeBits wsX2_freeBits) := aw_V mw_250 mw_251 mw_252 mw_39 mw_253
theorem dX2_add_0 : decode cX2_add 0 = .ok (.aload_n 0, 1) := by decide +kernel
theorem dX2_add_1 : decode cX2_add 1 = .ok (.dup, 1) := by decide +kernel
theorem dX2_add_2 : decode cX2_add 2 = .ok (.getfield 24, 3) := by decide +kernel
theorem dX2_add_5 : decode cX2_add 5 = .ok (.iload_n 1, 1) := by decide +kernel
theorem dX2_add_6 : decode cX2_add 6 = .ok (.iadd, 1) := by decide +kernel
theorem dX2_add_7 : decode cX2_add 7 = .ok (.putfield 24, 3) := by decide +kernel
theorem dX2_add_10 : decode cX2_add 10 = .ok (.aload_n 0, 1) := by decide +kernel
theorem dX2_add_11 : decode cX2_add 11 = .ok (.getfield 9, 3) := by decide +kernel
theorem dX2_add_14 : decode cX2_add 14 = .ok (.aload_n 0, 1) := by decide +kernel
theorem dX2_add_15 : decode cX2_add 15 = .ok (.getfield 20, 3) := by decide +kernel
theorem dX2_add_18 : decode cX2_add 18 = .ok (.iload_n 1, 1) := by decide +kernel
theorem dX2_add_19 : decode cX2_add 19 = .ok (.iastore, 1) := by decide +kernel
theorem dX2_add_20 : decode cX2_add 20 = .ok (.aload_n 0, 1) := by decide +kernel
theorem dX2_add_21 : decode cX2_add 21 = .ok (.getfield 13, 3) := by decide +kernel
theorem dX2_add_24 : decode cX2_add 24 = .ok (.aload_n 0, 1) := by decide +kernel
theorem dX2_add_25 : decode cX2_add 25 = .ok (.getfield 20, 3) := by decide +kernel
theorem dX2_add_28 : decode cX2_add 28 = .ok (.aload_n 0, 1) := by decide +kernel
theorem dX2_add_29 : decode cX2_add 29 = .ok (.invokevirtual 27, 3) := by decide +kernel
theorem dX2_add_32 : decode cX2_add 32 = .ok (.iastore, 1) := by decide +kernel
theorem dX2_add_33 : decode cX2_add 33 = .ok (.aload_n 0, 1) := by decide +kernel
theorem dX2_add_34 : decode cX2_add 34 = .ok (.getfield 16, 3) := by decide +kernel
theorem dX2_add_37 : decode cX2_add 37 = .ok (.aload_n 0, 1) := by decide +kernel
theorem dX2_add_38 : decode cX2_add 38 = .ok (.getfield 20, 3) := by decide +kernel
theorem dX2_add_41 : decode cX2_add 41 = .ok (.iload_n 2, 1) := by decide +kernel
theorem dX2_add_42 : decode cX2_add 42 = .ok (.bastore, 1) := by decide +kernel
theorem dX2_add_43 : decode cX2_add 43 = .ok (.aload_n 0, 1) := by decide +kernel
theorem dX2_add_44 : decode cX2_add 44 = .ok (.dup, 1) := by decide +kernel
theorem dX2_add_45 : decode cX2_add 45 = .ok (.getfield 20, 3) := by decide +kernel
theorem dX2_add_48 : decode cX2_add 48 = .ok (.dup_x1, 1) := by decide +kernel
theorem dX2_add_49 : decode cX2_add 49 = .ok (.iconst 1, 1) := by decide +kernel
theorem dX2_add_50 : decode cX2_add 50 = .ok (.iadd, 1) := by decide +kernel
theorem dX2_add_51 : decode cX2_add 51 = .ok (.putfield 20, 3) := by decide +kernel
theorem dX2_add_54 : decode cX2_add 54 = .ok (.ireturn, 1) := by decide +kernel
def fx_Vars_add (st : XS) (b : Int32) (sg : Int32) : Int32 × XS := (gI st 4, wI (wA (wA (wA (wI st 5 ((gI st 5) + b)) 0 ((gI st 4).toNatClampNeg) b) 1 ((gI st 4).toNatClampNeg) (fx_Vars_freeBits (wA (wI st 5 ((gI st 5) + b)) 0 ((gI st 4).toNatClampNeg) b))) 2 ((gI st 4).toNatClampNeg) (vp_nar .boolean sg)) 4 ((gI st 4) + (1 : Int32)))
theorem ff_Vars_add (st : XS) (b : Int32) (sg : Int32) : XF [4, 5] [0, 1, 2] [] st (fx_Vars_add st b sg).2 := by
  rw [fx_Vars_add]
  exact (XF.wI (by decide) (XF.wA (by decide) (XF.wA (by decide) (XF.wA (by decide) (XF.wI (by decide) XF.rf)))))
set_option maxHeartbeats 4000000 in
set_option maxRecDepth 100000 in
theorem kx_Vars_add (l : Launch) (dC : Nat → ClassId) (dI : Nat → Nat → Nat) (a : Nat → Nat) (k : Nat → ClassId) (st : XS) (b : Int32) (sg : Int32) (sz : Nat) (hi : vp_in (gI st 4) 4) : Met l yX2_add wsX2_add ({ frames := 1, cells := 0, slots := 0, locals := 20 }) (va_Pc [.ref (a 1), .int b, .int sg] (wl_pre (dC, dI) vwCl (xt k) (xw a k) st sz)) (va_Qi (fun r9 u9 => (r9, u9) = fx_Vars_add st b sg) (wl_at (dC, dI) vwCl (xt k) (xw a k) (va_A (xw a k st) sz)) (va_A (xw a k st) sz)) 0 0 (va_A (xw a k st) sz) := by
  refine Met.ofW (cc := cX2_add) (maxL := 3) (ret := (some .int)) (by decide) rfl ?_
  intro p e s m args below meth c s₁ B hml hv
  obtain ⟨rfl, hsz, hP, hK, hD0⟩ := hv
  have hx := B.exec
  have hb := B.bytes
  have hr := B.returns
  have hta := aw_hts (atoms_spec (ws := wsX2_add) B.pre)
  have hown : s.vm.findClass RX2 = some m.cls := findClass_of_methodNamed B.named
  have hlocks := B.notSynchronized
  have hf24 := hta _ mw_68
  have hf9 := hta _ mw_64
  have hf20 := hta _ mw_67
  have hf13 := hta _ mw_65
  have hf16 := hta _ mw_66
  subst hsz
  have hD := hD0.self (sz := s.heap.size)
  generalize hAe : va_A (xw a k st) s.heap.size = A at hD ⊢
  have hAz : ∀ q : Nat, s.heap.size ≤ q → A q := fun q h => by rw [← hAe]; exact Or.inr h
  have hS : va_S A s.heap s.heap [] := va_S.rf
  have hl := lv_entry ([.ref (a 1), .int b, .int sg]) (n := 3) (Nat.le_of_ble_eq_true rfl)
  rw [lg_entry_eq]
  generalize (lg_sl ([.ref (a 1), .int b, .int sg]) ++ List.replicate (3 - (lg_sl ([.ref (a 1), .int b, .int sg])).length) Slot.unset).toArray = ls at hl ⊢
  have hl : lv_has ls 3 [(0, .ref (a 1)), (1, .int b), (2, .int sg)] := hl
  generalize hR : fx_Vars_add st b sg = R
  rw [fx_Vars_add] at hR
  refine lv_aload_n hx hb dX2_add_0 rfl (lv_at hl 0 rfl) ?_
  refine lv_dup hx hb dX2_add_1 rfl ?_
  refine va_get (D := (dC, dI)) (ci := 0) (v := .int (gI st 5)) (C := RX2) (T := TX2) (N := 5) hx hb hta inX2 hown hK hP 1 (xr_1 a k st) rfl 4 (by decide) hf24 (fun _ h9 => h9) rfl dX2_add_2 ?_
  refine lv_iload_n hx hb dX2_add_5 rfl (lv_at hl 1 rfl) ?_
  refine lv_iadd hx hb dX2_add_6 ?_
  refine va_put (D := (dC, dI)) (ci := 0) (v := .int ((gI st 5) + b)) (ty := .int) (C := RX2) (T := TX2) (N := 5) hx hb hta inX2 tyX2 tyX2_ok nmX2 hown hK hP hD hS 1 (xr_1 a k st) rfl 4 (by decide) hf24 (fun _ h9 => h9) rfl (by decide +kernel) rfl rfl (Nat.le_of_ble_eq_true rfl) dX2_add_7 (fun H locs hP hD hS => ?_)
  have hP := xp_I5 hP
  have hD := xd_I5 hD
  refine lv_aload_n hx hb dX2_add_10 rfl (lv_at hl 0 rfl) ?_
  refine va_get (D := (dC, dI)) (ci := 0) (v := .ref (a 2)) (C := RX2) (T := TX2) (N := 5) hx hb hta inX2 hown hK hP 1 (xr_1 a k (wI st 5 ((gI st 5) + b))) rfl 0 (by decide) hf9 (fun _ h9 => h9) rfl dX2_add_11 ?_
  refine lv_aload_n hx hb dX2_add_14 rfl (lv_at hl 0 rfl) ?_
  refine va_get (D := (dC, dI)) (ci := 0) (v := .int (gI st 4)) (C := RX2) (T := TX2) (N := 5) hx hb hta inX2 hown hK hP 1 (xr_1 a k (wI st 5 ((gI st 5) + b))) rfl 3 (by decide) hf20 (fun _ h9 => h9) rfl dX2_add_15 ?_
  refine lv_iload_n hx hb dX2_add_18 rfl (lv_at hl 1 rfl) ?_
  refine va_iast hx hb hK hP hD hS 2 0 (xr_2 a k (wI st 5 ((gI st 5) + b))) rfl hi dX2_add_19 (fun H locs hP hD hS => ?_)
  have hP := xp_A0 hP
  have hD := xd_A0 hD
  refine lv_aload_n hx hb dX2_add_20 rfl (lv_at hl 0 rfl) ?_
  refine va_get (D := (dC, dI)) (ci := 0) (v := .ref (a 3)) (C := RX2) (T := TX2) (N := 5) hx hb hta inX2 hown hK hP 1 (xr_1 a k (wA (wI st 5 ((gI st 5) + b)) 0 ((gI st 4).toNatClampNeg) b)) rfl 1 (by decide) hf13 (fun _ h9 => h9) rfl dX2_add_21 ?_
  refine lv_aload_n hx hb dX2_add_24 rfl (lv_at hl 0 rfl) ?_
  refine va_get (D := (dC, dI)) (ci := 0) (v := .int (gI st 4)) (C := RX2) (T := TX2) (N := 5) hx hb hta inX2 hown hK hP 1 (xr_1 a k (wA (wI st 5 ((gI st 5) + b)) 0 ((gI st 4).toNatClampNeg) b)) rfl 3 (by decide) hf20 (fun _ h9 => h9) rfl dX2_add_25 ?_
  refine lv_aload_n hx hb dX2_add_28 rfl (lv_at hl 0 rfl) ?_
  refine wl_ci (va_runV (As := []) (rest := [.int (gI st 4), .ref (a 3)]) ⟨hx, hb, hml, hown, hta⟩ (kx_Vars_freeBits l dC dI a k (wA (wI st 5 ((gI st 5) + b)) 0 ((gI st 4).toNatClampNeg) b)) (cwV 0 hta gX2_27 rfl rfl rfl (by decide +kernel) ⟨Nat.le_of_ble_eq_true rfl, Nat.le_of_ble_eq_true rfl⟩) (wl_pR (C := RX2) (ci := 0) (q0 := 1) hK hP rfl (xr_1 a k (wA (wI st 5 ((gI st 5) + b)) 0 ((gI st 4).toNatClampNeg) b))) rfl rfl hl.1 rfl (lv_room (Nat.le_of_ble_eq_true rfl)) dX2_add_29 ⟨Nat.zero_le _, Nat.zero_le _⟩) ?_
  refine va_iast hx hb hK hP hD hS 3 1 (xr_3 a k (wA (wI st 5 ((gI st 5) + b)) 0 ((gI st 4).toNatClampNeg) b)) rfl hi dX2_add_32 (fun H locs hP hD hS => ?_)
  have hP := xp_A1 hP
  have hD := xd_A1 hD
  refine lv_aload_n hx hb dX2_add_33 rfl (lv_at hl 0 rfl) ?_
  refine va_get (D := (dC, dI)) (ci := 0) (v := .ref (a 4)) (C := RX2) (T := TX2) (N := 5) hx hb hta inX2 hown hK hP 1 (xr_1 a k (wA (wA (wI st 5 ((gI st 5) + b)) 0 ((gI st 4).toNatClampNeg) b) 1 ((gI st 4).toNatClampNeg) (fx_Vars_freeBits (wA (wI st 5 ((gI st 5) + b)) 0 ((gI st 4).toNatClampNeg) b)))) rfl 2 (by decide) hf16 (fun _ h9 => h9) rfl dX2_add_34 ?_
  refine lv_aload_n hx hb dX2_add_37 rfl (lv_at hl 0 rfl) ?_
  refine va_get (D := (dC, dI)) (ci := 0) (v := .int (gI st 4)) (C := RX2) (T := TX2) (N := 5) hx hb hta inX2 hown hK hP 1 (xr_1 a k (wA (wA (wI st 5 ((gI st 5) + b)) 0 ((gI st 4).toNatClampNeg) b) 1 ((gI st 4).toNatClampNeg) (fx_Vars_freeBits (wA (wI st 5 ((gI st 5) + b)) 0 ((gI st 4).toNatClampNeg) b)))) rfl 3 (by decide) hf20 (fun _ h9 => h9) rfl dX2_add_38 ?_
  refine lv_iload_n hx hb dX2_add_41 rfl (lv_at hl 2 rfl) ?_
  refine va_zast hx hb hK hP hD hS 4 2 (xr_4 a k (wA (wA (wI st 5 ((gI st 5) + b)) 0 ((gI st 4).toNatClampNeg) b) 1 ((gI st 4).toNatClampNeg) (fx_Vars_freeBits (wA (wI st 5 ((gI st 5) + b)) 0 ((gI st 4).toNatClampNeg) b)))) rfl hi dX2_add_42 (fun H locs hP hD hS => ?_)
  have hP := xp_A2 hP
  have hD := xd_A2 hD
  refine lv_aload_n hx hb dX2_add_43 rfl (lv_at hl 0 rfl) ?_
  refine lv_dup hx hb dX2_add_44 rfl ?_
  refine va_get (D := (dC, dI)) (ci := 0) (v := .int (gI st 4)) (C := RX2) (T := TX2) (N := 5) hx hb hta inX2 hown hK hP 1 (xr_1 a k (wA (wA (wA (wI st 5 ((gI st 5) + b)) 0 ((gI st 4).toNatClampNeg) b) 1 ((gI st 4).toNatClampNeg) (fx_Vars_freeBits (wA (wI st 5 ((gI st 5) + b)) 0 ((gI st 4).toNatClampNeg) b))) 2 ((gI st 4).toNatClampNeg) (vp_nar .boolean sg))) rfl 3 (by decide) hf20 (fun _ h9 => h9) rfl dX2_add_45 ?_
  refine lv_dup_x1 hx hb dX2_add_48 rfl rfl ?_
  refine lv_iconst (v := (1 : Int32)) hx hb dX2_add_49 (by decide) ?_
  refine lv_iadd hx hb dX2_add_50 ?_
  refine va_put (D := (dC, dI)) (ci := 0) (v := .int ((gI st 4) + (1 : Int32))) (ty := .int) (C := RX2) (T := TX2) (N := 5) hx hb hta inX2 tyX2 tyX2_ok nmX2 hown hK hP hD hS 1 (xr_1 a k (wA (wA (wA (wI st 5 ((gI st 5) + b)) 0 ((gI st 4).toNatClampNeg) b) 1 ((gI st 4).toNatClampNeg) (fx_Vars_freeBits (wA (wI st 5 ((gI st 5) + b)) 0 ((gI st 4).toNatClampNeg) b))) 2 ((gI st 4).toNatClampNeg) (vp_nar .boolean sg))) rfl 3 (by decide) hf20 (fun _ h9 => h9) rfl (by decide +kernel) rfl rfl (Nat.le_of_ble_eq_true rfl) dX2_add_51 (fun H locs hP hD hS => ?_)
  have hP := xp_I4 hP
  have hD := xd_I4 hD
  exact W.iret (v := gI st 4) hx hb hr (fun t ht hW => ⟨⟨_, _, rfl, hR, by rw [ht]; exact hP, va_K.moved hW.alike hK, hD⟩, hS.F ht⟩) hS.2.2 dX2_add_54

theorem dX2_bitsAt_0 : decode cX2_bitsAt 0 = .ok (.iload_n 2, 1) := by decide +kernel
theorem dX2_bitsAt_1 : decode cX2_bitsAt 1 = .ok (.aload_n 0, 1) := by decide +kernel
theorem dX2_bitsAt_2 : decode cX2_bitsAt 2 = .ok (.getfield 13, 3) := by decide +kernel
theorem dX2_bitsAt_5 : decode cX2_bitsAt 5 = .ok (.iload_n 1, 1) := by decide +kernel
theorem dX2_bitsAt_6 : decode cX2_bitsAt 6 = .ok (.iaload, 1) := by decide +kernel
theorem dX2_bitsAt_7 : decode cX2_bitsAt 7 = .ok (.ishr, 1) := by decide +kernel
theorem dX2_bitsAt_8 : decode cX2_bitsAt 8 = .ok (.iconst 1, 1) := by decide +kernel
theorem dX2_bitsAt_9 : decode cX2_bitsAt 9 = .ok (.aload_n 0, 1) := by decide +kernel
theorem dX2_bitsAt_10 : decode cX2_bitsAt 10 = .ok (.getfield 9, 3) := by decide +kernel
theorem dX2_bitsAt_13 : decode cX2_bitsAt 13 = .ok (.iload_n 1, 1) := by decide +kernel
theorem dX2_bitsAt_14 : decode cX2_bitsAt 14 = .ok (.iaload, 1) := by decide +kernel
theorem dX2_bitsAt_15 : decode cX2_bitsAt 15 = .ok (.ishl, 1) := by decide +kernel
theorem dX2_bitsAt_16 : decode cX2_bitsAt 16 = .ok (.iconst 1, 1) := by decide +kernel
theorem dX2_bitsAt_17 : decode cX2_bitsAt 17 = .ok (.isub, 1) := by decide +kernel
theorem dX2_bitsAt_18 : decode cX2_bitsAt 18 = .ok (.iand, 1) := by decide +kernel
theorem dX2_bitsAt_19 : decode cX2_bitsAt 19 = .ok (.ireturn, 1) := by decide +kernel
def fx_Vars_bitsAt (st : XS) (v : Int32) (n : Int32) : Int32 := (n >>> ((fA st 1 v.toNatClampNeg) &&& 31)) &&& (((1 : Int32) <<< ((fA st 0 v.toNatClampNeg) &&& 31)) - (1 : Int32))
set_option maxHeartbeats 4000000 in
set_option maxRecDepth 100000 in
theorem kx_Vars_bitsAt (l : Launch) (dC : Nat → ClassId) (dI : Nat → Nat → Nat) (a : Nat → Nat) (k : Nat → ClassId) (st : XS) (v : Int32) (n : Int32) (hi : vp_in v 4) : Met l yX2_bitsAt wsX2_bitsAt ({ frames := 0, cells := 0, slots := 0, locals := 0 }) (va_Pc [.ref (a 1), .int v, .int n] (wl_prR (dC, dI) vwCl (xt k) (xw a k st))) (vp_Si (fun r9 => r9 = fx_Vars_bitsAt st v n)) 0 0 (fun _ => False) := by
  refine Met.ofW (cc := cX2_bitsAt) (maxL := 3) (ret := (some .int)) (by decide) rfl ?_
  intro p e s m args below meth c s₁ B hml hv
  obtain ⟨rfl, hP, hK⟩ := hv
  have hx := B.exec
  have hb := B.bytes
  have hr := B.returns
  have hta := aw_hts (atoms_spec (ws := wsX2_bitsAt) B.pre)
  have hown : s.vm.findClass RX2 = some m.cls := findClass_of_methodNamed B.named
  have hlocks := B.notSynchronized
  have hf13 := hta _ mw_65
  have hf9 := hta _ mw_64
  have hl := lv_entry ([.ref (a 1), .int v, .int n]) (n := 3) (Nat.le_of_ble_eq_true rfl)
  rw [lg_entry_eq]
  generalize (lg_sl ([.ref (a 1), .int v, .int n]) ++ List.replicate (3 - (lg_sl ([.ref (a 1), .int v, .int n])).length) Slot.unset).toArray = ls at hl ⊢
  have hl : lv_has ls 3 [(0, .ref (a 1)), (1, .int v), (2, .int n)] := hl
  generalize hR : fx_Vars_bitsAt st v n = R
  rw [fx_Vars_bitsAt] at hR
  refine lv_iload_n hx hb dX2_bitsAt_0 rfl (lv_at hl 2 rfl) ?_
  refine lv_aload_n hx hb dX2_bitsAt_1 rfl (lv_at hl 0 rfl) ?_
  refine va_get (D := (dC, dI)) (ci := 0) (v := .ref (a 3)) (C := RX2) (T := TX2) (N := 5) hx hb hta inX2 hown hK hP 1 (xr_1 a k st) rfl 1 (by decide) hf13 (fun _ h9 => h9) rfl dX2_bitsAt_2 ?_
  refine lv_iload_n hx hb dX2_bitsAt_5 rfl (lv_at hl 1 rfl) ?_
  refine va_iald hx hb hK hP 3 1 (xr_3 a k st) rfl hi dX2_bitsAt_6 ?_
  refine lv_ishr hx hb dX2_bitsAt_7 ?_
  refine lv_iconst (v := (1 : Int32)) hx hb dX2_bitsAt_8 (by decide) ?_
  refine lv_aload_n hx hb dX2_bitsAt_9 rfl (lv_at hl 0 rfl) ?_
  refine va_get (D := (dC, dI)) (ci := 0) (v := .ref (a 2)) (C := RX2) (T := TX2) (N := 5) hx hb hta inX2 hown hK hP 1 (xr_1 a k st) rfl 0 (by decide) hf9 (fun _ h9 => h9) rfl dX2_bitsAt_10 ?_
  refine lv_iload_n hx hb dX2_bitsAt_13 rfl (lv_at hl 1 rfl) ?_
  refine va_iald hx hb hK hP 2 0 (xr_2 a k st) rfl hi dX2_bitsAt_14 ?_
  refine lv_ishl hx hb dX2_bitsAt_15 ?_
  refine lv_iconst (v := (1 : Int32)) hx hb dX2_bitsAt_16 (by decide) ?_
  refine lv_isub hx hb dX2_bitsAt_17 ?_
  refine lv_iand hx hb dX2_bitsAt_18 ?_
  exact W.iret (v := (n >>> ((fA st 1 v.toNatClampNeg) &&& 31)) &&& (((1 : Int32) <<< ((fA st 0 v.toNatClampNeg) &&& 31)) - (1 : Int32))) hx hb hr (fun t ht hW => ⟨_, rfl, hR, ht⟩) (fun q h => by cases h) dX2_bitsAt_19

theorem mw_523 : (.code yX2_bitsAt cX2_bitsAt 3 (some .int) : Cond) ∈ AW := List.mem_filter.mpr ⟨List.mem_of_getElem? (i := 523) (by decide +kernel), rfl⟩
theorem mw_520 : (.methodLink RX2 31 yX2_bitsAt : Cond) ∈ AW := List.mem_filter.mpr ⟨List.mem_of_getElem? (i := 520) (by decide +kernel), rfl⟩
theorem mw_521 : (.instanceMethod yX2_bitsAt : Cond) ∈ AW := List.mem_filter.mpr ⟨List.mem_of_getElem? (i := 521) (by decide +kernel), rfl⟩
theorem mw_522 : (.selects RX2 yX2_bitsAt yX2_bitsAt : Cond) ∈ AW := List.mem_filter.mpr ⟨List.mem_of_getElem? (i := 522) (by decide +kernel), rfl⟩
theorem mw_524 : (.methodLink RX2 35 yX0_readSigned : Cond) ∈ AW := List.mem_filter.mpr ⟨List.mem_of_getElem? (i := 524) (by decide +kernel), rfl⟩
theorem gX2_31 : GoodIn AW (wsV RX2 31 RX2 yX2_bitsAt wsX2_bitsAt) := aw_V mw_520 mw_521 mw_522 mw_39 mw_523
theorem gX2_35 : GoodIn AW (va_wsS RX2 35 yX0_readSigned wsX0_readSigned) := aw_S mw_524 mw_274 mw_47 mw_275
theorem dX2_readAt_0 : decode cX2_readAt 0 = .ok (.aload_n 0, 1) := by decide +kernel
theorem dX2_readAt_1 : decode cX2_readAt 1 = .ok (.getfield 16, 3) := by decide +kernel
theorem dX2_readAt_4 : decode cX2_readAt 4 = .ok (.iload_n 1, 1) := by decide +kernel
theorem dX2_readAt_5 : decode cX2_readAt 5 = .ok (.baload, 1) := by decide +kernel
theorem dX2_readAt_6 : decode cX2_readAt 6 = .ok (.ifCond .eq 12, 3) := by decide +kernel
theorem dX2_readAt_9 : decode cX2_readAt 9 = .ok (.aload_n 0, 1) := by decide +kernel
theorem dX2_readAt_10 : decode cX2_readAt 10 = .ok (.getfield 9, 3) := by decide +kernel
theorem dX2_readAt_13 : decode cX2_readAt 13 = .ok (.iload_n 1, 1) := by decide +kernel
theorem dX2_readAt_14 : decode cX2_readAt 14 = .ok (.iaload, 1) := by decide +kernel
theorem dX2_readAt_15 : decode cX2_readAt 15 = .ok (.goto 5, 3) := by decide +kernel
theorem dX2_readAt_18 : decode cX2_readAt 18 = .ok (.bipush 8, 2) := by decide +kernel
theorem dX2_readAt_20 : decode cX2_readAt 20 = .ok (.aload_n 0, 1) := by decide +kernel
theorem dX2_readAt_21 : decode cX2_readAt 21 = .ok (.iload_n 1, 1) := by decide +kernel
theorem dX2_readAt_22 : decode cX2_readAt 22 = .ok (.iload_n 2, 1) := by decide +kernel
theorem dX2_readAt_23 : decode cX2_readAt 23 = .ok (.invokevirtual 31, 3) := by decide +kernel
theorem dX2_readAt_26 : decode cX2_readAt 26 = .ok (.i2l, 1) := by decide +kernel
theorem dX2_readAt_27 : decode cX2_readAt 27 = .ok (.invokestatic 35, 3) := by decide +kernel
theorem dX2_readAt_30 : decode cX2_readAt 30 = .ok (.lreturn, 1) := by decide +kernel
def fx_Vars_readAt (st : XS) (v : Int32) (n : Int32) : Int64 := 
  if fA st 2 v.toNatClampNeg = (0 : Int32) then fx_Width_readSigned (8 : Int32) ((fx_Vars_bitsAt st v n).toInt64)
  else fx_Width_readSigned (fA st 0 v.toNatClampNeg) ((fx_Vars_bitsAt st v n).toInt64)
set_option maxHeartbeats 4000000 in
set_option maxRecDepth 100000 in
theorem kx_Vars_readAt (l : Launch) (dC : Nat → ClassId) (dI : Nat → Nat → Nat) (a : Nat → Nat) (k : Nat → ClassId) (st : XS) (v : Int32) (n : Int32) (hi : vp_in v 4) : Met l yX2_readAt wsX2_readAt ({ frames := 1, cells := 0, slots := 0, locals := 23 }) (va_Pc [.ref (a 1), .int v, .int n] (wl_prR (dC, dI) vwCl (xt k) (xw a k st))) (vp_Sl (fun r9 => r9 = fx_Vars_readAt st v n)) 0 0 (fun _ => False) := by
  refine Met.ofW (cc := cX2_readAt) (maxL := 3) (ret := (some .long)) (by decide) rfl ?_
  intro p e s m args below meth c s₁ B hml hv
  obtain ⟨rfl, hP, hK⟩ := hv
  have hx := B.exec
  have hb := B.bytes
  have hr := B.returns
  have hta := aw_hts (atoms_spec (ws := wsX2_readAt) B.pre)
  have hown : s.vm.findClass RX2 = some m.cls := findClass_of_methodNamed B.named
  have hlocks := B.notSynchronized
  have hf16 := hta _ mw_66
  have hf9 := hta _ mw_64
  have hl := lv_entry ([.ref (a 1), .int v, .int n]) (n := 3) (Nat.le_of_ble_eq_true rfl)
  rw [lg_entry_eq]
  generalize (lg_sl ([.ref (a 1), .int v, .int n]) ++ List.replicate (3 - (lg_sl ([.ref (a 1), .int v, .int n])).length) Slot.unset).toArray = ls at hl ⊢
  have hl : lv_has ls 3 [(0, .ref (a 1)), (1, .int v), (2, .int n)] := hl
  generalize hR : fx_Vars_readAt st v n = R
  rw [fx_Vars_readAt] at hR
  refine lv_aload_n hx hb dX2_readAt_0 rfl (lv_at hl 0 rfl) ?_
  refine va_get (D := (dC, dI)) (ci := 0) (v := .ref (a 4)) (C := RX2) (T := TX2) (N := 5) hx hb hta inX2 hown hK hP 1 (xr_1 a k st) rfl 2 (by decide) hf16 (fun _ h9 => h9) rfl dX2_readAt_1 ?_
  refine lv_iload_n hx hb dX2_readAt_4 rfl (lv_at hl 1 rfl) ?_
  refine va_zald hx hb hK hP 4 2 (xr_4 a k st) rfl hi dX2_readAt_5 ?_
  refine lv_if_eq (tgt := 18) hx hb dX2_readAt_6 (by decide) (fun c6 => ?_) (fun c6 => ?_)
  · skip
    rw [if_pos c6] at hR
    refine lv_bipush (v := (8 : Int32)) hx hb dX2_readAt_18 (by decide) ?_
    refine lv_aload_n hx hb dX2_readAt_20 rfl (lv_at hl 0 rfl) ?_
    refine lv_iload_n hx hb dX2_readAt_21 rfl (lv_at hl 1 rfl) ?_
    refine lv_iload_n hx hb dX2_readAt_22 rfl (lv_at hl 2 rfl) ?_
    refine wl_ci (va_runV (As := [.int v, .int n]) (rest := [.int (8 : Int32)]) ⟨hx, hb, hml, hown, hta⟩ (kx_Vars_bitsAt l dC dI a k st v n hi) (cwV 2 hta gX2_31 rfl rfl rfl (by decide +kernel) ⟨Nat.le_of_ble_eq_true rfl, Nat.le_of_ble_eq_true rfl⟩) (wl_pR (C := RX2) (ci := 0) (q0 := 1) hK hP rfl (xr_1 a k st)) rfl rfl hl.1 rfl (lv_room (Nat.le_of_ble_eq_true rfl)) dX2_readAt_23 ⟨Nat.zero_le _, Nat.zero_le _⟩) ?_
    refine lv_i2l (v := (fx_Vars_bitsAt st v n).toInt64) hx hb dX2_readAt_26 rfl ?_
    refine wl_cl (va_runS (As := [.int (8 : Int32), .long ((fx_Vars_bitsAt st v n).toInt64)]) (rest := []) ⟨hx, hb, hml, hown, hta⟩ (kx_Width_readSigned l (8 : Int32) ((fx_Vars_bitsAt st v n).toInt64)) (va_cwS 2 hta gX2_35 rfl rfl rfl (by decide +kernel) ⟨Nat.le_of_ble_eq_true rfl, Nat.le_of_ble_eq_true rfl⟩) preEq rfl rfl hl.1 rfl (lv_room (Nat.le_of_ble_eq_true rfl)) dX2_readAt_27 ⟨Nat.zero_le _, Nat.zero_le _⟩) ?_
    exact W.lret (v := fx_Width_readSigned (8 : Int32) ((fx_Vars_bitsAt st v n).toInt64)) hx hb hr (fun t ht hW => ⟨_, rfl, hR, ht⟩) (fun q h => by cases h) dX2_readAt_30
  · skip
    rw [if_neg c6] at hR
    refine lv_aload_n hx hb dX2_readAt_9 rfl (lv_at hl 0 rfl) ?_
    refine va_get (D := (dC, dI)) (ci := 0) (v := .ref (a 2)) (C := RX2) (T := TX2) (N := 5) hx hb hta inX2 hown hK hP 1 (xr_1 a k st) rfl 0 (by decide) hf9 (fun _ h9 => h9) rfl dX2_readAt_10 ?_
    refine lv_iload_n hx hb dX2_readAt_13 rfl (lv_at hl 1 rfl) ?_
    refine va_iald hx hb hK hP 2 0 (xr_2 a k st) rfl hi dX2_readAt_14 ?_
    refine lv_goto (tgt := 20) hx hb dX2_readAt_15 (by decide) ?_
    refine lv_aload_n hx hb dX2_readAt_20 rfl (lv_at hl 0 rfl) ?_
    refine lv_iload_n hx hb dX2_readAt_21 rfl (lv_at hl 1 rfl) ?_
    refine lv_iload_n hx hb dX2_readAt_22 rfl (lv_at hl 2 rfl) ?_
    refine wl_ci (va_runV (As := [.int v, .int n]) (rest := [.int (fA st 0 v.toNatClampNeg)]) ⟨hx, hb, hml, hown, hta⟩ (kx_Vars_bitsAt l dC dI a k st v n hi) (cwV 2 hta gX2_31 rfl rfl rfl (by decide +kernel) ⟨Nat.le_of_ble_eq_true rfl, Nat.le_of_ble_eq_true rfl⟩) (wl_pR (C := RX2) (ci := 0) (q0 := 1) hK hP rfl (xr_1 a k st)) rfl rfl hl.1 rfl (lv_room (Nat.le_of_ble_eq_true rfl)) dX2_readAt_23 ⟨Nat.zero_le _, Nat.zero_le _⟩) ?_
    refine lv_i2l (v := (fx_Vars_bitsAt st v n).toInt64) hx hb dX2_readAt_26 rfl ?_
    refine wl_cl (va_runS (As := [.int (fA st 0 v.toNatClampNeg), .long ((fx_Vars_bitsAt st v n).toInt64)]) (rest := []) ⟨hx, hb, hml, hown, hta⟩ (kx_Width_readSigned l (fA st 0 v.toNatClampNeg) ((fx_Vars_bitsAt st v n).toInt64)) (va_cwS 2 hta gX2_35 rfl rfl rfl (by decide +kernel) ⟨Nat.le_of_ble_eq_true rfl, Nat.le_of_ble_eq_true rfl⟩) preEq rfl rfl hl.1 rfl (lv_room (Nat.le_of_ble_eq_true rfl)) dX2_readAt_27 ⟨Nat.zero_le _, Nat.zero_le _⟩) ?_
    exact W.lret (v := fx_Width_readSigned (fA st 0 v.toNatClampNeg) ((fx_Vars_bitsAt st v n).toInt64)) hx hb hr (fun t ht hW => ⟨_, rfl, hR, ht⟩) (fun q h => by cases h) dX2_readAt_30

theorem dX3_isTable_0 : decode cX3_isTable 0 = .ok (.iload_n 0, 1) := by decide +kernel
theorem dX3_isTable_1 : decode cX3_isTable 1 = .ok (.ifCond .lt 12, 3) := by decide +kernel
theorem dX3_isTable_4 : decode cX3_isTable 4 = .ok (.iload_n 0, 1) := by decide +kernel
theorem dX3_isTable_5 : decode cX3_isTable 5 = .ok (.iconst 2, 1) := by decide +kernel
theorem dX3_isTable_6 : decode cX3_isTable 6 = .ok (.if_icmp .ge 7, 3) := by decide +kernel
theorem dX3_isTable_9 : decode cX3_isTable 9 = .ok (.iconst 1, 1) := by decide +kernel
theorem dX3_isTable_10 : decode cX3_isTable 10 = .ok (.goto 4, 3) := by decide +kernel
theorem dX3_isTable_13 : decode cX3_isTable 13 = .ok (.iconst 0, 1) := by decide +kernel
theorem dX3_isTable_14 : decode cX3_isTable 14 = .ok (.ireturn, 1) := by decide +kernel
def fx_Tabs_isTable (t : Int32) : Int32 := 
  if t < (0 : Int32) then (0 : Int32)
  else 
    if (2 : Int32) ≤ t then (0 : Int32)
    else (1 : Int32)
set_option maxHeartbeats 4000000 in
set_option maxRecDepth 100000 in
theorem kx_Tabs_isTable (l : Launch) (t : Int32) : Met l yX3_isTable wsX3_isTable ({ frames := 0, cells := 0, slots := 0, locals := 0 }) (fun v _ => v = ([.int t] : List Value).toArray) (vp_Si (fun r9 => r9 = fx_Tabs_isTable t)) 0 0 (fun _ => False) := by
  refine Met.ofW (cc := cX3_isTable) (maxL := 1) (ret := (some .boolean)) (by decide) rfl ?_
  intro p e s m args below meth c s₁ B hml hv
  subst hv
  have hx := B.exec
  have hb := B.bytes
  have hr := B.returns
  have hta := aw_hts (atoms_spec (ws := wsX3_isTable) B.pre)
  have hown : s.vm.findClass RX3 = some m.cls := findClass_of_methodNamed B.named
  have hlocks := B.notSynchronized
  have hl := lv_entry ([.int t]) (n := 1) (Nat.le_of_ble_eq_true rfl)
  rw [lg_entry_eq]
  generalize (lg_sl ([.int t]) ++ List.replicate (1 - (lg_sl ([.int t])).length) Slot.unset).toArray = ls at hl ⊢
  have hl : lv_has ls 1 [(0, .int t)] := hl
  generalize hR : fx_Tabs_isTable t = R
  rw [fx_Tabs_isTable] at hR
  refine lv_iload_n hx hb dX3_isTable_0 rfl (lv_at hl 0 rfl) ?_
  refine lv_if_lt (tgt := 13) hx hb dX3_isTable_1 (by decide) (fun c1 => ?_) (fun c1 => ?_)
  · skip
    rw [if_pos c1] at hR
    refine lv_iconst (v := (0 : Int32)) hx hb dX3_isTable_13 (by decide) ?_
    exact W.zret (v := (0 : Int32)) (ty := .boolean) hx hb hr rfl (fun t ht hW => ⟨_, rfl, hR, ht⟩) (fun q h => by cases h) dX3_isTable_14
  · skip
    rw [if_neg c1] at hR
    refine lv_iload_n hx hb dX3_isTable_4 rfl (lv_at hl 0 rfl) ?_
    refine lv_iconst (v := (2 : Int32)) hx hb dX3_isTable_5 (by decide) ?_
    refine lv_icmp_ge (tgt := 13) hx hb dX3_isTable_6 (by decide) (fun c6 => ?_) (fun c6 => ?_)
    · skip
      rw [if_pos c6] at hR
      refine lv_iconst (v := (0 : Int32)) hx hb dX3_isTable_13 (by decide) ?_
      exact W.zret (v := (0 : Int32)) (ty := .boolean) hx hb hr rfl (fun t ht hW => ⟨_, rfl, hR, ht⟩) (fun q h => by cases h) dX3_isTable_14
    · skip
      rw [if_neg c6] at hR
      refine lv_iconst (v := (1 : Int32)) hx hb dX3_isTable_9 (by decide) ?_
      refine lv_goto (tgt := 14) hx hb dX3_isTable_10 (by decide) ?_
      exact W.zret (v := (1 : Int32)) (ty := .boolean) hx hb hr rfl (fun t ht hW => ⟨_, rfl, hR, ht⟩) (fun q h => by cases h) dX3_isTable_14

theorem dX3_isPlace_0 : decode cX3_isPlace 0 = .ok (.iload_n 0, 1) := by decide +kernel
theorem dX3_isPlace_1 : decode cX3_isPlace 1 = .ok (.ifCond .lt 13, 3) := by decide +kernel
theorem dX3_isPlace_4 : decode cX3_isPlace 4 = .ok (.iload_n 0, 1) := by decide +kernel
theorem dX3_isPlace_5 : decode cX3_isPlace 5 = .ok (.bipush 8, 2) := by decide +kernel
theorem dX3_isPlace_7 : decode cX3_isPlace 7 = .ok (.if_icmp .ge 7, 3) := by decide +kernel
theorem dX3_isPlace_10 : decode cX3_isPlace 10 = .ok (.iconst 1, 1) := by decide +kernel
theorem dX3_isPlace_11 : decode cX3_isPlace 11 = .ok (.goto 4, 3) := by decide +kernel
theorem dX3_isPlace_14 : decode cX3_isPlace 14 = .ok (.iconst 0, 1) := by decide +kernel
theorem dX3_isPlace_15 : decode cX3_isPlace 15 = .ok (.ireturn, 1) := by decide +kernel
def fx_Tabs_isPlace (i : Int32) : Int32 := 
  if i < (0 : Int32) then (0 : Int32)
  else 
    if (8 : Int32) ≤ i then (0 : Int32)
    else (1 : Int32)
set_option maxHeartbeats 4000000 in
set_option maxRecDepth 100000 in
theorem kx_Tabs_isPlace (l : Launch) (i : Int32) : Met l yX3_isPlace wsX3_isPlace ({ frames := 0, cells := 0, slots := 0, locals := 0 }) (fun v _ => v = ([.int i] : List Value).toArray) (vp_Si (fun r9 => r9 = fx_Tabs_isPlace i)) 0 0 (fun _ => False) := by
  refine Met.ofW (cc := cX3_isPlace) (maxL := 1) (ret := (some .boolean)) (by decide) rfl ?_
  intro p e s m args below meth c s₁ B hml hv
  subst hv
  have hx := B.exec
  have hb := B.bytes
  have hr := B.returns
  have hta := aw_hts (atoms_spec (ws := wsX3_isPlace) B.pre)
  have hown : s.vm.findClass RX3 = some m.cls := findClass_of_methodNamed B.named
  have hlocks := B.notSynchronized
  have hl := lv_entry ([.int i]) (n := 1) (Nat.le_of_ble_eq_true rfl)
  rw [lg_entry_eq]
  generalize (lg_sl ([.int i]) ++ List.replicate (1 - (lg_sl ([.int i])).length) Slot.unset).toArray = ls at hl ⊢
  have hl : lv_has ls 1 [(0, .int i)] := hl
  generalize hR : fx_Tabs_isPlace i = R
  rw [fx_Tabs_isPlace] at hR
  refine lv_iload_n hx hb dX3_isPlace_0 rfl (lv_at hl 0 rfl) ?_
  refine lv_if_lt (tgt := 14) hx hb dX3_isPlace_1 (by decide) (fun c1 => ?_) (fun c1 => ?_)
  · skip
    rw [if_pos c1] at hR
    refine lv_iconst (v := (0 : Int32)) hx hb dX3_isPlace_14 (by decide) ?_
    exact W.zret (v := (0 : Int32)) (ty := .boolean) hx hb hr rfl (fun t ht hW => ⟨_, rfl, hR, ht⟩) (fun q h => by cases h) dX3_isPlace_15
  · skip
    rw [if_neg c1] at hR
    refine lv_iload_n hx hb dX3_isPlace_4 rfl (lv_at hl 0 rfl) ?_
    refine lv_bipush (v := (8 : Int32)) hx hb dX3_isPlace_5 (by decide) ?_
    refine lv_icmp_ge (tgt := 14) hx hb dX3_isPlace_7 (by decide) (fun c7 => ?_) (fun c7 => ?_)
    · skip
      rw [if_pos c7] at hR
      refine lv_iconst (v := (0 : Int32)) hx hb dX3_isPlace_14 (by decide) ?_
      exact W.zret (v := (0 : Int32)) (ty := .boolean) hx hb hr rfl (fun t ht hW => ⟨_, rfl, hR, ht⟩) (fun q h => by cases h) dX3_isPlace_15
    · skip
      rw [if_neg c7] at hR
      refine lv_iconst (v := (1 : Int32)) hx hb dX3_isPlace_10 (by decide) ?_
      refine lv_goto (tgt := 15) hx hb dX3_isPlace_11 (by decide) ?_
      exact W.zret (v := (1 : Int32)) (ty := .boolean) hx hb hr rfl (fun t ht hW => ⟨_, rfl, hR, ht⟩) (fun q h => by cases h) dX3_isPlace_15

theorem mw_88 : (.fieldLink RX3 9 RX3 "entries" "[J" : Cond) ∈ AW := List.mem_filter.mpr ⟨List.mem_of_getElem? (i := 88) (by decide +kernel), rfl⟩
theorem mw_295 : (.methodLink RX3 13 yX0_readSigned : Cond) ∈ AW := List.mem_filter.mpr ⟨List.mem_of_getElem? (i := 295) (by decide +kernel), rfl⟩
theorem gX3_13 : GoodIn AW (va_wsS RX3 13 yX0_readSigned wsX0_readSigned) := aw_S mw_295 mw_274 mw_47 mw_275
theorem dX3_set_0 : decode cX3_set 0 = .ok (.aload_n 0, 1) := by decide +kernel
theorem dX3_set_1 : decode cX3_set 1 = .ok (.getfield 9, 3) := by decide +kernel
theorem dX3_set_4 : decode cX3_set 4 = .ok (.iload_n 1, 1) := by decide +kernel
theorem dX3_set_5 : decode cX3_set 5 = .ok (.bipush 8, 2) := by decide +kernel
theorem dX3_set_7 : decode cX3_set 7 = .ok (.imul, 1) := by decide +kernel
theorem dX3_set_8 : decode cX3_set 8 = .ok (.iload_n 2, 1) := by decide +kernel
theorem dX3_set_9 : decode cX3_set 9 = .ok (.iadd, 1) := by decide +kernel
theorem dX3_set_10 : decode cX3_set 10 = .ok (.bipush 8, 2) := by decide +kernel
theorem dX3_set_12 : decode cX3_set 12 = .ok (.iload_n 3, 1) := by decide +kernel
theorem dX3_set_13 : decode cX3_set 13 = .ok (.i2l, 1) := by decide +kernel
theorem dX3_set_14 : decode cX3_set 14 = .ok (.invokestatic 13, 3) := by decide +kernel
theorem dX3_set_17 : decode cX3_set 17 = .ok (.lastore, 1) := by decide +kernel
theorem dX3_set_18 : decode cX3_set 18 = .ok (.return_, 1) := by decide +kernel
def fx_Tabs_set (st : XS) (t : Int32) (i : Int32) (v : Int32) : XS := wL st 0 (((t * (8 : Int32)) + i).toNatClampNeg) (fx_Width_readSigned (8 : Int32) v.toInt64)
theorem ff_Tabs_set (st : XS) (t : Int32) (i : Int32) (v : Int32) : XF [] [] [0] st (fx_Tabs_set st t i v) := by
  rw [fx_Tabs_set]
  exact (XF.wL (by decide) XF.rf)
set_option maxHeartbeats 4000000 in
set_option maxRecDepth 100000 in
theorem kx_Tabs_set (l : Launch) (dC : Nat → ClassId) (dI : Nat → Nat → Nat) (a : Nat → Nat) (k : Nat → ClassId) (st : XS) (t : Int32) (i : Int32) (v : Int32) (sz : Nat) (hi : vp_in (t * (8 : Int32) + i) 16) : Met l yX3_set wsX3_set ({ frames := 1, cells := 0, slots := 0, locals := 23 }) (va_Pc [.ref (a 5), .int t, .int i, .int v] (wl_pre (dC, dI) vwCl (xt k) (xw a k) st sz)) (va_Qv (fun u9 => u9 = fx_Tabs_set st t i v) (wl_at (dC, dI) vwCl (xt k) (xw a k) (va_A (xw a k st) sz)) (va_A (xw a k st) sz)) 0 0 (va_A (xw a k st) sz) := by
  refine Met.ofW (cc := cX3_set) (maxL := 4) (ret := none) (by decide) rfl ?_
  intro p e s m args below meth c s₁ B hml hv
  obtain ⟨rfl, hsz, hP, hK, hD0⟩ := hv
  have hx := B.exec
  have hb := B.bytes
  have hr := B.returns
  have hta := aw_hts (atoms_spec (ws := wsX3_set) B.pre)
  have hown : s.vm.findClass RX3 = some m.cls := findClass_of_methodNamed B.named
  have hlocks := B.notSynchronized
  have hf9 := hta _ mw_88
  subst hsz
  have hD := hD0.self (sz := s.heap.size)
  generalize hAe : va_A (xw a k st) s.heap.size = A at hD ⊢
  have hAz : ∀ q : Nat, s.heap.size ≤ q → A q := fun q h => by rw [← hAe]; exact Or.inr h
  have hS : va_S A s.heap s.heap [] := va_S.rf
  have hl := lv_entry ([.ref (a 5), .int t, .int i, .int v]) (n := 4) (Nat.le_of_ble_eq_true rfl)
  rw [lg_entry_eq]
  generalize (lg_sl ([.ref (a 5), .int t, .int i, .int v]) ++ List.replicate (4 - (lg_sl ([.ref (a 5), .int t, .int i, .int v])).length) Slot.unset).toArray = ls at hl ⊢
  have hl : lv_has ls 4 [(0, .ref (a 5)), (1, .int t), (2, .int i), (3, .int v)] := hl
  generalize hR : fx_Tabs_set st t i v = R
  rw [fx_Tabs_set] at hR
  refine lv_aload_n hx hb dX3_set_0 rfl (lv_at hl 0 rfl) ?_
  refine va_get (D := (dC, dI)) (ci := 1) (v := .ref (a 6)) (C := RX3) (T := TX3) (N := 1) hx hb hta inX3 hown hK hP 5 (xr_5 a k st) rfl 0 (by decide) hf9 (fun _ h9 => h9) rfl dX3_set_1 ?_
  refine lv_iload_n hx hb dX3_set_4 rfl (lv_at hl 1 rfl) ?_
  refine lv_bipush (v := (8 : Int32)) hx hb dX3_set_5 (by decide) ?_
  refine lv_imul hx hb dX3_set_7 ?_
  refine lv_iload_n hx hb dX3_set_8 rfl (lv_at hl 2 rfl) ?_
  refine lv_iadd hx hb dX3_set_9 ?_
  refine lv_bipush (v := (8 : Int32)) hx hb dX3_set_10 (by decide) ?_
  refine lv_iload_n hx hb dX3_set_12 rfl (lv_at hl 3 rfl) ?_
  refine lv_i2l (v := v.toInt64) hx hb dX3_set_13 rfl ?_
  refine wl_cl (va_runS (As := [.int (8 : Int32), .long v.toInt64]) (rest := [.int ((t * (8 : Int32)) + i), .ref (a 6)]) ⟨hx, hb, hml, hown, hta⟩ (kx_Width_readSigned l (8 : Int32) v.toInt64) (va_cwS 2 hta gX3_13 rfl rfl rfl (by decide +kernel) ⟨Nat.le_of_ble_eq_true rfl, Nat.le_of_ble_eq_true rfl⟩) preEq rfl rfl hl.1 rfl (lv_room (Nat.le_of_ble_eq_true rfl)) dX3_set_14 ⟨Nat.zero_le _, Nat.zero_le _⟩) ?_
  refine va_last hx hb hK hP hD hS 6 3 (xr_6 a k st) rfl hi dX3_set_17 (fun H locs hP hD hS => ?_)
  have hP := xp_L0 hP
  have hD := xd_L0 hD
  exact W.vret hx hb hr (fun t ht hW => ⟨⟨_, rfl, hR, by rw [ht]; exact hP, va_K.moved hW.alike hK, hD⟩, hS.F ht⟩) hS.2.2 dX3_set_18

theorem mw_381 : (.constantLong RX3 19 (7) : Cond) ∈ AW := List.mem_filter.mpr ⟨List.mem_of_getElem? (i := 381) (by decide +kernel), rfl⟩
theorem dX3_lookUp_0 : decode cX3_lookUp 0 = .ok (.aload_n 0, 1) := by decide +kernel
theorem dX3_lookUp_1 : decode cX3_lookUp 1 = .ok (.getfield 9, 3) := by decide +kernel
theorem dX3_lookUp_4 : decode cX3_lookUp 4 = .ok (.iload_n 1, 1) := by decide +kernel
theorem dX3_lookUp_5 : decode cX3_lookUp 5 = .ok (.bipush 8, 2) := by decide +kernel
theorem dX3_lookUp_7 : decode cX3_lookUp 7 = .ok (.imul, 1) := by decide +kernel
theorem dX3_lookUp_8 : decode cX3_lookUp 8 = .ok (.lload_n 2, 1) := by decide +kernel
theorem dX3_lookUp_9 : decode cX3_lookUp 9 = .ok (.ldc2_w 19, 3) := by decide +kernel
theorem dX3_lookUp_12 : decode cX3_lookUp 12 = .ok (.land, 1) := by decide +kernel
theorem dX3_lookUp_13 : decode cX3_lookUp 13 = .ok (.l2i, 1) := by decide +kernel
theorem dX3_lookUp_14 : decode cX3_lookUp 14 = .ok (.iadd, 1) := by decide +kernel
theorem dX3_lookUp_15 : decode cX3_lookUp 15 = .ok (.laload, 1) := by decide +kernel
theorem dX3_lookUp_16 : decode cX3_lookUp 16 = .ok (.lreturn, 1) := by decide +kernel
def fx_Tabs_lookUp (st : XS) (t : Int32) (x : Int64) : Int64 := fL st 0 ((t * (8 : Int32)) + ((x &&& (7 : Int64)).toInt32)).toNatClampNeg
set_option maxHeartbeats 4000000 in
set_option maxRecDepth 100000 in
theorem kx_Tabs_lookUp (l : Launch) (dC : Nat → ClassId) (dI : Nat → Nat → Nat) (a : Nat → Nat) (k : Nat → ClassId) (st : XS) (t : Int32) (x : Int64) (hi : vp_in (t * (8 : Int32) + (x &&& (7 : Int64)).toInt32) 16) : Met l yX3_lookUp wsX3_lookUp ({ frames := 0, cells := 0, slots := 0, locals := 0 }) (va_Pc [.ref (a 5), .int t, .long x] (wl_prR (dC, dI) vwCl (xt k) (xw a k st))) (vp_Sl (fun r9 => r9 = fx_Tabs_lookUp st t x)) 0 0 (fun _ => False) := by
  refine Met.ofW (cc := cX3_lookUp) (maxL := 4) (ret := (some .long)) (by decide) rfl ?_
  intro p e s m args below meth c s₁ B hml hv
  obtain ⟨rfl, hP, hK⟩ := hv
  have hx := B.exec
  have hb := B.bytes
  have hr := B.returns
  have hta := aw_hts (atoms_spec (ws := wsX3_lookUp) B.pre)
  have hown : s.vm.findClass RX3 = some m.cls := findClass_of_methodNamed B.named
  have hlocks := B.notSynchronized
  have hf9 := hta _ mw_88
  have hc19 := hta _ mw_381
  have hl := lv_entry ([.ref (a 5), .int t, .long x]) (n := 4) (Nat.le_of_ble_eq_true rfl)
  rw [lg_entry_eq]
  generalize (lg_sl ([.ref (a 5), .int t, .long x]) ++ List.replicate (4 - (lg_sl ([.ref (a 5), .int t, .long x])).length) Slot.unset).toArray = ls at hl ⊢
  have hl : lv_has ls 4 [(0, .ref (a 5)), (1, .int t), (2, .long x)] := hl
  generalize hR : fx_Tabs_lookUp st t x = R
  rw [fx_Tabs_lookUp] at hR
  refine lv_aload_n hx hb dX3_lookUp_0 rfl (lv_at hl 0 rfl) ?_
  refine va_get (D := (dC, dI)) (ci := 1) (v := .ref (a 6)) (C := RX3) (T := TX3) (N := 1) hx hb hta inX3 hown hK hP 5 (xr_5 a k st) rfl 0 (by decide) hf9 (fun _ h9 => h9) rfl dX3_lookUp_1 ?_
  refine lv_iload_n hx hb dX3_lookUp_4 rfl (lv_at hl 1 rfl) ?_
  refine lv_bipush (v := (8 : Int32)) hx hb dX3_lookUp_5 (by decide) ?_
  refine lv_imul hx hb dX3_lookUp_7 ?_
  refine lv_lload_n hx hb dX3_lookUp_8 rfl (lv_at hl 2 rfl) ?_
  refine lv_ldc2 (v := (7 : Int64)) hx hb hown hc19 dX3_lookUp_9 ?_
  refine lv_land hx hb dX3_lookUp_12 ?_
  refine lv_l2i (v := (x &&& (7 : Int64)).toInt32) hx hb dX3_lookUp_13 rfl ?_
  refine lv_iadd hx hb dX3_lookUp_14 ?_
  refine va_lald hx hb hK hP 6 3 (xr_6 a k st) rfl hi dX3_lookUp_15 ?_
  exact W.lret (v := fL st 0 ((t * (8 : Int32)) + ((x &&& (7 : Int64)).toInt32)).toNatClampNeg) hx hb hr (fun t ht hW => ⟨_, rfl, hR, ht⟩) (fun q h => by cases h) dX3_lookUp_16

theorem mw_104 : (.fieldLink RX4 28 RX4 "size" "I" : Cond) ∈ AW := List.mem_filter.mpr ⟨List.mem_of_getElem? (i := 104) (by decide +kernel), rfl⟩
theorem dX4_size_0 : decode cX4_size 0 = .ok (.aload_n 0, 1) := by decide +kernel
theorem dX4_size_1 : decode cX4_size 1 = .ok (.getfield 28, 3) := by decide +kernel
theorem dX4_size_4 : decode cX4_size 4 = .ok (.ireturn, 1) := by decide +kernel
def fx_Terms_size (st : XS) : Int32 := gI st 6
set_option maxHeartbeats 4000000 in
set_option maxRecDepth 100000 in
theorem kx_Terms_size (l : Launch) (dC : Nat → ClassId) (dI : Nat → Nat → Nat) (a : Nat → Nat) (k : Nat → ClassId) (st : XS) : Met l yX4_size wsX4_size ({ frames := 0, cells := 0, slots := 0, locals := 0 }) (va_Pc [.ref (a 7)] (wl_prR (dC, dI) vwCl (xt k) (xw a k st))) (vp_Si (fun r9 => r9 = fx_Terms_size st)) 0 0 (fun _ => False) := by
  refine Met.ofW (cc := cX4_size) (maxL := 1) (ret := (some .int)) (by decide) rfl ?_
  intro p e s m args below meth c s₁ B hml hv
  obtain ⟨rfl, hP, hK⟩ := hv
  have hx := B.exec
  have hb := B.bytes
  have hr := B.returns
  have hta := aw_hts (atoms_spec (ws := wsX4_size) B.pre)
  have hown : s.vm.findClass RX4 = some m.cls := findClass_of_methodNamed B.named
  have hlocks := B.notSynchronized
  have hf28 := hta _ mw_104
  have hl := lv_entry ([.ref (a 7)]) (n := 1) (Nat.le_of_ble_eq_true rfl)
  rw [lg_entry_eq]
  generalize (lg_sl ([.ref (a 7)]) ++ List.replicate (1 - (lg_sl ([.ref (a 7)])).length) Slot.unset).toArray = ls at hl ⊢
  have hl : lv_has ls 1 [(0, .ref (a 7))] := hl
  generalize hR : fx_Terms_size st = R
  rw [fx_Terms_size] at hR
  refine lv_aload_n hx hb dX4_size_0 rfl (lv_at hl 0 rfl) ?_
  refine va_get (D := (dC, dI)) (ci := 2) (v := .int (gI st 6)) (C := RX4) (T := TX4) (N := 7) hx hb hta inX4 hown hK hP 7 (xr_7 a k st) rfl 5 (by decide) hf28 (fun _ h9 => h9) rfl dX4_size_1 ?_
  exact W.iret (v := gI st 6) hx hb hr (fun t ht hW => ⟨_, rfl, hR, ht⟩) (fun q h => by cases h) dX4_size_4

theorem mw_105 : (.fieldLink RX4 32 RX4 "totalCost" "I" : Cond) ∈ AW := List.mem_filter.mpr ⟨List.mem_of_getElem? (i := 105) (by decide +kernel), rfl⟩
theorem dX4_totalCost_0 : decode cX4_totalCost 0 = .ok (.aload_n 0, 1) := by decide +kernel
theorem dX4_totalCost_1 : decode cX4_totalCost 1 = .ok (.getfield 32, 3) := by decide +kernel
theorem dX4_totalCost_4 : decode cX4_totalCost 4 = .ok (.ireturn, 1) := by decide +kernel
def fx_Terms_totalCost (st : XS) : Int32 := gI st 7
set_option maxHeartbeats 4000000 in
set_option maxRecDepth 100000 in
theorem kx_Terms_totalCost (l : Launch) (dC : Nat → ClassId) (dI : Nat → Nat → Nat) (a : Nat → Nat) (k : Nat → ClassId) (st : XS) : Met l yX4_totalCost wsX4_totalCost ({ frames := 0, cells := 0, slots := 0, locals := 0 }) (va_Pc [.ref (a 7)] (wl_prR (dC, dI) vwCl (xt k) (xw a k st))) (vp_Si (fun r9 => r9 = fx_Terms_totalCost st)) 0 0 (fun _ => False) := by
  refine Met.ofW (cc := cX4_totalCost) (maxL := 1) (ret := (some .int)) (by decide) rfl ?_
  intro p e s m args below meth c s₁ B hml hv
  obtain ⟨rfl, hP, hK⟩ := hv
  have hx := B.exec
  have hb := B.bytes
  have hr := B.returns
  have hta := aw_hts (atoms_spec (ws := wsX4_totalCost) B.pre)
  have hown : s.vm.findClass RX4 = some m.cls := findClass_of_methodNamed B.named
  have hlocks := B.notSynchronized
  have hf32 := hta _ mw_105
  have hl := lv_entry ([.ref (a 7)]) (n := 1) (Nat.le_of_ble_eq_true rfl)
  rw [lg_entry_eq]
  generalize (lg_sl ([.ref (a 7)]) ++ List.replicate (1 - (lg_sl ([.ref (a 7)])).length) Slot.unset).toArray = ls at hl ⊢
  have hl : lv_has ls 1 [(0, .ref (a 7))] := hl
  generalize hR : fx_Terms_totalCost st = R
  rw [fx_Terms_totalCost] at hR
  refine lv_aload_n hx hb dX4_totalCost_0 rfl (lv_at hl 0 rfl) ?_
  refine va_get (D := (dC, dI)) (ci := 2) (v := .int (gI st 7)) (C := RX4) (T := TX4) (N := 7) hx hb hta inX4 hown hK hP 7 (xr_7 a k st) rfl 6 (by decide) hf32 (fun _ h9 => h9) rfl dX4_totalCost_1 ?_
  exact W.iret (v := gI st 7) hx hb hr (fun t ht hW => ⟨_, rfl, hR, ht⟩) (fun q h => by cases h) dX4_totalCost_4

theorem dX4_isFull_0 : decode cX4_isFull 0 = .ok (.aload_n 0, 1) := by decide +kernel
theorem dX4_isFull_1 : decode cX4_isFull 1 = .ok (.getfield 28, 3) := by decide +kernel
theorem dX4_isFull_4 : decode cX4_isFull 4 = .ok (.bipush 64, 2) := by decide +kernel
theorem dX4_isFull_6 : decode cX4_isFull 6 = .ok (.if_icmp .lt 7, 3) := by decide +kernel
theorem dX4_isFull_9 : decode cX4_isFull 9 = .ok (.iconst 1, 1) := by decide +kernel
theorem dX4_isFull_10 : decode cX4_isFull 10 = .ok (.goto 4, 3) := by decide +kernel
theorem dX4_isFull_13 : decode cX4_isFull 13 = .ok (.iconst 0, 1) := by decide +kernel
theorem dX4_isFull_14 : decode cX4_isFull 14 = .ok (.ireturn, 1) := by decide +kernel
def fx_Terms_isFull (st : XS) : Int32 := 
  if gI st 6 < (64 : Int32) then (0 : Int32)
  else (1 : Int32)
set_option maxHeartbeats 4000000 in
set_option maxRecDepth 100000 in
theorem kx_Terms_isFull (l : Launch) (dC : Nat → ClassId) (dI : Nat → Nat → Nat) (a : Nat → Nat) (k : Nat → ClassId) (st : XS) : Met l yX4_isFull wsX4_isFull ({ frames := 0, cells := 0, slots := 0, locals := 0 }) (va_Pc [.ref (a 7)] (wl_prR (dC, dI) vwCl (xt k) (xw a k st))) (vp_Si (fun r9 => r9 = fx_Terms_isFull st)) 0 0 (fun _ => False) := by
  refine Met.ofW (cc := cX4_isFull) (maxL := 1) (ret := (some .boolean)) (by decide) rfl ?_
  intro p e s m args below meth c s₁ B hml hv
  obtain ⟨rfl, hP, hK⟩ := hv
  have hx := B.exec
  have hb := B.bytes
  have hr := B.returns
  have hta := aw_hts (atoms_spec (ws := wsX4_isFull) B.pre)
  have hown : s.vm.findClass RX4 = some m.cls := findClass_of_methodNamed B.named
  have hlocks := B.notSynchronized
  have hf28 := hta _ mw_104
  have hl := lv_entry ([.ref (a 7)]) (n := 1) (Nat.le_of_ble_eq_true rfl)
  rw [lg_entry_eq]
  generalize (lg_sl ([.ref (a 7)]) ++ List.replicate (1 - (lg_sl ([.ref (a 7)])).length) Slot.unset).toArray = ls at hl ⊢
  have hl : lv_has ls 1 [(0, .ref (a 7))] := hl
  generalize hR : fx_Terms_isFull st = R
  rw [fx_Terms_isFull] at hR
  refine lv_aload_n hx hb dX4_isFull_0 rfl (lv_at hl 0 rfl) ?_
  refine va_get (D := (dC, dI)) (ci := 2) (v := .int (gI st 6)) (C := RX4) (T := TX4) (N := 7) hx hb hta inX4 hown hK hP 7 (xr_7 a k st) rfl 5 (by decide) hf28 (fun _ h9 => h9) rfl dX4_isFull_1 ?_
  refine lv_bipush (v := (64 : Int32)) hx hb dX4_isFull_4 (by decide) ?_
  refine lv_icmp_lt (tgt := 13) hx hb dX4_isFull_6 (by decide) (fun c6 => ?_) (fun c6 => ?_)
  · skip
    rw [if_pos c6] at hR
    refine lv_iconst (v := (0 : Int32)) hx hb dX4_isFull_13 (by decide) ?_
    exact W.zret (v := (0 : Int32)) (ty := .boolean) hx hb hr rfl (fun t ht hW => ⟨_, rfl, hR, ht⟩) (fun q h => by cases h) dX4_isFull_14
  · skip
    rw [if_neg c6] at hR
    refine lv_iconst (v := (1 : Int32)) hx hb dX4_isFull_9 (by decide) ?_
    refine lv_goto (tgt := 14) hx hb dX4_isFull_10 (by decide) ?_
    exact W.zret (v := (1 : Int32)) (ty := .boolean) hx hb hr rfl (fun t ht hW => ⟨_, rfl, hR, ht⟩) (fun q h => by cases h) dX4_isFull_14

theorem dX4_has_0 : decode cX4_has 0 = .ok (.iload_n 1, 1) := by decide +kernel
theorem dX4_has_1 : decode cX4_has 1 = .ok (.ifCond .lt 15, 3) := by decide +kernel
theorem dX4_has_4 : decode cX4_has 4 = .ok (.iload_n 1, 1) := by decide +kernel
theorem dX4_has_5 : decode cX4_has 5 = .ok (.aload_n 0, 1) := by decide +kernel
theorem dX4_has_6 : decode cX4_has 6 = .ok (.getfield 28, 3) := by decide +kernel
theorem dX4_has_9 : decode cX4_has 9 = .ok (.if_icmp .ge 7, 3) := by decide +kernel
theorem dX4_has_12 : decode cX4_has 12 = .ok (.iconst 1, 1) := by decide +kernel
theorem dX4_has_13 : decode cX4_has 13 = .ok (.goto 4, 3) := by decide +kernel
theorem dX4_has_16 : decode cX4_has 16 = .ok (.iconst 0, 1) := by decide +kernel
theorem dX4_has_17 : decode cX4_has 17 = .ok (.ireturn, 1) := by decide +kernel
def fx_Terms_has (st : XS) (t : Int32) : Int32 := 
  if t < (0 : Int32) then (0 : Int32)
  else 
    if gI st 6 ≤ t then (0 : Int32)
    else (1 : Int32)
set_option maxHeartbeats 4000000 in
set_option maxRecDepth 100000 in
theorem kx_Terms_has (l : Launch) (dC : Nat → ClassId) (dI : Nat → Nat → Nat) (a : Nat → Nat) (k : Nat → ClassId) (st : XS) (t : Int32) : Met l yX4_has wsX4_has ({ frames := 0, cells := 0, slots := 0, locals := 0 }) (va_Pc [.ref (a 7), .int t] (wl_prR (dC, dI) vwCl (xt k) (xw a k st))) (vp_Si (fun r9 => r9 = fx_Terms_has st t)) 0 0 (fun _ => False) := by
  refine Met.ofW (cc := cX4_has) (maxL := 2) (ret := (some .boolean)) (by decide) rfl ?_
  intro p e s m args below meth c s₁ B hml hv
  obtain ⟨rfl, hP, hK⟩ := hv
  have hx := B.exec
  have hb := B.bytes
  have hr := B.returns
  have hta := aw_hts (atoms_spec (ws := wsX4_has) B.pre)
  have hown : s.vm.findClass RX4 = some m.cls := findClass_of_methodNamed B.named
  have hlocks := B.notSynchronized
  have hf28 := hta _ mw_104
  have hl := lv_entry ([.ref (a 7), .int t]) (n := 2) (Nat.le_of_ble_eq_true rfl)
  rw [lg_entry_eq]
  generalize (lg_sl ([.ref (a 7), .int t]) ++ List.replicate (2 - (lg_sl ([.ref (a 7), .int t])).length) Slot.unset).toArray = ls at hl ⊢
  have hl : lv_has ls 2 [(0, .ref (a 7)), (1, .int t)] := hl
  generalize hR : fx_Terms_has st t = R
  rw [fx_Terms_has] at hR
  refine lv_iload_n hx hb dX4_has_0 rfl (lv_at hl 1 rfl) ?_
  refine lv_if_lt (tgt := 16) hx hb dX4_has_1 (by decide) (fun c1 => ?_) (fun c1 => ?_)
  · skip
    rw [if_pos c1] at hR
    refine lv_iconst (v := (0 : Int32)) hx hb dX4_has_16 (by decide) ?_
    exact W.zret (v := (0 : Int32)) (ty := .boolean) hx hb hr rfl (fun t ht hW => ⟨_, rfl, hR, ht⟩) (fun q h => by cases h) dX4_has_17
  · skip
    rw [if_neg c1] at hR
    refine lv_iload_n hx hb dX4_has_4 rfl (lv_at hl 1 rfl) ?_
    refine lv_aload_n hx hb dX4_has_5 rfl (lv_at hl 0 rfl) ?_
    refine va_get (D := (dC, dI)) (ci := 2) (v := .int (gI st 6)) (C := RX4) (T := TX4) (N := 7) hx hb hta inX4 hown hK hP 7 (xr_7 a k st) rfl 5 (by decide) hf28 (fun _ h9 => h9) rfl dX4_has_6 ?_
    refine lv_icmp_ge (tgt := 16) hx hb dX4_has_9 (by decide) (fun c9 => ?_) (fun c9 => ?_)
    · skip
      rw [if_pos c9] at hR
      refine lv_iconst (v := (0 : Int32)) hx hb dX4_has_16 (by decide) ?_
      exact W.zret (v := (0 : Int32)) (ty := .boolean) hx hb hr rfl (fun t ht hW => ⟨_, rfl, hR, ht⟩) (fun q h => by cases h) dX4_has_17
    · skip
      rw [if_neg c9] at hR
      refine lv_iconst (v := (1 : Int32)) hx hb dX4_has_12 (by decide) ?_
      refine lv_goto (tgt := 17) hx hb dX4_has_13 (by decide) ?_
      exact W.zret (v := (1 : Int32)) (ty := .boolean) hx hb hr rfl (fun t ht hW => ⟨_, rfl, hR, ht⟩) (fun q h => by cases h) dX4_has_17

theorem mw_100 : (.fieldLink RX4 15 RX4 "widths" "[I" : Cond) ∈ AW := List.mem_filter.mpr ⟨List.mem_of_getElem? (i := 100) (by decide +kernel), rfl⟩
theorem dX4_widthOf_0 : decode cX4_widthOf 0 = .ok (.aload_n 0, 1) := by decide +kernel
theorem dX4_widthOf_1 : decode cX4_widthOf 1 = .ok (.getfield 15, 3) := by decide +kernel
theorem dX4_widthOf_4 : decode cX4_widthOf 4 = .ok (.iload_n 1, 1) := by decide +kernel
theorem dX4_widthOf_5 : decode cX4_widthOf 5 = .ok (.iaload, 1) := by decide +kernel
theorem dX4_widthOf_6 : decode cX4_widthOf 6 = .ok (.ireturn, 1) := by decide +kernel
def fx_Terms_widthOf (st : XS) (t : Int32) : Int32 := fA st 4 t.toNatClampNeg
set_option maxHeartbeats 4000000 in
set_option maxRecDepth 100000 in
theorem kx_Terms_widthOf (l : Launch) (dC : Nat → ClassId) (dI : Nat → Nat → Nat) (a : Nat → Nat) (k : Nat → ClassId) (st : XS) (t : Int32) (hi : vp_in t 64) : Met l yX4_widthOf wsX4_widthOf ({ frames := 0, cells := 0, slots := 0, locals := 0 }) (va_Pc [.ref (a 7), .int t] (wl_prR (dC, dI) vwCl (xt k) (xw a k st))) (vp_Si (fun r9 => r9 = fx_Terms_widthOf st t)) 0 0 (fun _ => False) := by
  refine Met.ofW (cc := cX4_widthOf) (maxL := 2) (ret := (some .int)) (by decide) rfl ?_
  intro p e s m args below meth c s₁ B hml hv
  obtain ⟨rfl, hP, hK⟩ := hv
  have hx := B.exec
  have hb := B.bytes
  have hr := B.returns
  have hta := aw_hts (atoms_spec (ws := wsX4_widthOf) B.pre)
  have hown : s.vm.findClass RX4 = some m.cls := findClass_of_methodNamed B.named
  have hlocks := B.notSynchronized
  have hf15 := hta _ mw_100
  have hl := lv_entry ([.ref (a 7), .int t]) (n := 2) (Nat.le_of_ble_eq_true rfl)
  rw [lg_entry_eq]
  generalize (lg_sl ([.ref (a 7), .int t]) ++ List.replicate (2 - (lg_sl ([.ref (a 7), .int t])).length) Slot.unset).toArray = ls at hl ⊢
  have hl : lv_has ls 2 [(0, .ref (a 7)), (1, .int t)] := hl
  generalize hR : fx_Terms_widthOf st t = R
  rw [fx_Terms_widthOf] at hR
  refine lv_aload_n hx hb dX4_widthOf_0 rfl (lv_at hl 0 rfl) ?_
  refine va_get (D := (dC, dI)) (ci := 2) (v := .ref (a 9)) (C := RX4) (T := TX4) (N := 7) hx hb hta inX4 hown hK hP 7 (xr_7 a k st) rfl 1 (by decide) hf15 (fun _ h9 => h9) rfl dX4_widthOf_1 ?_
  refine lv_iload_n hx hb dX4_widthOf_4 rfl (lv_at hl 1 rfl) ?_
  refine va_iald hx hb hK hP 9 5 (xr_9 a k st) rfl hi dX4_widthOf_5 ?_
  exact W.iret (v := fA st 4 t.toNatClampNeg) hx hb hr (fun t ht hW => ⟨_, rfl, hR, ht⟩) (fun q h => by cases h) dX4_widthOf_6

theorem mw_99 : (.fieldLink RX4 11 RX4 "operations" "[I" : Cond) ∈ AW := List.mem_filter.mpr ⟨List.mem_of_getElem? (i := 99) (by decide +kernel), rfl⟩
theorem dX4_operationOf_0 : decode cX4_operationOf 0 = .ok (.aload_n 0, 1) := by decide +kernel
theorem dX4_operationOf_1 : decode cX4_operationOf 1 = .ok (.getfield 11, 3) := by decide +kernel
theorem dX4_operationOf_4 : decode cX4_operationOf 4 = .ok (.iload_n 1, 1) := by decide +kernel
theorem dX4_operationOf_5 : decode cX4_operationOf 5 = .ok (.iaload, 1) := by decide +kernel
theorem dX4_operationOf_6 : decode cX4_operationOf 6 = .ok (.ireturn, 1) := by decide +kernel
def fx_Terms_operationOf (st : XS) (t : Int32) : Int32 := fA st 3 t.toNatClampNeg
set_option maxHeartbeats 4000000 in
set_option maxRecDepth 100000 in
theorem kx_Terms_operationOf (l : Launch) (dC : Nat → ClassId) (dI : Nat → Nat → Nat) (a : Nat → Nat) (k : Nat → ClassId) (st : XS) (t : Int32) (hi : vp_in t 64) : Met l yX4_operationOf wsX4_operationOf ({ frames := 0, cells := 0, slots := 0, locals := 0 }) (va_Pc [.ref (a 7), .int t] (wl_prR (dC, dI) vwCl (xt k) (xw a k st))) (vp_Si (fun r9 => r9 = fx_Terms_operationOf st t)) 0 0 (fun _ => False) := by
  refine Met.ofW (cc := cX4_operationOf) (maxL := 2) (ret := (some .int)) (by decide) rfl ?_
  intro p e s m args below meth c s₁ B hml hv
  obtain ⟨rfl, hP, hK⟩ := hv
  have hx := B.exec
  have hb := B.bytes
  have hr := B.returns
  have hta := aw_hts (atoms_spec (ws := wsX4_operationOf) B.pre)
  have hown : s.vm.findClass RX4 = some m.cls := findClass_of_methodNamed B.named
  have hlocks := B.notSynchronized
  have hf11 := hta _ mw_99
  have hl := lv_entry ([.ref (a 7), .int t]) (n := 2) (Nat.le_of_ble_eq_true rfl)
  rw [lg_entry_eq]
  generalize (lg_sl ([.ref (a 7), .int t]) ++ List.replicate (2 - (lg_sl ([.ref (a 7), .int t])).length) Slot.unset).toArray = ls at hl ⊢
  have hl : lv_has ls 2 [(0, .ref (a 7)), (1, .int t)] := hl
  generalize hR : fx_Terms_operationOf st t = R
  rw [fx_Terms_operationOf] at hR
  refine lv_aload_n hx hb dX4_operationOf_0 rfl (lv_at hl 0 rfl) ?_
  refine va_get (D := (dC, dI)) (ci := 2) (v := .ref (a 8)) (C := RX4) (T := TX4) (N := 7) hx hb hta inX4 hown hK hP 7 (xr_7 a k st) rfl 0 (by decide) hf11 (fun _ h9 => h9) rfl dX4_operationOf_1 ?_
  refine lv_iload_n hx hb dX4_operationOf_4 rfl (lv_at hl 1 rfl) ?_
  refine va_iald hx hb hK hP 8 4 (xr_8 a k st) rfl hi dX4_operationOf_5 ?_
  exact W.iret (v := fA st 3 t.toNatClampNeg) hx hb hr (fun t ht hW => ⟨_, rfl, hR, ht⟩) (fun q h => by cases h) dX4_operationOf_6

theorem mw_101 : (.fieldLink RX4 18 RX4 "operands" "[I" : Cond) ∈ AW := List.mem_filter.mpr ⟨List.mem_of_getElem? (i := 101) (by decide +kernel), rfl⟩
theorem dX4_operandOf_0 : decode cX4_operandOf 0 = .ok (.aload_n 0, 1) := by decide +kernel
theorem dX4_operandOf_1 : decode cX4_operandOf 1 = .ok (.getfield 18, 3) := by decide +kernel
theorem dX4_operandOf_4 : decode cX4_operandOf 4 = .ok (.iload_n 1, 1) := by decide +kernel
theorem dX4_operandOf_5 : decode cX4_operandOf 5 = .ok (.iconst 3, 1) := by decide +kernel
theorem dX4_operandOf_6 : decode cX4_operandOf 6 = .ok (.imul, 1) := by decide +kernel
theorem dX4_operandOf_7 : decode cX4_operandOf 7 = .ok (.iload_n 2, 1) := by decide +kernel
theorem dX4_operandOf_8 : decode cX4_operandOf 8 = .ok (.iadd, 1) := by decide +kernel
theorem dX4_operandOf_9 : decode cX4_operandOf 9 = .ok (.iaload, 1) := by decide +kernel
theorem dX4_operandOf_10 : decode cX4_operandOf 10 = .ok (.ireturn, 1) := by decide +kernel
def fx_Terms_operandOf (st : XS) (t : Int32) (i : Int32) : Int32 := fA st 5 ((t * (3 : Int32)) + i).toNatClampNeg
set_option maxHeartbeats 4000000 in
set_option maxRecDepth 100000 in
theorem kx_Terms_operandOf (l : Launch) (dC : Nat → ClassId) (dI : Nat → Nat → Nat) (a : Nat → Nat) (k : Nat → ClassId) (st : XS) (t : Int32) (i : Int32) (hi : vp_in (t * (3 : Int32) + i) 192) : Met l yX4_operandOf wsX4_operandOf ({ frames := 0, cells := 0, slots := 0, locals := 0 }) (va_Pc [.ref (a 7), .int t, .int i] (wl_prR (dC, dI) vwCl (xt k) (xw a k st))) (vp_Si (fun r9 => r9 = fx_Terms_operandOf st t i)) 0 0 (fun _ => False) := by
  refine Met.ofW (cc := cX4_operandOf) (maxL := 3) (ret := (some .int)) (by decide) rfl ?_
  intro p e s m args below meth c s₁ B hml hv
  obtain ⟨rfl, hP, hK⟩ := hv
  have hx := B.exec
  have hb := B.bytes
  have hr := B.returns
  have hta := aw_hts (atoms_spec (ws := wsX4_operandOf) B.pre)
  have hown : s.vm.findClass RX4 = some m.cls := findClass_of_methodNamed B.named
  have hlocks := B.notSynchronized
  have hf18 := hta _ mw_101
  have hl := lv_entry ([.ref (a 7), .int t, .int i]) (n := 3) (Nat.le_of_ble_eq_true rfl)
  rw [lg_entry_eq]
  generalize (lg_sl ([.ref (a 7), .int t, .int i]) ++ List.replicate (3 - (lg_sl ([.ref (a 7), .int t, .int i])).length) Slot.unset).toArray = ls at hl ⊢
  have hl : lv_has ls 3 [(0, .ref (a 7)), (1, .int t), (2, .int i)] := hl
  generalize hR : fx_Terms_operandOf st t i = R
  rw [fx_Terms_operandOf] at hR
  refine lv_aload_n hx hb dX4_operandOf_0 rfl (lv_at hl 0 rfl) ?_
  refine va_get (D := (dC, dI)) (ci := 2) (v := .ref (a 10)) (C := RX4) (T := TX4) (N := 7) hx hb hta inX4 hown hK hP 7 (xr_7 a k st) rfl 2 (by decide) hf18 (fun _ h9 => h9) rfl dX4_operandOf_1 ?_
  refine lv_iload_n hx hb dX4_operandOf_4 rfl (lv_at hl 1 rfl) ?_
  refine lv_iconst (v := (3 : Int32)) hx hb dX4_operandOf_5 (by decide) ?_
  refine lv_imul hx hb dX4_operandOf_6 ?_
  refine lv_iload_n hx hb dX4_operandOf_7 rfl (lv_at hl 2 rfl) ?_
  refine lv_iadd hx hb dX4_operandOf_8 ?_
  refine va_iald hx hb hK hP 10 6 (xr_10 a k st) rfl hi dX4_operandOf_9 ?_
  exact W.iret (v := fA st 5 ((t * (3 : Int32)) + i).toNatClampNeg) hx hb hr (fun t ht hW => ⟨_, rfl, hR, ht⟩) (fun q h => by cases h) dX4_operandOf_10

theorem dX4_isConstant_0 : decode cX4_isConstant 0 = .ok (.aload_n 0, 1) := by decide +kernel
theorem dX4_isConstant_1 : decode cX4_isConstant 1 = .ok (.getfield 11, 3) := by decide +kernel
theorem dX4_isConstant_4 : decode cX4_isConstant 4 = .ok (.iload_n 1, 1) := by decide +kernel
theorem dX4_isConstant_5 : decode cX4_isConstant 5 = .ok (.iaload, 1) := by decide +kernel
theorem dX4_isConstant_6 : decode cX4_isConstant 6 = .ok (.bipush 21, 2) := by decide +kernel
theorem dX4_isConstant_8 : decode cX4_isConstant 8 = .ok (.if_icmp .ne 7, 3) := by decide +kernel
theorem dX4_isConstant_11 : decode cX4_isConstant 11 = .ok (.iconst 1, 1) := by decide +kernel
theorem dX4_isConstant_12 : decode cX4_isConstant 12 = .ok (.goto 4, 3) := by decide +kernel
theorem dX4_isConstant_15 : decode cX4_isConstant 15 = .ok (.iconst 0, 1) := by decide +kernel
theorem dX4_isConstant_16 : decode cX4_isConstant 16 = .ok (.ireturn, 1) := by decide +kernel
def fx_Terms_isConstant (st : XS) (t : Int32) : Int32 := 
  if fA st 3 t.toNatClampNeg = (21 : Int32) then (1 : Int32)
  else (0 : Int32)
set_option maxHeartbeats 4000000 in
set_option maxRecDepth 100000 in
theorem kx_Terms_isConstant (l : Launch) (dC : Nat → ClassId) (dI : Nat → Nat → Nat) (a : Nat → Nat) (k : Nat → ClassId) (st : XS) (t : Int32) (hi : vp_in t 64) : Met l yX4_isConstant wsX4_isConstant ({ frames := 0, cells := 0, slots := 0, locals := 0 }) (va_Pc [.ref (a 7), .int t] (wl_prR (dC, dI) vwCl (xt k) (xw a k st))) (vp_Si (fun r9 => r9 = fx_Terms_isConstant st t)) 0 0 (fun _ => False) := by
  refine Met.ofW (cc := cX4_isConstant) (maxL := 2) (ret := (some .boolean)) (by decide) rfl ?_
  intro p e s m args below meth c s₁ B hml hv
  obtain ⟨rfl, hP, hK⟩ := hv
  have hx := B.exec
  have hb := B.bytes
  have hr := B.returns
  have hta := aw_hts (atoms_spec (ws := wsX4_isConstant) B.pre)
  have hown : s.vm.findClass RX4 = some m.cls := findClass_of_methodNamed B.named
  have hlocks := B.notSynchronized
  have hf11 := hta _ mw_99
  have hl := lv_entry ([.ref (a 7), .int t]) (n := 2) (Nat.le_of_ble_eq_true rfl)
  rw [lg_entry_eq]
  generalize (lg_sl ([.ref (a 7), .int t]) ++ List.replicate (2 - (lg_sl ([.ref (a 7), .int t])).length) Slot.unset).toArray = ls at hl ⊢
  have hl : lv_has ls 2 [(0, .ref (a 7)), (1, .int t)] := hl
  generalize hR : fx_Terms_isConstant st t = R
  rw [fx_Terms_isConstant] at hR
  refine lv_aload_n hx hb dX4_isConstant_0 rfl (lv_at hl 0 rfl) ?_
  refine va_get (D := (dC, dI)) (ci := 2) (v := .ref (a 8)) (C := RX4) (T := TX4) (N := 7) hx hb hta inX4 hown hK hP 7 (xr_7 a k st) rfl 0 (by decide) hf11 (fun _ h9 => h9) rfl dX4_isConstant_1 ?_
  refine lv_iload_n hx hb dX4_isConstant_4 rfl (lv_at hl 1 rfl) ?_
  refine va_iald hx hb hK hP 8 4 (xr_8 a k st) rfl hi dX4_isConstant_5 ?_
  refine lv_bipush (v := (21 : Int32)) hx hb dX4_isConstant_6 (by decide) ?_
  refine lv_icmp_ne (tgt := 15) hx hb dX4_isConstant_8 (by decide) (fun c8 => ?_) (fun c8 => ?_)
  · skip
    rw [if_neg c8] at hR
    refine lv_iconst (v := (0 : Int32)) hx hb dX4_isConstant_15 (by decide) ?_
    exact W.zret (v := (0 : Int32)) (ty := .boolean) hx hb hr rfl (fun t ht hW => ⟨_, rfl, hR, ht⟩) (fun q h => by cases h) dX4_isConstant_16
  · skip
    rw [if_pos c8] at hR
    refine lv_iconst (v := (1 : Int32)) hx hb dX4_isConstant_11 (by decide) ?_
    refine lv_goto (tgt := 16) hx hb dX4_isConstant_12 (by decide) ?_
    exact W.zret (v := (1 : Int32)) (ty := .boolean) hx hb hr rfl (fun t ht hW => ⟨_, rfl, hR, ht⟩) (fun q h => by cases h) dX4_isConstant_16

theorem mw_279 : (.code yX4_isConstant cX4_isConstant 2 (some .boolean) : Cond) ∈ AW := List.mem_filter.mpr ⟨List.mem_of_getElem? (i := 279) (by decide +kernel), rfl⟩
theorem mw_276 : (.methodLink RX4 37 yX4_isConstant : Cond) ∈ AW := List.mem_filter.mpr ⟨List.mem_of_getElem? (i := 276) (by decide +kernel), rfl⟩
theorem mw_41 : (.initialized RX4 : Cond) ∈ AW := List.mem_filter.mpr ⟨List.mem_of_getElem? (i := 41) (by decide +kernel), rfl⟩
theorem mw_277 : (.instanceMethod yX4_isConstant : Cond) ∈ AW := List.mem_filter.mpr ⟨List.mem_of_getElem? (i := 277) (by decide +kernel), rfl⟩
theorem mw_278 : (.selects RX4 yX4_isConstant yX4_isConstant : Cond) ∈ AW := List.mem_filter.mpr ⟨List.mem_of_getElem? (i := 278) (by decide +kernel), rfl⟩
theorem mw_103 : (.fieldLink RX4 24 RX4 "constants" "[J" : Cond) ∈ AW := List.mem_filter.mpr ⟨List.mem_of_getElem? (i := 103) (by decide +kernel), rfl⟩
theorem gX4_37 : GoodIn AW (wsV RX4 37 RX4 yX4_isConstant wsX4_isConstant) := aw_V mw_276 mw_277 mw_278 mw_41 mw_279
theorem dX4_isZero_0 : decode cX4_isZero 0 = .ok (.aload_n 0, 1) := by decide +kernel
theorem dX4_isZero_1 : decode cX4_isZero 1 = .ok (.iload_n 1, 1) := by decide +kernel
theorem dX4_isZero_2 : decode cX4_isZero 2 = .ok (.invokevirtual 37, 3) := by decide +kernel
theorem dX4_isZero_5 : decode cX4_isZero 5 = .ok (.ifCond .eq 18, 3) := by decide +kernel
theorem dX4_isZero_8 : decode cX4_isZero 8 = .ok (.aload_n 0, 1) := by decide +kernel
theorem dX4_isZero_9 : decode cX4_isZero 9 = .ok (.getfield 24, 3) := by decide +kernel
theorem dX4_isZero_12 : decode cX4_isZero 12 = .ok (.iload_n 1, 1) := by decide +kernel
theorem dX4_isZero_13 : decode cX4_isZero 13 = .ok (.laload, 1) := by decide +kernel
theorem dX4_isZero_14 : decode cX4_isZero 14 = .ok (.lconst 0, 1) := by decide +kernel
theorem dX4_isZero_15 : decode cX4_isZero 15 = .ok (.lcmp, 1) := by decide +kernel
theorem dX4_isZero_16 : decode cX4_isZero 16 = .ok (.ifCond .ne 7, 3) := by decide +kernel
theorem dX4_isZero_19 : decode cX4_isZero 19 = .ok (.iconst 1, 1) := by decide +kernel
theorem dX4_isZero_20 : decode cX4_isZero 20 = .ok (.goto 4, 3) := by decide +kernel
theorem dX4_isZero_23 : decode cX4_isZero 23 = .ok (.iconst 0, 1) := by decide +kernel
theorem dX4_isZero_24 : decode cX4_isZero 24 = .ok (.ireturn, 1) := by decide +kernel
def fx_Terms_isZero (st : XS) (t : Int32) : Int32 := 
  if fx_Terms_isConstant st t = (0 : Int32) then (0 : Int32)
  else 
    if lg_cmp (fL st 1 t.toNatClampNeg) (0 : Int64) = (0 : Int32) then (1 : Int32)
    else (0 : Int32)
set_option maxHeartbeats 4000000 in
set_option maxRecDepth 100000 in
theorem kx_Terms_isZero (l : Launch) (dC : Nat → ClassId) (dI : Nat → Nat → Nat) (a : Nat → Nat) (k : Nat → ClassId) (st : XS) (t : Int32) (hi : vp_in t 64) : Met l yX4_isZero wsX4_isZero ({ frames := 1, cells := 0, slots := 0, locals := 21 }) (va_Pc [.ref (a 7), .int t] (wl_prR (dC, dI) vwCl (xt k) (xw a k st))) (vp_Si (fun r9 => r9 = fx_Terms_isZero st t)) 0 0 (fun _ => False) := by
  refine Met.ofW (cc := cX4_isZero) (maxL := 2) (ret := (some .boolean)) (by decide) rfl ?_
  intro p e s m args below meth c s₁ B hml hv
  obtain ⟨rfl, hP, hK⟩ := hv
  have hx := B.exec
  have hb := B.bytes
  have hr := B.returns
  have hta := aw_hts (atoms_spec (ws := wsX4_isZero) B.pre)
  have hown : s.vm.findClass RX4 = some m.cls := findClass_of_methodNamed B.named
  have hlocks := B.notSynchronized
  have hf24 := hta _ mw_103
  have hl := lv_entry ([.ref (a 7), .int t]) (n := 2) (Nat.le_of_ble_eq_true rfl)
  rw [lg_entry_eq]
  generalize (lg_sl ([.ref (a 7), .int t]) ++ List.replicate (2 - (lg_sl ([.ref (a 7), .int t])).length) Slot.unset).toArray = ls at hl ⊢
  have hl : lv_has ls 2 [(0, .ref (a 7)), (1, .int t)] := hl
  generalize hR : fx_Terms_isZero st t = R
  rw [fx_Terms_isZero] at hR
  refine lv_aload_n hx hb dX4_isZero_0 rfl (lv_at hl 0 rfl) ?_
  refine lv_iload_n hx hb dX4_isZero_1 rfl (lv_at hl 1 rfl) ?_
  refine wl_ci (va_runV (As := [.int t]) (rest := []) ⟨hx, hb, hml, hown, hta⟩ (kx_Terms_isConstant l dC dI a k st t hi) (cwV 1 hta gX4_37 rfl rfl rfl (by decide +kernel) ⟨Nat.le_of_ble_eq_true rfl, Nat.le_of_ble_eq_true rfl⟩) (wl_pR (C := RX4) (ci := 2) (q0 := 7) hK hP rfl (xr_7 a k st)) rfl rfl hl.1 rfl (lv_room (Nat.le_of_ble_eq_true rfl)) dX4_isZero_2 ⟨Nat.zero_le _, Nat.zero_le _⟩) ?_
  refine lv_if_eq (tgt := 23) hx hb dX4_isZero_5 (by decide) (fun c5 => ?_) (fun c5 => ?_)
  · skip
    rw [if_pos c5] at hR
    refine lv_iconst (v := (0 : Int32)) hx hb dX4_isZero_23 (by decide) ?_
    exact W.zret (v := (0 : Int32)) (ty := .boolean) hx hb hr rfl (fun t ht hW => ⟨_, rfl, hR, ht⟩) (fun q h => by cases h) dX4_isZero_24
  · skip
    rw [if_neg c5] at hR
    refine lv_aload_n hx hb dX4_isZero_8 rfl (lv_at hl 0 rfl) ?_
    refine va_get (D := (dC, dI)) (ci := 2) (v := .ref (a 12)) (C := RX4) (T := TX4) (N := 7) hx hb hta inX4 hown hK hP 7 (xr_7 a k st) rfl 4 (by decide) hf24 (fun _ h9 => h9) rfl dX4_isZero_9 ?_
    refine lv_iload_n hx hb dX4_isZero_12 rfl (lv_at hl 1 rfl) ?_
    refine va_lald hx hb hK hP 12 8 (xr_12 a k st) rfl hi dX4_isZero_13 ?_
    refine lv_lconst (v := (0 : Int64)) hx hb dX4_isZero_14 (by decide) ?_
    refine W.lcmp hx hb dX4_isZero_15 ?_
    refine lv_if_ne (tgt := 23) hx hb dX4_isZero_16 (by decide) (fun c16 => ?_) (fun c16 => ?_)
    · skip
      rw [if_neg c16] at hR
      refine lv_iconst (v := (0 : Int32)) hx hb dX4_isZero_23 (by decide) ?_
      exact W.zret (v := (0 : Int32)) (ty := .boolean) hx hb hr rfl (fun t ht hW => ⟨_, rfl, hR, ht⟩) (fun q h => by cases h) dX4_isZero_24
    · skip
      rw [if_pos c16] at hR
      refine lv_iconst (v := (1 : Int32)) hx hb dX4_isZero_19 (by decide) ?_
      refine lv_goto (tgt := 24) hx hb dX4_isZero_20 (by decide) ?_
      exact W.zret (v := (1 : Int32)) (ty := .boolean) hx hb hr rfl (fun t ht hW => ⟨_, rfl, hR, ht⟩) (fun q h => by cases h) dX4_isZero_24

theorem dX4_constants_0 : decode cX4_constants 0 = .ok (.aload_n 0, 1) := by decide +kernel
theorem dX4_constants_1 : decode cX4_constants 1 = .ok (.getfield 24, 3) := by decide +kernel
theorem dX4_constants_4 : decode cX4_constants 4 = .ok (.areturn, 1) := by decide +kernel
set_option maxHeartbeats 4000000 in
set_option maxRecDepth 100000 in
theorem kx_Terms_constants (l : Launch) (dC : Nat → ClassId) (dI : Nat → Nat → Nat) (a : Nat → Nat) (k : Nat → ClassId) (st : XS) : Met l yX4_constants wsX4_constants ({ frames := 0, cells := 0, slots := 0, locals := 0 }) (va_Pc [.ref (a 7)] (wl_prR (dC, dI) vwCl (xt k) (xw a k st))) (va_Sr (fun _ => True) (fun _ => .ref (a 12))) 0 0 (fun _ => False) := by
  refine Met.ofW (cc := cX4_constants) (maxL := 1) (ret := (some (.array .long))) (by decide) rfl ?_
  intro p e s m args below meth c s₁ B hml hv
  obtain ⟨rfl, hP, hK⟩ := hv
  have hx := B.exec
  have hb := B.bytes
  have hr := B.returns
  have hta := aw_hts (atoms_spec (ws := wsX4_constants) B.pre)
  have hown : s.vm.findClass RX4 = some m.cls := findClass_of_methodNamed B.named
  have hlocks := B.notSynchronized
  have hf24 := hta _ mw_103
  have hl := lv_entry ([.ref (a 7)]) (n := 1) (Nat.le_of_ble_eq_true rfl)
  rw [lg_entry_eq]
  generalize (lg_sl ([.ref (a 7)]) ++ List.replicate (1 - (lg_sl ([.ref (a 7)])).length) Slot.unset).toArray = ls at hl ⊢
  have hl : lv_has ls 1 [(0, .ref (a 7))] := hl
  refine lv_aload_n hx hb dX4_constants_0 rfl (lv_at hl 0 rfl) ?_
  refine va_get (D := (dC, dI)) (ci := 2) (v := .ref (a 12)) (C := RX4) (T := TX4) (N := 7) hx hb hta inX4 hown hK hP 7 (xr_7 a k st) rfl 4 (by decide) hf24 (fun _ h9 => h9) rfl dX4_constants_1 ?_
  exact W.aret hx hb hr (Or.inr ⟨_, rfl⟩) (Or.inr ⟨_, rfl⟩) (fun t ht hW => ⟨0, rfl, trivial, ht⟩) (fun q h => by cases h) dX4_constants_4

theorem mw_102 : (.fieldLink RX4 21 RX4 "tablesRead" "[I" : Cond) ∈ AW := List.mem_filter.mpr ⟨List.mem_of_getElem? (i := 102) (by decide +kernel), rfl⟩
theorem dX4_readsTable_0 : decode cX4_readsTable 0 = .ok (.aload_n 0, 1) := by decide +kernel
theorem dX4_readsTable_1 : decode cX4_readsTable 1 = .ok (.getfield 21, 3) := by decide +kernel
theorem dX4_readsTable_4 : decode cX4_readsTable 4 = .ok (.iload_n 1, 1) := by decide +kernel
theorem dX4_readsTable_5 : decode cX4_readsTable 5 = .ok (.iaload, 1) := by decide +kernel
theorem dX4_readsTable_6 : decode cX4_readsTable 6 = .ok (.iload_n 2, 1) := by decide +kernel
theorem dX4_readsTable_7 : decode cX4_readsTable 7 = .ok (.ishr, 1) := by decide +kernel
theorem dX4_readsTable_8 : decode cX4_readsTable 8 = .ok (.iconst 1, 1) := by decide +kernel
theorem dX4_readsTable_9 : decode cX4_readsTable 9 = .ok (.iand, 1) := by decide +kernel
theorem dX4_readsTable_10 : decode cX4_readsTable 10 = .ok (.iconst 1, 1) := by decide +kernel
theorem dX4_readsTable_11 : decode cX4_readsTable 11 = .ok (.if_icmp .ne 7, 3) := by decide +kernel
theorem dX4_readsTable_14 : decode cX4_readsTable 14 = .ok (.iconst 1, 1) := by decide +kernel
theorem dX4_readsTable_15 : decode cX4_readsTable 15 = .ok (.goto 4, 3) := by decide +kernel
theorem dX4_readsTable_18 : decode cX4_readsTable 18 = .ok (.iconst 0, 1) := by decide +kernel
theorem dX4_readsTable_19 : decode cX4_readsTable 19 = .ok (.ireturn, 1) := by decide +kernel
def fx_Terms_readsTable (st : XS) (t : Int32) (tb : Int32) : Int32 := 
  if ((fA st 6 t.toNatClampNeg) >>> (tb &&& 31)) &&& (1 : Int32) = (1 : Int32) then (1 : Int32)
  else (0 : Int32)
set_option maxHeartbeats 4000000 in
set_option maxRecDepth 100000 in
theorem kx_Terms_readsTable (l : Launch) (dC : Nat → ClassId) (dI : Nat → Nat → Nat) (a : Nat → Nat) (k : Nat → ClassId) (st : XS) (t : Int32) (tb : Int32) (hi : vp_in t 64) : Met l yX4_readsTable wsX4_readsTable ({ frames := 0, cells := 0, slots := 0, locals := 0 }) (va_Pc [.ref (a 7), .int t, .int tb] (wl_prR (dC, dI) vwCl (xt k) (xw a k st))) (vp_Si (fun r9 => r9 = fx_Terms_readsTable st t tb)) 0 0 (fun _ => False) := by
  refine Met.ofW (cc := cX4_readsTable) (maxL := 3) (ret := (some .boolean)) (by decide) rfl ?_
  intro p e s m args below meth c s₁ B hml hv
  obtain ⟨rfl, hP, hK⟩ := hv
  have hx := B.exec
  have hb := B.bytes
  have hr := B.returns
  have hta := aw_hts (atoms_spec (ws := wsX4_readsTable) B.pre)
  have hown : s.vm.findClass RX4 = some m.cls := findClass_of_methodNamed B.named
  have hlocks := B.notSynchronized
  have hf21 := hta _ mw_102
  have hl := lv_entry ([.ref (a 7), .int t, .int tb]) (n := 3) (Nat.le_of_ble_eq_true rfl)
  rw [lg_entry_eq]
  generalize (lg_sl ([.ref (a 7), .int t, .int tb]) ++ List.replicate (3 - (lg_sl ([.ref (a 7), .int t, .int tb])).length) Slot.unset).toArray = ls at hl ⊢
  have hl : lv_has ls 3 [(0, .ref (a 7)), (1, .int t), (2, .int tb)] := hl
  generalize hR : fx_Terms_readsTable st t tb = R
  rw [fx_Terms_readsTable] at hR
  refine lv_aload_n hx hb dX4_readsTable_0 rfl (lv_at hl 0 rfl) ?_
  refine va_get (D := (dC, dI)) (ci := 2) (v := .ref (a 11)) (C := RX4) (T := TX4) (N := 7) hx hb hta inX4 hown hK hP 7 (xr_7 a k st) rfl 3 (by decide) hf21 (fun _ h9 => h9) rfl dX4_readsTable_1 ?_
  refine lv_iload_n hx hb dX4_readsTable_4 rfl (lv_at hl 1 rfl) ?_
  refine va_iald hx hb hK hP 11 7 (xr_11 a k st) rfl hi dX4_readsTable_5 ?_
  refine lv_iload_n hx hb dX4_readsTable_6 rfl (lv_at hl 2 rfl) ?_
  refine lv_ishr hx hb dX4_readsTable_7 ?_
  refine lv_iconst (v := (1 : Int32)) hx hb dX4_readsTable_8 (by decide) ?_
  refine lv_iand hx hb dX4_readsTable_9 ?_
  refine lv_iconst (v := (1 : Int32)) hx hb dX4_readsTable_10 (by decide) ?_
  refine lv_icmp_ne (tgt := 18) hx hb dX4_readsTable_11 (by decide) (fun c11 => ?_) (fun c11 => ?_)
  · skip
    rw [if_neg c11] at hR
    refine lv_iconst (v := (0 : Int32)) hx hb dX4_readsTable_18 (by decide) ?_
    exact W.zret (v := (0 : Int32)) (ty := .boolean) hx hb hr rfl (fun t ht hW => ⟨_, rfl, hR, ht⟩) (fun q h => by cases h) dX4_readsTable_19
  · skip
    rw [if_pos c11] at hR
    refine lv_iconst (v := (1 : Int32)) hx hb dX4_readsTable_14 (by decide) ?_
    refine lv_goto (tgt := 19) hx hb dX4_readsTable_15 (by decide) ?_
    exact W.zret (v := (1 : Int32)) (ty := .boolean) hx hb hr rfl (fun t ht hW => ⟨_, rfl, hR, ht⟩) (fun q h => by cases h) dX4_readsTable_19

theorem dX4_addPlain_0 : decode cX4_addPlain 0 = .ok (.aload_n 0, 1) := by decide +kernel
theorem dX4_addPlain_1 : decode cX4_addPlain 1 = .ok (.getfield 11, 3) := by decide +kernel
theorem dX4_addPlain_4 : decode cX4_addPlain 4 = .ok (.aload_n 0, 1) := by decide +kernel
theorem dX4_addPlain_5 : decode cX4_addPlain 5 = .ok (.getfield 28, 3) := by decide +kernel
theorem dX4_addPlain_8 : decode cX4_addPlain 8 = .ok (.iload_n 1, 1) := by decide +kernel
theorem dX4_addPlain_9 : decode cX4_addPlain 9 = .ok (.iastore, 1) := by decide +kernel
theorem dX4_addPlain_10 : decode cX4_addPlain 10 = .ok (.aload_n 0, 1) := by decide +kernel
theorem dX4_addPlain_11 : decode cX4_addPlain 11 = .ok (.getfield 15, 3) := by decide +kernel
theorem dX4_addPlain_14 : decode cX4_addPlain 14 = .ok (.aload_n 0, 1) := by decide +kernel
theorem dX4_addPlain_15 : decode cX4_addPlain 15 = .ok (.getfield 28, 3) := by decide +kernel
theorem dX4_addPlain_18 : decode cX4_addPlain 18 = .ok (.iload_n 2, 1) := by decide +kernel
theorem dX4_addPlain_19 : decode cX4_addPlain 19 = .ok (.iastore, 1) := by decide +kernel
theorem dX4_addPlain_20 : decode cX4_addPlain 20 = .ok (.aload_n 0, 1) := by decide +kernel
theorem dX4_addPlain_21 : decode cX4_addPlain 21 = .ok (.dup, 1) := by decide +kernel
theorem dX4_addPlain_22 : decode cX4_addPlain 22 = .ok (.getfield 28, 3) := by decide +kernel
theorem dX4_addPlain_25 : decode cX4_addPlain 25 = .ok (.dup_x1, 1) := by decide +kernel
theorem dX4_addPlain_26 : decode cX4_addPlain 26 = .ok (.iconst 1, 1) := by decide +kernel
theorem dX4_addPlain_27 : decode cX4_addPlain 27 = .ok (.iadd, 1) := by decide +kernel
theorem dX4_addPlain_28 : decode cX4_addPlain 28 = .ok (.putfield 28, 3) := by decide +kernel
theorem dX4_addPlain_31 : decode cX4_addPlain 31 = .ok (.ireturn, 1) := by decide +kernel
def fx_Terms_addPlain (st : XS) (o : Int32) (w : Int32) : Int32 × XS := (gI st 6, wI (wA (wA st 3 ((gI st 6).toNatClampNeg) o) 4 ((gI st 6).toNatClampNeg) w) 6 ((gI st 6) + (1 : Int32)))
theorem ff_Terms_addPlain (st : XS) (o : Int32) (w : Int32) : XF [6] [3, 4] [] st (fx_Terms_addPlain st o w).2 := by
  rw [fx_Terms_addPlain]
  exact (XF.wI (by decide) (XF.wA (by decide) (XF.wA (by decide) XF.rf)))
set_option maxHeartbeats 4000000 in
set_option maxRecDepth 100000 in
theorem kx_Terms_addPlain (l : Launch) (dC : Nat → ClassId) (dI : Nat → Nat → Nat) (a : Nat → Nat) (k : Nat → ClassId) (st : XS) (o : Int32) (w : Int32) (sz : Nat) (hi : vp_in (gI st 6) 64) : Met l yX4_addPlain wsX4_addPlain ({ frames := 0, cells := 0, slots := 0, locals := 0 }) (va_Pc [.ref (a 7), .int o, .int w] (wl_pre (dC, dI) vwCl (xt k) (xw a k) st sz)) (va_Qi (fun r9 u9 => (r9, u9) = fx_Terms_addPlain st o w) (wl_at (dC, dI) vwCl (xt k) (xw a k) (va_A (xw a k st) sz)) (va_A (xw a k st) sz)) 0 0 (va_A (xw a k st) sz) := by
  refine Met.ofW (cc := cX4_addPlain) (maxL := 3) (ret := (some .int)) (by decide) rfl ?_
  intro p e s m args below meth c s₁ B hml hv
  obtain ⟨rfl, hsz, hP, hK, hD0⟩ := hv
  have hx := B.exec
  have hb := B.bytes
  have hr := B.returns
  have hta := aw_hts (atoms_spec (ws := wsX4_addPlain) B.pre)
  have hown : s.vm.findClass RX4 = some m.cls := findClass_of_methodNamed B.named
  have hlocks := B.notSynchronized
  have hf11 := hta _ mw_99
  have hf28 := hta _ mw_104
  have hf15 := hta _ mw_100
  subst hsz
  have hD := hD0.self (sz := s.heap.size)
  generalize hAe : va_A (xw a k st) s.heap.size = A at hD ⊢
  have hAz : ∀ q : Nat, s.heap.size ≤ q → A q := fun q h => by rw [← hAe]; exact Or.inr h
  have hS : va_S A s.heap s.heap [] := va_S.rf
  have hl := lv_entry ([.ref (a 7), .int o, .int w]) (n := 3) (Nat.le_of_ble_eq_true rfl)
  rw [lg_entry_eq]
  generalize (lg_sl ([.ref (a 7), .int o, .int w]) ++ List.replicate (3 - (lg_sl ([.ref (a 7), .int o, .int w])).length) Slot.unset).toArray = ls at hl ⊢
  have hl : lv_has ls 3 [(0, .ref (a 7)), (1, .int o), (2, .int w)] := hl
  generalize hR : fx_Terms_addPlain st o w = R
  rw [fx_Terms_addPlain] at hR
  refine lv_aload_n hx hb dX4_addPlain_0 rfl (lv_at hl 0 rfl) ?_
  refine va_get (D := (dC, dI)) (ci := 2) (v := .ref (a 8)) (C := RX4) (T := TX4) (N := 7) hx hb hta inX4 hown hK hP 7 (xr_7 a k st) rfl 0 (by decide) hf11 (fun _ h9 => h9) rfl dX4_addPlain_1 ?_
  refine lv_aload_n hx hb dX4_addPlain_4 rfl (lv_at hl 0 rfl) ?_
  refine va_get (D := (dC, dI)) (ci := 2) (v := .int (gI st 6)) (C := RX4) (T := TX4) (N := 7) hx hb hta inX4 hown hK hP 7 (xr_7 a k st) rfl 5 (by decide) hf28 (fun _ h9 => h9) rfl dX4_addPlain_5 ?_
  refine lv_iload_n hx hb dX4_addPlain_8 rfl (lv_at hl 1 rfl) ?_
  refine va_iast hx hb hK hP hD hS 8 4 (xr_8 a k st) rfl hi dX4_addPlain_9 (fun H locs hP hD hS => ?_)
  have hP := xp_A3 hP
  have hD := xd_A3 hD
  refine lv_aload_n hx hb dX4_addPlain_10 rfl (lv_at hl 0 rfl) ?_
  refine va_get (D := (dC, dI)) (ci := 2) (v := .ref (a 9)) (C := RX4) (T := TX4) (N := 7) hx hb hta inX4 hown hK hP 7 (xr_7 a k (wA st 3 ((gI st 6).toNatClampNeg) o)) rfl 1 (by decide) hf15 (fun _ h9 => h9) rfl dX4_addPlain_11 ?_
  refine lv_aload_n hx hb dX4_addPlain_14 rfl (lv_at hl 0 rfl) ?_
  refine va_get (D := (dC, dI)) (ci := 2) (v := .int (gI st 6)) (C := RX4) (T := TX4) (N := 7) hx hb hta inX4 hown hK hP 7 (xr_7 a k (wA st 3 ((gI st 6).toNatClampNeg) o)) rfl 5 (by decide) hf28 (fun _ h9 => h9) rfl dX4_addPlain_15 ?_
  refine lv_iload_n hx hb dX4_addPlain_18 rfl (lv_at hl 2 rfl) ?_
  refine va_iast hx hb hK hP hD hS 9 5 (xr_9 a k (wA st 3 ((gI st 6).toNatClampNeg) o)) rfl hi dX4_addPlain_19 (fun H locs hP hD hS => ?_)
  have hP := xp_A4 hP
  have hD := xd_A4 hD
  refine lv_aload_n hx hb dX4_addPlain_20 rfl (lv_at hl 0 rfl) ?_
  refine lv_dup hx hb dX4_addPlain_21 rfl ?_
  refine va_get (D := (dC, dI)) (ci := 2) (v := .int (gI st 6)) (C := RX4) (T := TX4) (N := 7) hx hb hta inX4 hown hK hP 7 (xr_7 a k (wA (wA st 3 ((gI st 6).toNatClampNeg) o) 4 ((gI st 6).toNatClampNeg) w)) rfl 5 (by decide) hf28 (fun _ h9 => h9) rfl dX4_addPlain_22 ?_
  refine lv_dup_x1 hx hb dX4_addPlain_25 rfl rfl ?_
  refine lv_iconst (v := (1 : Int32)) hx hb dX4_addPlain_26 (by decide) ?_
  refine lv_iadd hx hb dX4_addPlain_27 ?_
  refine va_put (D := (dC, dI)) (ci := 2) (v := .int ((gI st 6) + (1 : Int32))) (ty := .int) (C := RX4) (T := TX4) (N := 7) hx hb hta inX4 tyX4 tyX4_ok nmX4 hown hK hP hD hS 7 (xr_7 a k (wA (wA st 3 ((gI st 6).toNatClampNeg) o) 4 ((gI st 6).toNatClampNeg) w)) rfl 5 (by decide) hf28 (fun _ h9 => h9) rfl (by decide +kernel) rfl rfl (Nat.le_of_ble_eq_true rfl) dX4_addPlain_28 (fun H locs hP hD hS => ?_)
  have hP := xp_I6 hP
  have hD := xd_I6 hD
  exact W.iret (v := gI st 6) hx hb hr (fun t ht hW => ⟨⟨_, _, rfl, hR, by rw [ht]; exact hP, va_K.moved hW.alike hK, hD⟩, hS.F ht⟩) hS.2.2 dX4_addPlain_31

theorem mw_261 : (.code yX4_addPlain cX4_addPlain 3 (some .int) : Cond) ∈ AW := List.mem_filter.mpr ⟨List.mem_of_getElem? (i := 261) (by decide +kernel), rfl⟩
theorem mw_258 : (.methodLink RX4 41 yX4_addPlain : Cond) ∈ AW := List.mem_filter.mpr ⟨List.mem_of_getElem? (i := 258) (by decide +kernel), rfl⟩
theorem mw_260 : (.instanceMethod yX4_addPlain : Cond) ∈ AW := List.mem_filter.mpr ⟨List.mem_of_getElem? (i := 260) (by decide +kernel), rfl⟩
theorem mw_0 : (.selects RX4 yX4_addPlain yX4_addPlain : Cond) ∈ AW := List.mem_filter.mpr ⟨List.mem_of_getElem? (i := 0) (by decide +kernel), rfl⟩
theorem gX4_41 : GoodIn AW (wsV RX4 41 RX4 yX4_addPlain wsX4_addPlain) := aw_V mw_258 mw_260 mw_0 mw_41 mw_261
theorem dX4_addVariable_0 : decode cX4_addVariable 0 = .ok (.aload_n 0, 1) := by decide +kernel
theorem dX4_addVariable_1 : decode cX4_addVariable 1 = .ok (.bipush 22, 2) := by decide +kernel
theorem dX4_addVariable_3 : decode cX4_addVariable 3 = .ok (.bipush 8, 2) := by decide +kernel
theorem dX4_addVariable_5 : decode cX4_addVariable 5 = .ok (.invokevirtual 41, 3) := by decide +kernel
theorem dX4_addVariable_8 : decode cX4_addVariable 8 = .ok (.istore_n 2, 1) := by decide +kernel
theorem dX4_addVariable_9 : decode cX4_addVariable 9 = .ok (.aload_n 0, 1) := by decide +kernel
theorem dX4_addVariable_10 : decode cX4_addVariable 10 = .ok (.getfield 18, 3) := by decide +kernel
theorem dX4_addVariable_13 : decode cX4_addVariable 13 = .ok (.iload_n 2, 1) := by decide +kernel
theorem dX4_addVariable_14 : decode cX4_addVariable 14 = .ok (.iconst 3, 1) := by decide +kernel
theorem dX4_addVariable_15 : decode cX4_addVariable 15 = .ok (.imul, 1) := by decide +kernel
theorem dX4_addVariable_16 : decode cX4_addVariable 16 = .ok (.iload_n 1, 1) := by decide +kernel
theorem dX4_addVariable_17 : decode cX4_addVariable 17 = .ok (.iastore, 1) := by decide +kernel
theorem dX4_addVariable_18 : decode cX4_addVariable 18 = .ok (.iload_n 2, 1) := by decide +kernel
theorem dX4_addVariable_19 : decode cX4_addVariable 19 = .ok (.ireturn, 1) := by decide +kernel
def fx_Terms_addVariable (st : XS) (v : Int32) : Int32 × XS := ((((fx_Terms_addPlain st (22 : Int32) (8 : Int32)).1)), wA (((fx_Terms_addPlain st (22 : Int32) (8 : Int32)).2)) 5 ((((((fx_Terms_addPlain st (22 : Int32) (8 : Int32)).1))) * (3 : Int32)).toNatClampNeg) v)
theorem ff_Terms_addVariable (st : XS) (v : Int32) : XF [6] [3, 4, 5] [] st (fx_Terms_addVariable st v).2 := by
  rw [fx_Terms_addVariable]
  exact (XF.wA (by decide) (XF.tr XF.rf (XF.mono (ff_Terms_addPlain _ _ _) (by decide) (by decide) (by decide))))
set_option maxHeartbeats 4000000 in
set_option maxRecDepth 100000 in
theorem kx_Terms_addVariable (l : Launch) (dC : Nat → ClassId) (dI : Nat → Nat → Nat) (a : Nat → Nat) (k : Nat → ClassId) (st : XS) (v : Int32) (sz : Nat) (N : Nat) (hN : gI st 6 = nI N) (h64 : N < 64) : Met l yX4_addVariable wsX4_addVariable ({ frames := 1, cells := 0, slots := 0, locals := 22 }) (va_Pc [.ref (a 7), .int v] (wl_pre (dC, dI) vwCl (xt k) (xw a k) st sz)) (va_Qi (fun r9 u9 => (r9, u9) = fx_Terms_addVariable st v) (wl_at (dC, dI) vwCl (xt k) (xw a k) (va_A (xw a k st) sz)) (va_A (xw a k st) sz)) 0 0 (va_A (xw a k st) sz) := by
  refine Met.ofW (cc := cX4_addVariable) (maxL := 3) (ret := (some .int)) (by decide) rfl ?_
  intro p e s m args below meth c s₁ B hml hv
  obtain ⟨rfl, hsz, hP, hK, hD0⟩ := hv
  have hx := B.exec
  have hb := B.bytes
  have hr := B.returns
  have hta := aw_hts (atoms_spec (ws := wsX4_addVariable) B.pre)
  have hown : s.vm.findClass RX4 = some m.cls := findClass_of_methodNamed B.named
  have hlocks := B.notSynchronized
  have hf18 := hta _ mw_101
  subst hsz
  have hD := hD0.self (sz := s.heap.size)
  generalize hAe : va_A (xw a k st) s.heap.size = A at hD ⊢
  have hAz : ∀ q : Nat, s.heap.size ≤ q → A q := fun q h => by rw [← hAe]; exact Or.inr h
  have hS : va_S A s.heap s.heap [] := va_S.rf
  have hl := lv_entry ([.ref (a 7), .int v]) (n := 3) (Nat.le_of_ble_eq_true rfl)
  rw [lg_entry_eq]
  generalize (lg_sl ([.ref (a 7), .int v]) ++ List.replicate (3 - (lg_sl ([.ref (a 7), .int v])).length) Slot.unset).toArray = ls at hl ⊢
  have hl : lv_has ls 3 [(0, .ref (a 7)), (1, .int v)] := hl
  generalize hR : fx_Terms_addVariable st v = R
  rw [fx_Terms_addVariable] at hR
  refine lv_aload_n hx hb dX4_addVariable_0 rfl (lv_at hl 0 rfl) ?_
  refine lv_bipush (v := (22 : Int32)) hx hb dX4_addVariable_1 (by decide) ?_
  refine lv_bipush (v := (8 : Int32)) hx hb dX4_addVariable_3 (by decide) ?_
  refine wl_mi (va_runV (As := [.int (22 : Int32), .int (8 : Int32)]) (rest := []) ⟨hx, hb, hml, hown, hta⟩ (kx_Terms_addPlain l dC dI a k st (22 : Int32) (8 : Int32) _ (by rw [hN]; exact wl_in h64 (by decide))) (cwV 2 hta gX4_41 rfl rfl rfl (by decide +kernel) ⟨Nat.le_of_ble_eq_true rfl, Nat.le_of_ble_eq_true rfl⟩) (wl_pM (C := RX4) (ci := 2) (q0 := 7) hK hP hD rfl (xr_7 a k st)) rfl rfl hl.1 rfl (lv_room (Nat.le_of_ble_eq_true rfl)) dX4_addVariable_5 ⟨Nat.zero_le _, Nat.zero_le _⟩) hP hD hS hAz (fun r5 u5 H locs hw5 hP hD hS => ?_)
  have v5 : (fx_Terms_addPlain st (22 : Int32) (8 : Int32)).1 = r5 := congrArg Prod.fst hw5.symm
  have w5 : (fx_Terms_addPlain st (22 : Int32) (8 : Int32)).2 = u5 := congrArg Prod.snd hw5.symm
  have hf5 : XF [6] [3, 4] [] st u5 := by rw [← w5]; exact ff_Terms_addPlain st (22 : Int32) (8 : Int32)
  try rw [v5] at hR
  try rw [w5] at hR
  have e5 : r5 = nI N := ((congrArg Prod.fst hw5).trans hN)
  rw [e5]
  try rw [e5] at hR
  refine lv_istore_n (lv' := [(2, .int ((nI N))), (0, .ref (a 7)), (1, .int v)]) hx hb dX4_addVariable_8 rfl hl (by decide) rfl (fun ls hl => ?_)
  refine lv_aload_n hx hb dX4_addVariable_9 rfl (lv_at hl 1 rfl) ?_
  refine va_get (D := (dC, dI)) (ci := 2) (v := .ref (a 10)) (C := RX4) (T := TX4) (N := 7) hx hb hta inX4 hown hK hP 7 (xr_7 a k (u5)) rfl 2 (by decide) hf18 (fun _ h9 => h9) rfl dX4_addVariable_10 ?_
  refine lv_iload_n hx hb dX4_addVariable_13 rfl (lv_at hl 0 rfl) ?_
  refine lv_iconst (v := (3 : Int32)) hx hb dX4_addVariable_14 (by decide) ?_
  refine lv_imul hx hb dX4_addVariable_15 ?_
  refine lv_iload_n hx hb dX4_addVariable_16 rfl (lv_at hl 2 rfl) ?_
  refine va_iast hx hb hK hP hD hS 10 6 (xr_10 a k (u5)) rfl (wl_i30 h64) dX4_addVariable_17 (fun H locs hP hD hS => ?_)
  have hP := xp_A5 hP
  have hD := xd_A5 hD
  refine lv_iload_n hx hb dX4_addVariable_18 rfl (lv_at hl 0 rfl) ?_
  exact W.iret (v := (nI N)) hx hb hr (fun t ht hW => ⟨⟨_, _, rfl, hR, by rw [ht]; exact hP, va_K.moved hW.alike hK, hD⟩, hS.F ht⟩) hS.2.2 dX4_addVariable_19

theorem wl_nle {x y : Int32} (h : ¬ x ≤ y) : y < x := Int32.not_le.mp h
theorem wl_isFullN {st : XS} {N : Nat} (hN : gI st 6 = nI N) (h : N ≤ 64) (c : fx_Terms_isFull st = 0) : N < 64 := by
  rcases Nat.lt_or_ge N 64 with q | q
  · exact q
  · rw [fx_Terms_isFull, hN, if_neg (show ¬ nI N < (64 : Int32) from nI_nlt (b := 64) q (by omega))] at c
    exact absurd c (by decide)
theorem wl_isFull {st : XS} {N : Nat} (hN : gI st 6 = nI N) (h : N ≤ 64) (c : fx_Terms_isFull st = 0) : vp_in (gI st 6) 64 := by
  rw [hN]; exact wl_in (wl_isFullN hN h c) (by decide)

theorem mw_273 : (.methodLink RX4 45 yX0_readSigned : Cond) ∈ AW := List.mem_filter.mpr ⟨List.mem_of_getElem? (i := 273) (by decide +kernel), rfl⟩
theorem mw_245 : (.code yX4_isFull cX4_isFull 1 (some .boolean) : Cond) ∈ AW := List.mem_filter.mpr ⟨List.mem_of_getElem? (i := 245) (by decide +kernel), rfl⟩
theorem mw_280 : (.methodLink RX4 51 yX4_isFull : Cond) ∈ AW := List.mem_filter.mpr ⟨List.mem_of_getElem? (i := 280) (by decide +kernel), rfl⟩
theorem mw_243 : (.instanceMethod yX4_isFull : Cond) ∈ AW := List.mem_filter.mpr ⟨List.mem_of_getElem? (i := 243) (by decide +kernel), rfl⟩
theorem mw_244 : (.selects RX4 yX4_isFull yX4_isFull : Cond) ∈ AW := List.mem_filter.mpr ⟨List.mem_of_getElem? (i := 244) (by decide +kernel), rfl⟩
theorem gX4_45 : GoodIn AW (va_wsS RX4 45 yX0_readSigned wsX0_readSigned) := aw_S mw_273 mw_274 mw_47 mw_275
theorem gX4_51 : GoodIn AW (wsV RX4 51 RX4 yX4_isFull wsX4_isFull) := aw_V mw_280 mw_243 mw_244 mw_41 mw_245
theorem dX4_findOrAddConstant_0 : decode cX4_findOrAddConstant 0 = .ok (.iload_n 1, 1) := by decide +kernel
theorem dX4_findOrAddConstant_1 : decode cX4_findOrAddConstant 1 = .ok (.lload_n 2, 1) := by decide +kernel
theorem dX4_findOrAddConstant_2 : decode cX4_findOrAddConstant 2 = .ok (.invokestatic 45, 3) := by decide +kernel
theorem dX4_findOrAddConstant_5 : decode cX4_findOrAddConstant 5 = .ok (.lstore 4, 2) := by decide +kernel
theorem dX4_findOrAddConstant_7 : decode cX4_findOrAddConstant 7 = .ok (.iconst 0, 1) := by decide +kernel
theorem dX4_findOrAddConstant_8 : decode cX4_findOrAddConstant 8 = .ok (.istore 6, 2) := by decide +kernel
theorem dX4_findOrAddConstant_10 : decode cX4_findOrAddConstant 10 = .ok (.iload 6, 2) := by decide +kernel
theorem dX4_findOrAddConstant_12 : decode cX4_findOrAddConstant 12 = .ok (.aload_n 0, 1) := by decide +kernel
theorem dX4_findOrAddConstant_13 : decode cX4_findOrAddConstant 13 = .ok (.getfield 28, 3) := by decide +kernel
theorem dX4_findOrAddConstant_16 : decode cX4_findOrAddConstant 16 = .ok (.if_icmp .ge 45, 3) := by decide +kernel
theorem dX4_findOrAddConstant_19 : decode cX4_findOrAddConstant 19 = .ok (.aload_n 0, 1) := by decide +kernel
theorem dX4_findOrAddConstant_20 : decode cX4_findOrAddConstant 20 = .ok (.iload 6, 2) := by decide +kernel
theorem dX4_findOrAddConstant_22 : decode cX4_findOrAddConstant 22 = .ok (.invokevirtual 37, 3) := by decide +kernel
theorem dX4_findOrAddConstant_25 : decode cX4_findOrAddConstant 25 = .ok (.ifCond .eq 30, 3) := by decide +kernel
theorem dX4_findOrAddConstant_28 : decode cX4_findOrAddConstant 28 = .ok (.aload_n 0, 1) := by decide +kernel
theorem dX4_findOrAddConstant_29 : decode cX4_findOrAddConstant 29 = .ok (.getfield 15, 3) := by decide +kernel
theorem dX4_findOrAddConstant_32 : decode cX4_findOrAddConstant 32 = .ok (.iload 6, 2) := by decide +kernel
theorem dX4_findOrAddConstant_34 : decode cX4_findOrAddConstant 34 = .ok (.iaload, 1) := by decide +kernel
theorem dX4_findOrAddConstant_35 : decode cX4_findOrAddConstant 35 = .ok (.iload_n 1, 1) := by decide +kernel
theorem dX4_findOrAddConstant_36 : decode cX4_findOrAddConstant 36 = .ok (.if_icmp .ne 19, 3) := by decide +kernel
theorem dX4_findOrAddConstant_39 : decode cX4_findOrAddConstant 39 = .ok (.aload_n 0, 1) := by decide +kernel
theorem dX4_findOrAddConstant_40 : decode cX4_findOrAddConstant 40 = .ok (.getfield 24, 3) := by decide +kernel
theorem dX4_findOrAddConstant_43 : decode cX4_findOrAddConstant 43 = .ok (.iload 6, 2) := by decide +kernel
theorem dX4_findOrAddConstant_45 : decode cX4_findOrAddConstant 45 = .ok (.laload, 1) := by decide +kernel
theorem dX4_findOrAddConstant_46 : decode cX4_findOrAddConstant 46 = .ok (.lload 4, 2) := by decide +kernel
theorem dX4_findOrAddConstant_48 : decode cX4_findOrAddConstant 48 = .ok (.lcmp, 1) := by decide +kernel
theorem dX4_findOrAddConstant_49 : decode cX4_findOrAddConstant 49 = .ok (.ifCond .ne 6, 3) := by decide +kernel
theorem dX4_findOrAddConstant_52 : decode cX4_findOrAddConstant 52 = .ok (.iload 6, 2) := by decide +kernel
theorem dX4_findOrAddConstant_54 : decode cX4_findOrAddConstant 54 = .ok (.ireturn, 1) := by decide +kernel
theorem dX4_findOrAddConstant_55 : decode cX4_findOrAddConstant 55 = .ok (.iinc 6 1, 3) := by decide +kernel
theorem dX4_findOrAddConstant_58 : decode cX4_findOrAddConstant 58 = .ok (.goto (-48), 3) := by decide +kernel
theorem dX4_findOrAddConstant_61 : decode cX4_findOrAddConstant 61 = .ok (.aload_n 0, 1) := by decide +kernel
theorem dX4_findOrAddConstant_62 : decode cX4_findOrAddConstant 62 = .ok (.invokevirtual 51, 3) := by decide +kernel
theorem dX4_findOrAddConstant_65 : decode cX4_findOrAddConstant 65 = .ok (.ifCond .eq 6, 3) := by decide +kernel
theorem dX4_findOrAddConstant_68 : decode cX4_findOrAddConstant 68 = .ok (.bipush (-2), 2) := by decide +kernel
theorem dX4_findOrAddConstant_70 : decode cX4_findOrAddConstant 70 = .ok (.ireturn, 1) := by decide +kernel
theorem dX4_findOrAddConstant_71 : decode cX4_findOrAddConstant 71 = .ok (.aload_n 0, 1) := by decide +kernel
theorem dX4_findOrAddConstant_72 : decode cX4_findOrAddConstant 72 = .ok (.bipush 21, 2) := by decide +kernel
theorem dX4_findOrAddConstant_74 : decode cX4_findOrAddConstant 74 = .ok (.iload_n 1, 1) := by decide +kernel
theorem dX4_findOrAddConstant_75 : decode cX4_findOrAddConstant 75 = .ok (.invokevirtual 41, 3) := by decide +kernel
theorem dX4_findOrAddConstant_78 : decode cX4_findOrAddConstant 78 = .ok (.istore 6, 2) := by decide +kernel
theorem dX4_findOrAddConstant_80 : decode cX4_findOrAddConstant 80 = .ok (.aload_n 0, 1) := by decide +kernel
theorem dX4_findOrAddConstant_81 : decode cX4_findOrAddConstant 81 = .ok (.getfield 24, 3) := by decide +kernel
theorem dX4_findOrAddConstant_84 : decode cX4_findOrAddConstant 84 = .ok (.iload 6, 2) := by decide +kernel
theorem dX4_findOrAddConstant_86 : decode cX4_findOrAddConstant 86 = .ok (.lload 4, 2) := by decide +kernel
theorem dX4_findOrAddConstant_88 : decode cX4_findOrAddConstant 88 = .ok (.lastore, 1) := by decide +kernel
theorem dX4_findOrAddConstant_89 : decode cX4_findOrAddConstant 89 = .ok (.iload 6, 2) := by decide +kernel
theorem dX4_findOrAddConstant_91 : decode cX4_findOrAddConstant 91 = .ok (.ireturn, 1) := by decide +kernel
def fx_Terms_findOrAddConstant_L10 (st : XS) (w : Int32) (x : Int64) : Nat → Nat → Int32 × XS
  | 0, i => (0, st)
  | n + 1, i => 
    if gI st 6 ≤ nI i then 
      if fx_Terms_isFull st = (0 : Int32) then (((fx_Terms_addPlain st (21 : Int32) w).1), wL (((fx_Terms_addPlain st (21 : Int32) w).2)) 1 ((((fx_Terms_addPlain st (21 : Int32) w).1)).toNatClampNeg) (fx_Width_readSigned w x))
      else ((-2 : Int32), st)
    else 
      if fx_Terms_isConstant st (nI i) = (0 : Int32) then fx_Terms_findOrAddConstant_L10 st w x n (i + 1)
      else 
        if fA st 4 (nI i).toNatClampNeg = w then 
          if lg_cmp (fL st 1 (nI i).toNatClampNeg) (fx_Width_readSigned w x) = (0 : Int32) then (nI i, st)
          else fx_Terms_findOrAddConstant_L10 st w x n (i + 1)
        else fx_Terms_findOrAddConstant_L10 st w x n (i + 1)
def fx_Terms_findOrAddConstant (st : XS) (w : Int32) (x : Int64) : Int32 × XS := fx_Terms_findOrAddConstant_L10 st w x 65 0
theorem fr_Terms_findOrAddConstant_L10 (st : XS) (w : Int32) (x : Int64) : ∀ (n : Nat) (i : Nat), XF [6] [3, 4] [1] st (fx_Terms_findOrAddConstant_L10 st w x n i).2 := by
  intro n
  induction n with
  | zero => intro i; exact XF.rf
  | succ n ih =>
    intro i
    rw [fx_Terms_findOrAddConstant_L10]
    exact (wl_ite (P := fun (q : Int32 × XS) => XF [6] [3, 4] [1] _ (q.2)) (wl_ite (P := fun (q : Int32 × XS) => XF [6] [3, 4] [1] _ (q.2)) (XF.wL (by decide) (XF.tr XF.rf (XF.mono (ff_Terms_addPlain _ _ _) (by decide) (by decide) (by decide)))) XF.rf) (wl_ite (P := fun (q : Int32 × XS) => XF [6] [3, 4] [1] _ (q.2)) (ih _) (wl_ite (P := fun (q : Int32 × XS) => XF [6] [3, 4] [1] _ (q.2)) (wl_ite (P := fun (q : Int32 × XS) => XF [6] [3, 4] [1] _ (q.2)) XF.rf (ih _)) (ih _))))
theorem ff_Terms_findOrAddConstant (st : XS) (w : Int32) (x : Int64) : XF [6] [3, 4] [1] st (fx_Terms_findOrAddConstant st w x).2 := by
  rw [fx_Terms_findOrAddConstant]
  exact (fr_Terms_findOrAddConstant_L10 _ _ _ _ _)
set_option maxHeartbeats 4000000 in
set_option maxRecDepth 100000 in
theorem kx_Terms_findOrAddConstant (l : Launch) (dC : Nat → ClassId) (dI : Nat → Nat → Nat) (a : Nat → Nat) (k : Nat → ClassId) (st : XS) (w : Int32) (x : Int64) (sz : Nat) (N : Nat) (hN : gI st 6 = nI N) (h64 : N ≤ 64) : Met l yX4_findOrAddConstant wsX4_findOrAddConstant ({ frames := 1, cells := 0, slots := 0, locals := 23 }) (va_Pc [.ref (a 7), .int w, .long x] (wl_pre (dC, dI) vwCl (xt k) (xw a k) st sz)) (va_Qi (fun r9 u9 => (r9, u9) = fx_Terms_findOrAddConstant st w x) (wl_at (dC, dI) vwCl (xt k) (xw a k) (va_A (xw a k st) sz)) (va_A (xw a k st) sz)) 0 0 (va_A (xw a k st) sz) := by
  refine Met.ofW (cc := cX4_findOrAddConstant) (maxL := 7) (ret := (some .int)) (by decide) rfl ?_
  intro p e s m args below meth c s₁ B hml hv
  obtain ⟨rfl, hsz, hP, hK, hD0⟩ := hv
  have hx := B.exec
  have hb := B.bytes
  have hr := B.returns
  have hta := aw_hts (atoms_spec (ws := wsX4_findOrAddConstant) B.pre)
  have hown : s.vm.findClass RX4 = some m.cls := findClass_of_methodNamed B.named
  have hlocks := B.notSynchronized
  have hf28 := hta _ mw_104
  have hf24 := hta _ mw_103
  have hf15 := hta _ mw_100
  subst hsz
  have hD := hD0.self (sz := s.heap.size)
  generalize hAe : va_A (xw a k st) s.heap.size = A at hD ⊢
  have hAz : ∀ q : Nat, s.heap.size ≤ q → A q := fun q h => by rw [← hAe]; exact Or.inr h
  have hS : va_S A s.heap s.heap [] := va_S.rf
  have hl := lv_entry ([.ref (a 7), .int w, .long x]) (n := 7) (Nat.le_of_ble_eq_true rfl)
  rw [lg_entry_eq]
  generalize (lg_sl ([.ref (a 7), .int w, .long x]) ++ List.replicate (7 - (lg_sl ([.ref (a 7), .int w, .long x])).length) Slot.unset).toArray = ls at hl ⊢
  have hl : lv_has ls 7 [(0, .ref (a 7)), (1, .int w), (2, .long x)] := hl
  generalize hR : fx_Terms_findOrAddConstant st w x = R
  rw [fx_Terms_findOrAddConstant] at hR
  refine lv_iload_n hx hb dX4_findOrAddConstant_0 rfl (lv_at hl 1 rfl) ?_
  refine lv_lload_n hx hb dX4_findOrAddConstant_1 rfl (lv_at hl 2 rfl) ?_
  refine wl_cl (va_runS (As := [.int w, .long x]) (rest := []) ⟨hx, hb, hml, hown, hta⟩ (kx_Width_readSigned l w x) (va_cwS 2 hta gX4_45 rfl rfl rfl (by decide +kernel) ⟨Nat.le_of_ble_eq_true rfl, Nat.le_of_ble_eq_true rfl⟩) preEq rfl rfl hl.1 rfl (lv_room (Nat.le_of_ble_eq_true rfl)) dX4_findOrAddConstant_2 ⟨Nat.zero_le _, Nat.zero_le _⟩) ?_
  refine lv_lstore (lv' := [(4, .long (fx_Width_readSigned w x)), (0, .ref (a 7)), (1, .int w), (2, .long x)]) hx hb dX4_findOrAddConstant_5 hl (by decide) rfl (fun ls hl => ?_)
  refine lv_iconst (v := (0 : Int32)) hx hb dX4_findOrAddConstant_7 (by decide) ?_
  refine lv_istore (lv' := [(6, .int (0 : Int32)), (4, .long (fx_Width_readSigned w x)), (0, .ref (a 7)), (1, .int w), (2, .long x)]) hx hb dX4_findOrAddConstant_8 hl (by decide) rfl (fun ls hl => ?_)
  have L10 : ∀ (n : Nat) (i : Nat) (H : Heap) (locs : List Loc) (ls : Array Slot), fx_Terms_findOrAddConstant_L10 st w x n i = R → (i ≤ N) → N - i < n → va_P (dC, dI) vwCl (xw a k st) H → va_D A (xw a k st) → va_S A s.heap H locs → lv_has ls 7 [(6, .int (nI i)), (4, .long (fx_Width_readSigned w x)), (0, .ref (a 7)), (1, .int w), (2, .long x)] → W p l e (headSpec wsX4_findOrAddConstant ({ frames := 1, cells := 0, slots := 0, locals := 23 })).room s m ([.ref (a 7), .int w, .long x] : List Value).toArray below meth c H locs 0 0 (MQ below (va_Qi (fun r9 u9 => (r9, u9) = R) (wl_at (dC, dI) vwCl (xt k) (xw a k) A) A) ([.ref (a 7), .int w, .long x] : List Value).toArray s 0 0 A) (F0 m 10 ls []) := by
    intro n
    induction n with
    | zero =>
      intro i H locs ls hR hi hm hP hD hS hl
      exact absurd hm (Nat.not_lt_zero _)
    | succ n ih =>
      intro i H locs ls hR hi hm hP hD hS hl
      rw [fx_Terms_findOrAddConstant_L10] at hR
      refine lv_iload hx hb dX4_findOrAddConstant_10 (lv_at hl 0 rfl) ?_
      refine lv_aload_n hx hb dX4_findOrAddConstant_12 rfl (lv_at hl 2 rfl) ?_
      refine va_get (D := (dC, dI)) (ci := 2) (v := .int (gI st 6)) (C := RX4) (T := TX4) (N := 7) hx hb hta inX4 hown hK hP 7 (xr_7 a k st) rfl 5 (by decide) hf28 (fun _ h9 => h9) rfl dX4_findOrAddConstant_13 ?_
      refine lv_icmp_ge (tgt := 61) hx hb dX4_findOrAddConstant_16 (by decide) (fun c16 => ?_) (fun c16 => ?_)
      · skip
        rw [if_pos c16] at hR
        refine lv_aload_n hx hb dX4_findOrAddConstant_61 rfl (lv_at hl 2 rfl) ?_
        refine wl_ci (va_runV (As := []) (rest := []) ⟨hx, hb, hml, hown, hta⟩ (kx_Terms_isFull l dC dI a k st) (cwV 0 hta gX4_51 rfl rfl rfl (by decide +kernel) ⟨Nat.le_of_ble_eq_true rfl, Nat.le_of_ble_eq_true rfl⟩) (wl_pR (C := RX4) (ci := 2) (q0 := 7) hK hP rfl (xr_7 a k st)) rfl rfl hl.1 rfl (lv_room (Nat.le_of_ble_eq_true rfl)) dX4_findOrAddConstant_62 ⟨Nat.zero_le _, Nat.zero_le _⟩) ?_
        refine lv_if_eq (tgt := 71) hx hb dX4_findOrAddConstant_65 (by decide) (fun c65 => ?_) (fun c65 => ?_)
        · skip
          rw [if_pos c65] at hR
          refine lv_aload_n hx hb dX4_findOrAddConstant_71 rfl (lv_at hl 2 rfl) ?_
          refine lv_bipush (v := (21 : Int32)) hx hb dX4_findOrAddConstant_72 (by decide) ?_
          refine lv_iload_n hx hb dX4_findOrAddConstant_74 rfl (lv_at hl 3 rfl) ?_
          refine wl_mi (va_runV (As := [.int (21 : Int32), .int w]) (rest := []) ⟨hx, hb, hml, hown, hta⟩ (kx_Terms_addPlain l dC dI a k st (21 : Int32) w _ (wl_isFull hN h64 c65)) (cwV 2 hta gX4_41 rfl rfl rfl (by decide +kernel) ⟨Nat.le_of_ble_eq_true rfl, Nat.le_of_ble_eq_true rfl⟩) (wl_pM (C := RX4) (ci := 2) (q0 := 7) hK hP hD rfl (xr_7 a k st)) rfl rfl hl.1 rfl (lv_room (Nat.le_of_ble_eq_true rfl)) dX4_findOrAddConstant_75 ⟨Nat.zero_le _, Nat.zero_le _⟩) hP hD hS hAz (fun r75 u75 H locs hw75 hP hD hS => ?_)
          have v75 : (fx_Terms_addPlain st (21 : Int32) w).1 = r75 := congrArg Prod.fst hw75.symm
          have w75 : (fx_Terms_addPlain st (21 : Int32) w).2 = u75 := congrArg Prod.snd hw75.symm
          have hf75 : XF [6] [3, 4] [] st u75 := by rw [← w75]; exact ff_Terms_addPlain st (21 : Int32) w
          try rw [v75] at hR
          try rw [w75] at hR
          refine lv_istore (lv' := [(6, .int (r75)), (4, .long (fx_Width_readSigned w x)), (0, .ref (a 7)), (1, .int w), (2, .long x)]) hx hb dX4_findOrAddConstant_78 hl (by decide) rfl (fun ls hl => ?_)
          refine lv_aload_n hx hb dX4_findOrAddConstant_80 rfl (lv_at hl 2 rfl) ?_
          refine va_get (D := (dC, dI)) (ci := 2) (v := .ref (a 12)) (C := RX4) (T := TX4) (N := 7) hx hb hta inX4 hown hK hP 7 (xr_7 a k (u75)) rfl 4 (by decide) hf24 (fun _ h9 => h9) rfl dX4_findOrAddConstant_81 ?_
          refine lv_iload hx hb dX4_findOrAddConstant_84 (lv_at hl 0 rfl) ?_
          refine lv_lload hx hb dX4_findOrAddConstant_86 (lv_at hl 1 rfl) ?_
          refine va_last hx hb hK hP hD hS 12 8 (xr_12 a k (u75)) rfl (by rw [← v75]; exact wl_isFull hN h64 c65) dX4_findOrAddConstant_88 (fun H locs hP hD hS => ?_)
          have hP := xp_L1 hP
          have hD := xd_L1 hD
          refine lv_iload hx hb dX4_findOrAddConstant_89 (lv_at hl 0 rfl) ?_
          exact W.iret (v := r75) hx hb hr (fun t ht hW => ⟨⟨_, _, rfl, hR, by rw [ht]; exact hP, va_K.moved hW.alike hK, hD⟩, hS.F ht⟩) hS.2.2 dX4_findOrAddConstant_91
        · skip
          rw [if_neg c65] at hR
          refine lv_bipush (v := (-2 : Int32)) hx hb dX4_findOrAddConstant_68 (by decide) ?_
          exact W.iret (v := (-2 : Int32)) hx hb hr (fun t ht hW => ⟨⟨_, _, rfl, hR, by rw [ht]; exact hP, va_K.moved hW.alike hK, hD⟩, hS.F ht⟩) hS.2.2 dX4_findOrAddConstant_70
      · skip
        rw [if_neg c16] at hR
        have hlt : i < N := wl_lt (by rw [← hN]; exact c16) (by omega)
        refine lv_aload_n hx hb dX4_findOrAddConstant_19 rfl (lv_at hl 2 rfl) ?_
        refine lv_iload hx hb dX4_findOrAddConstant_20 (lv_at hl 0 rfl) ?_
        refine wl_ci (va_runV (As := [.int (nI i)]) (rest := []) ⟨hx, hb, hml, hown, hta⟩ (kx_Terms_isConstant l dC dI a k st (nI i) (wl_in (by omega) (by decide))) (cwV 1 hta gX4_37 rfl rfl rfl (by decide +kernel) ⟨Nat.le_of_ble_eq_true rfl, Nat.le_of_ble_eq_true rfl⟩) (wl_pR (C := RX4) (ci := 2) (q0 := 7) hK hP rfl (xr_7 a k st)) rfl rfl hl.1 rfl (lv_room (Nat.le_of_ble_eq_true rfl)) dX4_findOrAddConstant_22 ⟨Nat.zero_le _, Nat.zero_le _⟩) ?_
        refine lv_if_eq (tgt := 55) hx hb dX4_findOrAddConstant_25 (by decide) (fun c25 => ?_) (fun c25 => ?_)
        · skip
          rw [if_pos c25] at hR
          refine lv_iinc (v := nI (i + 1)) (lv' := [(6, .int (nI (i + 1))), (4, .long (fx_Width_readSigned w x)), (0, .ref (a 7)), (1, .int w), (2, .long x)]) hx hb dX4_findOrAddConstant_55 hl (k := 0) rfl (nI_1 _) (by decide) rfl (fun ls hl => ?_)
          refine lv_goto (tgt := 10) hx hb dX4_findOrAddConstant_58 (by decide) ?_
          exact ih (i + 1) _ _ ls hR (by omega) (by omega) hP hD hS (lv_sub hl [0, 1, 2, 3, 4] rfl)
        · skip
          rw [if_neg c25] at hR
          refine lv_aload_n hx hb dX4_findOrAddConstant_28 rfl (lv_at hl 2 rfl) ?_
          refine va_get (D := (dC, dI)) (ci := 2) (v := .ref (a 9)) (C := RX4) (T := TX4) (N := 7) hx hb hta inX4 hown hK hP 7 (xr_7 a k st) rfl 1 (by decide) hf15 (fun _ h9 => h9) rfl dX4_findOrAddConstant_29 ?_
          refine lv_iload hx hb dX4_findOrAddConstant_32 (lv_at hl 0 rfl) ?_
          refine va_iald hx hb hK hP 9 5 (xr_9 a k st) rfl (wl_in (by omega) (by decide)) dX4_findOrAddConstant_34 ?_
          refine lv_iload_n hx hb dX4_findOrAddConstant_35 rfl (lv_at hl 3 rfl) ?_
          refine lv_icmp_ne (tgt := 55) hx hb dX4_findOrAddConstant_36 (by decide) (fun c36 => ?_) (fun c36 => ?_)
          · skip
            rw [if_neg c36] at hR
            refine lv_iinc (v := nI (i + 1)) (lv' := [(6, .int (nI (i + 1))), (4, .long (fx_Width_readSigned w x)), (0, .ref (a 7)), (1, .int w), (2, .long x)]) hx hb dX4_findOrAddConstant_55 hl (k := 0) rfl (nI_1 _) (by decide) rfl (fun ls hl => ?_)
            refine lv_goto (tgt := 10) hx hb dX4_findOrAddConstant_58 (by decide) ?_
            exact ih (i + 1) _ _ ls hR (by omega) (by omega) hP hD hS (lv_sub hl [0, 1, 2, 3, 4] rfl)
          · skip
            rw [if_pos c36] at hR
            refine lv_aload_n hx hb dX4_findOrAddConstant_39 rfl (lv_at hl 2 rfl) ?_
            refine va_get (D := (dC, dI)) (ci := 2) (v := .ref (a 12)) (C := RX4) (T := TX4) (N := 7) hx hb hta inX4 hown hK hP 7 (xr_7 a k st) rfl 4 (by decide) hf24 (fun _ h9 => h9) rfl dX4_findOrAddConstant_40 ?_
            refine lv_iload hx hb dX4_findOrAddConstant_43 (lv_at hl 0 rfl) ?_
            refine va_lald hx hb hK hP 12 8 (xr_12 a k st) rfl (wl_in (by omega) (by decide)) dX4_findOrAddConstant_45 ?_
            refine lv_lload hx hb dX4_findOrAddConstant_46 (lv_at hl 1 rfl) ?_
            refine W.lcmp hx hb dX4_findOrAddConstant_48 ?_
            refine lv_if_ne (tgt := 55) hx hb dX4_findOrAddConstant_49 (by decide) (fun c49 => ?_) (fun c49 => ?_)
            · skip
              rw [if_neg c49] at hR
              refine lv_iinc (v := nI (i + 1)) (lv' := [(6, .int (nI (i + 1))), (4, .long (fx_Width_readSigned w x)), (0, .ref (a 7)), (1, .int w), (2, .long x)]) hx hb dX4_findOrAddConstant_55 hl (k := 0) rfl (nI_1 _) (by decide) rfl (fun ls hl => ?_)
              refine lv_goto (tgt := 10) hx hb dX4_findOrAddConstant_58 (by decide) ?_
              exact ih (i + 1) _ _ ls hR (by omega) (by omega) hP hD hS (lv_sub hl [0, 1, 2, 3, 4] rfl)
            · skip
              rw [if_pos c49] at hR
              refine lv_iload hx hb dX4_findOrAddConstant_52 (lv_at hl 0 rfl) ?_
              exact W.iret (v := nI i) hx hb hr (fun t ht hW => ⟨⟨_, _, rfl, hR, by rw [ht]; exact hP, va_K.moved hW.alike hK, hD⟩, hS.F ht⟩) hS.2.2 dX4_findOrAddConstant_54
  exact L10 65 0 _ _ ls hR (Nat.zero_le _) (by omega) hP hD hS (lv_sub hl [0, 1, 2, 3, 4] rfl)

theorem mw_430 : (.code yX4_operandOf cX4_operandOf 3 (some .int) : Cond) ∈ AW := List.mem_filter.mpr ⟨List.mem_of_getElem? (i := 430) (by decide +kernel), rfl⟩
theorem mw_435 : (.methodLink RX4 55 yX4_operandOf : Cond) ∈ AW := List.mem_filter.mpr ⟨List.mem_of_getElem? (i := 435) (by decide +kernel), rfl⟩
theorem mw_428 : (.instanceMethod yX4_operandOf : Cond) ∈ AW := List.mem_filter.mpr ⟨List.mem_of_getElem? (i := 428) (by decide +kernel), rfl⟩
theorem mw_429 : (.selects RX4 yX4_operandOf yX4_operandOf : Cond) ∈ AW := List.mem_filter.mpr ⟨List.mem_of_getElem? (i := 429) (by decide +kernel), rfl⟩
theorem gX4_55 : GoodIn AW (wsV RX4 55 RX4 yX4_operandOf wsX4_operandOf) := aw_V mw_435 mw_428 mw_429 mw_41 mw_430
theorem dX4_find_0 : decode cX4_find 0 = .ok (.iconst 0, 1) := by decide +kernel
theorem dX4_find_1 : decode cX4_find 1 = .ok (.istore 5, 2) := by decide +kernel
theorem dX4_find_3 : decode cX4_find 3 = .ok (.iload 5, 2) := by decide +kernel
theorem dX4_find_5 : decode cX4_find 5 = .ok (.aload_n 0, 1) := by decide +kernel
theorem dX4_find_6 : decode cX4_find 6 = .ok (.getfield 28, 3) := by decide +kernel
theorem dX4_find_9 : decode cX4_find 9 = .ok (.if_icmp .ge 57, 3) := by decide +kernel
theorem dX4_find_12 : decode cX4_find 12 = .ok (.aload_n 0, 1) := by decide +kernel
theorem dX4_find_13 : decode cX4_find 13 = .ok (.getfield 11, 3) := by decide +kernel
theorem dX4_find_16 : decode cX4_find 16 = .ok (.iload 5, 2) := by decide +kernel
theorem dX4_find_18 : decode cX4_find 18 = .ok (.iaload, 1) := by decide +kernel
theorem dX4_find_19 : decode cX4_find 19 = .ok (.iload_n 1, 1) := by decide +kernel
theorem dX4_find_20 : decode cX4_find 20 = .ok (.if_icmp .ne 40, 3) := by decide +kernel
theorem dX4_find_23 : decode cX4_find 23 = .ok (.aload_n 0, 1) := by decide +kernel
theorem dX4_find_24 : decode cX4_find 24 = .ok (.iload 5, 2) := by decide +kernel
theorem dX4_find_26 : decode cX4_find 26 = .ok (.iconst 0, 1) := by decide +kernel
theorem dX4_find_27 : decode cX4_find 27 = .ok (.invokevirtual 55, 3) := by decide +kernel
theorem dX4_find_30 : decode cX4_find 30 = .ok (.iload_n 2, 1) := by decide +kernel
theorem dX4_find_31 : decode cX4_find 31 = .ok (.if_icmp .ne 29, 3) := by decide +kernel
theorem dX4_find_34 : decode cX4_find 34 = .ok (.aload_n 0, 1) := by decide +kernel
theorem dX4_find_35 : decode cX4_find 35 = .ok (.iload 5, 2) := by decide +kernel
theorem dX4_find_37 : decode cX4_find 37 = .ok (.iconst 1, 1) := by decide +kernel
theorem dX4_find_38 : decode cX4_find 38 = .ok (.invokevirtual 55, 3) := by decide +kernel
theorem dX4_find_41 : decode cX4_find 41 = .ok (.iload_n 3, 1) := by decide +kernel
theorem dX4_find_42 : decode cX4_find 42 = .ok (.if_icmp .ne 18, 3) := by decide +kernel
theorem dX4_find_45 : decode cX4_find 45 = .ok (.aload_n 0, 1) := by decide +kernel
theorem dX4_find_46 : decode cX4_find 46 = .ok (.iload 5, 2) := by decide +kernel
theorem dX4_find_48 : decode cX4_find 48 = .ok (.iconst 2, 1) := by decide +kernel
theorem dX4_find_49 : decode cX4_find 49 = .ok (.invokevirtual 55, 3) := by decide +kernel
theorem dX4_find_52 : decode cX4_find 52 = .ok (.iload 4, 2) := by decide +kernel
theorem dX4_find_54 : decode cX4_find 54 = .ok (.if_icmp .ne 6, 3) := by decide +kernel
theorem dX4_find_57 : decode cX4_find 57 = .ok (.iload 5, 2) := by decide +kernel
theorem dX4_find_59 : decode cX4_find 59 = .ok (.ireturn, 1) := by decide +kernel
theorem dX4_find_60 : decode cX4_find 60 = .ok (.iinc 5 1, 3) := by decide +kernel
theorem dX4_find_63 : decode cX4_find 63 = .ok (.goto (-60), 3) := by decide +kernel
theorem dX4_find_66 : decode cX4_find 66 = .ok (.bipush (-3), 2) := by decide +kernel
theorem dX4_find_68 : decode cX4_find 68 = .ok (.ireturn, 1) := by decide +kernel
def fx_Terms_find_L3 (st : XS) (o : Int32) (a1 : Int32) (b1 : Int32) (c1 : Int32) : Nat → Nat → Int32
  | 0, i => 0
  | n + 1, i => 
    if gI st 6 ≤ nI i then (-3 : Int32)
    else 
      if fA st 3 (nI i).toNatClampNeg = o then 
        if fx_Terms_operandOf st (nI i) (0 : Int32) = a1 then 
          if fx_Terms_operandOf st (nI i) (1 : Int32) = b1 then 
            if fx_Terms_operandOf st (nI i) (2 : Int32) = c1 then nI i
            else fx_Terms_find_L3 st o a1 b1 c1 n (i + 1)
          else fx_Terms_find_L3 st o a1 b1 c1 n (i + 1)
        else fx_Terms_find_L3 st o a1 b1 c1 n (i + 1)
      else fx_Terms_find_L3 st o a1 b1 c1 n (i + 1)
def fx_Terms_find (st : XS) (o : Int32) (a1 : Int32) (b1 : Int32) (c1 : Int32) : Int32 := fx_Terms_find_L3 st o a1 b1 c1 65 0
set_option maxHeartbeats 4000000 in
set_option maxRecDepth 100000 in
theorem kx_Terms_find (l : Launch) (dC : Nat → ClassId) (dI : Nat → Nat → Nat) (a : Nat → Nat) (k : Nat → ClassId) (st : XS) (o : Int32) (a1 : Int32) (b1 : Int32) (c1 : Int32) (N : Nat) (hN : gI st 6 = nI N) (h64 : N ≤ 64) : Met l yX4_find wsX4_find ({ frames := 1, cells := 0, slots := 0, locals := 22 }) (va_Pc [.ref (a 7), .int o, .int a1, .int b1, .int c1] (wl_prR (dC, dI) vwCl (xt k) (xw a k st))) (vp_Si (fun r9 => r9 = fx_Terms_find st o a1 b1 c1)) 0 0 (fun _ => False) := by
  refine Met.ofW (cc := cX4_find) (maxL := 6) (ret := (some .int)) (by decide) rfl ?_
  intro p e s m args below meth c s₁ B hml hv
  obtain ⟨rfl, hP, hK⟩ := hv
  have hx := B.exec
  have hb := B.bytes
  have hr := B.returns
  have hta := aw_hts (atoms_spec (ws := wsX4_find) B.pre)
  have hown : s.vm.findClass RX4 = some m.cls := findClass_of_methodNamed B.named
  have hlocks := B.notSynchronized
  have hf28 := hta _ mw_104
  have hf11 := hta _ mw_99
  have hl := lv_entry ([.ref (a 7), .int o, .int a1, .int b1, .int c1]) (n := 6) (Nat.le_of_ble_eq_true rfl)
  rw [lg_entry_eq]
  generalize (lg_sl ([.ref (a 7), .int o, .int a1, .int b1, .int c1]) ++ List.replicate (6 - (lg_sl ([.ref (a 7), .int o, .int a1, .int b1, .int c1])).length) Slot.unset).toArray = ls at hl ⊢
  have hl : lv_has ls 6 [(0, .ref (a 7)), (1, .int o), (2, .int a1), (3, .int b1), (4, .int c1)] := hl
  generalize hR : fx_Terms_find st o a1 b1 c1 = R
  rw [fx_Terms_find] at hR
  refine lv_iconst (v := (0 : Int32)) hx hb dX4_find_0 (by decide) ?_
  refine lv_istore (lv' := [(5, .int (0 : Int32)), (0, .ref (a 7)), (1, .int o), (2, .int a1), (3, .int b1), (4, .int c1)]) hx hb dX4_find_1 hl (by decide) rfl (fun ls hl => ?_)
  have L3 : ∀ (n : Nat) (i : Nat) (ls : Array Slot), fx_Terms_find_L3 st o a1 b1 c1 n i = R → (i ≤ N) → N - i < n → lv_has ls 6 [(5, .int (nI i)), (0, .ref (a 7)), (1, .int o), (2, .int a1), (3, .int b1), (4, .int c1)] → W p l e (headSpec wsX4_find ({ frames := 1, cells := 0, slots := 0, locals := 22 })).room s m ([.ref (a 7), .int o, .int a1, .int b1, .int c1] : List Value).toArray below meth c s.heap [] 0 0 (MQ below (vp_Si (fun r9 => r9 = R)) ([.ref (a 7), .int o, .int a1, .int b1, .int c1] : List Value).toArray s 0 0 (fun _ => False)) (F0 m 3 ls []) := by
    intro n
    induction n with
    | zero =>
      intro i ls hR hi hm hl
      exact absurd hm (Nat.not_lt_zero _)
    | succ n ih =>
      intro i ls hR hi hm hl
      rw [fx_Terms_find_L3] at hR
      refine lv_iload hx hb dX4_find_3 (lv_at hl 0 rfl) ?_
      refine lv_aload_n hx hb dX4_find_5 rfl (lv_at hl 1 rfl) ?_
      refine va_get (D := (dC, dI)) (ci := 2) (v := .int (gI st 6)) (C := RX4) (T := TX4) (N := 7) hx hb hta inX4 hown hK hP 7 (xr_7 a k st) rfl 5 (by decide) hf28 (fun _ h9 => h9) rfl dX4_find_6 ?_
      refine lv_icmp_ge (tgt := 66) hx hb dX4_find_9 (by decide) (fun c9 => ?_) (fun c9 => ?_)
      · skip
        rw [if_pos c9] at hR
        refine lv_bipush (v := (-3 : Int32)) hx hb dX4_find_66 (by decide) ?_
        exact W.iret (v := (-3 : Int32)) hx hb hr (fun t ht hW => ⟨_, rfl, hR, ht⟩) (fun q h => by cases h) dX4_find_68
      · skip
        rw [if_neg c9] at hR
        have hlt : i < N := wl_lt (by rw [← hN]; exact c9) (by omega)
        refine lv_aload_n hx hb dX4_find_12 rfl (lv_at hl 1 rfl) ?_
        refine va_get (D := (dC, dI)) (ci := 2) (v := .ref (a 8)) (C := RX4) (T := TX4) (N := 7) hx hb hta inX4 hown hK hP 7 (xr_7 a k st) rfl 0 (by decide) hf11 (fun _ h9 => h9) rfl dX4_find_13 ?_
        refine lv_iload hx hb dX4_find_16 (lv_at hl 0 rfl) ?_
        refine va_iald hx hb hK hP 8 4 (xr_8 a k st) rfl (wl_in (by omega) (by decide)) dX4_find_18 ?_
        refine lv_iload_n hx hb dX4_find_19 rfl (lv_at hl 2 rfl) ?_
        refine lv_icmp_ne (tgt := 60) hx hb dX4_find_20 (by decide) (fun c20 => ?_) (fun c20 => ?_)
        · skip
          rw [if_neg c20] at hR
          refine lv_iinc (v := nI (i + 1)) (lv' := [(5, .int (nI (i + 1))), (0, .ref (a 7)), (1, .int o), (2, .int a1), (3, .int b1), (4, .int c1)]) hx hb dX4_find_60 hl (k := 0) rfl (nI_1 _) (by decide) rfl (fun ls hl => ?_)
          refine lv_goto (tgt := 3) hx hb dX4_find_63 (by decide) ?_
          exact ih (i + 1) ls hR (by omega) (by omega) (lv_sub hl [0, 1, 2, 3, 4, 5] rfl)
        · skip
          rw [if_pos c20] at hR
          refine lv_aload_n hx hb dX4_find_23 rfl (lv_at hl 1 rfl) ?_
          refine lv_iload hx hb dX4_find_24 (lv_at hl 0 rfl) ?_
          refine lv_iconst (v := (0 : Int32)) hx hb dX4_find_26 (by decide) ?_
          refine wl_ci (va_runV (As := [.int (nI i), .int (0 : Int32)]) (rest := []) ⟨hx, hb, hml, hown, hta⟩ (kx_Terms_operandOf l dC dI a k st (nI i) (0 : Int32) (wl_i3 0 (by omega) (by decide))) (cwV 2 hta gX4_55 rfl rfl rfl (by decide +kernel) ⟨Nat.le_of_ble_eq_true rfl, Nat.le_of_ble_eq_true rfl⟩) (wl_pR (C := RX4) (ci := 2) (q0 := 7) hK hP rfl (xr_7 a k st)) rfl rfl hl.1 rfl (lv_room (Nat.le_of_ble_eq_true rfl)) dX4_find_27 ⟨Nat.zero_le _, Nat.zero_le _⟩) ?_
          refine lv_iload_n hx hb dX4_find_30 rfl (lv_at hl 3 rfl) ?_
          refine lv_icmp_ne (tgt := 60) hx hb dX4_find_31 (by decide) (fun c31 => ?_) (fun c31 => ?_)
          · skip
            rw [if_neg c31] at hR
            refine lv_iinc (v := nI (i + 1)) (lv' := [(5, .int (nI (i + 1))), (0, .ref (a 7)), (1, .int o), (2, .int a1), (3, .int b1), (4, .int c1)]) hx hb dX4_find_60 hl (k := 0) rfl (nI_1 _) (by decide) rfl (fun ls hl => ?_)
            refine lv_goto (tgt := 3) hx hb dX4_find_63 (by decide) ?_
            exact ih (i + 1) ls hR (by omega) (by omega) (lv_sub hl [0, 1, 2, 3, 4, 5] rfl)
          · skip
            rw [if_pos c31] at hR
            refine lv_aload_n hx hb dX4_find_34 rfl (lv_at hl 1 rfl) ?_
            refine lv_iload hx hb dX4_find_35 (lv_at hl 0 rfl) ?_
            refine lv_iconst (v := (1 : Int32)) hx hb dX4_find_37 (by decide) ?_
            refine wl_ci (va_runV (As := [.int (nI i), .int (1 : Int32)]) (rest := []) ⟨hx, hb, hml, hown, hta⟩ (kx_Terms_operandOf l dC dI a k st (nI i) (1 : Int32) (wl_i3 1 (by omega) (by decide))) (cwV 2 hta gX4_55 rfl rfl rfl (by decide +kernel) ⟨Nat.le_of_ble_eq_true rfl, Nat.le_of_ble_eq_true rfl⟩) (wl_pR (C := RX4) (ci := 2) (q0 := 7) hK hP rfl (xr_7 a k st)) rfl rfl hl.1 rfl (lv_room (Nat.le_of_ble_eq_true rfl)) dX4_find_38 ⟨Nat.zero_le _, Nat.zero_le _⟩) ?_
            refine lv_iload_n hx hb dX4_find_41 rfl (lv_at hl 4 rfl) ?_
            refine lv_icmp_ne (tgt := 60) hx hb dX4_find_42 (by decide) (fun c42 => ?_) (fun c42 => ?_)
            · skip
              rw [if_neg c42] at hR
              refine lv_iinc (v := nI (i + 1)) (lv' := [(5, .int (nI (i + 1))), (0, .ref (a 7)), (1, .int o), (2, .int a1), (3, .int b1), (4, .int c1)]) hx hb dX4_find_60 hl (k := 0) rfl (nI_1 _) (by decide) rfl (fun ls hl => ?_)
              refine lv_goto (tgt := 3) hx hb dX4_find_63 (by decide) ?_
              exact ih (i + 1) ls hR (by omega) (by omega) (lv_sub hl [0, 1, 2, 3, 4, 5] rfl)
            · skip
              rw [if_pos c42] at hR
              refine lv_aload_n hx hb dX4_find_45 rfl (lv_at hl 1 rfl) ?_
              refine lv_iload hx hb dX4_find_46 (lv_at hl 0 rfl) ?_
              refine lv_iconst (v := (2 : Int32)) hx hb dX4_find_48 (by decide) ?_
              refine wl_ci (va_runV (As := [.int (nI i), .int (2 : Int32)]) (rest := []) ⟨hx, hb, hml, hown, hta⟩ (kx_Terms_operandOf l dC dI a k st (nI i) (2 : Int32) (wl_i3 2 (by omega) (by decide))) (cwV 2 hta gX4_55 rfl rfl rfl (by decide +kernel) ⟨Nat.le_of_ble_eq_true rfl, Nat.le_of_ble_eq_true rfl⟩) (wl_pR (C := RX4) (ci := 2) (q0 := 7) hK hP rfl (xr_7 a k st)) rfl rfl hl.1 rfl (lv_room (Nat.le_of_ble_eq_true rfl)) dX4_find_49 ⟨Nat.zero_le _, Nat.zero_le _⟩) ?_
              refine lv_iload hx hb dX4_find_52 (lv_at hl 5 rfl) ?_
              refine lv_icmp_ne (tgt := 60) hx hb dX4_find_54 (by decide) (fun c54 => ?_) (fun c54 => ?_)
              · skip
                rw [if_neg c54] at hR
                refine lv_iinc (v := nI (i + 1)) (lv' := [(5, .int (nI (i + 1))), (0, .ref (a 7)), (1, .int o), (2, .int a1), (3, .int b1), (4, .int c1)]) hx hb dX4_find_60 hl (k := 0) rfl (nI_1 _) (by decide) rfl (fun ls hl => ?_)
                refine lv_goto (tgt := 3) hx hb dX4_find_63 (by decide) ?_
                exact ih (i + 1) ls hR (by omega) (by omega) (lv_sub hl [0, 1, 2, 3, 4, 5] rfl)
              · skip
                rw [if_pos c54] at hR
                refine lv_iload hx hb dX4_find_57 (lv_at hl 0 rfl) ?_
                exact W.iret (v := nI i) hx hb hr (fun t ht hW => ⟨_, rfl, hR, ht⟩) (fun q h => by cases h) dX4_find_59
  exact L3 65 0 ls hR (Nat.zero_le _) (by omega) (lv_sub hl [0, 1, 2, 3, 4, 5] rfl)

theorem wl_nmle (o : Int32) : fx_Op_namedTerms o ≤ (3 : Int32) := by
  rw [fx_Op_namedTerms, fx_Op_named]
  (repeat' split) <;> decide
theorem wl_lt3 {nm : Int32} {i : Nat} (hi : i ≤ 3) (hnm : nm ≤ (3 : Int32)) (c : ¬ nm ≤ nI i) : i < 3 := by
  rcases Nat.lt_or_ge i 3 with h | h
  · exact h
  · have e : i = 3 := by omega
    subst e
    exact absurd hnm c
theorem wl_nm3 {o : Int32} {i : Nat} (hi : i ≤ 3) (c : ¬ fx_Op_namedTerms o ≤ nI i) : i < 3 := wl_lt3 hi (wl_nmle o) c
theorem wl_opn {st : XS} {t j : Nat} (ht : t < 64) (hj : j < 3) : fx_Terms_operandOf st (nI t) (nI j) = fA st 5 (3 * t + j) := by
  rw [fx_Terms_operandOf, wl_c3 j ht hj]
theorem wl_ntr {st : XS} {t j : Nat} (ht : t < 64) (hj : j < 3) (h : vp_in (fA st 5 (3 * t + j)) 64) : vp_in (fx_Terms_operandOf st (nI t) (nI j)) 64 := by
  rw [wl_opn ht hj]; exact h

theorem dX4_widthOfResult_0 : decode cX4_widthOfResult 0 = .ok (.iload_n 1, 1) := by decide +kernel
theorem dX4_widthOfResult_1 : decode cX4_widthOfResult 1 = .ok (.tableswitch 54 13 19 #[43, 43, 43, 45, 52, 52, 52], 43) := by decide +kernel
theorem dX4_widthOfResult_44 : decode cX4_widthOfResult 44 = .ok (.iconst 1, 1) := by decide +kernel
theorem dX4_widthOfResult_45 : decode cX4_widthOfResult 45 = .ok (.ireturn, 1) := by decide +kernel
theorem dX4_widthOfResult_46 : decode cX4_widthOfResult 46 = .ok (.aload_n 0, 1) := by decide +kernel
theorem dX4_widthOfResult_47 : decode cX4_widthOfResult 47 = .ok (.getfield 15, 3) := by decide +kernel
theorem dX4_widthOfResult_50 : decode cX4_widthOfResult 50 = .ok (.iload_n 3, 1) := by decide +kernel
theorem dX4_widthOfResult_51 : decode cX4_widthOfResult 51 = .ok (.iaload, 1) := by decide +kernel
theorem dX4_widthOfResult_52 : decode cX4_widthOfResult 52 = .ok (.ireturn, 1) := by decide +kernel
theorem dX4_widthOfResult_53 : decode cX4_widthOfResult 53 = .ok (.iload_n 3, 1) := by decide +kernel
theorem dX4_widthOfResult_54 : decode cX4_widthOfResult 54 = .ok (.ireturn, 1) := by decide +kernel
theorem dX4_widthOfResult_55 : decode cX4_widthOfResult 55 = .ok (.aload_n 0, 1) := by decide +kernel
theorem dX4_widthOfResult_56 : decode cX4_widthOfResult 56 = .ok (.getfield 15, 3) := by decide +kernel
theorem dX4_widthOfResult_59 : decode cX4_widthOfResult 59 = .ok (.iload_n 2, 1) := by decide +kernel
theorem dX4_widthOfResult_60 : decode cX4_widthOfResult 60 = .ok (.iaload, 1) := by decide +kernel
theorem dX4_widthOfResult_61 : decode cX4_widthOfResult 61 = .ok (.ireturn, 1) := by decide +kernel
def fx_Terms_widthOfResult (st : XS) (o : Int32) (a1 : Int32) (b1 : Int32) : Int32 := 
  if o = (13 : Int32) then (1 : Int32)
  else 
    if o = (14 : Int32) then (1 : Int32)
    else 
      if o = (15 : Int32) then (1 : Int32)
      else 
        if o = (16 : Int32) then fA st 4 b1.toNatClampNeg
        else 
          if o = (17 : Int32) then b1
          else 
            if o = (18 : Int32) then b1
            else 
              if o = (19 : Int32) then b1
              else fA st 4 a1.toNatClampNeg
set_option maxHeartbeats 4000000 in
set_option maxRecDepth 100000 in
theorem kx_Terms_widthOfResult (l : Launch) (dC : Nat → ClassId) (dI : Nat → Nat → Nat) (a : Nat → Nat) (k : Nat → ClassId) (st : XS) (o : Int32) (a1 : Int32) (b1 : Int32) (hA : vp_in a1 64) (hB : o = (16 : Int32) → vp_in b1 64) : Met l yX4_widthOfResult wsX4_widthOfResult ({ frames := 0, cells := 0, slots := 0, locals := 0 }) (va_Pc [.ref (a 7), .int o, .int a1, .int b1] (wl_prR (dC, dI) vwCl (xt k) (xw a k st))) (vp_Si (fun r9 => r9 = fx_Terms_widthOfResult st o a1 b1)) 0 0 (fun _ => False) := by
  refine Met.ofW (cc := cX4_widthOfResult) (maxL := 4) (ret := (some .int)) (by decide) rfl ?_
  intro p e s m args below meth c s₁ B hml hv
  obtain ⟨rfl, hP, hK⟩ := hv
  have hx := B.exec
  have hb := B.bytes
  have hr := B.returns
  have hta := aw_hts (atoms_spec (ws := wsX4_widthOfResult) B.pre)
  have hown : s.vm.findClass RX4 = some m.cls := findClass_of_methodNamed B.named
  have hlocks := B.notSynchronized
  have hf15 := hta _ mw_100
  have hl := lv_entry ([.ref (a 7), .int o, .int a1, .int b1]) (n := 4) (Nat.le_of_ble_eq_true rfl)
  rw [lg_entry_eq]
  generalize (lg_sl ([.ref (a 7), .int o, .int a1, .int b1]) ++ List.replicate (4 - (lg_sl ([.ref (a 7), .int o, .int a1, .int b1])).length) Slot.unset).toArray = ls at hl ⊢
  have hl : lv_has ls 4 [(0, .ref (a 7)), (1, .int o), (2, .int a1), (3, .int b1)] := hl
  generalize hR : fx_Terms_widthOfResult st o a1 b1 = R
  rw [fx_Terms_widthOfResult] at hR
  refine lv_iload_n hx hb dX4_widthOfResult_0 rfl (lv_at hl 1 rfl) ?_
  by_cases c1_13 : o = (13 : Int32)
  · skip
    rw [if_pos c1_13] at hR
    refine lv_tableIn (tgt := 44) hx hb dX4_widthOfResult_1 (by rw [c1_13]; decide) (by rw [c1_13]; decide) (by rw [c1_13] <;> rfl) (by decide) ?_
    refine lv_iconst (v := (1 : Int32)) hx hb dX4_widthOfResult_44 (by decide) ?_
    exact W.iret (v := (1 : Int32)) hx hb hr (fun t ht hW => ⟨_, rfl, hR, ht⟩) (fun q h => by cases h) dX4_widthOfResult_45
  · skip
    rw [if_neg c1_13] at hR
    by_cases c1_14 : o = (14 : Int32)
    · skip
      rw [if_pos c1_14] at hR
      refine lv_tableIn (tgt := 44) hx hb dX4_widthOfResult_1 (by rw [c1_14]; decide) (by rw [c1_14]; decide) (by rw [c1_14] <;> rfl) (by decide) ?_
      refine lv_iconst (v := (1 : Int32)) hx hb dX4_widthOfResult_44 (by decide) ?_
      exact W.iret (v := (1 : Int32)) hx hb hr (fun t ht hW => ⟨_, rfl, hR, ht⟩) (fun q h => by cases h) dX4_widthOfResult_45
    · skip
      rw [if_neg c1_14] at hR
      by_cases c1_15 : o = (15 : Int32)
      · skip
        rw [if_pos c1_15] at hR
        refine lv_tableIn (tgt := 44) hx hb dX4_widthOfResult_1 (by rw [c1_15]; decide) (by rw [c1_15]; decide) (by rw [c1_15] <;> rfl) (by decide) ?_
        refine lv_iconst (v := (1 : Int32)) hx hb dX4_widthOfResult_44 (by decide) ?_
        exact W.iret (v := (1 : Int32)) hx hb hr (fun t ht hW => ⟨_, rfl, hR, ht⟩) (fun q h => by cases h) dX4_widthOfResult_45
      · skip
        rw [if_neg c1_15] at hR
        by_cases c1_16 : o = (16 : Int32)
        · skip
          rw [if_pos c1_16] at hR
          refine lv_tableIn (tgt := 46) hx hb dX4_widthOfResult_1 (by rw [c1_16]; decide) (by rw [c1_16]; decide) (by rw [c1_16] <;> rfl) (by decide) ?_
          refine lv_aload_n hx hb dX4_widthOfResult_46 rfl (lv_at hl 0 rfl) ?_
          refine va_get (D := (dC, dI)) (ci := 2) (v := .ref (a 9)) (C := RX4) (T := TX4) (N := 7) hx hb hta inX4 hown hK hP 7 (xr_7 a k st) rfl 1 (by decide) hf15 (fun _ h9 => h9) rfl dX4_widthOfResult_47 ?_
          refine lv_iload_n hx hb dX4_widthOfResult_50 rfl (lv_at hl 3 rfl) ?_
          refine va_iald hx hb hK hP 9 5 (xr_9 a k st) rfl (hB c1_16) dX4_widthOfResult_51 ?_
          exact W.iret (v := fA st 4 b1.toNatClampNeg) hx hb hr (fun t ht hW => ⟨_, rfl, hR, ht⟩) (fun q h => by cases h) dX4_widthOfResult_52
        · skip
          rw [if_neg c1_16] at hR
          by_cases c1_17 : o = (17 : Int32)
          · skip
            rw [if_pos c1_17] at hR
            refine lv_tableIn (tgt := 53) hx hb dX4_widthOfResult_1 (by rw [c1_17]; decide) (by rw [c1_17]; decide) (by rw [c1_17] <;> rfl) (by decide) ?_
            refine lv_iload_n hx hb dX4_widthOfResult_53 rfl (lv_at hl 3 rfl) ?_
            exact W.iret (v := b1) hx hb hr (fun t ht hW => ⟨_, rfl, hR, ht⟩) (fun q h => by cases h) dX4_widthOfResult_54
          · skip
            rw [if_neg c1_17] at hR
            by_cases c1_18 : o = (18 : Int32)
            · skip
              rw [if_pos c1_18] at hR
              refine lv_tableIn (tgt := 53) hx hb dX4_widthOfResult_1 (by rw [c1_18]; decide) (by rw [c1_18]; decide) (by rw [c1_18] <;> rfl) (by decide) ?_
              refine lv_iload_n hx hb dX4_widthOfResult_53 rfl (lv_at hl 3 rfl) ?_
              exact W.iret (v := b1) hx hb hr (fun t ht hW => ⟨_, rfl, hR, ht⟩) (fun q h => by cases h) dX4_widthOfResult_54
            · skip
              rw [if_neg c1_18] at hR
              by_cases c1_19 : o = (19 : Int32)
              · skip
                rw [if_pos c1_19] at hR
                refine lv_tableIn (tgt := 53) hx hb dX4_widthOfResult_1 (by rw [c1_19]; decide) (by rw [c1_19]; decide) (by rw [c1_19] <;> rfl) (by decide) ?_
                refine lv_iload_n hx hb dX4_widthOfResult_53 rfl (lv_at hl 3 rfl) ?_
                exact W.iret (v := b1) hx hb hr (fun t ht hW => ⟨_, rfl, hR, ht⟩) (fun q h => by cases h) dX4_widthOfResult_54
              · skip
                rw [if_neg c1_19] at hR
                have t1_13 := lv_neT (a := 13) c1_13 (by decide)
                have t1_14 := lv_neT (a := 14) c1_14 (by decide)
                have t1_15 := lv_neT (a := 15) c1_15 (by decide)
                have t1_16 := lv_neT (a := 16) c1_16 (by decide)
                have t1_17 := lv_neT (a := 17) c1_17 (by decide)
                have t1_18 := lv_neT (a := 18) c1_18 (by decide)
                have t1_19 := lv_neT (a := 19) c1_19 (by decide)
                refine lv_tableOut (tgt := 55) hx hb dX4_widthOfResult_1 (by omega) (by decide) ?_
                refine lv_aload_n hx hb dX4_widthOfResult_55 rfl (lv_at hl 0 rfl) ?_
                refine va_get (D := (dC, dI)) (ci := 2) (v := .ref (a 9)) (C := RX4) (T := TX4) (N := 7) hx hb hta inX4 hown hK hP 7 (xr_7 a k st) rfl 1 (by decide) hf15 (fun _ h9 => h9) rfl dX4_widthOfResult_56 ?_
                refine lv_iload_n hx hb dX4_widthOfResult_59 rfl (lv_at hl 2 rfl) ?_
                refine va_iald hx hb hK hP 9 5 (xr_9 a k st) rfl hA dX4_widthOfResult_60 ?_
                exact W.iret (v := fA st 4 a1.toNatClampNeg) hx hb hr (fun t ht hW => ⟨_, rfl, hR, ht⟩) (fun q h => by cases h) dX4_widthOfResult_61

theorem mw_342 : (.code yX1_namedTerms cX1_namedTerms 1 (some .int) : Cond) ∈ AW := List.mem_filter.mpr ⟨List.mem_of_getElem? (i := 342) (by decide +kernel), rfl⟩
theorem mw_448 : (.methodLink RX4 69 yX1_namedTerms : Cond) ∈ AW := List.mem_filter.mpr ⟨List.mem_of_getElem? (i := 448) (by decide +kernel), rfl⟩
theorem mw_341 : (.static yX1_namedTerms : Cond) ∈ AW := List.mem_filter.mpr ⟨List.mem_of_getElem? (i := 341) (by decide +kernel), rfl⟩
theorem gX4_69 : GoodIn AW (va_wsS RX4 69 yX1_namedTerms wsX1_namedTerms) := aw_S mw_448 mw_341 mw_48 mw_342
theorem dX4_noteTablesRead_0 : decode cX4_noteTablesRead 0 = .ok (.aload_n 0, 1) := by decide +kernel
theorem dX4_noteTablesRead_1 : decode cX4_noteTablesRead 1 = .ok (.getfield 11, 3) := by decide +kernel
theorem dX4_noteTablesRead_4 : decode cX4_noteTablesRead 4 = .ok (.iload_n 1, 1) := by decide +kernel
theorem dX4_noteTablesRead_5 : decode cX4_noteTablesRead 5 = .ok (.iaload, 1) := by decide +kernel
theorem dX4_noteTablesRead_6 : decode cX4_noteTablesRead 6 = .ok (.bipush 20, 2) := by decide +kernel
theorem dX4_noteTablesRead_8 : decode cX4_noteTablesRead 8 = .ok (.if_icmp .ne 14, 3) := by decide +kernel
theorem dX4_noteTablesRead_11 : decode cX4_noteTablesRead 11 = .ok (.iconst 1, 1) := by decide +kernel
theorem dX4_noteTablesRead_12 : decode cX4_noteTablesRead 12 = .ok (.aload_n 0, 1) := by decide +kernel
theorem dX4_noteTablesRead_13 : decode cX4_noteTablesRead 13 = .ok (.iload_n 1, 1) := by decide +kernel
theorem dX4_noteTablesRead_14 : decode cX4_noteTablesRead 14 = .ok (.iconst 1, 1) := by decide +kernel
theorem dX4_noteTablesRead_15 : decode cX4_noteTablesRead 15 = .ok (.invokevirtual 55, 3) := by decide +kernel
theorem dX4_noteTablesRead_18 : decode cX4_noteTablesRead 18 = .ok (.ishl, 1) := by decide +kernel
theorem dX4_noteTablesRead_19 : decode cX4_noteTablesRead 19 = .ok (.goto 4, 3) := by decide +kernel
theorem dX4_noteTablesRead_22 : decode cX4_noteTablesRead 22 = .ok (.iconst 0, 1) := by decide +kernel
theorem dX4_noteTablesRead_23 : decode cX4_noteTablesRead 23 = .ok (.istore_n 2, 1) := by decide +kernel
theorem dX4_noteTablesRead_24 : decode cX4_noteTablesRead 24 = .ok (.aload_n 0, 1) := by decide +kernel
theorem dX4_noteTablesRead_25 : decode cX4_noteTablesRead 25 = .ok (.getfield 11, 3) := by decide +kernel
theorem dX4_noteTablesRead_28 : decode cX4_noteTablesRead 28 = .ok (.iload_n 1, 1) := by decide +kernel
theorem dX4_noteTablesRead_29 : decode cX4_noteTablesRead 29 = .ok (.iaload, 1) := by decide +kernel
theorem dX4_noteTablesRead_30 : decode cX4_noteTablesRead 30 = .ok (.invokestatic 69, 3) := by decide +kernel
theorem dX4_noteTablesRead_33 : decode cX4_noteTablesRead 33 = .ok (.istore_n 3, 1) := by decide +kernel
theorem dX4_noteTablesRead_34 : decode cX4_noteTablesRead 34 = .ok (.iconst 0, 1) := by decide +kernel
theorem dX4_noteTablesRead_35 : decode cX4_noteTablesRead 35 = .ok (.istore 4, 2) := by decide +kernel
theorem dX4_noteTablesRead_37 : decode cX4_noteTablesRead 37 = .ok (.iload 4, 2) := by decide +kernel
theorem dX4_noteTablesRead_39 : decode cX4_noteTablesRead 39 = .ok (.iload_n 3, 1) := by decide +kernel
theorem dX4_noteTablesRead_40 : decode cX4_noteTablesRead 40 = .ok (.if_icmp .ge 24, 3) := by decide +kernel
theorem dX4_noteTablesRead_43 : decode cX4_noteTablesRead 43 = .ok (.iload_n 2, 1) := by decide +kernel
theorem dX4_noteTablesRead_44 : decode cX4_noteTablesRead 44 = .ok (.aload_n 0, 1) := by decide +kernel
theorem dX4_noteTablesRead_45 : decode cX4_noteTablesRead 45 = .ok (.getfield 21, 3) := by decide +kernel
theorem dX4_noteTablesRead_48 : decode cX4_noteTablesRead 48 = .ok (.aload_n 0, 1) := by decide +kernel
theorem dX4_noteTablesRead_49 : decode cX4_noteTablesRead 49 = .ok (.iload_n 1, 1) := by decide +kernel
theorem dX4_noteTablesRead_50 : decode cX4_noteTablesRead 50 = .ok (.iload 4, 2) := by decide +kernel
theorem dX4_noteTablesRead_52 : decode cX4_noteTablesRead 52 = .ok (.invokevirtual 55, 3) := by decide +kernel
theorem dX4_noteTablesRead_55 : decode cX4_noteTablesRead 55 = .ok (.iaload, 1) := by decide +kernel
theorem dX4_noteTablesRead_56 : decode cX4_noteTablesRead 56 = .ok (.ior, 1) := by decide +kernel
theorem dX4_noteTablesRead_57 : decode cX4_noteTablesRead 57 = .ok (.istore_n 2, 1) := by decide +kernel
theorem dX4_noteTablesRead_58 : decode cX4_noteTablesRead 58 = .ok (.iinc 4 1, 3) := by decide +kernel
theorem dX4_noteTablesRead_61 : decode cX4_noteTablesRead 61 = .ok (.goto (-24), 3) := by decide +kernel
theorem dX4_noteTablesRead_64 : decode cX4_noteTablesRead 64 = .ok (.aload_n 0, 1) := by decide +kernel
theorem dX4_noteTablesRead_65 : decode cX4_noteTablesRead 65 = .ok (.getfield 21, 3) := by decide +kernel
theorem dX4_noteTablesRead_68 : decode cX4_noteTablesRead 68 = .ok (.iload_n 1, 1) := by decide +kernel
theorem dX4_noteTablesRead_69 : decode cX4_noteTablesRead 69 = .ok (.iload_n 2, 1) := by decide +kernel
theorem dX4_noteTablesRead_70 : decode cX4_noteTablesRead 70 = .ok (.iastore, 1) := by decide +kernel
theorem dX4_noteTablesRead_71 : decode cX4_noteTablesRead 71 = .ok (.return_, 1) := by decide +kernel
def fx_Terms_noteTablesRead_L37 (st : XS) (t : Int32) : Nat → Int32 → Nat → XS
  | 0, rd, i => st
  | n + 1, rd, i => 
    if fx_Op_namedTerms ((fA st 3 (t).toNatClampNeg)) ≤ nI i then wA st 6 ((t).toNatClampNeg) rd
    else fx_Terms_noteTablesRead_L37 st t n (rd ||| (fA st 6 (fx_Terms_operandOf st (t) (nI i)).toNatClampNeg)) (i + 1)
def fx_Terms_noteTablesRead (st : XS) (t : Int32) : XS := 
  if (fA st 3 (t).toNatClampNeg) = (20 : Int32) then fx_Terms_noteTablesRead_L37 st t 4 ((1 : Int32) <<< ((fx_Terms_operandOf st (t) (1 : Int32)) &&& 31)) 0
  else fx_Terms_noteTablesRead_L37 st t 4 (0 : Int32) 0
theorem fr_Terms_noteTablesRead_L37 (st : XS) (t : Int32) : ∀ (n : Nat) (rd : Int32) (i : Nat), XF [] [6] [] st (fx_Terms_noteTablesRead_L37 st t n rd i) := by
  intro n
  induction n with
  | zero => intro rd i; exact XF.rf
  | succ n ih =>
    intro rd i
    rw [fx_Terms_noteTablesRead_L37]
    exact (wl_ite (P := fun (q : XS) => XF [] [6] [] _ (q)) (XF.wA (by decide) XF.rf) (ih _ _))
theorem ff_Terms_noteTablesRead (st : XS) (t : Int32) : XF [] [6] [] st (fx_Terms_noteTablesRead st t) := by
  rw [fx_Terms_noteTablesRead]
  exact (wl_ite (P := fun (q : XS) => XF [] [6] [] _ (q)) (fr_Terms_noteTablesRead_L37 _ _ _ _ _) (fr_Terms_noteTablesRead_L37 _ _ _ _ _))
set_option maxHeartbeats 4000000 in
set_option maxRecDepth 100000 in
theorem kx_Terms_noteTablesRead (l : Launch) (dC : Nat → ClassId) (dI : Nat → Nat → Nat) (a : Nat → Nat) (k : Nat → ClassId) (st : XS) (T : Nat) (sz : Nat) (hT : T < 64) (hops : ∀ j : Nat, j < 3 → nI j < fx_Op_namedTerms (fA st 3 T) → vp_in (fA st 5 (3 * T + j)) 64) : Met l yX4_noteTablesRead wsX4_noteTablesRead ({ frames := 2, cells := 0, slots := 0, locals := 40 }) (va_Pc [.ref (a 7), .int (nI T)] (wl_pre (dC, dI) vwCl (xt k) (xw a k) st sz)) (va_Qv (fun u9 => u9 = fx_Terms_noteTablesRead st (nI T)) (wl_at (dC, dI) vwCl (xt k) (xw a k) (va_A (xw a k st) sz)) (va_A (xw a k st) sz)) 0 0 (va_A (xw a k st) sz) := by
  refine Met.ofW (cc := cX4_noteTablesRead) (maxL := 5) (ret := none) (by decide) rfl ?_
  intro p e s m args below meth c s₁ B hml hv
  obtain ⟨rfl, hsz, hP, hK, hD0⟩ := hv
  have hx := B.exec
  have hb := B.bytes
  have hr := B.returns
  have hta := aw_hts (atoms_spec (ws := wsX4_noteTablesRead) B.pre)
  have hown : s.vm.findClass RX4 = some m.cls := findClass_of_methodNamed B.named
  have hlocks := B.notSynchronized
  have hf11 := hta _ mw_99
  have hf21 := hta _ mw_102
  subst hsz
  have hD := hD0.self (sz := s.heap.size)
  generalize hAe : va_A (xw a k st) s.heap.size = A at hD ⊢
  have hAz : ∀ q : Nat, s.heap.size ≤ q → A q := fun q h => by rw [← hAe]; exact Or.inr h
  have hS : va_S A s.heap s.heap [] := va_S.rf
  have hl := lv_entry ([.ref (a 7), .int (nI T)]) (n := 5) (Nat.le_of_ble_eq_true rfl)
  rw [lg_entry_eq]
  generalize (lg_sl ([.ref (a 7), .int (nI T)]) ++ List.replicate (5 - (lg_sl ([.ref (a 7), .int (nI T)])).length) Slot.unset).toArray = ls at hl ⊢
  have hl : lv_has ls 5 [(0, .ref (a 7)), (1, .int ((nI T)))] := hl
  generalize hR : fx_Terms_noteTablesRead st (nI T) = R
  rw [fx_Terms_noteTablesRead] at hR
  refine lv_aload_n hx hb dX4_noteTablesRead_0 rfl (lv_at hl 0 rfl) ?_
  refine va_get (D := (dC, dI)) (ci := 2) (v := .ref (a 8)) (C := RX4) (T := TX4) (N := 7) hx hb hta inX4 hown hK hP 7 (xr_7 a k st) rfl 0 (by decide) hf11 (fun _ h9 => h9) rfl dX4_noteTablesRead_1 ?_
  refine lv_iload_n hx hb dX4_noteTablesRead_4 rfl (lv_at hl 1 rfl) ?_
  refine va_iald hx hb hK hP 8 4 (xr_8 a k st) rfl (wl_in hT (by decide)) dX4_noteTablesRead_5 ?_
  have e5 : fA st 3 ((nI T)).toNatClampNeg = fA st 3 T := (congrArg (fA st 3) (nI_clamp (by omega)))
  rw [e5]
  try rw [e5] at hR
  refine lv_bipush (v := (20 : Int32)) hx hb dX4_noteTablesRead_6 (by decide) ?_
  refine lv_icmp_ne (tgt := 22) hx hb dX4_noteTablesRead_8 (by decide) (fun c8 => ?_) (fun c8 => ?_)
  · skip
    rw [if_neg c8] at hR
    refine lv_iconst (v := (0 : Int32)) hx hb dX4_noteTablesRead_22 (by decide) ?_
    refine lv_istore_n (lv' := [(2, .int (0 : Int32)), (0, .ref (a 7)), (1, .int ((nI T)))]) hx hb dX4_noteTablesRead_23 rfl hl (by decide) rfl (fun ls hl => ?_)
    refine lv_aload_n hx hb dX4_noteTablesRead_24 rfl (lv_at hl 1 rfl) ?_
    refine va_get (D := (dC, dI)) (ci := 2) (v := .ref (a 8)) (C := RX4) (T := TX4) (N := 7) hx hb hta inX4 hown hK hP 7 (xr_7 a k st) rfl 0 (by decide) hf11 (fun _ h9 => h9) rfl dX4_noteTablesRead_25 ?_
    refine lv_iload_n hx hb dX4_noteTablesRead_28 rfl (lv_at hl 2 rfl) ?_
    refine va_iald hx hb hK hP 8 4 (xr_8 a k st) rfl (wl_in hT (by decide)) dX4_noteTablesRead_29 ?_
    have e29 : fA st 3 ((nI T)).toNatClampNeg = fA st 3 T := (congrArg (fA st 3) (nI_clamp (by omega)))
    rw [e29]
    try rw [e29] at hR
    refine wl_ci (va_runS (As := [.int ((fA st 3 T))]) (rest := []) ⟨hx, hb, hml, hown, hta⟩ (kx_Op_namedTerms l ((fA st 3 T))) (va_cwS 1 hta gX4_69 rfl rfl rfl (by decide +kernel) ⟨Nat.le_of_ble_eq_true rfl, Nat.le_of_ble_eq_true rfl⟩) preEq rfl rfl hl.1 rfl (lv_room (Nat.le_of_ble_eq_true rfl)) dX4_noteTablesRead_30 ⟨Nat.zero_le _, Nat.zero_le _⟩) ?_
    refine lv_istore_n (lv' := [(3, .int (fx_Op_namedTerms ((fA st 3 T)))), (2, .int (0 : Int32)), (0, .ref (a 7)), (1, .int ((nI T)))]) hx hb dX4_noteTablesRead_33 rfl hl (by decide) rfl (fun ls hl => ?_)
    refine lv_iconst (v := (0 : Int32)) hx hb dX4_noteTablesRead_34 (by decide) ?_
    refine lv_istore (lv' := [(4, .int (0 : Int32)), (3, .int (fx_Op_namedTerms ((fA st 3 T)))), (2, .int (0 : Int32)), (0, .ref (a 7)), (1, .int ((nI T)))]) hx hb dX4_noteTablesRead_35 hl (by decide) rfl (fun ls hl => ?_)
    have L37 : ∀ (n : Nat) (rd : Int32) (i : Nat) (H : Heap) (locs : List Loc) (ls : Array Slot), fx_Terms_noteTablesRead_L37 st (nI T) n rd i = R → (i ≤ 3) → 3 - i < n → va_P (dC, dI) vwCl (xw a k st) H → va_D A (xw a k st) → va_S A s.heap H locs → lv_has ls 5 [(4, .int (nI i)), (3, .int (fx_Op_namedTerms ((fA st 3 T)))), (2, .int rd), (0, .ref (a 7)), (1, .int ((nI T)))] → W p l e (headSpec wsX4_noteTablesRead ({ frames := 2, cells := 0, slots := 0, locals := 40 })).room s m ([.ref (a 7), .int (nI T)] : List Value).toArray below meth c H locs 0 0 (MQ below (va_Qv (fun u9 => u9 = R) (wl_at (dC, dI) vwCl (xt k) (xw a k) A) A) ([.ref (a 7), .int (nI T)] : List Value).toArray s 0 0 A) (F0 m 37 ls []) := by
      intro n
      induction n with
      | zero =>
        intro rd i H locs ls hR hi hm hP hD hS hl
        exact absurd hm (Nat.not_lt_zero _)
      | succ n ih =>
        intro rd i H locs ls hR hi hm hP hD hS hl
        rw [fx_Terms_noteTablesRead_L37] at hR
        try rw [e5] at hR
        try rw [e29] at hR
        refine lv_iload hx hb dX4_noteTablesRead_37 (lv_at hl 0 rfl) ?_
        refine lv_iload_n hx hb dX4_noteTablesRead_39 rfl (lv_at hl 1 rfl) ?_
        refine lv_icmp_ge (tgt := 64) hx hb dX4_noteTablesRead_40 (by decide) (fun c40 => ?_) (fun c40 => ?_)
        · skip
          rw [if_pos c40] at hR
          refine lv_aload_n hx hb dX4_noteTablesRead_64 rfl (lv_at hl 3 rfl) ?_
          refine va_get (D := (dC, dI)) (ci := 2) (v := .ref (a 11)) (C := RX4) (T := TX4) (N := 7) hx hb hta inX4 hown hK hP 7 (xr_7 a k st) rfl 3 (by decide) hf21 (fun _ h9 => h9) rfl dX4_noteTablesRead_65 ?_
          refine lv_iload_n hx hb dX4_noteTablesRead_68 rfl (lv_at hl 4 rfl) ?_
          refine lv_iload_n hx hb dX4_noteTablesRead_69 rfl (lv_at hl 2 rfl) ?_
          refine va_iast hx hb hK hP hD hS 11 7 (xr_11 a k st) rfl (wl_in hT (by decide)) dX4_noteTablesRead_70 (fun H locs hP hD hS => ?_)
          have hP := xp_A6 hP
          have hD := xd_A6 hD
          exact W.vret hx hb hr (fun t ht hW => ⟨⟨_, rfl, hR, by rw [ht]; exact hP, va_K.moved hW.alike hK, hD⟩, hS.F ht⟩) hS.2.2 dX4_noteTablesRead_71
        · skip
          rw [if_neg c40] at hR
          have hlt : i < 3 := wl_nm3 hi c40
          refine lv_iload_n hx hb dX4_noteTablesRead_43 rfl (lv_at hl 2 rfl) ?_
          refine lv_aload_n hx hb dX4_noteTablesRead_44 rfl (lv_at hl 3 rfl) ?_
          refine va_get (D := (dC, dI)) (ci := 2) (v := .ref (a 11)) (C := RX4) (T := TX4) (N := 7) hx hb hta inX4 hown hK hP 7 (xr_7 a k st) rfl 3 (by decide) hf21 (fun _ h9 => h9) rfl dX4_noteTablesRead_45 ?_
          refine lv_aload_n hx hb dX4_noteTablesRead_48 rfl (lv_at hl 3 rfl) ?_
          refine lv_iload_n hx hb dX4_noteTablesRead_49 rfl (lv_at hl 4 rfl) ?_
          refine lv_iload hx hb dX4_noteTablesRead_50 (lv_at hl 0 rfl) ?_
          refine wl_ci (va_runV (As := [.int ((nI T)), .int (nI i)]) (rest := [.ref (a 11), .int rd]) ⟨hx, hb, hml, hown, hta⟩ (kx_Terms_operandOf l dC dI a k st ((nI T)) (nI i) (wl_i3 i hT hlt)) (cwV 2 hta gX4_55 rfl rfl rfl (by decide +kernel) ⟨Nat.le_of_ble_eq_true rfl, Nat.le_of_ble_eq_true rfl⟩) (wl_pR (C := RX4) (ci := 2) (q0 := 7) hK hP rfl (xr_7 a k st)) rfl rfl hl.1 rfl (lv_room (Nat.le_of_ble_eq_true rfl)) dX4_noteTablesRead_52 ⟨Nat.zero_le _, Nat.zero_le _⟩) ?_
          refine va_iald hx hb hK hP 11 7 (xr_11 a k st) rfl (wl_ntr hT hlt (hops i hlt (wl_nle c40))) dX4_noteTablesRead_55 ?_
          refine lv_ior hx hb dX4_noteTablesRead_56 ?_
          refine lv_istore_n (lv' := [(2, .int (rd ||| (fA st 6 (fx_Terms_operandOf st ((nI T)) (nI i)).toNatClampNeg))), (4, .int (nI i)), (3, .int (fx_Op_namedTerms ((fA st 3 T)))), (0, .ref (a 7)), (1, .int ((nI T)))]) hx hb dX4_noteTablesRead_57 rfl hl (by decide) rfl (fun ls hl => ?_)
          refine lv_iinc (v := nI (i + 1)) (lv' := [(4, .int (nI (i + 1))), (2, .int (rd ||| (fA st 6 (fx_Terms_operandOf st ((nI T)) (nI i)).toNatClampNeg))), (3, .int (fx_Op_namedTerms ((fA st 3 T)))), (0, .ref (a 7)), (1, .int ((nI T)))]) hx hb dX4_noteTablesRead_58 hl (k := 1) rfl (nI_1 _) (by decide) rfl (fun ls hl => ?_)
          refine lv_goto (tgt := 37) hx hb dX4_noteTablesRead_61 (by decide) ?_
          exact ih (rd ||| (fA st 6 (fx_Terms_operandOf st ((nI T)) (nI i)).toNatClampNeg)) (i + 1) _ _ ls hR (by omega) (by omega) hP hD hS (lv_sub hl [0, 2, 1, 3, 4] rfl)
    exact L37 4 (0 : Int32) 0 _ _ ls hR (Nat.zero_le _) (by omega) hP hD hS (lv_sub hl [0, 1, 2, 3, 4] rfl)
  · skip
    rw [if_pos c8] at hR
    refine lv_iconst (v := (1 : Int32)) hx hb dX4_noteTablesRead_11 (by decide) ?_
    refine lv_aload_n hx hb dX4_noteTablesRead_12 rfl (lv_at hl 0 rfl) ?_
    refine lv_iload_n hx hb dX4_noteTablesRead_13 rfl (lv_at hl 1 rfl) ?_
    refine lv_iconst (v := (1 : Int32)) hx hb dX4_noteTablesRead_14 (by decide) ?_
    refine wl_ci (va_runV (As := [.int ((nI T)), .int (1 : Int32)]) (rest := [.int (1 : Int32)]) ⟨hx, hb, hml, hown, hta⟩ (kx_Terms_operandOf l dC dI a k st ((nI T)) (1 : Int32) (wl_i3 1 hT (by decide))) (cwV 2 hta gX4_55 rfl rfl rfl (by decide +kernel) ⟨Nat.le_of_ble_eq_true rfl, Nat.le_of_ble_eq_true rfl⟩) (wl_pR (C := RX4) (ci := 2) (q0 := 7) hK hP rfl (xr_7 a k st)) rfl rfl hl.1 rfl (lv_room (Nat.le_of_ble_eq_true rfl)) dX4_noteTablesRead_15 ⟨Nat.zero_le _, Nat.zero_le _⟩) ?_
    refine lv_ishl hx hb dX4_noteTablesRead_18 ?_
    refine lv_goto (tgt := 23) hx hb dX4_noteTablesRead_19 (by decide) ?_
    refine lv_istore_n (lv' := [(2, .int ((1 : Int32) <<< ((fx_Terms_operandOf st ((nI T)) (1 : Int32)) &&& 31))), (0, .ref (a 7)), (1, .int ((nI T)))]) hx hb dX4_noteTablesRead_23 rfl hl (by decide) rfl (fun ls hl => ?_)
    refine lv_aload_n hx hb dX4_noteTablesRead_24 rfl (lv_at hl 1 rfl) ?_
    refine va_get (D := (dC, dI)) (ci := 2) (v := .ref (a 8)) (C := RX4) (T := TX4) (N := 7) hx hb hta inX4 hown hK hP 7 (xr_7 a k st) rfl 0 (by decide) hf11 (fun _ h9 => h9) rfl dX4_noteTablesRead_25 ?_
    refine lv_iload_n hx hb dX4_noteTablesRead_28 rfl (lv_at hl 2 rfl) ?_
    refine va_iald hx hb hK hP 8 4 (xr_8 a k st) rfl (wl_in hT (by decide)) dX4_noteTablesRead_29 ?_
    have e29 : fA st 3 ((nI T)).toNatClampNeg = fA st 3 T := (congrArg (fA st 3) (nI_clamp (by omega)))
    rw [e29]
    try rw [e29] at hR
    refine wl_ci (va_runS (As := [.int ((fA st 3 T))]) (rest := []) ⟨hx, hb, hml, hown, hta⟩ (kx_Op_namedTerms l ((fA st 3 T))) (va_cwS 1 hta gX4_69 rfl rfl rfl (by decide +kernel) ⟨Nat.le_of_ble_eq_true rfl, Nat.le_of_ble_eq_true rfl⟩) preEq rfl rfl hl.1 rfl (lv_room (Nat.le_of_ble_eq_true rfl)) dX4_noteTablesRead_30 ⟨Nat.zero_le _, Nat.zero_le _⟩) ?_
    refine lv_istore_n (lv' := [(3, .int (fx_Op_namedTerms ((fA st 3 T)))), (2, .int ((1 : Int32) <<< ((fx_Terms_operandOf st ((nI T)) (1 : Int32)) &&& 31))), (0, .ref (a 7)), (1, .int ((nI T)))]) hx hb dX4_noteTablesRead_33 rfl hl (by decide) rfl (fun ls hl => ?_)
    refine lv_iconst (v := (0 : Int32)) hx hb dX4_noteTablesRead_34 (by decide) ?_
    refine lv_istore (lv' := [(4, .int (0 : Int32)), (3, .int (fx_Op_namedTerms ((fA st 3 T)))), (2, .int ((1 : Int32) <<< ((fx_Terms_operandOf st ((nI T)) (1 : Int32)) &&& 31))), (0, .ref (a 7)), (1, .int ((nI T)))]) hx hb dX4_noteTablesRead_35 hl (by decide) rfl (fun ls hl => ?_)
    have L37 : ∀ (n : Nat) (rd : Int32) (i : Nat) (H : Heap) (locs : List Loc) (ls : Array Slot), fx_Terms_noteTablesRead_L37 st (nI T) n rd i = R → (i ≤ 3) → 3 - i < n → va_P (dC, dI) vwCl (xw a k st) H → va_D A (xw a k st) → va_S A s.heap H locs → lv_has ls 5 [(4, .int (nI i)), (3, .int (fx_Op_namedTerms ((fA st 3 T)))), (2, .int rd), (0, .ref (a 7)), (1, .int ((nI T)))] → W p l e (headSpec wsX4_noteTablesRead ({ frames := 2, cells := 0, slots := 0, locals := 40 })).room s m ([.ref (a 7), .int (nI T)] : List Value).toArray below meth c H locs 0 0 (MQ below (va_Qv (fun u9 => u9 = R) (wl_at (dC, dI) vwCl (xt k) (xw a k) A) A) ([.ref (a 7), .int (nI T)] : List Value).toArray s 0 0 A) (F0 m 37 ls []) := by
      intro n
      induction n with
      | zero =>
        intro rd i H locs ls hR hi hm hP hD hS hl
        exact absurd hm (Nat.not_lt_zero _)
      | succ n ih =>
        intro rd i H locs ls hR hi hm hP hD hS hl
        rw [fx_Terms_noteTablesRead_L37] at hR
        try rw [e5] at hR
        try rw [e29] at hR
        refine lv_iload hx hb dX4_noteTablesRead_37 (lv_at hl 0 rfl) ?_
        refine lv_iload_n hx hb dX4_noteTablesRead_39 rfl (lv_at hl 1 rfl) ?_
        refine lv_icmp_ge (tgt := 64) hx hb dX4_noteTablesRead_40 (by decide) (fun c40 => ?_) (fun c40 => ?_)
        · skip
          rw [if_pos c40] at hR
          refine lv_aload_n hx hb dX4_noteTablesRead_64 rfl (lv_at hl 3 rfl) ?_
          refine va_get (D := (dC, dI)) (ci := 2) (v := .ref (a 11)) (C := RX4) (T := TX4) (N := 7) hx hb hta inX4 hown hK hP 7 (xr_7 a k st) rfl 3 (by decide) hf21 (fun _ h9 => h9) rfl dX4_noteTablesRead_65 ?_
          refine lv_iload_n hx hb dX4_noteTablesRead_68 rfl (lv_at hl 4 rfl) ?_
          refine lv_iload_n hx hb dX4_noteTablesRead_69 rfl (lv_at hl 2 rfl) ?_
          refine va_iast hx hb hK hP hD hS 11 7 (xr_11 a k st) rfl (wl_in hT (by decide)) dX4_noteTablesRead_70 (fun H locs hP hD hS => ?_)
          have hP := xp_A6 hP
          have hD := xd_A6 hD
          exact W.vret hx hb hr (fun t ht hW => ⟨⟨_, rfl, hR, by rw [ht]; exact hP, va_K.moved hW.alike hK, hD⟩, hS.F ht⟩) hS.2.2 dX4_noteTablesRead_71
        · skip
          rw [if_neg c40] at hR
          have hlt : i < 3 := wl_nm3 hi c40
          refine lv_iload_n hx hb dX4_noteTablesRead_43 rfl (lv_at hl 2 rfl) ?_
          refine lv_aload_n hx hb dX4_noteTablesRead_44 rfl (lv_at hl 3 rfl) ?_
          refine va_get (D := (dC, dI)) (ci := 2) (v := .ref (a 11)) (C := RX4) (T := TX4) (N := 7) hx hb hta inX4 hown hK hP 7 (xr_7 a k st) rfl 3 (by decide) hf21 (fun _ h9 => h9) rfl dX4_noteTablesRead_45 ?_
          refine lv_aload_n hx hb dX4_noteTablesRead_48 rfl (lv_at hl 3 rfl) ?_
          refine lv_iload_n hx hb dX4_noteTablesRead_49 rfl (lv_at hl 4 rfl) ?_
          refine lv_iload hx hb dX4_noteTablesRead_50 (lv_at hl 0 rfl) ?_
          refine wl_ci (va_runV (As := [.int ((nI T)), .int (nI i)]) (rest := [.ref (a 11), .int rd]) ⟨hx, hb, hml, hown, hta⟩ (kx_Terms_operandOf l dC dI a k st ((nI T)) (nI i) (wl_i3 i hT hlt)) (cwV 2 hta gX4_55 rfl rfl rfl (by decide +kernel) ⟨Nat.le_of_ble_eq_true rfl, Nat.le_of_ble_eq_true rfl⟩) (wl_pR (C := RX4) (ci := 2) (q0 := 7) hK hP rfl (xr_7 a k st)) rfl rfl hl.1 rfl (lv_room (Nat.le_of_ble_eq_true rfl)) dX4_noteTablesRead_52 ⟨Nat.zero_le _, Nat.zero_le _⟩) ?_
          refine va_iald hx hb hK hP 11 7 (xr_11 a k st) rfl (wl_ntr hT hlt (hops i hlt (wl_nle c40))) dX4_noteTablesRead_55 ?_
          refine lv_ior hx hb dX4_noteTablesRead_56 ?_
          refine lv_istore_n (lv' := [(2, .int (rd ||| (fA st 6 (fx_Terms_operandOf st ((nI T)) (nI i)).toNatClampNeg))), (4, .int (nI i)), (3, .int (fx_Op_namedTerms ((fA st 3 T)))), (0, .ref (a 7)), (1, .int ((nI T)))]) hx hb dX4_noteTablesRead_57 rfl hl (by decide) rfl (fun ls hl => ?_)
          refine lv_iinc (v := nI (i + 1)) (lv' := [(4, .int (nI (i + 1))), (2, .int (rd ||| (fA st 6 (fx_Terms_operandOf st ((nI T)) (nI i)).toNatClampNeg))), (3, .int (fx_Op_namedTerms ((fA st 3 T)))), (0, .ref (a 7)), (1, .int ((nI T)))]) hx hb dX4_noteTablesRead_58 hl (k := 1) rfl (nI_1 _) (by decide) rfl (fun ls hl => ?_)
          refine lv_goto (tgt := 37) hx hb dX4_noteTablesRead_61 (by decide) ?_
          exact ih (rd ||| (fA st 6 (fx_Terms_operandOf st ((nI T)) (nI i)).toNatClampNeg)) (i + 1) _ _ ls hR (by omega) (by omega) hP hD hS (lv_sub hl [0, 2, 1, 3, 4] rfl)
    exact L37 4 ((1 : Int32) <<< ((fx_Terms_operandOf st ((nI T)) (1 : Int32)) &&& 31)) 0 _ _ ls hR (Nat.zero_le _) (by omega) hP hD hS (lv_sub hl [0, 1, 2, 3, 4] rfl)

theorem wl_ap3 {st : XS} {o w : Int32} {N : Nat} (hN : gI st 6 = nI N) (h : N < 64) : fA (fx_Terms_addPlain st o w).2 3 N = o := by
  show upd (fA st 3) (gI st 6).toNatClampNeg o N = o
  rw [hN, nI_clamp (by omega)]
  exact pk_us
theorem wl_ltle {x : Int32} {a b : Nat} (hb : b < 2147483648) (e : b = a + 1) (h : nI a < x) : nI b ≤ x := by
  rw [Int32.lt_iff_toInt_lt, nI_toInt (by omega)] at h
  rw [Int32.le_iff_toInt_le, nI_toInt (by omega)]
  omega
theorem wl_addops {S0 : XS} {N : Nat} {o a1 b1 c1 cst : Int32} (hN : N < 64) (h3 : fA S0 3 N = o) (hA : vp_in a1 64) (hB : (2 : Int32) ≤ fx_Op_namedTerms o → vp_in b1 64) (hC : (3 : Int32) ≤ fx_Op_namedTerms o → vp_in c1 64) :
    ∀ j : Nat, j < 3 → nI j < fx_Op_namedTerms (fA (wI (wA (wA (wA S0 5 (nI N * (3 : Int32)).toNatClampNeg a1) 5 (nI N * (3 : Int32) + (1 : Int32)).toNatClampNeg b1) 5 (nI N * (3 : Int32) + (2 : Int32)).toNatClampNeg c1) 7 cst) 3 N) → vp_in (fA (wI (wA (wA (wA S0 5 (nI N * (3 : Int32)).toNatClampNeg a1) 5 (nI N * (3 : Int32) + (1 : Int32)).toNatClampNeg b1) 5 (nI N * (3 : Int32) + (2 : Int32)).toNatClampNeg c1) 7 cst) 5 (3 * N + j)) 64 := by
  intro j hj h
  have h : nI j < fx_Op_namedTerms (fA S0 3 N) := h
  rw [h3] at h
  show vp_in (upd (upd (upd (fA S0 5) (nI N * (3 : Int32)).toNatClampNeg a1) (nI N * (3 : Int32) + (1 : Int32)).toNatClampNeg b1) (nI N * (3 : Int32) + (2 : Int32)).toNatClampNeg c1 (3 * N + j)) 64
  rw [wl_c30 hN, show (nI N * (3 : Int32) + (1 : Int32)).toNatClampNeg = 3 * N + 1 from wl_c3 1 hN (by decide), show (nI N * (3 : Int32) + (2 : Int32)).toNatClampNeg = 3 * N + 2 from wl_c3 2 hN (by decide)]
  rcases (show j = 0 ∨ j = 1 ∨ j = 2 by omega) with rfl | rfl | rfl
  · rw [pk_un (by omega), pk_un (by omega)]
    rw [show 3 * N + 0 = 3 * N from rfl, pk_us]
    exact hA
  · rw [pk_un (by omega), pk_us]
    exact hB (wl_ltle (a := 1) (b := 2) (by decide) rfl h)
  · rw [pk_us]
    exact hC (wl_ltle (a := 2) (b := 3) (by decide) rfl h)

theorem mw_442 : (.code yX1_costFor cX1_costFor 2 (some .int) : Cond) ∈ AW := List.mem_filter.mpr ⟨List.mem_of_getElem? (i := 442) (by decide +kernel), rfl⟩
theorem mw_440 : (.methodLink RX4 58 yX1_costFor : Cond) ∈ AW := List.mem_filter.mpr ⟨List.mem_of_getElem? (i := 440) (by decide +kernel), rfl⟩
theorem mw_441 : (.static yX1_costFor : Cond) ∈ AW := List.mem_filter.mpr ⟨List.mem_of_getElem? (i := 441) (by decide +kernel), rfl⟩
theorem mw_352 : (.code yX4_widthOfResult cX4_widthOfResult 4 (some .int) : Cond) ∈ AW := List.mem_filter.mpr ⟨List.mem_of_getElem? (i := 352) (by decide +kernel), rfl⟩
theorem mw_443 : (.methodLink RX4 61 yX4_widthOfResult : Cond) ∈ AW := List.mem_filter.mpr ⟨List.mem_of_getElem? (i := 443) (by decide +kernel), rfl⟩
theorem mw_350 : (.instanceMethod yX4_widthOfResult : Cond) ∈ AW := List.mem_filter.mpr ⟨List.mem_of_getElem? (i := 350) (by decide +kernel), rfl⟩
theorem mw_351 : (.selects RX4 yX4_widthOfResult yX4_widthOfResult : Cond) ∈ AW := List.mem_filter.mpr ⟨List.mem_of_getElem? (i := 351) (by decide +kernel), rfl⟩
theorem mw_447 : (.code yX4_noteTablesRead cX4_noteTablesRead 5 none : Cond) ∈ AW := List.mem_filter.mpr ⟨List.mem_of_getElem? (i := 447) (by decide +kernel), rfl⟩
theorem mw_444 : (.methodLink RX4 65 yX4_noteTablesRead : Cond) ∈ AW := List.mem_filter.mpr ⟨List.mem_of_getElem? (i := 444) (by decide +kernel), rfl⟩
theorem mw_446 : (.instanceMethod yX4_noteTablesRead : Cond) ∈ AW := List.mem_filter.mpr ⟨List.mem_of_getElem? (i := 446) (by decide +kernel), rfl⟩
theorem mw_9 : (.selects RX4 yX4_noteTablesRead yX4_noteTablesRead : Cond) ∈ AW := List.mem_filter.mpr ⟨List.mem_of_getElem? (i := 9) (by decide +kernel), rfl⟩
theorem gX4_58 : GoodIn AW (va_wsS RX4 58 yX1_costFor wsX1_costFor) := aw_S mw_440 mw_441 mw_48 mw_442
theorem gX4_61 : GoodIn AW (wsV RX4 61 RX4 yX4_widthOfResult wsX4_widthOfResult) := aw_V mw_443 mw_350 mw_351 mw_41 mw_352
theorem gX4_65 : GoodIn AW (wsV RX4 65 RX4 yX4_noteTablesRead wsX4_noteTablesRead) := aw_V mw_444 mw_446 mw_9 mw_41 mw_447
theorem dX4_add_0 : decode cX4_add 0 = .ok (.iload_n 1, 1) := by decide +kernel
theorem dX4_add_1 : decode cX4_add 1 = .ok (.bipush 16, 2) := by decide +kernel
theorem dX4_add_3 : decode cX4_add 3 = .ok (.if_icmp .ne 12, 3) := by decide +kernel
theorem dX4_add_6 : decode cX4_add 6 = .ok (.aload_n 0, 1) := by decide +kernel
theorem dX4_add_7 : decode cX4_add 7 = .ok (.getfield 15, 3) := by decide +kernel
theorem dX4_add_10 : decode cX4_add 10 = .ok (.iload_n 3, 1) := by decide +kernel
theorem dX4_add_11 : decode cX4_add 11 = .ok (.iaload, 1) := by decide +kernel
theorem dX4_add_12 : decode cX4_add 12 = .ok (.goto 9, 3) := by decide +kernel
theorem dX4_add_15 : decode cX4_add 15 = .ok (.aload_n 0, 1) := by decide +kernel
theorem dX4_add_16 : decode cX4_add 16 = .ok (.getfield 15, 3) := by decide +kernel
theorem dX4_add_19 : decode cX4_add 19 = .ok (.iload_n 2, 1) := by decide +kernel
theorem dX4_add_20 : decode cX4_add 20 = .ok (.iaload, 1) := by decide +kernel
theorem dX4_add_21 : decode cX4_add 21 = .ok (.istore 5, 2) := by decide +kernel
theorem dX4_add_23 : decode cX4_add 23 = .ok (.iload_n 1, 1) := by decide +kernel
theorem dX4_add_24 : decode cX4_add 24 = .ok (.iload 5, 2) := by decide +kernel
theorem dX4_add_26 : decode cX4_add 26 = .ok (.invokestatic 58, 3) := by decide +kernel
theorem dX4_add_29 : decode cX4_add 29 = .ok (.istore 6, 2) := by decide +kernel
theorem dX4_add_31 : decode cX4_add 31 = .ok (.aload_n 0, 1) := by decide +kernel
theorem dX4_add_32 : decode cX4_add 32 = .ok (.invokevirtual 51, 3) := by decide +kernel
theorem dX4_add_35 : decode cX4_add 35 = .ok (.ifCond .ne 16, 3) := by decide +kernel
theorem dX4_add_38 : decode cX4_add 38 = .ok (.aload_n 0, 1) := by decide +kernel
theorem dX4_add_39 : decode cX4_add 39 = .ok (.getfield 32, 3) := by decide +kernel
theorem dX4_add_42 : decode cX4_add 42 = .ok (.iload 6, 2) := by decide +kernel
theorem dX4_add_44 : decode cX4_add 44 = .ok (.iadd, 1) := by decide +kernel
theorem dX4_add_45 : decode cX4_add 45 = .ok (.sipush 400, 3) := by decide +kernel
theorem dX4_add_48 : decode cX4_add 48 = .ok (.if_icmp .le 6, 3) := by decide +kernel
theorem dX4_add_51 : decode cX4_add 51 = .ok (.bipush (-2), 2) := by decide +kernel
theorem dX4_add_53 : decode cX4_add 53 = .ok (.ireturn, 1) := by decide +kernel
theorem dX4_add_54 : decode cX4_add 54 = .ok (.aload_n 0, 1) := by decide +kernel
theorem dX4_add_55 : decode cX4_add 55 = .ok (.iload_n 1, 1) := by decide +kernel
theorem dX4_add_56 : decode cX4_add 56 = .ok (.aload_n 0, 1) := by decide +kernel
theorem dX4_add_57 : decode cX4_add 57 = .ok (.iload_n 1, 1) := by decide +kernel
theorem dX4_add_58 : decode cX4_add 58 = .ok (.iload_n 2, 1) := by decide +kernel
theorem dX4_add_59 : decode cX4_add 59 = .ok (.iload_n 3, 1) := by decide +kernel
theorem dX4_add_60 : decode cX4_add 60 = .ok (.invokevirtual 61, 3) := by decide +kernel
theorem dX4_add_63 : decode cX4_add 63 = .ok (.invokevirtual 41, 3) := by decide +kernel
theorem dX4_add_66 : decode cX4_add 66 = .ok (.istore 7, 2) := by decide +kernel
theorem dX4_add_68 : decode cX4_add 68 = .ok (.aload_n 0, 1) := by decide +kernel
theorem dX4_add_69 : decode cX4_add 69 = .ok (.getfield 18, 3) := by decide +kernel
theorem dX4_add_72 : decode cX4_add 72 = .ok (.iload 7, 2) := by decide +kernel
theorem dX4_add_74 : decode cX4_add 74 = .ok (.iconst 3, 1) := by decide +kernel
theorem dX4_add_75 : decode cX4_add 75 = .ok (.imul, 1) := by decide +kernel
theorem dX4_add_76 : decode cX4_add 76 = .ok (.iload_n 2, 1) := by decide +kernel
theorem dX4_add_77 : decode cX4_add 77 = .ok (.iastore, 1) := by decide +kernel
theorem dX4_add_78 : decode cX4_add 78 = .ok (.aload_n 0, 1) := by decide +kernel
theorem dX4_add_79 : decode cX4_add 79 = .ok (.getfield 18, 3) := by decide +kernel
theorem dX4_add_82 : decode cX4_add 82 = .ok (.iload 7, 2) := by decide +kernel
theorem dX4_add_84 : decode cX4_add 84 = .ok (.iconst 3, 1) := by decide +kernel
theorem dX4_add_85 : decode cX4_add 85 = .ok (.imul, 1) := by decide +kernel
theorem dX4_add_86 : decode cX4_add 86 = .ok (.iconst 1, 1) := by decide +kernel
theorem dX4_add_87 : decode cX4_add 87 = .ok (.iadd, 1) := by decide +kernel
theorem dX4_add_88 : decode cX4_add 88 = .ok (.iload_n 3, 1) := by decide +kernel
theorem dX4_add_89 : decode cX4_add 89 = .ok (.iastore, 1) := by decide +kernel
theorem dX4_add_90 : decode cX4_add 90 = .ok (.aload_n 0, 1) := by decide +kernel
theorem dX4_add_91 : decode cX4_add 91 = .ok (.getfield 18, 3) := by decide +kernel
theorem dX4_add_94 : decode cX4_add 94 = .ok (.iload 7, 2) := by decide +kernel
theorem dX4_add_96 : decode cX4_add 96 = .ok (.iconst 3, 1) := by decide +kernel
theorem dX4_add_97 : decode cX4_add 97 = .ok (.imul, 1) := by decide +kernel
theorem dX4_add_98 : decode cX4_add 98 = .ok (.iconst 2, 1) := by decide +kernel
theorem dX4_add_99 : decode cX4_add 99 = .ok (.iadd, 1) := by decide +kernel
theorem dX4_add_100 : decode cX4_add 100 = .ok (.iload 4, 2) := by decide +kernel
theorem dX4_add_102 : decode cX4_add 102 = .ok (.iastore, 1) := by decide +kernel
theorem dX4_add_103 : decode cX4_add 103 = .ok (.aload_n 0, 1) := by decide +kernel
theorem dX4_add_104 : decode cX4_add 104 = .ok (.dup, 1) := by decide +kernel
theorem dX4_add_105 : decode cX4_add 105 = .ok (.getfield 32, 3) := by decide +kernel
theorem dX4_add_108 : decode cX4_add 108 = .ok (.iload 6, 2) := by decide +kernel
theorem dX4_add_110 : decode cX4_add 110 = .ok (.iadd, 1) := by decide +kernel
theorem dX4_add_111 : decode cX4_add 111 = .ok (.putfield 32, 3) := by decide +kernel
theorem dX4_add_114 : decode cX4_add 114 = .ok (.aload_n 0, 1) := by decide +kernel
theorem dX4_add_115 : decode cX4_add 115 = .ok (.iload 7, 2) := by decide +kernel
theorem dX4_add_117 : decode cX4_add 117 = .ok (.invokevirtual 65, 3) := by decide +kernel
theorem dX4_add_120 : decode cX4_add 120 = .ok (.iload 7, 2) := by decide +kernel
theorem dX4_add_122 : decode cX4_add 122 = .ok (.ireturn, 1) := by decide +kernel
def fx_Terms_add (st : XS) (o : Int32) (a1 : Int32) (b1 : Int32) (c1 : Int32) : Int32 × XS := 
  if o = (16 : Int32) then 
    if fx_Terms_isFull st = (0 : Int32) then 
      if (gI st 7) + (fx_Op_costFor o (fA st 4 b1.toNatClampNeg)) ≤ (400 : Int32) then ((((fx_Terms_addPlain st o (fx_Terms_widthOfResult st o a1 b1)).1)), (fx_Terms_noteTablesRead (wI (wA (wA (wA (((fx_Terms_addPlain st o (fx_Terms_widthOfResult st o a1 b1)).2)) 5 ((((((fx_Terms_addPlain st o (fx_Terms_widthOfResult st o a1 b1)).1))) * (3 : Int32)).toNatClampNeg) a1) 5 (((((((fx_Terms_addPlain st o (fx_Terms_widthOfResult st o a1 b1)).1))) * (3 : Int32)) + (1 : Int32)).toNatClampNeg) b1) 5 (((((((fx_Terms_addPlain st o (fx_Terms_widthOfResult st o a1 b1)).1))) * (3 : Int32)) + (2 : Int32)).toNatClampNeg) c1) 7 ((gI (((fx_Terms_addPlain st o (fx_Terms_widthOfResult st o a1 b1)).2)) 7) + (fx_Op_costFor o (fA st 4 b1.toNatClampNeg)))) ((((fx_Terms_addPlain st o (fx_Terms_widthOfResult st o a1 b1)).1)))))
      else ((-2 : Int32), st)
    else ((-2 : Int32), st)
  else 
    if fx_Terms_isFull st = (0 : Int32) then 
      if (gI st 7) + (fx_Op_costFor o (fA st 4 a1.toNatClampNeg)) ≤ (400 : Int32) then ((((fx_Terms_addPlain st o (fx_Terms_widthOfResult st o a1 b1)).1)), (fx_Terms_noteTablesRead (wI (wA (wA (wA (((fx_Terms_addPlain st o (fx_Terms_widthOfResult st o a1 b1)).2)) 5 ((((((fx_Terms_addPlain st o (fx_Terms_widthOfResult st o a1 b1)).1))) * (3 : Int32)).toNatClampNeg) a1) 5 (((((((fx_Terms_addPlain st o (fx_Terms_widthOfResult st o a1 b1)).1))) * (3 : Int32)) + (1 : Int32)).toNatClampNeg) b1) 5 (((((((fx_Terms_addPlain st o (fx_Terms_widthOfResult st o a1 b1)).1))) * (3 : Int32)) + (2 : Int32)).toNatClampNeg) c1) 7 ((gI (((fx_Terms_addPlain st o (fx_Terms_widthOfResult st o a1 b1)).2)) 7) + (fx_Op_costFor o (fA st 4 a1.toNatClampNeg)))) ((((fx_Terms_addPlain st o (fx_Terms_widthOfResult st o a1 b1)).1)))))
      else ((-2 : Int32), st)
    else ((-2 : Int32), st)
theorem ff_Terms_add (st : XS) (o : Int32) (a1 : Int32) (b1 : Int32) (c1 : Int32) : XF [6, 7] [3, 4, 5, 6] [] st (fx_Terms_add st o a1 b1 c1).2 := by
  rw [fx_Terms_add]
  exact (wl_ite (P := fun (q : Int32 × XS) => XF [6, 7] [3, 4, 5, 6] [] _ (q.2)) (wl_ite (P := fun (q : Int32 × XS) => XF [6, 7] [3, 4, 5, 6] [] _ (q.2)) (wl_ite (P := fun (q : Int32 × XS) => XF [6, 7] [3, 4, 5, 6] [] _ (q.2)) (XF.tr (XF.wI (by decide) (XF.wA (by decide) (XF.wA (by decide) (XF.wA (by decide) (XF.tr XF.rf (XF.mono (ff_Terms_addPlain _ _ _) (by decide) (by decide) (by decide))))))) (XF.mono (ff_Terms_noteTablesRead _ _) (by decide) (by decide) (by decide))) XF.rf) XF.rf) (wl_ite (P := fun (q : Int32 × XS) => XF [6, 7] [3, 4, 5, 6] [] _ (q.2)) (wl_ite (P := fun (q : Int32 × XS) => XF [6, 7] [3, 4, 5, 6] [] _ (q.2)) (XF.tr (XF.wI (by decide) (XF.wA (by decide) (XF.wA (by decide) (XF.wA (by decide) (XF.tr XF.rf (XF.mono (ff_Terms_addPlain _ _ _) (by decide) (by decide) (by decide))))))) (XF.mono (ff_Terms_noteTablesRead _ _) (by decide) (by decide) (by decide))) XF.rf) XF.rf))
set_option maxHeartbeats 4000000 in
set_option maxRecDepth 100000 in
theorem kx_Terms_add (l : Launch) (dC : Nat → ClassId) (dI : Nat → Nat → Nat) (a : Nat → Nat) (k : Nat → ClassId) (st : XS) (o : Int32) (a1 : Int32) (b1 : Int32) (c1 : Int32) (sz : Nat) (N : Nat) (hN : gI st 6 = nI N) (h64 : N ≤ 64) (hA : vp_in a1 64) (hB : (2 : Int32) ≤ fx_Op_namedTerms o → vp_in b1 64) (hC : (3 : Int32) ≤ fx_Op_namedTerms o → vp_in c1 64) : Met l yX4_add wsX4_add ({ frames := 3, cells := 0, slots := 0, locals := 64 }) (va_Pc [.ref (a 7), .int o, .int a1, .int b1, .int c1] (wl_pre (dC, dI) vwCl (xt k) (xw a k) st sz)) (va_Qi (fun r9 u9 => (r9, u9) = fx_Terms_add st o a1 b1 c1) (wl_at (dC, dI) vwCl (xt k) (xw a k) (va_A (xw a k st) sz)) (va_A (xw a k st) sz)) 0 0 (va_A (xw a k st) sz) := by
  refine Met.ofW (cc := cX4_add) (maxL := 8) (ret := (some .int)) (by decide) rfl ?_
  intro p e s m args below meth c s₁ B hml hv
  obtain ⟨rfl, hsz, hP, hK, hD0⟩ := hv
  have hx := B.exec
  have hb := B.bytes
  have hr := B.returns
  have hta := aw_hts (atoms_spec (ws := wsX4_add) B.pre)
  have hown : s.vm.findClass RX4 = some m.cls := findClass_of_methodNamed B.named
  have hlocks := B.notSynchronized
  have hf15 := hta _ mw_100
  have hf32 := hta _ mw_105
  have hf18 := hta _ mw_101
  subst hsz
  have hD := hD0.self (sz := s.heap.size)
  generalize hAe : va_A (xw a k st) s.heap.size = A at hD ⊢
  have hAz : ∀ q : Nat, s.heap.size ≤ q → A q := fun q h => by rw [← hAe]; exact Or.inr h
  have hS : va_S A s.heap s.heap [] := va_S.rf
  have hl := lv_entry ([.ref (a 7), .int o, .int a1, .int b1, .int c1]) (n := 8) (Nat.le_of_ble_eq_true rfl)
  rw [lg_entry_eq]
  generalize (lg_sl ([.ref (a 7), .int o, .int a1, .int b1, .int c1]) ++ List.replicate (8 - (lg_sl ([.ref (a 7), .int o, .int a1, .int b1, .int c1])).length) Slot.unset).toArray = ls at hl ⊢
  have hl : lv_has ls 8 [(0, .ref (a 7)), (1, .int o), (2, .int a1), (3, .int b1), (4, .int c1)] := hl
  generalize hR : fx_Terms_add st o a1 b1 c1 = R
  rw [fx_Terms_add] at hR
  refine lv_iload_n hx hb dX4_add_0 rfl (lv_at hl 1 rfl) ?_
  refine lv_bipush (v := (16 : Int32)) hx hb dX4_add_1 (by decide) ?_
  refine lv_icmp_ne (tgt := 15) hx hb dX4_add_3 (by decide) (fun c3 => ?_) (fun c3 => ?_)
  · skip
    rw [if_neg c3] at hR
    refine lv_aload_n hx hb dX4_add_15 rfl (lv_at hl 0 rfl) ?_
    refine va_get (D := (dC, dI)) (ci := 2) (v := .ref (a 9)) (C := RX4) (T := TX4) (N := 7) hx hb hta inX4 hown hK hP 7 (xr_7 a k st) rfl 1 (by decide) hf15 (fun _ h9 => h9) rfl dX4_add_16 ?_
    refine lv_iload_n hx hb dX4_add_19 rfl (lv_at hl 2 rfl) ?_
    refine va_iald hx hb hK hP 9 5 (xr_9 a k st) rfl hA dX4_add_20 ?_
    refine lv_istore (lv' := [(5, .int (fA st 4 a1.toNatClampNeg)), (0, .ref (a 7)), (1, .int o), (2, .int a1), (3, .int b1), (4, .int c1)]) hx hb dX4_add_21 hl (by decide) rfl (fun ls hl => ?_)
    refine lv_iload_n hx hb dX4_add_23 rfl (lv_at hl 2 rfl) ?_
    refine lv_iload hx hb dX4_add_24 (lv_at hl 0 rfl) ?_
    refine wl_ci (va_runS (As := [.int o, .int (fA st 4 a1.toNatClampNeg)]) (rest := []) ⟨hx, hb, hml, hown, hta⟩ (kx_Op_costFor l o (fA st 4 a1.toNatClampNeg)) (va_cwS 2 hta gX4_58 rfl rfl rfl (by decide +kernel) ⟨Nat.le_of_ble_eq_true rfl, Nat.le_of_ble_eq_true rfl⟩) preEq rfl rfl hl.1 rfl (lv_room (Nat.le_of_ble_eq_true rfl)) dX4_add_26 ⟨Nat.zero_le _, Nat.zero_le _⟩) ?_
    refine lv_istore (lv' := [(6, .int (fx_Op_costFor o (fA st 4 a1.toNatClampNeg))), (5, .int (fA st 4 a1.toNatClampNeg)), (0, .ref (a 7)), (1, .int o), (2, .int a1), (3, .int b1), (4, .int c1)]) hx hb dX4_add_29 hl (by decide) rfl (fun ls hl => ?_)
    refine lv_aload_n hx hb dX4_add_31 rfl (lv_at hl 2 rfl) ?_
    refine wl_ci (va_runV (As := []) (rest := []) ⟨hx, hb, hml, hown, hta⟩ (kx_Terms_isFull l dC dI a k st) (cwV 0 hta gX4_51 rfl rfl rfl (by decide +kernel) ⟨Nat.le_of_ble_eq_true rfl, Nat.le_of_ble_eq_true rfl⟩) (wl_pR (C := RX4) (ci := 2) (q0 := 7) hK hP rfl (xr_7 a k st)) rfl rfl hl.1 rfl (lv_room (Nat.le_of_ble_eq_true rfl)) dX4_add_32 ⟨Nat.zero_le _, Nat.zero_le _⟩) ?_
    refine lv_if_ne (tgt := 51) hx hb dX4_add_35 (by decide) (fun c35 => ?_) (fun c35 => ?_)
    · skip
      rw [if_neg c35] at hR
      refine lv_bipush (v := (-2 : Int32)) hx hb dX4_add_51 (by decide) ?_
      exact W.iret (v := (-2 : Int32)) hx hb hr (fun t ht hW => ⟨⟨_, _, rfl, hR, by rw [ht]; exact hP, va_K.moved hW.alike hK, hD⟩, hS.F ht⟩) hS.2.2 dX4_add_53
    · skip
      rw [if_pos c35] at hR
      have hN64 : N < 64 := wl_isFullN hN h64 c35
      refine lv_aload_n hx hb dX4_add_38 rfl (lv_at hl 2 rfl) ?_
      refine va_get (D := (dC, dI)) (ci := 2) (v := .int (gI st 7)) (C := RX4) (T := TX4) (N := 7) hx hb hta inX4 hown hK hP 7 (xr_7 a k st) rfl 6 (by decide) hf32 (fun _ h9 => h9) rfl dX4_add_39 ?_
      refine lv_iload hx hb dX4_add_42 (lv_at hl 0 rfl) ?_
      refine lv_iadd hx hb dX4_add_44 ?_
      refine lv_sipush (v := (400 : Int32)) hx hb dX4_add_45 (by decide) ?_
      refine lv_icmp_le (tgt := 54) hx hb dX4_add_48 (by decide) (fun c48 => ?_) (fun c48 => ?_)
      · skip
        rw [if_pos c48] at hR
        refine lv_aload_n hx hb dX4_add_54 rfl (lv_at hl 2 rfl) ?_
        refine lv_iload_n hx hb dX4_add_55 rfl (lv_at hl 3 rfl) ?_
        refine lv_aload_n hx hb dX4_add_56 rfl (lv_at hl 2 rfl) ?_
        refine lv_iload_n hx hb dX4_add_57 rfl (lv_at hl 3 rfl) ?_
        refine lv_iload_n hx hb dX4_add_58 rfl (lv_at hl 4 rfl) ?_
        refine lv_iload_n hx hb dX4_add_59 rfl (lv_at hl 5 rfl) ?_
        refine wl_ci (va_runV (As := [.int o, .int a1, .int b1]) (rest := [.int o, .ref (a 7)]) ⟨hx, hb, hml, hown, hta⟩ (kx_Terms_widthOfResult l dC dI a k st o a1 b1 hA (fun h => hB (by rw [h]; decide))) (cwV 3 hta gX4_61 rfl rfl rfl (by decide +kernel) ⟨Nat.le_of_ble_eq_true rfl, Nat.le_of_ble_eq_true rfl⟩) (wl_pR (C := RX4) (ci := 2) (q0 := 7) hK hP rfl (xr_7 a k st)) rfl rfl hl.1 rfl (lv_room (Nat.le_of_ble_eq_true rfl)) dX4_add_60 ⟨Nat.zero_le _, Nat.zero_le _⟩) ?_
        refine wl_mi (va_runV (As := [.int o, .int (fx_Terms_widthOfResult st o a1 b1)]) (rest := []) ⟨hx, hb, hml, hown, hta⟩ (kx_Terms_addPlain l dC dI a k st o (fx_Terms_widthOfResult st o a1 b1) _ (by rw [hN]; exact wl_in hN64 (by decide))) (cwV 2 hta gX4_41 rfl rfl rfl (by decide +kernel) ⟨Nat.le_of_ble_eq_true rfl, Nat.le_of_ble_eq_true rfl⟩) (wl_pM (C := RX4) (ci := 2) (q0 := 7) hK hP hD rfl (xr_7 a k st)) rfl rfl hl.1 rfl (lv_room (Nat.le_of_ble_eq_true rfl)) dX4_add_63 ⟨Nat.zero_le _, Nat.zero_le _⟩) hP hD hS hAz (fun r63 u63 H locs hw63 hP hD hS => ?_)
        have v63 : (fx_Terms_addPlain st o (fx_Terms_widthOfResult st o a1 b1)).1 = r63 := congrArg Prod.fst hw63.symm
        have w63 : (fx_Terms_addPlain st o (fx_Terms_widthOfResult st o a1 b1)).2 = u63 := congrArg Prod.snd hw63.symm
        have hf63 : XF [6] [3, 4] [] st u63 := by rw [← w63]; exact ff_Terms_addPlain st o (fx_Terms_widthOfResult st o a1 b1)
        try rw [v63] at hR
        try rw [w63] at hR
        have e63 : r63 = nI N := ((congrArg Prod.fst hw63).trans hN)
        rw [e63]
        try rw [e63] at hR
        refine lv_istore (lv' := [(7, .int ((nI N))), (6, .int (fx_Op_costFor o (fA st 4 a1.toNatClampNeg))), (5, .int (fA st 4 a1.toNatClampNeg)), (0, .ref (a 7)), (1, .int o), (2, .int a1), (3, .int b1), (4, .int c1)]) hx hb dX4_add_66 hl (by decide) rfl (fun ls hl => ?_)
        refine lv_aload_n hx hb dX4_add_68 rfl (lv_at hl 3 rfl) ?_
        refine va_get (D := (dC, dI)) (ci := 2) (v := .ref (a 10)) (C := RX4) (T := TX4) (N := 7) hx hb hta inX4 hown hK hP 7 (xr_7 a k (u63)) rfl 2 (by decide) hf18 (fun _ h9 => h9) rfl dX4_add_69 ?_
        refine lv_iload hx hb dX4_add_72 (lv_at hl 0 rfl) ?_
        refine lv_iconst (v := (3 : Int32)) hx hb dX4_add_74 (by decide) ?_
        refine lv_imul hx hb dX4_add_75 ?_
        refine lv_iload_n hx hb dX4_add_76 rfl (lv_at hl 5 rfl) ?_
        refine va_iast hx hb hK hP hD hS 10 6 (xr_10 a k (u63)) rfl (wl_i30 hN64) dX4_add_77 (fun H locs hP hD hS => ?_)
        have hP := xp_A5 hP
        have hD := xd_A5 hD
        refine lv_aload_n hx hb dX4_add_78 rfl (lv_at hl 3 rfl) ?_
        refine va_get (D := (dC, dI)) (ci := 2) (v := .ref (a 10)) (C := RX4) (T := TX4) (N := 7) hx hb hta inX4 hown hK hP 7 (xr_7 a k (wA (u63) 5 ((((nI N)) * (3 : Int32)).toNatClampNeg) a1)) rfl 2 (by decide) hf18 (fun _ h9 => h9) rfl dX4_add_79 ?_
        refine lv_iload hx hb dX4_add_82 (lv_at hl 0 rfl) ?_
        refine lv_iconst (v := (3 : Int32)) hx hb dX4_add_84 (by decide) ?_
        refine lv_imul hx hb dX4_add_85 ?_
        refine lv_iconst (v := (1 : Int32)) hx hb dX4_add_86 (by decide) ?_
        refine lv_iadd hx hb dX4_add_87 ?_
        refine lv_iload_n hx hb dX4_add_88 rfl (lv_at hl 6 rfl) ?_
        refine va_iast hx hb hK hP hD hS 10 6 (xr_10 a k (wA (u63) 5 ((((nI N)) * (3 : Int32)).toNatClampNeg) a1)) rfl (wl_i3 1 hN64 (by decide)) dX4_add_89 (fun H locs hP hD hS => ?_)
        have hP := xp_A5 hP
        have hD := xd_A5 hD
        refine lv_aload_n hx hb dX4_add_90 rfl (lv_at hl 3 rfl) ?_
        refine va_get (D := (dC, dI)) (ci := 2) (v := .ref (a 10)) (C := RX4) (T := TX4) (N := 7) hx hb hta inX4 hown hK hP 7 (xr_7 a k (wA (wA (u63) 5 ((((nI N)) * (3 : Int32)).toNatClampNeg) a1) 5 (((((nI N)) * (3 : Int32)) + (1 : Int32)).toNatClampNeg) b1)) rfl 2 (by decide) hf18 (fun _ h9 => h9) rfl dX4_add_91 ?_
        refine lv_iload hx hb dX4_add_94 (lv_at hl 0 rfl) ?_
        refine lv_iconst (v := (3 : Int32)) hx hb dX4_add_96 (by decide) ?_
        refine lv_imul hx hb dX4_add_97 ?_
        refine lv_iconst (v := (2 : Int32)) hx hb dX4_add_98 (by decide) ?_
        refine lv_iadd hx hb dX4_add_99 ?_
        refine lv_iload hx hb dX4_add_100 (lv_at hl 7 rfl) ?_
        refine va_iast hx hb hK hP hD hS 10 6 (xr_10 a k (wA (wA (u63) 5 ((((nI N)) * (3 : Int32)).toNatClampNeg) a1) 5 (((((nI N)) * (3 : Int32)) + (1 : Int32)).toNatClampNeg) b1)) rfl (wl_i3 2 hN64 (by decide)) dX4_add_102 (fun H locs hP hD hS => ?_)
        have hP := xp_A5 hP
        have hD := xd_A5 hD
        refine lv_aload_n hx hb dX4_add_103 rfl (lv_at hl 3 rfl) ?_
        refine lv_dup hx hb dX4_add_104 rfl ?_
        refine va_get (D := (dC, dI)) (ci := 2) (v := .int (gI (u63) 7)) (C := RX4) (T := TX4) (N := 7) hx hb hta inX4 hown hK hP 7 (xr_7 a k (wA (wA (wA (u63) 5 ((((nI N)) * (3 : Int32)).toNatClampNeg) a1) 5 (((((nI N)) * (3 : Int32)) + (1 : Int32)).toNatClampNeg) b1) 5 (((((nI N)) * (3 : Int32)) + (2 : Int32)).toNatClampNeg) c1)) rfl 6 (by decide) hf32 (fun _ h9 => h9) rfl dX4_add_105 ?_
        refine lv_iload hx hb dX4_add_108 (lv_at hl 1 rfl) ?_
        refine lv_iadd hx hb dX4_add_110 ?_
        refine va_put (D := (dC, dI)) (ci := 2) (v := .int ((gI (u63) 7) + (fx_Op_costFor o (fA st 4 a1.toNatClampNeg)))) (ty := .int) (C := RX4) (T := TX4) (N := 7) hx hb hta inX4 tyX4 tyX4_ok nmX4 hown hK hP hD hS 7 (xr_7 a k (wA (wA (wA (u63) 5 ((((nI N)) * (3 : Int32)).toNatClampNeg) a1) 5 (((((nI N)) * (3 : Int32)) + (1 : Int32)).toNatClampNeg) b1) 5 (((((nI N)) * (3 : Int32)) + (2 : Int32)).toNatClampNeg) c1)) rfl 6 (by decide) hf32 (fun _ h9 => h9) rfl (by decide +kernel) rfl rfl (Nat.le_of_ble_eq_true rfl) dX4_add_111 (fun H locs hP hD hS => ?_)
        have hP := xp_I7 hP
        have hD := xd_I7 hD
        refine lv_aload_n hx hb dX4_add_114 rfl (lv_at hl 3 rfl) ?_
        refine lv_iload hx hb dX4_add_115 (lv_at hl 0 rfl) ?_
        refine wl_mv (va_runV (As := [.int ((nI N))]) (rest := []) ⟨hx, hb, hml, hown, hta⟩ (kx_Terms_noteTablesRead l dC dI a k (wI (wA (wA (wA (u63) 5 ((((nI N)) * (3 : Int32)).toNatClampNeg) a1) 5 (((((nI N)) * (3 : Int32)) + (1 : Int32)).toNatClampNeg) b1) 5 (((((nI N)) * (3 : Int32)) + (2 : Int32)).toNatClampNeg) c1) 7 ((gI (u63) 7) + (fx_Op_costFor o (fA st 4 a1.toNatClampNeg)))) N _ hN64 (wl_addops hN64 (by rw [← w63]; exact wl_ap3 hN hN64) hA hB hC)) (cwV 1 hta gX4_65 rfl rfl rfl (by decide +kernel) ⟨Nat.le_of_ble_eq_true rfl, Nat.le_of_ble_eq_true rfl⟩) (wl_pM (C := RX4) (ci := 2) (q0 := 7) hK hP hD rfl (xr_7 a k (wI (wA (wA (wA (u63) 5 ((((nI N)) * (3 : Int32)).toNatClampNeg) a1) 5 (((((nI N)) * (3 : Int32)) + (1 : Int32)).toNatClampNeg) b1) 5 (((((nI N)) * (3 : Int32)) + (2 : Int32)).toNatClampNeg) c1) 7 ((gI (u63) 7) + (fx_Op_costFor o (fA st 4 a1.toNatClampNeg)))))) rfl rfl hl.1 rfl (lv_room (Nat.le_of_ble_eq_true rfl)) dX4_add_117 ⟨Nat.zero_le _, Nat.zero_le _⟩) hP hD hS hAz (fun u117 H locs hw117 hP hD hS => ?_)
        have w117 : fx_Terms_noteTablesRead (wI (wA (wA (wA (u63) 5 ((((nI N)) * (3 : Int32)).toNatClampNeg) a1) 5 (((((nI N)) * (3 : Int32)) + (1 : Int32)).toNatClampNeg) b1) 5 (((((nI N)) * (3 : Int32)) + (2 : Int32)).toNatClampNeg) c1) 7 ((gI (u63) 7) + (fx_Op_costFor o (fA st 4 a1.toNatClampNeg)))) ((nI N)) = u117 := hw117.symm
        have hf117 : XF [] [6] [] (wI (wA (wA (wA (u63) 5 ((((nI N)) * (3 : Int32)).toNatClampNeg) a1) 5 (((((nI N)) * (3 : Int32)) + (1 : Int32)).toNatClampNeg) b1) 5 (((((nI N)) * (3 : Int32)) + (2 : Int32)).toNatClampNeg) c1) 7 ((gI (u63) 7) + (fx_Op_costFor o (fA st 4 a1.toNatClampNeg)))) u117 := by rw [← w117]; exact ff_Terms_noteTablesRead (wI (wA (wA (wA (u63) 5 ((((nI N)) * (3 : Int32)).toNatClampNeg) a1) 5 (((((nI N)) * (3 : Int32)) + (1 : Int32)).toNatClampNeg) b1) 5 (((((nI N)) * (3 : Int32)) + (2 : Int32)).toNatClampNeg) c1) 7 ((gI (u63) 7) + (fx_Op_costFor o (fA st 4 a1.toNatClampNeg)))) ((nI N))
        try rw [w117] at hR
        refine lv_iload hx hb dX4_add_120 (lv_at hl 0 rfl) ?_
        exact W.iret (v := (nI N)) hx hb hr (fun t ht hW => ⟨⟨_, _, rfl, hR, by rw [ht]; exact hP, va_K.moved hW.alike hK, hD⟩, hS.F ht⟩) hS.2.2 dX4_add_122
      · skip
        rw [if_neg c48] at hR
        refine lv_bipush (v := (-2 : Int32)) hx hb dX4_add_51 (by decide) ?_
        exact W.iret (v := (-2 : Int32)) hx hb hr (fun t ht hW => ⟨⟨_, _, rfl, hR, by rw [ht]; exact hP, va_K.moved hW.alike hK, hD⟩, hS.F ht⟩) hS.2.2 dX4_add_53
  · skip
    rw [if_pos c3] at hR
    refine lv_aload_n hx hb dX4_add_6 rfl (lv_at hl 0 rfl) ?_
    refine va_get (D := (dC, dI)) (ci := 2) (v := .ref (a 9)) (C := RX4) (T := TX4) (N := 7) hx hb hta inX4 hown hK hP 7 (xr_7 a k st) rfl 1 (by decide) hf15 (fun _ h9 => h9) rfl dX4_add_7 ?_
    refine lv_iload_n hx hb dX4_add_10 rfl (lv_at hl 3 rfl) ?_
    refine va_iald hx hb hK hP 9 5 (xr_9 a k st) rfl (hB (by rw [c3]; decide)) dX4_add_11 ?_
    refine lv_goto (tgt := 21) hx hb dX4_add_12 (by decide) ?_
    refine lv_istore (lv' := [(5, .int (fA st 4 b1.toNatClampNeg)), (0, .ref (a 7)), (1, .int o), (2, .int a1), (3, .int b1), (4, .int c1)]) hx hb dX4_add_21 hl (by decide) rfl (fun ls hl => ?_)
    refine lv_iload_n hx hb dX4_add_23 rfl (lv_at hl 2 rfl) ?_
    refine lv_iload hx hb dX4_add_24 (lv_at hl 0 rfl) ?_
    refine wl_ci (va_runS (As := [.int o, .int (fA st 4 b1.toNatClampNeg)]) (rest := []) ⟨hx, hb, hml, hown, hta⟩ (kx_Op_costFor l o (fA st 4 b1.toNatClampNeg)) (va_cwS 2 hta gX4_58 rfl rfl rfl (by decide +kernel) ⟨Nat.le_of_ble_eq_true rfl, Nat.le_of_ble_eq_true rfl⟩) preEq rfl rfl hl.1 rfl (lv_room (Nat.le_of_ble_eq_true rfl)) dX4_add_26 ⟨Nat.zero_le _, Nat.zero_le _⟩) ?_
    refine lv_istore (lv' := [(6, .int (fx_Op_costFor o (fA st 4 b1.toNatClampNeg))), (5, .int (fA st 4 b1.toNatClampNeg)), (0, .ref (a 7)), (1, .int o), (2, .int a1), (3, .int b1), (4, .int c1)]) hx hb dX4_add_29 hl (by decide) rfl (fun ls hl => ?_)
    refine lv_aload_n hx hb dX4_add_31 rfl (lv_at hl 2 rfl) ?_
    refine wl_ci (va_runV (As := []) (rest := []) ⟨hx, hb, hml, hown, hta⟩ (kx_Terms_isFull l dC dI a k st) (cwV 0 hta gX4_51 rfl rfl rfl (by decide +kernel) ⟨Nat.le_of_ble_eq_true rfl, Nat.le_of_ble_eq_true rfl⟩) (wl_pR (C := RX4) (ci := 2) (q0 := 7) hK hP rfl (xr_7 a k st)) rfl rfl hl.1 rfl (lv_room (Nat.le_of_ble_eq_true rfl)) dX4_add_32 ⟨Nat.zero_le _, Nat.zero_le _⟩) ?_
    refine lv_if_ne (tgt := 51) hx hb dX4_add_35 (by decide) (fun c35 => ?_) (fun c35 => ?_)
    · skip
      rw [if_neg c35] at hR
      refine lv_bipush (v := (-2 : Int32)) hx hb dX4_add_51 (by decide) ?_
      exact W.iret (v := (-2 : Int32)) hx hb hr (fun t ht hW => ⟨⟨_, _, rfl, hR, by rw [ht]; exact hP, va_K.moved hW.alike hK, hD⟩, hS.F ht⟩) hS.2.2 dX4_add_53
    · skip
      rw [if_pos c35] at hR
      have hN64 : N < 64 := wl_isFullN hN h64 c35
      refine lv_aload_n hx hb dX4_add_38 rfl (lv_at hl 2 rfl) ?_
      refine va_get (D := (dC, dI)) (ci := 2) (v := .int (gI st 7)) (C := RX4) (T := TX4) (N := 7) hx hb hta inX4 hown hK hP 7 (xr_7 a k st) rfl 6 (by decide) hf32 (fun _ h9 => h9) rfl dX4_add_39 ?_
      refine lv_iload hx hb dX4_add_42 (lv_at hl 0 rfl) ?_
      refine lv_iadd hx hb dX4_add_44 ?_
      refine lv_sipush (v := (400 : Int32)) hx hb dX4_add_45 (by decide) ?_
      refine lv_icmp_le (tgt := 54) hx hb dX4_add_48 (by decide) (fun c48 => ?_) (fun c48 => ?_)
      · skip
        rw [if_pos c48] at hR
        refine lv_aload_n hx hb dX4_add_54 rfl (lv_at hl 2 rfl) ?_
        refine lv_iload_n hx hb dX4_add_55 rfl (lv_at hl 3 rfl) ?_
        refine lv_aload_n hx hb dX4_add_56 rfl (lv_at hl 2 rfl) ?_
        refine lv_iload_n hx hb dX4_add_57 rfl (lv_at hl 3 rfl) ?_
        refine lv_iload_n hx hb dX4_add_58 rfl (lv_at hl 4 rfl) ?_
        refine lv_iload_n hx hb dX4_add_59 rfl (lv_at hl 5 rfl) ?_
        refine wl_ci (va_runV (As := [.int o, .int a1, .int b1]) (rest := [.int o, .ref (a 7)]) ⟨hx, hb, hml, hown, hta⟩ (kx_Terms_widthOfResult l dC dI a k st o a1 b1 hA (fun h => hB (by rw [h]; decide))) (cwV 3 hta gX4_61 rfl rfl rfl (by decide +kernel) ⟨Nat.le_of_ble_eq_true rfl, Nat.le_of_ble_eq_true rfl⟩) (wl_pR (C := RX4) (ci := 2) (q0 := 7) hK hP rfl (xr_7 a k st)) rfl rfl hl.1 rfl (lv_room (Nat.le_of_ble_eq_true rfl)) dX4_add_60 ⟨Nat.zero_le _, Nat.zero_le _⟩) ?_
        refine wl_mi (va_runV (As := [.int o, .int (fx_Terms_widthOfResult st o a1 b1)]) (rest := []) ⟨hx, hb, hml, hown, hta⟩ (kx_Terms_addPlain l dC dI a k st o (fx_Terms_widthOfResult st o a1 b1) _ (by rw [hN]; exact wl_in hN64 (by decide))) (cwV 2 hta gX4_41 rfl rfl rfl (by decide +kernel) ⟨Nat.le_of_ble_eq_true rfl, Nat.le_of_ble_eq_true rfl⟩) (wl_pM (C := RX4) (ci := 2) (q0 := 7) hK hP hD rfl (xr_7 a k st)) rfl rfl hl.1 rfl (lv_room (Nat.le_of_ble_eq_true rfl)) dX4_add_63 ⟨Nat.zero_le _, Nat.zero_le _⟩) hP hD hS hAz (fun r63 u63 H locs hw63 hP hD hS => ?_)
        have v63 : (fx_Terms_addPlain st o (fx_Terms_widthOfResult st o a1 b1)).1 = r63 := congrArg Prod.fst hw63.symm
        have w63 : (fx_Terms_addPlain st o (fx_Terms_widthOfResult st o a1 b1)).2 = u63 := congrArg Prod.snd hw63.symm
        have hf63 : XF [6] [3, 4] [] st u63 := by rw [← w63]; exact ff_Terms_addPlain st o (fx_Terms_widthOfResult st o a1 b1)
        try rw [v63] at hR
        try rw [w63] at hR
        have e63 : r63 = nI N := ((congrArg Prod.fst hw63).trans hN)
        rw [e63]
        try rw [e63] at hR
        refine lv_istore (lv' := [(7, .int ((nI N))), (6, .int (fx_Op_costFor o (fA st 4 b1.toNatClampNeg))), (5, .int (fA st 4 b1.toNatClampNeg)), (0, .ref (a 7)), (1, .int o), (2, .int a1), (3, .int b1), (4, .int c1)]) hx hb dX4_add_66 hl (by decide) rfl (fun ls hl => ?_)
        refine lv_aload_n hx hb dX4_add_68 rfl (lv_at hl 3 rfl) ?_
        refine va_get (D := (dC, dI)) (ci := 2) (v := .ref (a 10)) (C := RX4) (T := TX4) (N := 7) hx hb hta inX4 hown hK hP 7 (xr_7 a k (u63)) rfl 2 (by decide) hf18 (fun _ h9 => h9) rfl dX4_add_69 ?_
        refine lv_iload hx hb dX4_add_72 (lv_at hl 0 rfl) ?_
        refine lv_iconst (v := (3 : Int32)) hx hb dX4_add_74 (by decide) ?_
        refine lv_imul hx hb dX4_add_75 ?_
        refine lv_iload_n hx hb dX4_add_76 rfl (lv_at hl 5 rfl) ?_
        refine va_iast hx hb hK hP hD hS 10 6 (xr_10 a k (u63)) rfl (wl_i30 hN64) dX4_add_77 (fun H locs hP hD hS => ?_)
        have hP := xp_A5 hP
        have hD := xd_A5 hD
        refine lv_aload_n hx hb dX4_add_78 rfl (lv_at hl 3 rfl) ?_
        refine va_get (D := (dC, dI)) (ci := 2) (v := .ref (a 10)) (C := RX4) (T := TX4) (N := 7) hx hb hta inX4 hown hK hP 7 (xr_7 a k (wA (u63) 5 ((((nI N)) * (3 : Int32)).toNatClampNeg) a1)) rfl 2 (by decide) hf18 (fun _ h9 => h9) rfl dX4_add_79 ?_
        refine lv_iload hx hb dX4_add_82 (lv_at hl 0 rfl) ?_
        refine lv_iconst (v := (3 : Int32)) hx hb dX4_add_84 (by decide) ?_
        refine lv_imul hx hb dX4_add_85 ?_
        refine lv_iconst (v := (1 : Int32)) hx hb dX4_add_86 (by decide) ?_
        refine lv_iadd hx hb dX4_add_87 ?_
        refine lv_iload_n hx hb dX4_add_88 rfl (lv_at hl 6 rfl) ?_
        refine va_iast hx hb hK hP hD hS 10 6 (xr_10 a k (wA (u63) 5 ((((nI N)) * (3 : Int32)).toNatClampNeg) a1)) rfl (wl_i3 1 hN64 (by decide)) dX4_add_89 (fun H locs hP hD hS => ?_)
        have hP := xp_A5 hP
        have hD := xd_A5 hD
        refine lv_aload_n hx hb dX4_add_90 rfl (lv_at hl 3 rfl) ?_
        refine va_get (D := (dC, dI)) (ci := 2) (v := .ref (a 10)) (C := RX4) (T := TX4) (N := 7) hx hb hta inX4 hown hK hP 7 (xr_7 a k (wA (wA (u63) 5 ((((nI N)) * (3 : Int32)).toNatClampNeg) a1) 5 (((((nI N)) * (3 : Int32)) + (1 : Int32)).toNatClampNeg) b1)) rfl 2 (by decide) hf18 (fun _ h9 => h9) rfl dX4_add_91 ?_
        refine lv_iload hx hb dX4_add_94 (lv_at hl 0 rfl) ?_
        refine lv_iconst (v := (3 : Int32)) hx hb dX4_add_96 (by decide) ?_
        refine lv_imul hx hb dX4_add_97 ?_
        refine lv_iconst (v := (2 : Int32)) hx hb dX4_add_98 (by decide) ?_
        refine lv_iadd hx hb dX4_add_99 ?_
        refine lv_iload hx hb dX4_add_100 (lv_at hl 7 rfl) ?_
        refine va_iast hx hb hK hP hD hS 10 6 (xr_10 a k (wA (wA (u63) 5 ((((nI N)) * (3 : Int32)).toNatClampNeg) a1) 5 (((((nI N)) * (3 : Int32)) + (1 : Int32)).toNatClampNeg) b1)) rfl (wl_i3 2 hN64 (by decide)) dX4_add_102 (fun H locs hP hD hS => ?_)
        have hP := xp_A5 hP
        have hD := xd_A5 hD
        refine lv_aload_n hx hb dX4_add_103 rfl (lv_at hl 3 rfl) ?_
        refine lv_dup hx hb dX4_add_104 rfl ?_
        refine va_get (D := (dC, dI)) (ci := 2) (v := .int (gI (u63) 7)) (C := RX4) (T := TX4) (N := 7) hx hb hta inX4 hown hK hP 7 (xr_7 a k (wA (wA (wA (u63) 5 ((((nI N)) * (3 : Int32)).toNatClampNeg) a1) 5 (((((nI N)) * (3 : Int32)) + (1 : Int32)).toNatClampNeg) b1) 5 (((((nI N)) * (3 : Int32)) + (2 : Int32)).toNatClampNeg) c1)) rfl 6 (by decide) hf32 (fun _ h9 => h9) rfl dX4_add_105 ?_
        refine lv_iload hx hb dX4_add_108 (lv_at hl 1 rfl) ?_
        refine lv_iadd hx hb dX4_add_110 ?_
        refine va_put (D := (dC, dI)) (ci := 2) (v := .int ((gI (u63) 7) + (fx_Op_costFor o (fA st 4 b1.toNatClampNeg)))) (ty := .int) (C := RX4) (T := TX4) (N := 7) hx hb hta inX4 tyX4 tyX4_ok nmX4 hown hK hP hD hS 7 (xr_7 a k (wA (wA (wA (u63) 5 ((((nI N)) * (3 : Int32)).toNatClampNeg) a1) 5 (((((nI N)) * (3 : Int32)) + (1 : Int32)).toNatClampNeg) b1) 5 (((((nI N)) * (3 : Int32)) + (2 : Int32)).toNatClampNeg) c1)) rfl 6 (by decide) hf32 (fun _ h9 => h9) rfl (by decide +kernel) rfl rfl (Nat.le_of_ble_eq_true rfl) dX4_add_111 (fun H locs hP hD hS => ?_)
        have hP := xp_I7 hP
        have hD := xd_I7 hD
        refine lv_aload_n hx hb dX4_add_114 rfl (lv_at hl 3 rfl) ?_
        refine lv_iload hx hb dX4_add_115 (lv_at hl 0 rfl) ?_
        refine wl_mv (va_runV (As := [.int ((nI N))]) (rest := []) ⟨hx, hb, hml, hown, hta⟩ (kx_Terms_noteTablesRead l dC dI a k (wI (wA (wA (wA (u63) 5 ((((nI N)) * (3 : Int32)).toNatClampNeg) a1) 5 (((((nI N)) * (3 : Int32)) + (1 : Int32)).toNatClampNeg) b1) 5 (((((nI N)) * (3 : Int32)) + (2 : Int32)).toNatClampNeg) c1) 7 ((gI (u63) 7) + (fx_Op_costFor o (fA st 4 b1.toNatClampNeg)))) N _ hN64 (wl_addops hN64 (by rw [← w63]; exact wl_ap3 hN hN64) hA hB hC)) (cwV 1 hta gX4_65 rfl rfl rfl (by decide +kernel) ⟨Nat.le_of_ble_eq_true rfl, Nat.le_of_ble_eq_true rfl⟩) (wl_pM (C := RX4) (ci := 2) (q0 := 7) hK hP hD rfl (xr_7 a k (wI (wA (wA (wA (u63) 5 ((((nI N)) * (3 : Int32)).toNatClampNeg) a1) 5 (((((nI N)) * (3 : Int32)) + (1 : Int32)).toNatClampNeg) b1) 5 (((((nI N)) * (3 : Int32)) + (2 : Int32)).toNatClampNeg) c1) 7 ((gI (u63) 7) + (fx_Op_costFor o (fA st 4 b1.toNatClampNeg)))))) rfl rfl hl.1 rfl (lv_room (Nat.le_of_ble_eq_true rfl)) dX4_add_117 ⟨Nat.zero_le _, Nat.zero_le _⟩) hP hD hS hAz (fun u117 H locs hw117 hP hD hS => ?_)
        have w117 : fx_Terms_noteTablesRead (wI (wA (wA (wA (u63) 5 ((((nI N)) * (3 : Int32)).toNatClampNeg) a1) 5 (((((nI N)) * (3 : Int32)) + (1 : Int32)).toNatClampNeg) b1) 5 (((((nI N)) * (3 : Int32)) + (2 : Int32)).toNatClampNeg) c1) 7 ((gI (u63) 7) + (fx_Op_costFor o (fA st 4 b1.toNatClampNeg)))) ((nI N)) = u117 := hw117.symm
        have hf117 : XF [] [6] [] (wI (wA (wA (wA (u63) 5 ((((nI N)) * (3 : Int32)).toNatClampNeg) a1) 5 (((((nI N)) * (3 : Int32)) + (1 : Int32)).toNatClampNeg) b1) 5 (((((nI N)) * (3 : Int32)) + (2 : Int32)).toNatClampNeg) c1) 7 ((gI (u63) 7) + (fx_Op_costFor o (fA st 4 b1.toNatClampNeg)))) u117 := by rw [← w117]; exact ff_Terms_noteTablesRead (wI (wA (wA (wA (u63) 5 ((((nI N)) * (3 : Int32)).toNatClampNeg) a1) 5 (((((nI N)) * (3 : Int32)) + (1 : Int32)).toNatClampNeg) b1) 5 (((((nI N)) * (3 : Int32)) + (2 : Int32)).toNatClampNeg) c1) 7 ((gI (u63) 7) + (fx_Op_costFor o (fA st 4 b1.toNatClampNeg)))) ((nI N))
        try rw [w117] at hR
        refine lv_iload hx hb dX4_add_120 (lv_at hl 0 rfl) ?_
        exact W.iret (v := (nI N)) hx hb hr (fun t ht hW => ⟨⟨_, _, rfl, hR, by rw [ht]; exact hP, va_K.moved hW.alike hK, hD⟩, hS.F ht⟩) hS.2.2 dX4_add_122
      · skip
        rw [if_neg c48] at hR
        refine lv_bipush (v := (-2 : Int32)) hx hb dX4_add_51 (by decide) ?_
        exact W.iret (v := (-2 : Int32)) hx hb hr (fun t ht hW => ⟨⟨_, _, rfl, hR, by rw [ht]; exact hP, va_K.moved hW.alike hK, hD⟩, hS.F ht⟩) hS.2.2 dX4_add_53
end
section
/-! longs by their bits -/
def lb (x : Int64) (i : Nat) : Bool := x.toBitVec.getLsbD i
theorem lb_ext {x y : Int64} (h : ∀ i, i < 64 → lb x i = lb y i) : x = y := Int64.toBitVec_inj.mp (BitVec.eq_of_getLsbD_eq (fun i hi => h i hi))
theorem lb_or (x y : Int64) (i : Nat) : lb (x ||| y) i = (lb x i || lb y i) := by unfold lb; rw [Int64.toBitVec_or, BitVec.getLsbD_or]
theorem lb_and (x y : Int64) (i : Nat) : lb (x &&& y) i = (lb x i && lb y i) := by unfold lb; rw [Int64.toBitVec_and, BitVec.getLsbD_and]
theorem lb_xor (x y : Int64) (i : Nat) : lb (x ^^^ y) i = (lb x i ^^ lb y i) := by unfold lb; rw [Int64.toBitVec_xor, BitVec.getLsbD_xor]
theorem lb_big {x : Int64} {i : Nat} (h : 64 ≤ i) : lb x i = false := BitVec.getLsbD_of_ge _ _ h
theorem lb_0 (i : Nat) : lb 0 i = false := BitVec.getLsbD_zero
theorem lb_m1 : ∀ i, i < 64 → lb (-1) i = true := by decide +kernel
theorem ls_l : ∀ n, n < 64 → ((lN n).toBitVec.smod 64).toNat = n := by decide +kernel
theorem ls_u : ∀ n, n < 64 → ((UInt64.ofNat n).toBitVec % 64).toNat = n := by decide +kernel
theorem lb_shl {n : Nat} (hn : n < 64) (x : Int64) {i : Nat} (hi : i < 64) : lb (x <<< lN n) i = (decide (n ≤ i) && lb x (i - n)) := by
  unfold lb
  rw [Int64.toBitVec_shiftLeft]
  show (x.toBitVec <<< ((lN n).toBitVec.smod 64).toNat).getLsbD i = _
  rw [ls_l n hn, BitVec.getLsbD_shiftLeft]
  rcases Nat.lt_or_ge i n with h | h
  · simp [h, Nat.not_le.mpr h]
  · simp [hi, h, Nat.not_lt.mpr h]
theorem lb_sshr {n : Nat} (hn : n < 64) (x : Int64) {i : Nat} (hi : i < 64) : lb (x >>> lN n) i = if n + i < 64 then lb x (n + i) else lb x 63 := by
  unfold lb
  rw [Int64.toBitVec_shiftRight]
  show (x.toBitVec.sshiftRight ((lN n).toBitVec.smod 64).toNat).getLsbD i = _
  rw [ls_l n hn, BitVec.getLsbD_sshiftRight, BitVec.msb_eq_getLsbD_last]
  simp [hi]
theorem lb_ushr {n : Nat} (hn : n < 64) (x : Int64) (i : Nat) : lb ((x.toUInt64 >>> UInt64.ofNat n).toInt64) i = lb x (n + i) := by
  show (x.toUInt64 >>> UInt64.ofNat n).toBitVec.getLsbD i = x.toUInt64.toBitVec.getLsbD (n + i)
  rw [UInt64.toBitVec_shiftRight]
  show (x.toUInt64.toBitVec >>> ((UInt64.ofNat n).toBitVec % 64).toNat).getLsbD i = _
  rw [ls_u n hn, BitVec.getLsbD_ushiftRight]
theorem lb_eq0 {x : Int64} : x = 0 ↔ ∀ i, i < 64 → lb x i = false := ⟨fun h i _ => by rw [h]; exact lb_0 i, fun h => lb_ext (fun i hi => by rw [h i hi, lb_0])⟩
/-- 64 - w, as the shifts see it -/
theorem rs_amt : ∀ w, w < 65 → 1 ≤ w → ((64 : Int32) - nI w).toInt64 &&& 63 = lN (64 - w) := by decide +kernel
theorem rs_amu : ∀ w, w < 65 → 1 ≤ w → ((64 : Int32) - nI w).toInt64.toUInt64 &&& Int64.toUInt64 63 = UInt64.ofNat (64 - w) := by decide +kernel

theorem wb_tb (n : Nat) : (lN n).toBitVec = BitVec.ofNat 64 n := rfl
theorem wb_inj {a b : Int64} (h : a.toBitVec = b.toBitVec) : a = b := Int64.toBitVec_inj.mp h
theorem wb_tn {n : Nat} (h : n < 2 ^ 64) : (lN n).toBitVec.toNat = n := by rw [wb_tb, BitVec.toNat_ofNat, Nat.mod_eq_of_lt h]
theorem wb_of (x : Int64) : ∃ n, n < 2 ^ 64 ∧ x = lN n := ⟨x.toBitVec.toNat, x.toBitVec.isLt, wb_inj (by rw [wb_tb]; simp)⟩
theorem wb_of32 (x : Int32) : ∃ n, n < 2 ^ 32 ∧ x = nI n := ⟨x.toBitVec.toNat, x.toBitVec.isLt, Int32.toBitVec_inj.mp (by show _ = BitVec.ofNat 32 _; simp)⟩
theorem wb_c : ∀ k, k < 64 → ((nI k).toInt64 &&& 63) = lN k := by decide +kernel
theorem wb_cu : ∀ k, k < 64 → ((nI k).toInt64.toUInt64 &&& Int64.toUInt64 63) = UInt64.ofNat k := by decide +kernel
theorem wb_sm : ∀ k, k < 64 → (BitVec.ofNat 64 k).smod 64 = BitVec.ofNat 64 k := by decide +kernel
theorem wb_pw {a b : Nat} (h : a ≤ b) : 2 ^ b = 2 ^ a * 2 ^ (b - a) := by rw [← Nat.pow_add]; congr 1; omega
theorem wb_lt2 {a b : Nat} (h : a < b) : 2 ^ a < 2 ^ b := Nat.pow_lt_pow_right (by decide) h
theorem wb_mod (n : Nat) : lN n = lN (n % 2 ^ 64) := wb_inj (by rw [wb_tb, wb_tb]; apply BitVec.eq_of_toNat_eq; rw [BitVec.toNat_ofNat, BitVec.toNat_ofNat, Nat.mod_mod])
theorem wb_shr {n k : Nat} (hn : n < 2 ^ 64) (hk : k < 64) : ((lN n).toUInt64 >>> ((nI k).toInt64.toUInt64 &&& Int64.toUInt64 63)).toInt64 = lN (n / 2 ^ k) := by
  rw [wb_cu k hk]
  apply wb_inj
  apply BitVec.eq_of_toNat_eq
  show ((lN n).toUInt64 >>> UInt64.ofNat k).toNat = (BitVec.ofNat 64 _).toNat
  have h1 : (UInt64.ofNat k).toNat = k := by
    show (BitVec.ofNat 64 k).toNat = k
    rw [BitVec.toNat_ofNat, Nat.mod_eq_of_lt (by omega)]
  have h2 : (lN n).toUInt64.toNat = n := wb_tn hn
  rw [UInt64.toNat_shiftRight, h1, h2, Nat.mod_eq_of_lt hk, Nat.shiftRight_eq_div_pow, BitVec.toNat_ofNat, Nat.mod_eq_of_lt (Nat.lt_of_le_of_lt (Nat.div_le_self _ _) hn)]
theorem wb_shl (n : Nat) {k : Nat} (hk : k < 64) : lN n <<< ((nI k).toInt64 &&& 63) = lN (n * 2 ^ k) := by
  rw [wb_c k hk]
  apply wb_inj
  rw [Int64.toBitVec_shiftLeft, wb_tb, wb_tb, wb_tb, wb_sm k hk]
  apply BitVec.eq_of_toNat_eq
  rw [BitVec.shiftLeft_eq', BitVec.toNat_shiftLeft, BitVec.toNat_ofNat, BitVec.toNat_ofNat, BitVec.toNat_ofNat, Nat.mod_eq_of_lt (show k < 2 ^ 64 by omega), Nat.shiftLeft_eq, Nat.mul_mod, Nat.mod_mod, ← Nat.mul_mod]
theorem wb_and {a b : Nat} (ha : a < 2 ^ 64) (hb : b < 2 ^ 64) : lN a &&& lN b = lN (a &&& b) := by
  apply wb_inj
  rw [Int64.toBitVec_and, wb_tb, wb_tb, wb_tb]
  apply BitVec.eq_of_toNat_eq
  rw [BitVec.toNat_and, BitVec.toNat_ofNat, BitVec.toNat_ofNat, BitVec.toNat_ofNat, Nat.mod_eq_of_lt ha, Nat.mod_eq_of_lt hb, Nat.mod_eq_of_lt (Nat.and_lt_two_pow _ hb)]
theorem wb_or {a b : Nat} (ha : a < 2 ^ 64) (hb : b < 2 ^ 64) : lN a ||| lN b = lN (a ||| b) := by
  apply wb_inj
  rw [Int64.toBitVec_or, wb_tb, wb_tb, wb_tb]
  apply BitVec.eq_of_toNat_eq
  rw [BitVec.toNat_or, BitVec.toNat_ofNat, BitVec.toNat_ofNat, BitVec.toNat_ofNat, Nat.mod_eq_of_lt ha, Nat.mod_eq_of_lt hb, Nat.mod_eq_of_lt (Nat.or_lt_two_pow ha hb)]
theorem wb_mask {n k : Nat} (hn : n < 2 ^ 64) (hk : k < 64) : lN n &&& lN (2 ^ k - 1) = lN (n % 2 ^ k) := by
  rw [wb_and hn (by have := wb_lt2 hk; omega), Nat.and_two_pow_sub_one_eq_mod]
theorem wb_a1 {n : Nat} (hn : n < 2 ^ 64) : lN n &&& 1 = lN (n % 2) := wb_mask (k := 1) hn (by decide)
theorem wb_bit {n k : Nat} (hn : n < 2 ^ 64) (hk : k < 64) : ((lN n).toUInt64 >>> ((nI k).toInt64.toUInt64 &&& Int64.toUInt64 63)).toInt64 &&& 1 = lN (n / 2 ^ k % 2) := by
  rw [wb_shr hn hk, wb_a1 (Nat.lt_of_le_of_lt (Nat.div_le_self _ _) hn)]
theorem wl_and7 (x : Int64) : ∃ j : Nat, j < 8 ∧ (x &&& (7 : Int64)).toInt32 = nI j := by
  obtain ⟨n, hn, e⟩ := wb_of x
  refine ⟨n % 8, Nat.mod_lt _ (by decide), ?_⟩
  rw [e, show lN n &&& (7 : Int64) = lN (n % 8) from wb_mask (k := 3) hn (by decide), lN_i]
theorem wl_lk {t : Int32} (h : vp_in t 2) (x : Int64) : vp_in (t * (8 : Int32) + (x &&& (7 : Int64)).toInt32) 16 := by
  obtain ⟨T, hT, rfl⟩ := vp_in_of h (by decide)
  obtain ⟨j, hj, e⟩ := wl_and7 x
  rw [e, show (8 : Int32) = nI 8 from rfl, pk_mul, nI_add]
  exact vp_in_nI (by omega) (by decide)

/-! well formed terms -/
def isW (w : Int32) : Prop := w = 1 ∨ w = 8 ∨ w = 16 ∨ w = 32 ∨ w = 64
def nrm (w : Int32) (x : Int64) : Prop := fx_Width_readSigned w x = x
def oA (st : XS) (t : Nat) : Nat := (fA st 5 (3 * t)).toNatClampNeg
def oB (st : XS) (t : Nat) : Nat := (fA st 5 (3 * t + 1)).toNatClampNeg
def oC (st : XS) (t : Nat) : Nat := (fA st 5 (3 * t + 2)).toNatClampNeg
def XTt (st : XS) (V t : Nat) : Prop := isW (fA st 4 t) ∧
  ((fA st 3 t = 21 ∧ nrm (fA st 4 t) (fL st 1 t)) ∨
   (fA st 3 t = 22 ∧ fA st 4 t = 8 ∧ vp_in (fA st 5 (3 * t)) V) ∨
   ((fA st 3 t = 0 ∨ fA st 3 t = 1) ∧ vp_in (fA st 5 (3 * t)) t ∧ fA st 4 (oA st t) = fA st 4 t) ∨
   ((fA st 3 t = 2 ∨ fA st 3 t = 3 ∨ fA st 3 t = 4 ∨ fA st 3 t = 5 ∨ fA st 3 t = 6 ∨ fA st 3 t = 7 ∨ fA st 3 t = 10 ∨ fA st 3 t = 11 ∨ fA st 3 t = 12) ∧ vp_in (fA st 5 (3 * t)) t ∧ vp_in (fA st 5 (3 * t + 1)) t ∧ fA st 4 (oA st t) = fA st 4 t ∧ fA st 4 (oB st t) = fA st 4 t) ∨
   ((fA st 3 t = 8 ∨ fA st 3 t = 9) ∧ vp_in (fA st 5 (3 * t)) t ∧ vp_in (fA st 5 (3 * t + 1)) t ∧ fA st 4 (oA st t) = 8 ∧ fA st 4 (oB st t) = 8 ∧ fA st 4 t = 8) ∨
   ((fA st 3 t = 13 ∨ fA st 3 t = 14 ∨ fA st 3 t = 15) ∧ vp_in (fA st 5 (3 * t)) t ∧ vp_in (fA st 5 (3 * t + 1)) t ∧ fA st 4 (oA st t) = fA st 4 (oB st t) ∧ fA st 4 t = 1) ∨
   (fA st 3 t = 16 ∧ vp_in (fA st 5 (3 * t)) t ∧ vp_in (fA st 5 (3 * t + 1)) t ∧ vp_in (fA st 5 (3 * t + 2)) t ∧ fA st 4 (oA st t) = 1 ∧ fA st 4 (oB st t) = fA st 4 t ∧ fA st 4 (oC st t) = fA st 4 t) ∨
   ((fA st 3 t = 17 ∨ fA st 3 t = 18) ∧ vp_in (fA st 5 (3 * t)) t ∧ fA st 5 (3 * t + 1) = fA st 4 t ∧ fA st 4 (oA st t) < fA st 4 t) ∨
   (fA st 3 t = 19 ∧ vp_in (fA st 5 (3 * t)) t ∧ fA st 5 (3 * t + 1) = fA st 4 t ∧ fA st 4 t < fA st 4 (oA st t)) ∨
   (fA st 3 t = 20 ∧ vp_in (fA st 5 (3 * t)) t ∧ vp_in (fA st 5 (3 * t + 1)) 2 ∧ fA st 4 (oA st t) = 8 ∧ fA st 4 t = 8))
def XVv (st : XS) (v : Nat) : Prop := ∃ b lo : Nat, 1 ≤ b ∧ b ≤ 8 ∧ b + lo ≤ 10 ∧ fA st 0 v = nI b ∧ fA st 1 v = nI lo
def XT (st : XS) (V N : Nat) : Prop := (∀ t : Nat, t < N → XTt st V t) ∧ (∀ j : Nat, j < 16 → nrm 8 (fL st 0 j)) ∧ ∀ v : Nat, v < V → XVv st v
def XM (st : XS) (N : Nat) : Prop := ∀ t : Nat, t < N → nrm (fA st 4 t) (fL st 2 t)
theorem XT.fr {Is As Ls : List Nat} {st S : XS} {V N : Nat} (h : XT st V N) (hF : XF Is As Ls st S) (hA : ∀ k ∈ [0, 1, 2, 3, 4, 5], k ∉ As) (hL : ∀ k ∈ [0, 1], k ∉ Ls) : XT S V N := by
  have h0 := hF.A 0 (hA 0 (by decide))
  have h1 := hF.A 1 (hA 1 (by decide))
  have h3 := hF.A 3 (hA 3 (by decide))
  have h4 := hF.A 4 (hA 4 (by decide))
  have h5 := hF.A 5 (hA 5 (by decide))
  have l0 := hF.L 0 (hL 0 (by decide))
  have l1 := hF.L 1 (hL 1 (by decide))
  refine ⟨fun t ht => ?_, fun j hj => ?_, fun v hv => ?_⟩
  · have q := h.1 t ht
    unfold XTt oA oB oC at *
    rw [h3, h4, h5, l1]
    exact q
  · rw [l0]; exact h.2.1 j hj
  · have q := h.2.2 v hv
    unfold XVv at *
    rw [h0, h1]
    exact q
theorem XM.fr {Is As Ls : List Nat} {st S : XS} {N : Nat} (h : XM st N) (hF : XF Is As Ls st S) (hA : 4 ∉ As) (hL : 2 ∉ Ls) : XM S N := by
  intro t ht
  rw [hF.A 4 hA, hF.L 2 hL]
  exact h t ht

theorem rs_bit {k : Nat} (h1 : 1 ≤ k) (h2 : k < 65) (x : Int64) {i : Nat} (hi : i < 64) : lb (fx_Width_readSigned (nI k) x) i = if i < k then lb x i else lb x (k - 1) := by
  rw [fx_Width_readSigned, rs_amt k h2 h1, lb_sshr (by omega) _ hi]
  by_cases h : i < k
  · rw [if_pos (by omega), if_pos h, lb_shl (by omega) _ (by omega)]
    rw [show 64 - k + i - (64 - k) = i by omega, decide_eq_true (by omega), Bool.true_and]
  · rw [if_neg (by omega), if_neg h, lb_shl (by omega) _ (by omega)]
    rw [show 63 - (64 - k) = k - 1 by omega, decide_eq_true (by omega), Bool.true_and]
theorem rp_bit {k : Nat} (h1 : 1 ≤ k) (h2 : k < 65) (x : Int64) {i : Nat} (hi : i < 64) : lb (fx_Width_readPlain (nI k) x) i = (decide (i < k) && lb x i) := by
  rw [fx_Width_readPlain, rs_amt k h2 h1, rs_amu k h2 h1, lb_ushr (by omega)]
  by_cases h : i < k
  · rw [lb_shl (by omega) _ (by omega), show 64 - k + i - (64 - k) = i by omega, decide_eq_true (show 64 - k ≤ 64 - k + i by omega), decide_eq_true h]
  · rw [lb_big (by omega), decide_eq_false h, Bool.false_and]
theorem nrm_iff {k : Nat} (h1 : 1 ≤ k) (h2 : k < 65) {x : Int64} : nrm (nI k) x ↔ ∀ i, k ≤ i → i < 64 → lb x i = lb x (k - 1) := by
  constructor
  · intro h i hi hi2
    unfold nrm at h
    have q := rs_bit h1 h2 x hi2
    rw [h, if_neg (by omega)] at q
    exact q
  · intro h
    unfold nrm
    apply lb_ext
    intro i hi
    rw [rs_bit h1 h2 x hi]
    split
    · rfl
    · exact (h i (by omega) hi).symm
theorem isW.k {w : Int32} (h : isW w) : ∃ k : Nat, 1 ≤ k ∧ k < 65 ∧ w = nI k := by
  rcases h with rfl | rfl | rfl | rfl | rfl
  · exact ⟨1, by decide, by decide, rfl⟩
  · exact ⟨8, by decide, by decide, rfl⟩
  · exact ⟨16, by decide, by decide, rfl⟩
  · exact ⟨32, by decide, by decide, rfl⟩
  · exact ⟨64, by decide, by decide, rfl⟩
theorem nrm_rsk {k : Nat} (h1 : 1 ≤ k) (h2 : k < 65) (x : Int64) : nrm (nI k) (fx_Width_readSigned (nI k) x) := by
  rw [nrm_iff h1 h2]
  intro i hi hi2
  rw [rs_bit h1 h2 x hi2, rs_bit h1 h2 x (by omega), if_neg (by omega), if_pos (by omega)]
theorem nrm_rs {w : Int32} (h : isW w) (x : Int64) : nrm w (fx_Width_readSigned w x) := by
  obtain ⟨k, h1, h2, rfl⟩ := h.k
  exact nrm_rsk h1 h2 x
theorem nrm_and {w : Int32} (h : isW w) {x y : Int64} (hx : nrm w x) (hy : nrm w y) : nrm w (x &&& y) := by
  obtain ⟨k, h1, h2, rfl⟩ := h.k
  rw [nrm_iff h1 h2] at *
  intro i hi hi2
  rw [lb_and, lb_and, hx i hi hi2, hy i hi hi2]
theorem nrm_or {w : Int32} (h : isW w) {x y : Int64} (hx : nrm w x) (hy : nrm w y) : nrm w (x ||| y) := by
  obtain ⟨k, h1, h2, rfl⟩ := h.k
  rw [nrm_iff h1 h2] at *
  intro i hi hi2
  rw [lb_or, lb_or, hx i hi hi2, hy i hi hi2]
theorem nrm_xor {w : Int32} (h : isW w) {x y : Int64} (hx : nrm w x) (hy : nrm w y) : nrm w (x ^^^ y) := by
  obtain ⟨k, h1, h2, rfl⟩ := h.k
  rw [nrm_iff h1 h2] at *
  intro i hi hi2
  rw [lb_xor, lb_xor, hx i hi hi2, hy i hi hi2]
theorem nrm_0 {w : Int32} (h : isW w) : nrm w 0 := by
  obtain ⟨k, h1, h2, rfl⟩ := h.k
  rw [nrm_iff h1 h2]
  intro i hi hi2
  rw [lb_0, lb_0]
theorem nrm_m1 {w : Int32} (h : isW w) : nrm w (-1) := by
  obtain ⟨k, h1, h2, rfl⟩ := h.k
  rw [nrm_iff h1 h2]
  intro i hi hi2
  rw [lb_m1 i hi2, lb_m1 (k - 1) (by omega)]
theorem nrm_mono {k k2 : Nat} (h1 : 1 ≤ k) (h2 : k ≤ k2) (h3 : k2 < 65) {x : Int64} (h : nrm (nI k) x) : nrm (nI k2) x := by
  rw [nrm_iff (by omega) h3]
  rw [nrm_iff h1 (by omega)] at h
  intro i hi hi2
  rw [h i (by omega) hi2]
  rcases Nat.lt_or_ge (k2 - 1) k with q | q
  · rw [show k2 - 1 = k - 1 by omega]
  · exact (h (k2 - 1) q (by omega)).symm
theorem nrm_rp {k k2 : Nat} (h1 : 1 ≤ k) (h2 : k < k2) (h3 : k2 < 65) (x : Int64) : nrm (nI k2) (fx_Width_readPlain (nI k) x) := by
  rw [nrm_iff (by omega) h3]
  intro i hi hi2
  rw [rp_bit h1 (by omega) x hi2, rp_bit h1 (by omega) x (by omega), decide_eq_false (by omega), decide_eq_false (by omega), Bool.false_and, Bool.false_and]
theorem nrm_shr {w : Int32} (h : isW w) {x : Int64} (hx : nrm w x) {n : Nat} (hn : n < 64) : nrm w (x >>> lN n) := by
  obtain ⟨k, h1, h2, rfl⟩ := h.k
  rw [nrm_iff h1 h2] at *
  have key : ∀ i, k - 1 ≤ i → i < 64 → lb x i = lb x (k - 1) := by
    intro i hi hi2
    rcases Nat.lt_or_ge i k with q | q
    · rw [show i = k - 1 by omega]
    · exact hx i q hi2
  intro i hi hi2
  rw [lb_sshr hn x hi2, lb_sshr hn x (by omega)]
  split <;> split
  · rw [key _ (by omega) (by omega), key (n + (k - 1)) (by omega) (by omega)]
  · omega
  · rw [key 63 (by omega) (by omega), key (n + (k - 1)) (by omega) (by omega)]
  · rfl
theorem rp_ne0 {k : Nat} (h1 : 1 ≤ k) (h2 : k < 65) {x : Int64} (hn : nrm (nI k) x) (h0 : ¬ x = 0) : ¬ fx_Width_readPlain (nI k) x = 0 := by
  intro h
  apply h0
  rw [lb_eq0]
  rw [lb_eq0] at h
  rw [nrm_iff h1 h2] at hn
  have low : ∀ i, i < k → lb x i = false := by
    intro i hi
    have q := h i (by omega)
    rw [rp_bit h1 h2 x (by omega), decide_eq_true hi, Bool.true_and] at q
    exact q
  intro i hi
  rcases Nat.lt_or_ge i k with q | q
  · exact low i q
  · rw [hn i q hi]; exact low _ (by omega)

theorem wl_dv {w : Int32} {x : Int64} (hw : w = 8) (hn : nrm 8 x) (h0 : ¬ x = 0) : ¬ fx_Width_readPlain w x = 0 := by
  rw [hw]; exact rp_ne0 (k := 8) (by decide) (by decide) hn h0
theorem vp_up {x : Int32} {a b : Nat} (h : vp_in x a) (hab : a ≤ b) : vp_in x b := by
  rw [vp_in_iff] at *; omega
theorem wl_evop0 {S : XS} {V N i : Nat} (hT : XTt S V i) (hM : XM S N) (hlt : i < N) (h64 : N ≤ 64) (h21 : ¬ fA S 3 i = 21) (h22 : ¬ fA S 3 i = 22) : vp_in (fA S 5 (3 * i)) 64 ∧ (¬ (fA S 3 i = 0 ∨ fA S 3 i = 1 ∨ fA S 3 i = 17 ∨ fA S 3 i = 18 ∨ fA S 3 i = 19 ∨ fA S 3 i = 20) → vp_in (fA S 5 (3 * i + 1)) 64) ∧ (fA S 3 i = 16 → vp_in (fA S 5 (3 * i + 2)) 64) ∧ (fA S 3 i = 20 → vp_in (fA S 5 (3 * i + 1)) 2) ∧ (fA S 3 i = 8 ∨ fA S 3 i = 9 → ¬ fL S 2 (fA S 5 (3 * i + 1)).toNatClampNeg = 0 → ¬ fx_Width_readPlain (fA S 4 (fA S 5 (3 * i)).toNatClampNeg) (fL S 2 (fA S 5 (3 * i + 1)).toNatClampNeg) = 0) := by
  have up : ∀ {x : Int32}, vp_in x i → vp_in x 64 := fun h => vp_up h (by omega)
  have no : ∀ {p q : Int32} {P : Prop}, fA S 3 i = p → fA S 3 i = q → ¬ p = q → P := fun a b c => absurd (a.symm.trans b) c
  have n5 : ∀ {p : Int32} {P : Prop}, fA S 3 i = p → ¬ p = 8 → ¬ p = 9 → (fA S 3 i = 8 ∨ fA S 3 i = 9) → P := fun a b c q => q.elim (fun q => no a q b) (fun q => no a q c)
  obtain ⟨hw, h⟩ := hT
  rcases h with ⟨h, _⟩ | ⟨h, _⟩ | ⟨ho, ha, _⟩ | ⟨ho, ha, hb, _⟩ | ⟨ho, ha, hb, wa, wb, _⟩ | ⟨ho, ha, hb, _⟩ | ⟨ho, ha, hb, hc, _⟩ | ⟨ho, ha, _⟩ | ⟨ho, ha, _⟩ | ⟨ho, ha, hb, _⟩
  · exact absurd h h21
  · exact absurd h h22
  · rcases ho with ho | ho
    · exact ⟨up ha, fun q => absurd (Or.inl ho) q, fun q => no ho q (by decide), fun q => no ho q (by decide), n5 ho (by decide) (by decide)⟩
    · exact ⟨up ha, fun q => absurd (Or.inr (Or.inl ho)) q, fun q => no ho q (by decide), fun q => no ho q (by decide), n5 ho (by decide) (by decide)⟩
  · rcases ho with ho | ho | ho | ho | ho | ho | ho | ho | ho
    · exact ⟨up ha, fun _ => up hb, fun q => no ho q (by decide), fun q => no ho q (by decide), n5 ho (by decide) (by decide)⟩
    · exact ⟨up ha, fun _ => up hb, fun q => no ho q (by decide), fun q => no ho q (by decide), n5 ho (by decide) (by decide)⟩
    · exact ⟨up ha, fun _ => up hb, fun q => no ho q (by decide), fun q => no ho q (by decide), n5 ho (by decide) (by decide)⟩
    · exact ⟨up ha, fun _ => up hb, fun q => no ho q (by decide), fun q => no ho q (by decide), n5 ho (by decide) (by decide)⟩
    · exact ⟨up ha, fun _ => up hb, fun q => no ho q (by decide), fun q => no ho q (by decide), n5 ho (by decide) (by decide)⟩
    · exact ⟨up ha, fun _ => up hb, fun q => no ho q (by decide), fun q => no ho q (by decide), n5 ho (by decide) (by decide)⟩
    · exact ⟨up ha, fun _ => up hb, fun q => no ho q (by decide), fun q => no ho q (by decide), n5 ho (by decide) (by decide)⟩
    · exact ⟨up ha, fun _ => up hb, fun q => no ho q (by decide), fun q => no ho q (by decide), n5 ho (by decide) (by decide)⟩
    · exact ⟨up ha, fun _ => up hb, fun q => no ho q (by decide), fun q => no ho q (by decide), n5 ho (by decide) (by decide)⟩
  · rcases ho with ho | ho
    · exact ⟨up ha, fun _ => up hb, fun q => no ho q (by decide), fun q => no ho q (by decide), fun _ h0 => wl_dv wa (by rw [← wb]; exact hM _ (by obtain ⟨j, hj, e⟩ := vp_in_of hb (by omega); show (fA S 5 (3 * i + 1)).toNatClampNeg < N; rw [e, nI_clamp (by omega)]; omega)) h0⟩
    · exact ⟨up ha, fun _ => up hb, fun q => no ho q (by decide), fun q => no ho q (by decide), fun _ h0 => wl_dv wa (by rw [← wb]; exact hM _ (by obtain ⟨j, hj, e⟩ := vp_in_of hb (by omega); show (fA S 5 (3 * i + 1)).toNatClampNeg < N; rw [e, nI_clamp (by omega)]; omega)) h0⟩
  · rcases ho with ho | ho | ho
    · exact ⟨up ha, fun _ => up hb, fun q => no ho q (by decide), fun q => no ho q (by decide), n5 ho (by decide) (by decide)⟩
    · exact ⟨up ha, fun _ => up hb, fun q => no ho q (by decide), fun q => no ho q (by decide), n5 ho (by decide) (by decide)⟩
    · exact ⟨up ha, fun _ => up hb, fun q => no ho q (by decide), fun q => no ho q (by decide), n5 ho (by decide) (by decide)⟩
  · skip
    exact ⟨up ha, fun _ => up hb, fun _ => up hc, fun q => no ho q (by decide), n5 ho (by decide) (by decide)⟩
  · rcases ho with ho | ho
    · exact ⟨up ha, fun q => absurd (Or.inr (Or.inr (Or.inl ho))) q, fun q => no ho q (by decide), fun q => no ho q (by decide), n5 ho (by decide) (by decide)⟩
    · exact ⟨up ha, fun q => absurd (Or.inr (Or.inr (Or.inr (Or.inl ho)))) q, fun q => no ho q (by decide), fun q => no ho q (by decide), n5 ho (by decide) (by decide)⟩
  · skip
    exact ⟨up ha, fun q => absurd (Or.inr (Or.inr (Or.inr (Or.inr (Or.inl ho))))) q, fun q => no ho q (by decide), fun q => no ho q (by decide), n5 ho (by decide) (by decide)⟩
  · skip
    exact ⟨up ha, fun q => absurd (Or.inr (Or.inr (Or.inr (Or.inr (Or.inr ho))))) q, fun q => no ho q (by decide), fun _ => hb, n5 ho (by decide) (by decide)⟩
end
section
theorem wl_m1 (t : Nat) : nI t + (-1 : Int32) = nI t - (1 : Int32) := (Int32.sub_eq_add_neg _ _).symm
theorem wl_m1p1 (t : Nat) : nI t - (1 : Int32) + (1 : Int32) = nI t := Int32.sub_add_cancel _ _
theorem wl_mA {t : Nat} (h : t < 2147483648) : (nI t + (-1 : Int32) + (1 : Int32)).toNatClampNeg = t := by
  rw [wl_m1, wl_m1p1, nI_clamp h]
theorem wl_mB {t : Nat} (h : t + 1 < 2147483648) : (nI t + (1 : Int32)).toNatClampNeg = t + 1 := by
  rw [nI_1, nI_clamp h]
theorem wl_desc {x : Int32} {N : Nat} (hN : N < 2147483648) (h : ∃ i : Nat, i ≤ N ∧ x = nI i - (1 : Int32)) (c : ¬ x < (0 : Int32)) : ∃ t : Nat, t < N ∧ x = nI t := by
  obtain ⟨i, hi, e⟩ := h
  cases i with
  | zero => exact absurd (by rw [e]; decide) c
  | succ i => exact ⟨i, by omega, by rw [e]; exact nI_pred i⟩
theorem wl_opin {st S : XS} {t j : Nat} (hE : XF [] [7] [] st S) (ht : t < 64) (hj : j < 3) (h : vp_in (fA st 5 (3 * t + j)) 64) : vp_in (fx_Terms_operandOf S (nI t) (nI j)) 64 := by
  rw [wl_opn ht hj, hE.A 5 (by decide)]; exact h
theorem wl_hop {st S : XS} {N t : Nat} (ht64 : t < 64) (hE : XF [] [7] [] st S) (ht : t < N) (hops : ∀ t j : Nat, t < N → j < 3 → nI j < fx_Op_namedTerms (fA st 3 t) → vp_in (fA st 5 (3 * t + j)) 64) : ∀ j : Nat, j < 3 → nI j < fx_Op_namedTerms (fx_Terms_operationOf S (nI t)) → vp_in (fA st 5 (3 * t + j)) 64 := by
  intro j hj h
  rw [fx_Terms_operationOf, nI_clamp (by omega), hE.A 3 (by decide)] at h
  exact hops t j ht hj h
theorem wl_nlt0 {j : Nat} (hj : j < 3) : ¬ nI j < (0 : Int32) := nI_pos (by omega)
theorem wl_ops {st S : XS} {N : Nat} (h3 : fA S 3 = fA st 3) (h5 : fA S 5 = fA st 5) (hops : ∀ t j : Nat, t < N → j < 3 → nI j < fx_Op_namedTerms (fA st 3 t) → vp_in (fA st 5 (3 * t + j)) 64) : ∀ t j : Nat, t < N → j < 3 → nI j < fx_Op_namedTerms (fA S 3 t) → vp_in (fA S 5 (3 * t + j)) 64 := by
  rw [h3, h5]; exact hops

theorem mw_130 : (.fieldLink RX5 23 RX5 "results" "[J" : Cond) ∈ AW := List.mem_filter.mpr ⟨List.mem_of_getElem? (i := 130) (by decide +kernel), rfl⟩
theorem dX5_resultAt_0 : decode cX5_resultAt 0 = .ok (.aload_n 0, 1) := by decide +kernel
theorem dX5_resultAt_1 : decode cX5_resultAt 1 = .ok (.getfield 23, 3) := by decide +kernel
theorem dX5_resultAt_4 : decode cX5_resultAt 4 = .ok (.iload_n 1, 1) := by decide +kernel
theorem dX5_resultAt_5 : decode cX5_resultAt 5 = .ok (.laload, 1) := by decide +kernel
theorem dX5_resultAt_6 : decode cX5_resultAt 6 = .ok (.lreturn, 1) := by decide +kernel
def fx_Eval_resultAt (st : XS) (t : Int32) : Int64 := fL st 2 t.toNatClampNeg
set_option maxHeartbeats 4000000 in
set_option maxRecDepth 100000 in
theorem kx_Eval_resultAt (l : Launch) (dC : Nat → ClassId) (dI : Nat → Nat → Nat) (a : Nat → Nat) (k : Nat → ClassId) (st : XS) (t : Int32) (hi : vp_in t 64) : Met l yX5_resultAt wsX5_resultAt ({ frames := 0, cells := 0, slots := 0, locals := 0 }) (va_Pc [.ref (a 13), .int t] (wl_prR (dC, dI) vwCl (xt k) (xw a k st))) (vp_Sl (fun r9 => r9 = fx_Eval_resultAt st t)) 0 0 (fun _ => False) := by
  refine Met.ofW (cc := cX5_resultAt) (maxL := 2) (ret := (some .long)) (by decide) rfl ?_
  intro p e s m args below meth c s₁ B hml hv
  obtain ⟨rfl, hP, hK⟩ := hv
  have hx := B.exec
  have hb := B.bytes
  have hr := B.returns
  have hta := aw_hts (atoms_spec (ws := wsX5_resultAt) B.pre)
  have hown : s.vm.findClass RX5 = some m.cls := findClass_of_methodNamed B.named
  have hlocks := B.notSynchronized
  have hf23 := hta _ mw_130
  have hl := lv_entry ([.ref (a 13), .int t]) (n := 2) (Nat.le_of_ble_eq_true rfl)
  rw [lg_entry_eq]
  generalize (lg_sl ([.ref (a 13), .int t]) ++ List.replicate (2 - (lg_sl ([.ref (a 13), .int t])).length) Slot.unset).toArray = ls at hl ⊢
  have hl : lv_has ls 2 [(0, .ref (a 13)), (1, .int t)] := hl
  generalize hR : fx_Eval_resultAt st t = R
  rw [fx_Eval_resultAt] at hR
  refine lv_aload_n hx hb dX5_resultAt_0 rfl (lv_at hl 0 rfl) ?_
  refine va_get (D := (dC, dI)) (ci := 3) (v := .ref (a 14)) (C := RX5) (T := TX5) (N := 5) hx hb hta inX5 hown hK hP 13 (xr_13 a k st) rfl 3 (by decide) hf23 (fun _ h9 => h9) rfl dX5_resultAt_1 ?_
  refine lv_iload_n hx hb dX5_resultAt_4 rfl (lv_at hl 1 rfl) ?_
  refine va_lald hx hb hK hP 14 9 (xr_14 a k st) rfl hi dX5_resultAt_5 ?_
  exact W.lret (v := fL st 2 t.toNatClampNeg) hx hb hr (fun t ht hW => ⟨_, rfl, hR, ht⟩) (fun q h => by cases h) dX5_resultAt_6

theorem mw_131 : (.fieldLink RX5 27 RX5 "needed" "[Z" : Cond) ∈ AW := List.mem_filter.mpr ⟨List.mem_of_getElem? (i := 131) (by decide +kernel), rfl⟩
theorem dX5_need_0 : decode cX5_need 0 = .ok (.aload_n 0, 1) := by decide +kernel
theorem dX5_need_1 : decode cX5_need 1 = .ok (.getfield 27, 3) := by decide +kernel
theorem dX5_need_4 : decode cX5_need 4 = .ok (.iload_n 1, 1) := by decide +kernel
theorem dX5_need_5 : decode cX5_need 5 = .ok (.iconst 1, 1) := by decide +kernel
theorem dX5_need_6 : decode cX5_need 6 = .ok (.bastore, 1) := by decide +kernel
theorem dX5_need_7 : decode cX5_need 7 = .ok (.return_, 1) := by decide +kernel
def fx_Eval_need (st : XS) (t : Int32) : XS := wA st 7 t.toNatClampNeg (vp_nar .boolean (1 : Int32))
theorem ff_Eval_need (st : XS) (t : Int32) : XF [] [7] [] st (fx_Eval_need st t) := by
  rw [fx_Eval_need]
  exact (XF.wA (by decide) XF.rf)
set_option maxHeartbeats 4000000 in
set_option maxRecDepth 100000 in
theorem kx_Eval_need (l : Launch) (dC : Nat → ClassId) (dI : Nat → Nat → Nat) (a : Nat → Nat) (k : Nat → ClassId) (st : XS) (t : Int32) (sz : Nat) (hi : vp_in t 64) : Met l yX5_need wsX5_need ({ frames := 0, cells := 0, slots := 0, locals := 0 }) (va_Pc [.ref (a 13), .int t] (wl_pre (dC, dI) vwCl (xt k) (xw a k) st sz)) (va_Qv (fun u9 => u9 = fx_Eval_need st t) (wl_at (dC, dI) vwCl (xt k) (xw a k) (va_A (xw a k st) sz)) (va_A (xw a k st) sz)) 0 0 (va_A (xw a k st) sz) := by
  refine Met.ofW (cc := cX5_need) (maxL := 2) (ret := none) (by decide) rfl ?_
  intro p e s m args below meth c s₁ B hml hv
  obtain ⟨rfl, hsz, hP, hK, hD0⟩ := hv
  have hx := B.exec
  have hb := B.bytes
  have hr := B.returns
  have hta := aw_hts (atoms_spec (ws := wsX5_need) B.pre)
  have hown : s.vm.findClass RX5 = some m.cls := findClass_of_methodNamed B.named
  have hlocks := B.notSynchronized
  have hf27 := hta _ mw_131
  subst hsz
  have hD := hD0.self (sz := s.heap.size)
  generalize hAe : va_A (xw a k st) s.heap.size = A at hD ⊢
  have hAz : ∀ q : Nat, s.heap.size ≤ q → A q := fun q h => by rw [← hAe]; exact Or.inr h
  have hS : va_S A s.heap s.heap [] := va_S.rf
  have hl := lv_entry ([.ref (a 13), .int t]) (n := 2) (Nat.le_of_ble_eq_true rfl)
  rw [lg_entry_eq]
  generalize (lg_sl ([.ref (a 13), .int t]) ++ List.replicate (2 - (lg_sl ([.ref (a 13), .int t])).length) Slot.unset).toArray = ls at hl ⊢
  have hl : lv_has ls 2 [(0, .ref (a 13)), (1, .int t)] := hl
  generalize hR : fx_Eval_need st t = R
  rw [fx_Eval_need] at hR
  refine lv_aload_n hx hb dX5_need_0 rfl (lv_at hl 0 rfl) ?_
  refine va_get (D := (dC, dI)) (ci := 3) (v := .ref (a 15)) (C := RX5) (T := TX5) (N := 5) hx hb hta inX5 hown hK hP 13 (xr_13 a k st) rfl 4 (by decide) hf27 (fun _ h9 => h9) rfl dX5_need_1 ?_
  refine lv_iload_n hx hb dX5_need_4 rfl (lv_at hl 1 rfl) ?_
  refine lv_iconst (v := (1 : Int32)) hx hb dX5_need_5 (by decide) ?_
  refine va_zast hx hb hK hP hD hS 15 10 (xr_15 a k st) rfl hi dX5_need_6 (fun H locs hP hD hS => ?_)
  have hP := xp_A7 hP
  have hD := xd_A7 hD
  exact W.vret hx hb hr (fun t ht hW => ⟨⟨_, rfl, hR, by rw [ht]; exact hP, va_K.moved hW.alike hK, hD⟩, hS.F ht⟩) hS.2.2 dX5_need_7

theorem dX5_needNothing_0 : decode cX5_needNothing 0 = .ok (.iconst 0, 1) := by decide +kernel
theorem dX5_needNothing_1 : decode cX5_needNothing 1 = .ok (.istore_n 1, 1) := by decide +kernel
theorem dX5_needNothing_2 : decode cX5_needNothing 2 = .ok (.iload_n 1, 1) := by decide +kernel
theorem dX5_needNothing_3 : decode cX5_needNothing 3 = .ok (.bipush 64, 2) := by decide +kernel
theorem dX5_needNothing_5 : decode cX5_needNothing 5 = .ok (.if_icmp .ge 16, 3) := by decide +kernel
theorem dX5_needNothing_8 : decode cX5_needNothing 8 = .ok (.aload_n 0, 1) := by decide +kernel
theorem dX5_needNothing_9 : decode cX5_needNothing 9 = .ok (.getfield 27, 3) := by decide +kernel
theorem dX5_needNothing_12 : decode cX5_needNothing 12 = .ok (.iload_n 1, 1) := by decide +kernel
theorem dX5_needNothing_13 : decode cX5_needNothing 13 = .ok (.iconst 0, 1) := by decide +kernel
theorem dX5_needNothing_14 : decode cX5_needNothing 14 = .ok (.bastore, 1) := by decide +kernel
theorem dX5_needNothing_15 : decode cX5_needNothing 15 = .ok (.iinc 1 1, 3) := by decide +kernel
theorem dX5_needNothing_18 : decode cX5_needNothing 18 = .ok (.goto (-16), 3) := by decide +kernel
theorem dX5_needNothing_21 : decode cX5_needNothing 21 = .ok (.return_, 1) := by decide +kernel
def fx_Eval_needNothing_L2 (st : XS) : Nat → Nat → XS → XS
  | 0, i, S1 => S1
  | n + 1, i, S1 => 
    if (64 : Int32) ≤ nI i then S1
    else fx_Eval_needNothing_L2 st n (i + 1) (wA S1 7 ((nI i).toNatClampNeg) (vp_nar .boolean (0 : Int32)))
def fx_Eval_needNothing (st : XS) : XS := fx_Eval_needNothing_L2 st 65 0 st
theorem fr_Eval_needNothing_L2 {S0 : XS} (st : XS) : ∀ (n : Nat) (i : Nat) (S1 : XS), XF [] [7] [] S0 S1 → XF [] [7] [] S0 (fx_Eval_needNothing_L2 st n i S1) := by
  intro n
  induction n with
  | zero => intro i S1 h; exact h
  | succ n ih =>
    intro i S1 h
    rw [fx_Eval_needNothing_L2]
    exact (wl_ite (P := fun (q : XS) => XF [] [7] [] _ (q)) h (ih _ _ (XF.wA (by decide) h)))
theorem ff_Eval_needNothing (st : XS) : XF [] [7] [] st (fx_Eval_needNothing st) := by
  rw [fx_Eval_needNothing]
  exact (fr_Eval_needNothing_L2 _ _ _ _ XF.rf)
set_option maxHeartbeats 4000000 in
set_option maxRecDepth 100000 in
theorem kx_Eval_needNothing (l : Launch) (dC : Nat → ClassId) (dI : Nat → Nat → Nat) (a : Nat → Nat) (k : Nat → ClassId) (st : XS) (sz : Nat) : Met l yX5_needNothing wsX5_needNothing ({ frames := 0, cells := 0, slots := 0, locals := 0 }) (va_Pc [.ref (a 13)] (wl_pre (dC, dI) vwCl (xt k) (xw a k) st sz)) (va_Qv (fun u9 => u9 = fx_Eval_needNothing st) (wl_at (dC, dI) vwCl (xt k) (xw a k) (va_A (xw a k st) sz)) (va_A (xw a k st) sz)) 0 0 (va_A (xw a k st) sz) := by
  refine Met.ofW (cc := cX5_needNothing) (maxL := 2) (ret := none) (by decide) rfl ?_
  intro p e s m args below meth c s₁ B hml hv
  obtain ⟨rfl, hsz, hP, hK, hD0⟩ := hv
  have hx := B.exec
  have hb := B.bytes
  have hr := B.returns
  have hta := aw_hts (atoms_spec (ws := wsX5_needNothing) B.pre)
  have hown : s.vm.findClass RX5 = some m.cls := findClass_of_methodNamed B.named
  have hlocks := B.notSynchronized
  have hf27 := hta _ mw_131
  subst hsz
  have hD := hD0.self (sz := s.heap.size)
  generalize hAe : va_A (xw a k st) s.heap.size = A at hD ⊢
  have hAz : ∀ q : Nat, s.heap.size ≤ q → A q := fun q h => by rw [← hAe]; exact Or.inr h
  have hS : va_S A s.heap s.heap [] := va_S.rf
  have hl := lv_entry ([.ref (a 13)]) (n := 2) (Nat.le_of_ble_eq_true rfl)
  rw [lg_entry_eq]
  generalize (lg_sl ([.ref (a 13)]) ++ List.replicate (2 - (lg_sl ([.ref (a 13)])).length) Slot.unset).toArray = ls at hl ⊢
  have hl : lv_has ls 2 [(0, .ref (a 13))] := hl
  generalize hR : fx_Eval_needNothing st = R
  rw [fx_Eval_needNothing] at hR
  refine lv_iconst (v := (0 : Int32)) hx hb dX5_needNothing_0 (by decide) ?_
  refine lv_istore_n (lv' := [(1, .int (0 : Int32)), (0, .ref (a 13))]) hx hb dX5_needNothing_1 rfl hl (by decide) rfl (fun ls hl => ?_)
  have L2 : ∀ (n : Nat) (i : Nat) (S1 : XS) (H : Heap) (locs : List Loc) (ls : Array Slot), fx_Eval_needNothing_L2 st n i S1 = R → (i ≤ 64) → 64 - i < n → va_P (dC, dI) vwCl (xw a k S1) H → va_D A (xw a k S1) → va_S A s.heap H locs → lv_has ls 2 [(1, .int (nI i)), (0, .ref (a 13))] → W p l e (headSpec wsX5_needNothing ({ frames := 0, cells := 0, slots := 0, locals := 0 })).room s m ([.ref (a 13)] : List Value).toArray below meth c H locs 0 0 (MQ below (va_Qv (fun u9 => u9 = R) (wl_at (dC, dI) vwCl (xt k) (xw a k) A) A) ([.ref (a 13)] : List Value).toArray s 0 0 A) (F0 m 2 ls []) := by
    intro n
    induction n with
    | zero =>
      intro i S1 H locs ls hR hi hm hP hD hS hl
      exact absurd hm (Nat.not_lt_zero _)
    | succ n ih =>
      intro i S1 H locs ls hR hi hm hP hD hS hl
      rw [fx_Eval_needNothing_L2] at hR
      refine lv_iload_n hx hb dX5_needNothing_2 rfl (lv_at hl 0 rfl) ?_
      refine lv_bipush (v := (64 : Int32)) hx hb dX5_needNothing_3 (by decide) ?_
      refine lv_icmp_ge (tgt := 21) hx hb dX5_needNothing_5 (by decide) (fun c5 => ?_) (fun c5 => ?_)
      · skip
        rw [if_pos c5] at hR
        exact W.vret hx hb hr (fun t ht hW => ⟨⟨_, rfl, hR, by rw [ht]; exact hP, va_K.moved hW.alike hK, hD⟩, hS.F ht⟩) hS.2.2 dX5_needNothing_21
      · skip
        rw [if_neg c5] at hR
        have hlt : i < 64 := wl_lt (N := 64) c5 (by omega)
        refine lv_aload_n hx hb dX5_needNothing_8 rfl (lv_at hl 1 rfl) ?_
        refine va_get (D := (dC, dI)) (ci := 3) (v := .ref (a 15)) (C := RX5) (T := TX5) (N := 5) hx hb hta inX5 hown hK hP 13 (xr_13 a k S1) rfl 4 (by decide) hf27 (fun _ h9 => h9) rfl dX5_needNothing_9 ?_
        refine lv_iload_n hx hb dX5_needNothing_12 rfl (lv_at hl 0 rfl) ?_
        refine lv_iconst (v := (0 : Int32)) hx hb dX5_needNothing_13 (by decide) ?_
        refine va_zast hx hb hK hP hD hS 15 10 (xr_15 a k S1) rfl (wl_in hlt (by decide)) dX5_needNothing_14 (fun H locs hP hD hS => ?_)
        have hP := xp_A7 hP
        have hD := xd_A7 hD
        refine lv_iinc (v := nI (i + 1)) (lv' := [(1, .int (nI (i + 1))), (0, .ref (a 13))]) hx hb dX5_needNothing_15 hl (k := 0) rfl (nI_1 _) (by decide) rfl (fun ls hl => ?_)
        refine lv_goto (tgt := 2) hx hb dX5_needNothing_18 (by decide) ?_
        exact ih (i + 1) (wA S1 7 ((nI i).toNatClampNeg) (vp_nar .boolean (0 : Int32))) _ _ ls hR (by omega) (by omega) hP hD hS (lv_sub hl [0, 1] rfl)
  exact L2 65 0 st _ _ ls hR (Nat.zero_le _) (by omega) hP hD hS (lv_sub hl [0, 1] rfl)

theorem mw_127 : (.fieldLink RX5 7 RX5 "terms" "LPathSolver$Terms;" : Cond) ∈ AW := List.mem_filter.mpr ⟨List.mem_of_getElem? (i := 127) (by decide +kernel), rfl⟩
theorem mw_303 : (.code yX4_size cX4_size 1 (some .int) : Cond) ∈ AW := List.mem_filter.mpr ⟨List.mem_of_getElem? (i := 303) (by decide +kernel), rfl⟩
theorem mw_507 : (.methodLink RX5 41 yX4_size : Cond) ∈ AW := List.mem_filter.mpr ⟨List.mem_of_getElem? (i := 507) (by decide +kernel), rfl⟩
theorem mw_301 : (.instanceMethod yX4_size : Cond) ∈ AW := List.mem_filter.mpr ⟨List.mem_of_getElem? (i := 301) (by decide +kernel), rfl⟩
theorem mw_302 : (.selects RX4 yX4_size yX4_size : Cond) ∈ AW := List.mem_filter.mpr ⟨List.mem_of_getElem? (i := 302) (by decide +kernel), rfl⟩
theorem mw_510 : (.methodLink RX5 54 yX4_operandOf : Cond) ∈ AW := List.mem_filter.mpr ⟨List.mem_of_getElem? (i := 510) (by decide +kernel), rfl⟩
theorem mw_426 : (.code yX4_operationOf cX4_operationOf 2 (some .int) : Cond) ∈ AW := List.mem_filter.mpr ⟨List.mem_of_getElem? (i := 426) (by decide +kernel), rfl⟩
theorem mw_508 : (.methodLink RX5 45 yX4_operationOf : Cond) ∈ AW := List.mem_filter.mpr ⟨List.mem_of_getElem? (i := 508) (by decide +kernel), rfl⟩
theorem mw_424 : (.instanceMethod yX4_operationOf : Cond) ∈ AW := List.mem_filter.mpr ⟨List.mem_of_getElem? (i := 424) (by decide +kernel), rfl⟩
theorem mw_425 : (.selects RX4 yX4_operationOf yX4_operationOf : Cond) ∈ AW := List.mem_filter.mpr ⟨List.mem_of_getElem? (i := 425) (by decide +kernel), rfl⟩
theorem mw_509 : (.methodLink RX5 49 yX1_namedTerms : Cond) ∈ AW := List.mem_filter.mpr ⟨List.mem_of_getElem? (i := 509) (by decide +kernel), rfl⟩
theorem gX5_41 : GoodIn AW (wsV RX5 41 RX4 yX4_size wsX4_size) := aw_V mw_507 mw_301 mw_302 mw_41 mw_303
theorem gX5_54 : GoodIn AW (wsV RX5 54 RX4 yX4_operandOf wsX4_operandOf) := aw_V mw_510 mw_428 mw_429 mw_41 mw_430
theorem gX5_45 : GoodIn AW (wsV RX5 45 RX4 yX4_operationOf wsX4_operationOf) := aw_V mw_508 mw_424 mw_425 mw_41 mw_426
theorem gX5_49 : GoodIn AW (va_wsS RX5 49 yX1_namedTerms wsX1_namedTerms) := aw_S mw_509 mw_341 mw_48 mw_342
theorem dX5_needOperands_0 : decode cX5_needOperands 0 = .ok (.aload_n 0, 1) := by decide +kernel
theorem dX5_needOperands_1 : decode cX5_needOperands 1 = .ok (.getfield 7, 3) := by decide +kernel
theorem dX5_needOperands_4 : decode cX5_needOperands 4 = .ok (.invokevirtual 41, 3) := by decide +kernel
theorem dX5_needOperands_7 : decode cX5_needOperands 7 = .ok (.iconst 1, 1) := by decide +kernel
theorem dX5_needOperands_8 : decode cX5_needOperands 8 = .ok (.isub, 1) := by decide +kernel
theorem dX5_needOperands_9 : decode cX5_needOperands 9 = .ok (.istore_n 1, 1) := by decide +kernel
theorem dX5_needOperands_10 : decode cX5_needOperands 10 = .ok (.iload_n 1, 1) := by decide +kernel
theorem dX5_needOperands_11 : decode cX5_needOperands 11 = .ok (.ifCond .lt 62, 3) := by decide +kernel
theorem dX5_needOperands_14 : decode cX5_needOperands 14 = .ok (.aload_n 0, 1) := by decide +kernel
theorem dX5_needOperands_15 : decode cX5_needOperands 15 = .ok (.getfield 27, 3) := by decide +kernel
theorem dX5_needOperands_18 : decode cX5_needOperands 18 = .ok (.iload_n 1, 1) := by decide +kernel
theorem dX5_needOperands_19 : decode cX5_needOperands 19 = .ok (.baload, 1) := by decide +kernel
theorem dX5_needOperands_20 : decode cX5_needOperands 20 = .ok (.ifCond .eq 17, 3) := by decide +kernel
theorem dX5_needOperands_23 : decode cX5_needOperands 23 = .ok (.aload_n 0, 1) := by decide +kernel
theorem dX5_needOperands_24 : decode cX5_needOperands 24 = .ok (.getfield 7, 3) := by decide +kernel
theorem dX5_needOperands_27 : decode cX5_needOperands 27 = .ok (.iload_n 1, 1) := by decide +kernel
theorem dX5_needOperands_28 : decode cX5_needOperands 28 = .ok (.invokevirtual 45, 3) := by decide +kernel
theorem dX5_needOperands_31 : decode cX5_needOperands 31 = .ok (.invokestatic 49, 3) := by decide +kernel
theorem dX5_needOperands_34 : decode cX5_needOperands 34 = .ok (.goto 4, 3) := by decide +kernel
theorem dX5_needOperands_37 : decode cX5_needOperands 37 = .ok (.iconst 0, 1) := by decide +kernel
theorem dX5_needOperands_38 : decode cX5_needOperands 38 = .ok (.istore_n 2, 1) := by decide +kernel
theorem dX5_needOperands_39 : decode cX5_needOperands 39 = .ok (.iconst 0, 1) := by decide +kernel
theorem dX5_needOperands_40 : decode cX5_needOperands 40 = .ok (.istore_n 3, 1) := by decide +kernel
theorem dX5_needOperands_41 : decode cX5_needOperands 41 = .ok (.iload_n 3, 1) := by decide +kernel
theorem dX5_needOperands_42 : decode cX5_needOperands 42 = .ok (.iload_n 2, 1) := by decide +kernel
theorem dX5_needOperands_43 : decode cX5_needOperands 43 = .ok (.if_icmp .ge 24, 3) := by decide +kernel
theorem dX5_needOperands_46 : decode cX5_needOperands 46 = .ok (.aload_n 0, 1) := by decide +kernel
theorem dX5_needOperands_47 : decode cX5_needOperands 47 = .ok (.getfield 27, 3) := by decide +kernel
theorem dX5_needOperands_50 : decode cX5_needOperands 50 = .ok (.aload_n 0, 1) := by decide +kernel
theorem dX5_needOperands_51 : decode cX5_needOperands 51 = .ok (.getfield 7, 3) := by decide +kernel
theorem dX5_needOperands_54 : decode cX5_needOperands 54 = .ok (.iload_n 1, 1) := by decide +kernel
theorem dX5_needOperands_55 : decode cX5_needOperands 55 = .ok (.iload_n 3, 1) := by decide +kernel
theorem dX5_needOperands_56 : decode cX5_needOperands 56 = .ok (.invokevirtual 54, 3) := by decide +kernel
theorem dX5_needOperands_59 : decode cX5_needOperands 59 = .ok (.iconst 1, 1) := by decide +kernel
theorem dX5_needOperands_60 : decode cX5_needOperands 60 = .ok (.bastore, 1) := by decide +kernel
theorem dX5_needOperands_61 : decode cX5_needOperands 61 = .ok (.iinc 3 1, 3) := by decide +kernel
theorem dX5_needOperands_64 : decode cX5_needOperands 64 = .ok (.goto (-23), 3) := by decide +kernel
theorem dX5_needOperands_67 : decode cX5_needOperands 67 = .ok (.iinc 1 (-1), 3) := by decide +kernel
theorem dX5_needOperands_70 : decode cX5_needOperands 70 = .ok (.goto (-60), 3) := by decide +kernel
theorem dX5_needOperands_73 : decode cX5_needOperands 73 = .ok (.return_, 1) := by decide +kernel
def fx_Eval_needOperands_L41 (st : XS) (x : Int32) (S1 : XS) : Nat → Int32 → Nat → XS → Int32 × Nat × XS
  | 0, nm, j, S2 => (nm, j, S2)
  | n + 1, nm, j, S2 => 
    if nm ≤ nI j then (nm, j, S2)
    else fx_Eval_needOperands_L41 st x S1 n nm (j + 1) (wA S2 7 ((fx_Terms_operandOf S2 (x) (nI j)).toNatClampNeg) (vp_nar .boolean (1 : Int32)))
def fx_Eval_needOperands_L10 (st : XS) : Nat → Int32 → XS → XS
  | 0, x, S1 => S1
  | n + 1, x, S1 => 
    if x < (0 : Int32) then S1
    else 
      if fA S1 7 (x).toNatClampNeg = (0 : Int32) then fx_Eval_needOperands_L10 st n ((x) + (-1 : Int32)) (((fx_Eval_needOperands_L41 st x S1 4 (0 : Int32) 0 S1).2.2))
      else fx_Eval_needOperands_L10 st n ((x) + (-1 : Int32)) (((fx_Eval_needOperands_L41 st x S1 4 (fx_Op_namedTerms (fx_Terms_operationOf S1 (x))) 0 S1).2.2))
def fx_Eval_needOperands (st : XS) : XS := fx_Eval_needOperands_L10 st 65 ((fx_Terms_size st) - (1 : Int32)) st
theorem fr_Eval_needOperands_L41 {S0 : XS} (st : XS) (x : Int32) (S1 : XS) : ∀ (n : Nat) (nm : Int32) (j : Nat) (S2 : XS), XF [] [7] [] S0 S2 → XF [] [7] [] S0 (fx_Eval_needOperands_L41 st x S1 n nm j S2).2.2 := by
  intro n
  induction n with
  | zero => intro nm j S2 h; exact h
  | succ n ih =>
    intro nm j S2 h
    rw [fx_Eval_needOperands_L41]
    exact (wl_ite (P := fun (q : Int32 × Nat × XS) => XF [] [7] [] _ (q.2.2)) h (ih _ _ _ (XF.wA (by decide) h)))
theorem fr_Eval_needOperands_L10 {S0 : XS} (st : XS) : ∀ (n : Nat) (x : Int32) (S1 : XS), XF [] [7] [] S0 S1 → XF [] [7] [] S0 (fx_Eval_needOperands_L10 st n x S1) := by
  intro n
  induction n with
  | zero => intro x S1 h; exact h
  | succ n ih =>
    intro x S1 h
    rw [fx_Eval_needOperands_L10]
    exact (wl_ite (P := fun (q : XS) => XF [] [7] [] _ (q)) h (wl_ite (P := fun (q : XS) => XF [] [7] [] _ (q)) (ih _ _ (fr_Eval_needOperands_L41 _ _ _ _ _ _ _ h)) (ih _ _ (fr_Eval_needOperands_L41 _ _ _ _ _ _ _ h))))
theorem ff_Eval_needOperands (st : XS) : XF [] [7] [] st (fx_Eval_needOperands st) := by
  rw [fx_Eval_needOperands]
  exact (fr_Eval_needOperands_L10 _ _ _ _ XF.rf)
set_option maxHeartbeats 4000000 in
set_option maxRecDepth 100000 in
theorem kx_Eval_needOperands (l : Launch) (dC : Nat → ClassId) (dI : Nat → Nat → Nat) (a : Nat → Nat) (k : Nat → ClassId) (st : XS) (sz : Nat) (N : Nat) (hN : gI st 6 = nI N) (h64 : N ≤ 64) (hops : ∀ t j : Nat, t < N → j < 3 → nI j < fx_Op_namedTerms (fA st 3 t) → vp_in (fA st 5 (3 * t + j)) 64) : Met l yX5_needOperands wsX5_needOperands ({ frames := 2, cells := 0, slots := 0, locals := 40 }) (va_Pc [.ref (a 13)] (wl_pre (dC, dI) vwCl (xt k) (xw a k) st sz)) (va_Qv (fun u9 => u9 = fx_Eval_needOperands st) (wl_at (dC, dI) vwCl (xt k) (xw a k) (va_A (xw a k st) sz)) (va_A (xw a k st) sz)) 0 0 (va_A (xw a k st) sz) := by
  refine Met.ofW (cc := cX5_needOperands) (maxL := 4) (ret := none) (by decide) rfl ?_
  intro p e s m args below meth c s₁ B hml hv
  obtain ⟨rfl, hsz, hP, hK, hD0⟩ := hv
  have hx := B.exec
  have hb := B.bytes
  have hr := B.returns
  have hta := aw_hts (atoms_spec (ws := wsX5_needOperands) B.pre)
  have hown : s.vm.findClass RX5 = some m.cls := findClass_of_methodNamed B.named
  have hlocks := B.notSynchronized
  have hf7 := hta _ mw_127
  have hf27 := hta _ mw_131
  subst hsz
  have hD := hD0.self (sz := s.heap.size)
  generalize hAe : va_A (xw a k st) s.heap.size = A at hD ⊢
  have hAz : ∀ q : Nat, s.heap.size ≤ q → A q := fun q h => by rw [← hAe]; exact Or.inr h
  have hS : va_S A s.heap s.heap [] := va_S.rf
  have hl := lv_entry ([.ref (a 13)]) (n := 4) (Nat.le_of_ble_eq_true rfl)
  rw [lg_entry_eq]
  generalize (lg_sl ([.ref (a 13)]) ++ List.replicate (4 - (lg_sl ([.ref (a 13)])).length) Slot.unset).toArray = ls at hl ⊢
  have hl : lv_has ls 4 [(0, .ref (a 13))] := hl
  generalize hR : fx_Eval_needOperands st = R
  rw [fx_Eval_needOperands] at hR
  refine lv_aload_n hx hb dX5_needOperands_0 rfl (lv_at hl 0 rfl) ?_
  refine va_get (D := (dC, dI)) (ci := 3) (v := .ref (a 7)) (C := RX5) (T := TX5) (N := 5) hx hb hta inX5 hown hK hP 13 (xr_13 a k st) rfl 0 (by decide) hf7 (fun _ h9 => h9) rfl dX5_needOperands_1 ?_
  refine wl_ci (va_runV (As := []) (rest := []) ⟨hx, hb, hml, hown, hta⟩ (kx_Terms_size l dC dI a k st) (cwV 0 hta gX5_41 rfl rfl rfl (by decide +kernel) ⟨Nat.le_of_ble_eq_true rfl, Nat.le_of_ble_eq_true rfl⟩) (wl_pR (C := RX4) (ci := 2) (q0 := 7) hK hP rfl (xr_7 a k st)) rfl rfl hl.1 rfl (lv_room (Nat.le_of_ble_eq_true rfl)) dX5_needOperands_4 ⟨Nat.zero_le _, Nat.zero_le _⟩) ?_
  refine lv_iconst (v := (1 : Int32)) hx hb dX5_needOperands_7 (by decide) ?_
  refine lv_isub hx hb dX5_needOperands_8 ?_
  refine lv_istore_n (lv' := [(1, .int ((fx_Terms_size st) - (1 : Int32))), (0, .ref (a 13))]) hx hb dX5_needOperands_9 rfl hl (by decide) rfl (fun ls hl => ?_)
  have L10 : ∀ (n : Nat) (x : Int32) (S1 : XS) (H : Heap) (locs : List Loc) (ls : Array Slot), fx_Eval_needOperands_L10 st n x S1 = R → (∃ i : Nat, i ≤ N ∧ x = nI i - (1 : Int32)) → (XF [] [7] [] st S1) → (x + (1 : Int32)).toNatClampNeg < n → va_P (dC, dI) vwCl (xw a k S1) H → va_D A (xw a k S1) → va_S A s.heap H locs → lv_has ls 4 [(1, .int x), (0, .ref (a 13))] → W p l e (headSpec wsX5_needOperands ({ frames := 2, cells := 0, slots := 0, locals := 40 })).room s m ([.ref (a 13)] : List Value).toArray below meth c H locs 0 0 (MQ below (va_Qv (fun u9 => u9 = R) (wl_at (dC, dI) vwCl (xt k) (xw a k) A) A) ([.ref (a 13)] : List Value).toArray s 0 0 A) (F0 m 10 ls []) := by
    intro n
    induction n with
    | zero =>
      intro x S1 H locs ls hR hxi hE hm hP hD hS hl
      exact absurd hm (Nat.not_lt_zero _)
    | succ n ih =>
      intro x S1 H locs ls hR hxi hE hm hP hD hS hl
      rw [fx_Eval_needOperands_L10] at hR
      refine lv_iload_n hx hb dX5_needOperands_10 rfl (lv_at hl 0 rfl) ?_
      refine lv_if_lt (tgt := 73) hx hb dX5_needOperands_11 (by decide) (fun c11 => ?_) (fun c11 => ?_)
      · skip
        rw [if_pos c11] at hR
        exact W.vret hx hb hr (fun t ht hW => ⟨⟨_, rfl, hR, by rw [ht]; exact hP, va_K.moved hW.alike hK, hD⟩, hS.F ht⟩) hS.2.2 dX5_needOperands_73
      · skip
        rw [if_neg c11] at hR
        obtain ⟨t, ht, rfl⟩ := wl_desc (by omega) hxi c11
        refine lv_aload_n hx hb dX5_needOperands_14 rfl (lv_at hl 1 rfl) ?_
        refine va_get (D := (dC, dI)) (ci := 3) (v := .ref (a 15)) (C := RX5) (T := TX5) (N := 5) hx hb hta inX5 hown hK hP 13 (xr_13 a k S1) rfl 4 (by decide) hf27 (fun _ h9 => h9) rfl dX5_needOperands_15 ?_
        refine lv_iload_n hx hb dX5_needOperands_18 rfl (lv_at hl 0 rfl) ?_
        refine va_zald hx hb hK hP 15 10 (xr_15 a k S1) rfl (wl_in (by omega) (by decide)) dX5_needOperands_19 ?_
        refine lv_if_eq (tgt := 37) hx hb dX5_needOperands_20 (by decide) (fun c20 => ?_) (fun c20 => ?_)
        · skip
          rw [if_pos c20] at hR
          have hnm0 : (0 : Int32) ≤ (3 : Int32) := by decide
          have hop0 : ∀ j : Nat, j < 3 → nI j < (0 : Int32) → vp_in (fA st 5 (3 * t + j)) 64 := fun j hj h => absurd h (wl_nlt0 hj)
          refine lv_iconst (v := (0 : Int32)) hx hb dX5_needOperands_37 (by decide) ?_
          refine lv_istore_n (lv' := [(2, .int (0 : Int32)), (1, .int ((nI t))), (0, .ref (a 13))]) hx hb dX5_needOperands_38 rfl hl (by decide) rfl (fun ls hl => ?_)
          refine lv_iconst (v := (0 : Int32)) hx hb dX5_needOperands_39 (by decide) ?_
          refine lv_istore_n (lv' := [(3, .int (0 : Int32)), (2, .int (0 : Int32)), (1, .int ((nI t))), (0, .ref (a 13))]) hx hb dX5_needOperands_40 rfl hl (by decide) rfl (fun ls hl => ?_)
          have L41 : ∀ (n : Nat) (nm : Int32) (j : Nat) (S2 : XS) (H : Heap) (locs : List Loc) (ls : Array Slot) (RR : Int32 × Nat × XS), fx_Eval_needOperands_L41 st (nI t) S1 n nm j S2 = RR → (j ≤ 3) → (nm ≤ (3 : Int32)) → (∀ j : Nat, j < 3 → nI j < nm → vp_in (fA st 5 (3 * t + j)) 64) → (XF [] [7] [] st S2) → 3 - j < n → va_P (dC, dI) vwCl (xw a k S2) H → va_D A (xw a k S2) → va_S A s.heap H locs → lv_has ls 4 [(3, .int (nI j)), (2, .int nm), (1, .int ((nI t))), (0, .ref (a 13))] → (∀ (H : Heap) (locs : List Loc) (ls : Array Slot), va_P (dC, dI) vwCl (xw a k RR.2.2) H → va_D A (xw a k RR.2.2) → va_S A s.heap H locs → lv_has ls 4 [(3, .int (nI RR.2.1)), (2, .int RR.1), (1, .int ((nI t))), (0, .ref (a 13))] → W p l e (headSpec wsX5_needOperands ({ frames := 2, cells := 0, slots := 0, locals := 40 })).room s m ([.ref (a 13)] : List Value).toArray below meth c H locs 0 0 (MQ below (va_Qv (fun u9 => u9 = R) (wl_at (dC, dI) vwCl (xt k) (xw a k) A) A) ([.ref (a 13)] : List Value).toArray s 0 0 A) (F0 m 67 ls [])) → W p l e (headSpec wsX5_needOperands ({ frames := 2, cells := 0, slots := 0, locals := 40 })).room s m ([.ref (a 13)] : List Value).toArray below meth c H locs 0 0 (MQ below (va_Qv (fun u9 => u9 = R) (wl_at (dC, dI) vwCl (xt k) (xw a k) A) A) ([.ref (a 13)] : List Value).toArray s 0 0 A) (F0 m 41 ls []) := by
            intro n
            induction n with
            | zero =>
              intro nm j S2 H locs ls RR hR hj hnm hop hE2 hm hP hD hS hl kk
              exact absurd hm (Nat.not_lt_zero _)
            | succ n ih =>
              intro nm j S2 H locs ls RR hR hj hnm hop hE2 hm hP hD hS hl kk
              rw [fx_Eval_needOperands_L41] at hR
              refine lv_iload_n hx hb dX5_needOperands_41 rfl (lv_at hl 0 rfl) ?_
              refine lv_iload_n hx hb dX5_needOperands_42 rfl (lv_at hl 1 rfl) ?_
              refine lv_icmp_ge (tgt := 67) hx hb dX5_needOperands_43 (by decide) (fun c43 => ?_) (fun c43 => ?_)
              · skip
                rw [if_pos c43] at hR
                subst hR
                exact kk _ _ ls hP hD hS (lv_sub hl [0, 1, 2, 3] rfl)
              · skip
                rw [if_neg c43] at hR
                have hj3 : j < 3 := wl_lt3 hj hnm c43
                refine lv_aload_n hx hb dX5_needOperands_46 rfl (lv_at hl 3 rfl) ?_
                refine va_get (D := (dC, dI)) (ci := 3) (v := .ref (a 15)) (C := RX5) (T := TX5) (N := 5) hx hb hta inX5 hown hK hP 13 (xr_13 a k S2) rfl 4 (by decide) hf27 (fun _ h9 => h9) rfl dX5_needOperands_47 ?_
                refine lv_aload_n hx hb dX5_needOperands_50 rfl (lv_at hl 3 rfl) ?_
                refine va_get (D := (dC, dI)) (ci := 3) (v := .ref (a 7)) (C := RX5) (T := TX5) (N := 5) hx hb hta inX5 hown hK hP 13 (xr_13 a k S2) rfl 0 (by decide) hf7 (fun _ h9 => h9) rfl dX5_needOperands_51 ?_
                refine lv_iload_n hx hb dX5_needOperands_54 rfl (lv_at hl 2 rfl) ?_
                refine lv_iload_n hx hb dX5_needOperands_55 rfl (lv_at hl 0 rfl) ?_
                refine wl_ci (va_runV (As := [.int ((nI t)), .int (nI j)]) (rest := [.ref (a 15)]) ⟨hx, hb, hml, hown, hta⟩ (kx_Terms_operandOf l dC dI a k S2 ((nI t)) (nI j) (wl_i3 j (by omega) hj3)) (cwV 2 hta gX5_54 rfl rfl rfl (by decide +kernel) ⟨Nat.le_of_ble_eq_true rfl, Nat.le_of_ble_eq_true rfl⟩) (wl_pR (C := RX4) (ci := 2) (q0 := 7) hK hP rfl (xr_7 a k S2)) rfl rfl hl.1 rfl (lv_room (Nat.le_of_ble_eq_true rfl)) dX5_needOperands_56 ⟨Nat.zero_le _, Nat.zero_le _⟩) ?_
                refine lv_iconst (v := (1 : Int32)) hx hb dX5_needOperands_59 (by decide) ?_
                refine va_zast hx hb hK hP hD hS 15 10 (xr_15 a k S2) rfl (wl_opin hE2 (by omega) hj3 (hop j hj3 (wl_nle c43))) dX5_needOperands_60 (fun H locs hP hD hS => ?_)
                have hP := xp_A7 hP
                have hD := xd_A7 hD
                refine lv_iinc (v := nI (j + 1)) (lv' := [(3, .int (nI (j + 1))), (2, .int nm), (1, .int ((nI t))), (0, .ref (a 13))]) hx hb dX5_needOperands_61 hl (k := 0) rfl (nI_1 _) (by decide) rfl (fun ls hl => ?_)
                refine lv_goto (tgt := 41) hx hb dX5_needOperands_64 (by decide) ?_
                exact ih nm (j + 1) (wA S2 7 ((fx_Terms_operandOf S2 ((nI t)) (nI j)).toNatClampNeg) (vp_nar .boolean (1 : Int32))) _ _ ls RR hR (by omega) hnm hop (XF.wA (by decide) hE2) (by omega) hP hD hS (lv_sub hl [0, 1, 2, 3] rfl) kk
          obtain ⟨q41, e41⟩ : ∃ z, (fx_Eval_needOperands_L41 st (nI t) S1 4 (0 : Int32) 0 S1) = z := ⟨_, rfl⟩
          try rw [e41] at hR
          refine L41 4 (0 : Int32) 0 S1 _ _ ls q41 e41 (Nat.zero_le _) hnm0 hop0 hE (by omega) hP hD hS (lv_sub hl [0, 1, 2, 3] rfl) (fun H locs ls hP hD hS hl => ?_)
          refine lv_iinc (v := ((nI t)) + (-1 : Int32)) (lv' := [(1, .int (((nI t)) + (-1 : Int32))), (3, .int ((nI q41.2.1))), (2, .int (q41.1)), (0, .ref (a 13))]) hx hb dX5_needOperands_67 hl (k := 2) rfl rfl (by decide) rfl (fun ls hl => ?_)
          refine lv_goto (tgt := 10) hx hb dX5_needOperands_70 (by decide) ?_
          exact ih (((nI t)) + (-1 : Int32)) (q41.2.2) _ _ ls hR ⟨t, by omega, wl_m1 t⟩ (by rw [← e41]; exact fr_Eval_needOperands_L41 _ _ _ _ _ _ _ hE) (by rw [wl_mA (by omega)]; rw [wl_mB (by omega)] at hm; omega) hP hD hS (lv_sub hl [0, 3] rfl)
        · skip
          rw [if_neg c20] at hR
          have hnm0 : fx_Op_namedTerms (fx_Terms_operationOf S1 (nI t)) ≤ (3 : Int32) := wl_nmle _
          have hop0 : ∀ j : Nat, j < 3 → nI j < fx_Op_namedTerms (fx_Terms_operationOf S1 (nI t)) → vp_in (fA st 5 (3 * t + j)) 64 := wl_hop (by omega) hE ht hops
          refine lv_aload_n hx hb dX5_needOperands_23 rfl (lv_at hl 1 rfl) ?_
          refine va_get (D := (dC, dI)) (ci := 3) (v := .ref (a 7)) (C := RX5) (T := TX5) (N := 5) hx hb hta inX5 hown hK hP 13 (xr_13 a k S1) rfl 0 (by decide) hf7 (fun _ h9 => h9) rfl dX5_needOperands_24 ?_
          refine lv_iload_n hx hb dX5_needOperands_27 rfl (lv_at hl 0 rfl) ?_
          refine wl_ci (va_runV (As := [.int ((nI t))]) (rest := []) ⟨hx, hb, hml, hown, hta⟩ (kx_Terms_operationOf l dC dI a k S1 ((nI t)) (wl_in (by omega) (by decide))) (cwV 1 hta gX5_45 rfl rfl rfl (by decide +kernel) ⟨Nat.le_of_ble_eq_true rfl, Nat.le_of_ble_eq_true rfl⟩) (wl_pR (C := RX4) (ci := 2) (q0 := 7) hK hP rfl (xr_7 a k S1)) rfl rfl hl.1 rfl (lv_room (Nat.le_of_ble_eq_true rfl)) dX5_needOperands_28 ⟨Nat.zero_le _, Nat.zero_le _⟩) ?_
          refine wl_ci (va_runS (As := [.int (fx_Terms_operationOf S1 ((nI t)))]) (rest := []) ⟨hx, hb, hml, hown, hta⟩ (kx_Op_namedTerms l (fx_Terms_operationOf S1 ((nI t)))) (va_cwS 1 hta gX5_49 rfl rfl rfl (by decide +kernel) ⟨Nat.le_of_ble_eq_true rfl, Nat.le_of_ble_eq_true rfl⟩) preEq rfl rfl hl.1 rfl (lv_room (Nat.le_of_ble_eq_true rfl)) dX5_needOperands_31 ⟨Nat.zero_le _, Nat.zero_le _⟩) ?_
          refine lv_goto (tgt := 38) hx hb dX5_needOperands_34 (by decide) ?_
          refine lv_istore_n (lv' := [(2, .int (fx_Op_namedTerms (fx_Terms_operationOf S1 ((nI t))))), (1, .int ((nI t))), (0, .ref (a 13))]) hx hb dX5_needOperands_38 rfl hl (by decide) rfl (fun ls hl => ?_)
          refine lv_iconst (v := (0 : Int32)) hx hb dX5_needOperands_39 (by decide) ?_
          refine lv_istore_n (lv' := [(3, .int (0 : Int32)), (2, .int (fx_Op_namedTerms (fx_Terms_operationOf S1 ((nI t))))), (1, .int ((nI t))), (0, .ref (a 13))]) hx hb dX5_needOperands_40 rfl hl (by decide) rfl (fun ls hl => ?_)
          have L41 : ∀ (n : Nat) (nm : Int32) (j : Nat) (S2 : XS) (H : Heap) (locs : List Loc) (ls : Array Slot) (RR : Int32 × Nat × XS), fx_Eval_needOperands_L41 st (nI t) S1 n nm j S2 = RR → (j ≤ 3) → (nm ≤ (3 : Int32)) → (∀ j : Nat, j < 3 → nI j < nm → vp_in (fA st 5 (3 * t + j)) 64) → (XF [] [7] [] st S2) → 3 - j < n → va_P (dC, dI) vwCl (xw a k S2) H → va_D A (xw a k S2) → va_S A s.heap H locs → lv_has ls 4 [(3, .int (nI j)), (2, .int nm), (1, .int ((nI t))), (0, .ref (a 13))] → (∀ (H : Heap) (locs : List Loc) (ls : Array Slot), va_P (dC, dI) vwCl (xw a k RR.2.2) H → va_D A (xw a k RR.2.2) → va_S A s.heap H locs → lv_has ls 4 [(3, .int (nI RR.2.1)), (2, .int RR.1), (1, .int ((nI t))), (0, .ref (a 13))] → W p l e (headSpec wsX5_needOperands ({ frames := 2, cells := 0, slots := 0, locals := 40 })).room s m ([.ref (a 13)] : List Value).toArray below meth c H locs 0 0 (MQ below (va_Qv (fun u9 => u9 = R) (wl_at (dC, dI) vwCl (xt k) (xw a k) A) A) ([.ref (a 13)] : List Value).toArray s 0 0 A) (F0 m 67 ls [])) → W p l e (headSpec wsX5_needOperands ({ frames := 2, cells := 0, slots := 0, locals := 40 })).room s m ([.ref (a 13)] : List Value).toArray below meth c H locs 0 0 (MQ below (va_Qv (fun u9 => u9 = R) (wl_at (dC, dI) vwCl (xt k) (xw a k) A) A) ([.ref (a 13)] : List Value).toArray s 0 0 A) (F0 m 41 ls []) := by
            intro n
            induction n with
            | zero =>
              intro nm j S2 H locs ls RR hR hj hnm hop hE2 hm hP hD hS hl kk
              exact absurd hm (Nat.not_lt_zero _)
            | succ n ih =>
              intro nm j S2 H locs ls RR hR hj hnm hop hE2 hm hP hD hS hl kk
              rw [fx_Eval_needOperands_L41] at hR
              refine lv_iload_n hx hb dX5_needOperands_41 rfl (lv_at hl 0 rfl) ?_
              refine lv_iload_n hx hb dX5_needOperands_42 rfl (lv_at hl 1 rfl) ?_
              refine lv_icmp_ge (tgt := 67) hx hb dX5_needOperands_43 (by decide) (fun c43 => ?_) (fun c43 => ?_)
              · skip
                rw [if_pos c43] at hR
                subst hR
                exact kk _ _ ls hP hD hS (lv_sub hl [0, 1, 2, 3] rfl)
              · skip
                rw [if_neg c43] at hR
                have hj3 : j < 3 := wl_lt3 hj hnm c43
                refine lv_aload_n hx hb dX5_needOperands_46 rfl (lv_at hl 3 rfl) ?_
                refine va_get (D := (dC, dI)) (ci := 3) (v := .ref (a 15)) (C := RX5) (T := TX5) (N := 5) hx hb hta inX5 hown hK hP 13 (xr_13 a k S2) rfl 4 (by decide) hf27 (fun _ h9 => h9) rfl dX5_needOperands_47 ?_
                refine lv_aload_n hx hb dX5_needOperands_50 rfl (lv_at hl 3 rfl) ?_
                refine va_get (D := (dC, dI)) (ci := 3) (v := .ref (a 7)) (C := RX5) (T := TX5) (N := 5) hx hb hta inX5 hown hK hP 13 (xr_13 a k S2) rfl 0 (by decide) hf7 (fun _ h9 => h9) rfl dX5_needOperands_51 ?_
                refine lv_iload_n hx hb dX5_needOperands_54 rfl (lv_at hl 2 rfl) ?_
                refine lv_iload_n hx hb dX5_needOperands_55 rfl (lv_at hl 0 rfl) ?_
                refine wl_ci (va_runV (As := [.int ((nI t)), .int (nI j)]) (rest := [.ref (a 15)]) ⟨hx, hb, hml, hown, hta⟩ (kx_Terms_operandOf l dC dI a k S2 ((nI t)) (nI j) (wl_i3 j (by omega) hj3)) (cwV 2 hta gX5_54 rfl rfl rfl (by decide +kernel) ⟨Nat.le_of_ble_eq_true rfl, Nat.le_of_ble_eq_true rfl⟩) (wl_pR (C := RX4) (ci := 2) (q0 := 7) hK hP rfl (xr_7 a k S2)) rfl rfl hl.1 rfl (lv_room (Nat.le_of_ble_eq_true rfl)) dX5_needOperands_56 ⟨Nat.zero_le _, Nat.zero_le _⟩) ?_
                refine lv_iconst (v := (1 : Int32)) hx hb dX5_needOperands_59 (by decide) ?_
                refine va_zast hx hb hK hP hD hS 15 10 (xr_15 a k S2) rfl (wl_opin hE2 (by omega) hj3 (hop j hj3 (wl_nle c43))) dX5_needOperands_60 (fun H locs hP hD hS => ?_)
                have hP := xp_A7 hP
                have hD := xd_A7 hD
                refine lv_iinc (v := nI (j + 1)) (lv' := [(3, .int (nI (j + 1))), (2, .int nm), (1, .int ((nI t))), (0, .ref (a 13))]) hx hb dX5_needOperands_61 hl (k := 0) rfl (nI_1 _) (by decide) rfl (fun ls hl => ?_)
                refine lv_goto (tgt := 41) hx hb dX5_needOperands_64 (by decide) ?_
                exact ih nm (j + 1) (wA S2 7 ((fx_Terms_operandOf S2 ((nI t)) (nI j)).toNatClampNeg) (vp_nar .boolean (1 : Int32))) _ _ ls RR hR (by omega) hnm hop (XF.wA (by decide) hE2) (by omega) hP hD hS (lv_sub hl [0, 1, 2, 3] rfl) kk
          obtain ⟨q41, e41⟩ : ∃ z, (fx_Eval_needOperands_L41 st (nI t) S1 4 (fx_Op_namedTerms (fx_Terms_operationOf S1 ((nI t)))) 0 S1) = z := ⟨_, rfl⟩
          try rw [e41] at hR
          refine L41 4 (fx_Op_namedTerms (fx_Terms_operationOf S1 ((nI t)))) 0 S1 _ _ ls q41 e41 (Nat.zero_le _) hnm0 hop0 hE (by omega) hP hD hS (lv_sub hl [0, 1, 2, 3] rfl) (fun H locs ls hP hD hS hl => ?_)
          refine lv_iinc (v := ((nI t)) + (-1 : Int32)) (lv' := [(1, .int (((nI t)) + (-1 : Int32))), (3, .int ((nI q41.2.1))), (2, .int (q41.1)), (0, .ref (a 13))]) hx hb dX5_needOperands_67 hl (k := 2) rfl rfl (by decide) rfl (fun ls hl => ?_)
          refine lv_goto (tgt := 10) hx hb dX5_needOperands_70 (by decide) ?_
          exact ih (((nI t)) + (-1 : Int32)) (q41.2.2) _ _ ls hR ⟨t, by omega, wl_m1 t⟩ (by rw [← e41]; exact fr_Eval_needOperands_L41 _ _ _ _ _ _ _ hE) (by rw [wl_mA (by omega)]; rw [wl_mB (by omega)] at hm; omega) hP hD hS (lv_sub hl [0, 3] rfl)
  exact L10 65 ((fx_Terms_size st) - (1 : Int32)) st _ _ ls hR ⟨N, Nat.le_refl _, by show gI st 6 - _ = _; rw [hN]⟩ XF.rf (by show (gI st 6 - (1 : Int32) + (1 : Int32)).toNatClampNeg < 65; rw [hN, wl_m1p1, nI_clamp (by omega)]; omega) hP hD hS (lv_sub hl [0, 1] rfl)

theorem mw_494 : (.code yX5_needNothing cX5_needNothing 2 none : Cond) ∈ AW := List.mem_filter.mpr ⟨List.mem_of_getElem? (i := 494) (by decide +kernel), rfl⟩
theorem mw_589 : (.methodLink RX5 31 yX5_needNothing : Cond) ∈ AW := List.mem_filter.mpr ⟨List.mem_of_getElem? (i := 589) (by decide +kernel), rfl⟩
theorem mw_42 : (.initialized RX5 : Cond) ∈ AW := List.mem_filter.mpr ⟨List.mem_of_getElem? (i := 42) (by decide +kernel), rfl⟩
theorem mw_492 : (.instanceMethod yX5_needNothing : Cond) ∈ AW := List.mem_filter.mpr ⟨List.mem_of_getElem? (i := 492) (by decide +kernel), rfl⟩
theorem mw_493 : (.selects RX5 yX5_needNothing yX5_needNothing : Cond) ∈ AW := List.mem_filter.mpr ⟨List.mem_of_getElem? (i := 493) (by decide +kernel), rfl⟩
theorem mw_502 : (.code yX5_need cX5_need 2 none : Cond) ∈ AW := List.mem_filter.mpr ⟨List.mem_of_getElem? (i := 502) (by decide +kernel), rfl⟩
theorem mw_590 : (.methodLink RX5 34 yX5_need : Cond) ∈ AW := List.mem_filter.mpr ⟨List.mem_of_getElem? (i := 590) (by decide +kernel), rfl⟩
theorem mw_500 : (.instanceMethod yX5_need : Cond) ∈ AW := List.mem_filter.mpr ⟨List.mem_of_getElem? (i := 500) (by decide +kernel), rfl⟩
theorem mw_501 : (.selects RX5 yX5_need yX5_need : Cond) ∈ AW := List.mem_filter.mpr ⟨List.mem_of_getElem? (i := 501) (by decide +kernel), rfl⟩
theorem mw_506 : (.code yX5_needOperands cX5_needOperands 4 none : Cond) ∈ AW := List.mem_filter.mpr ⟨List.mem_of_getElem? (i := 506) (by decide +kernel), rfl⟩
theorem mw_591 : (.methodLink RX5 38 yX5_needOperands : Cond) ∈ AW := List.mem_filter.mpr ⟨List.mem_of_getElem? (i := 591) (by decide +kernel), rfl⟩
theorem mw_504 : (.instanceMethod yX5_needOperands : Cond) ∈ AW := List.mem_filter.mpr ⟨List.mem_of_getElem? (i := 504) (by decide +kernel), rfl⟩
theorem mw_505 : (.selects RX5 yX5_needOperands yX5_needOperands : Cond) ∈ AW := List.mem_filter.mpr ⟨List.mem_of_getElem? (i := 505) (by decide +kernel), rfl⟩
theorem gX5_31 : GoodIn AW (wsV RX5 31 RX5 yX5_needNothing wsX5_needNothing) := aw_V mw_589 mw_492 mw_493 mw_42 mw_494
theorem gX5_34 : GoodIn AW (wsV RX5 34 RX5 yX5_need wsX5_need) := aw_V mw_590 mw_500 mw_501 mw_42 mw_502
theorem gX5_38 : GoodIn AW (wsV RX5 38 RX5 yX5_needOperands wsX5_needOperands) := aw_V mw_591 mw_504 mw_505 mw_42 mw_506
theorem dX5_needOnly_0 : decode cX5_needOnly 0 = .ok (.aload_n 0, 1) := by decide +kernel
theorem dX5_needOnly_1 : decode cX5_needOnly 1 = .ok (.invokevirtual 31, 3) := by decide +kernel
theorem dX5_needOnly_4 : decode cX5_needOnly 4 = .ok (.aload_n 0, 1) := by decide +kernel
theorem dX5_needOnly_5 : decode cX5_needOnly 5 = .ok (.iload_n 1, 1) := by decide +kernel
theorem dX5_needOnly_6 : decode cX5_needOnly 6 = .ok (.invokevirtual 34, 3) := by decide +kernel
theorem dX5_needOnly_9 : decode cX5_needOnly 9 = .ok (.aload_n 0, 1) := by decide +kernel
theorem dX5_needOnly_10 : decode cX5_needOnly 10 = .ok (.invokevirtual 38, 3) := by decide +kernel
theorem dX5_needOnly_13 : decode cX5_needOnly 13 = .ok (.return_, 1) := by decide +kernel
def fx_Eval_needOnly (st : XS) (t : Int32) : XS := (fx_Eval_needOperands ((fx_Eval_need ((fx_Eval_needNothing st)) t)))
theorem ff_Eval_needOnly (st : XS) (t : Int32) : XF [] [7] [] st (fx_Eval_needOnly st t) := by
  rw [fx_Eval_needOnly]
  exact (XF.tr (XF.tr (XF.tr XF.rf (XF.mono (ff_Eval_needNothing _) (by decide) (by decide) (by decide))) (XF.mono (ff_Eval_need _ _) (by decide) (by decide) (by decide))) (XF.mono (ff_Eval_needOperands _) (by decide) (by decide) (by decide)))
set_option maxHeartbeats 4000000 in
set_option maxRecDepth 100000 in
theorem kx_Eval_needOnly (l : Launch) (dC : Nat → ClassId) (dI : Nat → Nat → Nat) (a : Nat → Nat) (k : Nat → ClassId) (st : XS) (t : Int32) (sz : Nat) (N : Nat) (hN : gI st 6 = nI N) (h64 : N ≤ 64) (hi : vp_in t 64) (hops : ∀ t j : Nat, t < N → j < 3 → nI j < fx_Op_namedTerms (fA st 3 t) → vp_in (fA st 5 (3 * t + j)) 64) : Met l yX5_needOnly wsX5_needOnly ({ frames := 3, cells := 0, slots := 0, locals := 63 }) (va_Pc [.ref (a 13), .int t] (wl_pre (dC, dI) vwCl (xt k) (xw a k) st sz)) (va_Qv (fun u9 => u9 = fx_Eval_needOnly st t) (wl_at (dC, dI) vwCl (xt k) (xw a k) (va_A (xw a k st) sz)) (va_A (xw a k st) sz)) 0 0 (va_A (xw a k st) sz) := by
  refine Met.ofW (cc := cX5_needOnly) (maxL := 2) (ret := none) (by decide) rfl ?_
  intro p e s m args below meth c s₁ B hml hv
  obtain ⟨rfl, hsz, hP, hK, hD0⟩ := hv
  have hx := B.exec
  have hb := B.bytes
  have hr := B.returns
  have hta := aw_hts (atoms_spec (ws := wsX5_needOnly) B.pre)
  have hown : s.vm.findClass RX5 = some m.cls := findClass_of_methodNamed B.named
  have hlocks := B.notSynchronized
  subst hsz
  have hD := hD0.self (sz := s.heap.size)
  generalize hAe : va_A (xw a k st) s.heap.size = A at hD ⊢
  have hAz : ∀ q : Nat, s.heap.size ≤ q → A q := fun q h => by rw [← hAe]; exact Or.inr h
  have hS : va_S A s.heap s.heap [] := va_S.rf
  have hl := lv_entry ([.ref (a 13), .int t]) (n := 2) (Nat.le_of_ble_eq_true rfl)
  rw [lg_entry_eq]
  generalize (lg_sl ([.ref (a 13), .int t]) ++ List.replicate (2 - (lg_sl ([.ref (a 13), .int t])).length) Slot.unset).toArray = ls at hl ⊢
  have hl : lv_has ls 2 [(0, .ref (a 13)), (1, .int t)] := hl
  generalize hR : fx_Eval_needOnly st t = R
  rw [fx_Eval_needOnly] at hR
  refine lv_aload_n hx hb dX5_needOnly_0 rfl (lv_at hl 0 rfl) ?_
  refine wl_mv (va_runV (As := []) (rest := []) ⟨hx, hb, hml, hown, hta⟩ (kx_Eval_needNothing l dC dI a k st _) (cwV 0 hta gX5_31 rfl rfl rfl (by decide +kernel) ⟨Nat.le_of_ble_eq_true rfl, Nat.le_of_ble_eq_true rfl⟩) (wl_pM (C := RX5) (ci := 3) (q0 := 13) hK hP hD rfl (xr_13 a k st)) rfl rfl hl.1 rfl (lv_room (Nat.le_of_ble_eq_true rfl)) dX5_needOnly_1 ⟨Nat.zero_le _, Nat.zero_le _⟩) hP hD hS hAz (fun u1 H locs hw1 hP hD hS => ?_)
  have w1 : fx_Eval_needNothing st = u1 := hw1.symm
  have hf1 : XF [] [7] [] st u1 := by rw [← w1]; exact ff_Eval_needNothing st
  try rw [w1] at hR
  refine lv_aload_n hx hb dX5_needOnly_4 rfl (lv_at hl 0 rfl) ?_
  refine lv_iload_n hx hb dX5_needOnly_5 rfl (lv_at hl 1 rfl) ?_
  refine wl_mv (va_runV (As := [.int t]) (rest := []) ⟨hx, hb, hml, hown, hta⟩ (kx_Eval_need l dC dI a k (u1) t _ hi) (cwV 1 hta gX5_34 rfl rfl rfl (by decide +kernel) ⟨Nat.le_of_ble_eq_true rfl, Nat.le_of_ble_eq_true rfl⟩) (wl_pM (C := RX5) (ci := 3) (q0 := 13) hK hP hD rfl (xr_13 a k (u1))) rfl rfl hl.1 rfl (lv_room (Nat.le_of_ble_eq_true rfl)) dX5_needOnly_6 ⟨Nat.zero_le _, Nat.zero_le _⟩) hP hD hS hAz (fun u6 H locs hw6 hP hD hS => ?_)
  have w6 : fx_Eval_need (u1) t = u6 := hw6.symm
  have hf6 : XF [] [7] [] (u1) u6 := by rw [← w6]; exact ff_Eval_need (u1) t
  try rw [w6] at hR
  refine lv_aload_n hx hb dX5_needOnly_9 rfl (lv_at hl 0 rfl) ?_
  refine wl_mv (va_runV (As := []) (rest := []) ⟨hx, hb, hml, hown, hta⟩ (kx_Eval_needOperands l dC dI a k (u6) _ N ((hf6.I 6 (by decide)).trans ((hf1.I 6 (by decide)).trans hN)) h64 (wl_ops ((hf6.A 3 (by decide)).trans (hf1.A 3 (by decide))) ((hf6.A 5 (by decide)).trans (hf1.A 5 (by decide))) hops)) (cwV 0 hta gX5_38 rfl rfl rfl (by decide +kernel) ⟨Nat.le_of_ble_eq_true rfl, Nat.le_of_ble_eq_true rfl⟩) (wl_pM (C := RX5) (ci := 3) (q0 := 13) hK hP hD rfl (xr_13 a k (u6))) rfl rfl hl.1 rfl (lv_room (Nat.le_of_ble_eq_true rfl)) dX5_needOnly_10 ⟨Nat.zero_le _, Nat.zero_le _⟩) hP hD hS hAz (fun u10 H locs hw10 hP hD hS => ?_)
  have w10 : fx_Eval_needOperands (u6) = u10 := hw10.symm
  have hf10 : XF [] [7] [] (u6) u10 := by rw [← w10]; exact ff_Eval_needOperands (u6)
  try rw [w10] at hR
  exact W.vret hx hb hr (fun t ht hW => ⟨⟨_, rfl, hR, by rw [ht]; exact hP, va_K.moved hW.alike hK, hD⟩, hS.F ht⟩) hS.2.2 dX5_needOnly_13

theorem mw_323 : (.code yX4_widthOf cX4_widthOf 2 (some .int) : Cond) ∈ AW := List.mem_filter.mpr ⟨List.mem_of_getElem? (i := 323) (by decide +kernel), rfl⟩
theorem mw_365 : (.methodLink RX5 72 yX4_widthOf : Cond) ∈ AW := List.mem_filter.mpr ⟨List.mem_of_getElem? (i := 365) (by decide +kernel), rfl⟩
theorem mw_321 : (.instanceMethod yX4_widthOf : Cond) ∈ AW := List.mem_filter.mpr ⟨List.mem_of_getElem? (i := 321) (by decide +kernel), rfl⟩
theorem mw_322 : (.selects RX4 yX4_widthOf yX4_widthOf : Cond) ∈ AW := List.mem_filter.mpr ⟨List.mem_of_getElem? (i := 322) (by decide +kernel), rfl⟩
theorem mw_368 : (.code yX1_ofOne cX1_ofOne 4 (some .long) : Cond) ∈ AW := List.mem_filter.mpr ⟨List.mem_of_getElem? (i := 368) (by decide +kernel), rfl⟩
theorem mw_366 : (.methodLink RX5 75 yX1_ofOne : Cond) ∈ AW := List.mem_filter.mpr ⟨List.mem_of_getElem? (i := 366) (by decide +kernel), rfl⟩
theorem mw_367 : (.static yX1_ofOne : Cond) ∈ AW := List.mem_filter.mpr ⟨List.mem_of_getElem? (i := 367) (by decide +kernel), rfl⟩
theorem mw_384 : (.code yX1_divided cX1_divided 12 (some .long) : Cond) ∈ AW := List.mem_filter.mpr ⟨List.mem_of_getElem? (i := 384) (by decide +kernel), rfl⟩
theorem mw_382 : (.methodLink RX5 89 yX1_divided : Cond) ∈ AW := List.mem_filter.mpr ⟨List.mem_of_getElem? (i := 382) (by decide +kernel), rfl⟩
theorem mw_383 : (.static yX1_divided : Cond) ∈ AW := List.mem_filter.mpr ⟨List.mem_of_getElem? (i := 383) (by decide +kernel), rfl⟩
theorem mw_387 : (.code yX1_moved cX1_moved 7 (some .long) : Cond) ∈ AW := List.mem_filter.mpr ⟨List.mem_of_getElem? (i := 387) (by decide +kernel), rfl⟩
theorem mw_385 : (.methodLink RX5 93 yX1_moved : Cond) ∈ AW := List.mem_filter.mpr ⟨List.mem_of_getElem? (i := 385) (by decide +kernel), rfl⟩
theorem mw_386 : (.static yX1_moved : Cond) ∈ AW := List.mem_filter.mpr ⟨List.mem_of_getElem? (i := 386) (by decide +kernel), rfl⟩
theorem mw_373 : (.code yX1_resized cX1_resized 5 (some .long) : Cond) ∈ AW := List.mem_filter.mpr ⟨List.mem_of_getElem? (i := 373) (by decide +kernel), rfl⟩
theorem mw_371 : (.methodLink RX5 79 yX1_resized : Cond) ∈ AW := List.mem_filter.mpr ⟨List.mem_of_getElem? (i := 371) (by decide +kernel), rfl⟩
theorem mw_372 : (.static yX1_resized : Cond) ∈ AW := List.mem_filter.mpr ⟨List.mem_of_getElem? (i := 372) (by decide +kernel), rfl⟩
theorem mw_129 : (.fieldLink RX5 17 RX5 "tables" "LPathSolver$Tables;" : Cond) ∈ AW := List.mem_filter.mpr ⟨List.mem_of_getElem? (i := 129) (by decide +kernel), rfl⟩
theorem mw_380 : (.code yX3_lookUp cX3_lookUp 4 (some .long) : Cond) ∈ AW := List.mem_filter.mpr ⟨List.mem_of_getElem? (i := 380) (by decide +kernel), rfl⟩
theorem mw_377 : (.methodLink RX5 83 yX3_lookUp : Cond) ∈ AW := List.mem_filter.mpr ⟨List.mem_of_getElem? (i := 377) (by decide +kernel), rfl⟩
theorem mw_40 : (.initialized RX3 : Cond) ∈ AW := List.mem_filter.mpr ⟨List.mem_of_getElem? (i := 40) (by decide +kernel), rfl⟩
theorem mw_378 : (.instanceMethod yX3_lookUp : Cond) ∈ AW := List.mem_filter.mpr ⟨List.mem_of_getElem? (i := 378) (by decide +kernel), rfl⟩
theorem mw_379 : (.selects RX3 yX3_lookUp yX3_lookUp : Cond) ∈ AW := List.mem_filter.mpr ⟨List.mem_of_getElem? (i := 379) (by decide +kernel), rfl⟩
theorem mw_390 : (.code yX1_ofTwo cX1_ofTwo 6 (some .long) : Cond) ∈ AW := List.mem_filter.mpr ⟨List.mem_of_getElem? (i := 390) (by decide +kernel), rfl⟩
theorem mw_388 : (.methodLink RX5 96 yX1_ofTwo : Cond) ∈ AW := List.mem_filter.mpr ⟨List.mem_of_getElem? (i := 388) (by decide +kernel), rfl⟩
theorem mw_389 : (.static yX1_ofTwo : Cond) ∈ AW := List.mem_filter.mpr ⟨List.mem_of_getElem? (i := 389) (by decide +kernel), rfl⟩
theorem gX5_72 : GoodIn AW (wsV RX5 72 RX4 yX4_widthOf wsX4_widthOf) := aw_V mw_365 mw_321 mw_322 mw_41 mw_323
theorem gX5_75 : GoodIn AW (va_wsS RX5 75 yX1_ofOne wsX1_ofOne) := aw_S mw_366 mw_367 mw_48 mw_368
theorem gX5_89 : GoodIn AW (va_wsS RX5 89 yX1_divided wsX1_divided) := aw_S mw_382 mw_383 mw_48 mw_384
theorem gX5_93 : GoodIn AW (va_wsS RX5 93 yX1_moved wsX1_moved) := aw_S mw_385 mw_386 mw_48 mw_387
theorem gX5_79 : GoodIn AW (va_wsS RX5 79 yX1_resized wsX1_resized) := aw_S mw_371 mw_372 mw_48 mw_373
theorem gX5_83 : GoodIn AW (wsV RX5 83 RX3 yX3_lookUp wsX3_lookUp) := aw_V mw_377 mw_378 mw_379 mw_40 mw_380
theorem gX5_96 : GoodIn AW (va_wsS RX5 96 yX1_ofTwo wsX1_ofTwo) := aw_S mw_388 mw_389 mw_48 mw_390
theorem dX5_apply_0 : decode cX5_apply 0 = .ok (.aload_n 0, 1) := by decide +kernel
theorem dX5_apply_1 : decode cX5_apply 1 = .ok (.getfield 7, 3) := by decide +kernel
theorem dX5_apply_4 : decode cX5_apply 4 = .ok (.iload_n 2, 1) := by decide +kernel
theorem dX5_apply_5 : decode cX5_apply 5 = .ok (.invokevirtual 72, 3) := by decide +kernel
theorem dX5_apply_8 : decode cX5_apply 8 = .ok (.istore 6, 2) := by decide +kernel
theorem dX5_apply_10 : decode cX5_apply 10 = .ok (.iload_n 1, 1) := by decide +kernel
theorem dX5_apply_11 : decode cX5_apply 11 = .ok (.tableswitch 185 0 20 #[97, 97, 185, 185, 185, 185, 185, 185, 155, 155, 170, 170, 170, 185, 185, 185, 108, 130, 130, 130, 142], 97) := by decide +kernel
theorem dX5_apply_108 : decode cX5_apply 108 = .ok (.iload_n 1, 1) := by decide +kernel
theorem dX5_apply_109 : decode cX5_apply 109 = .ok (.iload 6, 2) := by decide +kernel
theorem dX5_apply_111 : decode cX5_apply 111 = .ok (.aload 5, 2) := by decide +kernel
theorem dX5_apply_113 : decode cX5_apply 113 = .ok (.iload_n 2, 1) := by decide +kernel
theorem dX5_apply_114 : decode cX5_apply 114 = .ok (.laload, 1) := by decide +kernel
theorem dX5_apply_115 : decode cX5_apply 115 = .ok (.invokestatic 75, 3) := by decide +kernel
theorem dX5_apply_118 : decode cX5_apply 118 = .ok (.lreturn, 1) := by decide +kernel
theorem dX5_apply_119 : decode cX5_apply 119 = .ok (.aload 5, 2) := by decide +kernel
theorem dX5_apply_121 : decode cX5_apply 121 = .ok (.iload_n 2, 1) := by decide +kernel
theorem dX5_apply_122 : decode cX5_apply 122 = .ok (.laload, 1) := by decide +kernel
theorem dX5_apply_123 : decode cX5_apply 123 = .ok (.lconst 0, 1) := by decide +kernel
theorem dX5_apply_124 : decode cX5_apply 124 = .ok (.lcmp, 1) := by decide +kernel
theorem dX5_apply_125 : decode cX5_apply 125 = .ok (.ifCond .eq 10, 3) := by decide +kernel
theorem dX5_apply_128 : decode cX5_apply 128 = .ok (.aload 5, 2) := by decide +kernel
theorem dX5_apply_130 : decode cX5_apply 130 = .ok (.iload_n 3, 1) := by decide +kernel
theorem dX5_apply_131 : decode cX5_apply 131 = .ok (.laload, 1) := by decide +kernel
theorem dX5_apply_132 : decode cX5_apply 132 = .ok (.goto 8, 3) := by decide +kernel
theorem dX5_apply_135 : decode cX5_apply 135 = .ok (.aload 5, 2) := by decide +kernel
theorem dX5_apply_137 : decode cX5_apply 137 = .ok (.iload 4, 2) := by decide +kernel
theorem dX5_apply_139 : decode cX5_apply 139 = .ok (.laload, 1) := by decide +kernel
theorem dX5_apply_140 : decode cX5_apply 140 = .ok (.lreturn, 1) := by decide +kernel
theorem dX5_apply_141 : decode cX5_apply 141 = .ok (.iload_n 1, 1) := by decide +kernel
theorem dX5_apply_142 : decode cX5_apply 142 = .ok (.iload 6, 2) := by decide +kernel
theorem dX5_apply_144 : decode cX5_apply 144 = .ok (.iload_n 3, 1) := by decide +kernel
theorem dX5_apply_145 : decode cX5_apply 145 = .ok (.aload 5, 2) := by decide +kernel
theorem dX5_apply_147 : decode cX5_apply 147 = .ok (.iload_n 2, 1) := by decide +kernel
theorem dX5_apply_148 : decode cX5_apply 148 = .ok (.laload, 1) := by decide +kernel
theorem dX5_apply_149 : decode cX5_apply 149 = .ok (.invokestatic 79, 3) := by decide +kernel
theorem dX5_apply_152 : decode cX5_apply 152 = .ok (.lreturn, 1) := by decide +kernel
theorem dX5_apply_153 : decode cX5_apply 153 = .ok (.aload_n 0, 1) := by decide +kernel
theorem dX5_apply_154 : decode cX5_apply 154 = .ok (.getfield 17, 3) := by decide +kernel
theorem dX5_apply_157 : decode cX5_apply 157 = .ok (.iload_n 3, 1) := by decide +kernel
theorem dX5_apply_158 : decode cX5_apply 158 = .ok (.aload 5, 2) := by decide +kernel
theorem dX5_apply_160 : decode cX5_apply 160 = .ok (.iload_n 2, 1) := by decide +kernel
theorem dX5_apply_161 : decode cX5_apply 161 = .ok (.laload, 1) := by decide +kernel
theorem dX5_apply_162 : decode cX5_apply 162 = .ok (.invokevirtual 83, 3) := by decide +kernel
theorem dX5_apply_165 : decode cX5_apply 165 = .ok (.lreturn, 1) := by decide +kernel
theorem dX5_apply_166 : decode cX5_apply 166 = .ok (.iload_n 1, 1) := by decide +kernel
theorem dX5_apply_167 : decode cX5_apply 167 = .ok (.iload 6, 2) := by decide +kernel
theorem dX5_apply_169 : decode cX5_apply 169 = .ok (.aload 5, 2) := by decide +kernel
theorem dX5_apply_171 : decode cX5_apply 171 = .ok (.iload_n 2, 1) := by decide +kernel
theorem dX5_apply_172 : decode cX5_apply 172 = .ok (.laload, 1) := by decide +kernel
theorem dX5_apply_173 : decode cX5_apply 173 = .ok (.aload 5, 2) := by decide +kernel
theorem dX5_apply_175 : decode cX5_apply 175 = .ok (.iload_n 3, 1) := by decide +kernel
theorem dX5_apply_176 : decode cX5_apply 176 = .ok (.laload, 1) := by decide +kernel
theorem dX5_apply_177 : decode cX5_apply 177 = .ok (.invokestatic 89, 3) := by decide +kernel
theorem dX5_apply_180 : decode cX5_apply 180 = .ok (.lreturn, 1) := by decide +kernel
theorem dX5_apply_181 : decode cX5_apply 181 = .ok (.iload_n 1, 1) := by decide +kernel
theorem dX5_apply_182 : decode cX5_apply 182 = .ok (.iload 6, 2) := by decide +kernel
theorem dX5_apply_184 : decode cX5_apply 184 = .ok (.aload 5, 2) := by decide +kernel
theorem dX5_apply_186 : decode cX5_apply 186 = .ok (.iload_n 2, 1) := by decide +kernel
theorem dX5_apply_187 : decode cX5_apply 187 = .ok (.laload, 1) := by decide +kernel
theorem dX5_apply_188 : decode cX5_apply 188 = .ok (.aload 5, 2) := by decide +kernel
theorem dX5_apply_190 : decode cX5_apply 190 = .ok (.iload_n 3, 1) := by decide +kernel
theorem dX5_apply_191 : decode cX5_apply 191 = .ok (.laload, 1) := by decide +kernel
theorem dX5_apply_192 : decode cX5_apply 192 = .ok (.invokestatic 93, 3) := by decide +kernel
theorem dX5_apply_195 : decode cX5_apply 195 = .ok (.lreturn, 1) := by decide +kernel
theorem dX5_apply_196 : decode cX5_apply 196 = .ok (.iload_n 1, 1) := by decide +kernel
theorem dX5_apply_197 : decode cX5_apply 197 = .ok (.iload 6, 2) := by decide +kernel
theorem dX5_apply_199 : decode cX5_apply 199 = .ok (.aload 5, 2) := by decide +kernel
theorem dX5_apply_201 : decode cX5_apply 201 = .ok (.iload_n 2, 1) := by decide +kernel
theorem dX5_apply_202 : decode cX5_apply 202 = .ok (.laload, 1) := by decide +kernel
theorem dX5_apply_203 : decode cX5_apply 203 = .ok (.aload 5, 2) := by decide +kernel
theorem dX5_apply_205 : decode cX5_apply 205 = .ok (.iload_n 3, 1) := by decide +kernel
theorem dX5_apply_206 : decode cX5_apply 206 = .ok (.laload, 1) := by decide +kernel
theorem dX5_apply_207 : decode cX5_apply 207 = .ok (.invokestatic 96, 3) := by decide +kernel
theorem dX5_apply_210 : decode cX5_apply 210 = .ok (.lreturn, 1) := by decide +kernel
def fx_Eval_apply_r (st : XS) (o : Int32) (a1 : Int32) (b1 : Int32) (c1 : Int32) : Int64 := 
  if o = (0 : Int32) then fx_Op_ofOne o (fx_Terms_widthOf st a1) (fL st 2 a1.toNatClampNeg)
  else 
    if o = (1 : Int32) then fx_Op_ofOne o (fx_Terms_widthOf st a1) (fL st 2 a1.toNatClampNeg)
    else 
      if o = (8 : Int32) then fx_Op_divided o (fx_Terms_widthOf st a1) (fL st 2 a1.toNatClampNeg) (fL st 2 b1.toNatClampNeg)
      else 
        if o = (9 : Int32) then fx_Op_divided o (fx_Terms_widthOf st a1) (fL st 2 a1.toNatClampNeg) (fL st 2 b1.toNatClampNeg)
        else 
          if o = (10 : Int32) then fx_Op_moved o (fx_Terms_widthOf st a1) (fL st 2 a1.toNatClampNeg) (fL st 2 b1.toNatClampNeg)
          else 
            if o = (11 : Int32) then fx_Op_moved o (fx_Terms_widthOf st a1) (fL st 2 a1.toNatClampNeg) (fL st 2 b1.toNatClampNeg)
            else 
              if o = (12 : Int32) then fx_Op_moved o (fx_Terms_widthOf st a1) (fL st 2 a1.toNatClampNeg) (fL st 2 b1.toNatClampNeg)
              else 
                if o = (16 : Int32) then 
                  if lg_cmp (fL st 2 a1.toNatClampNeg) (0 : Int64) = (0 : Int32) then fL st 2 c1.toNatClampNeg
                  else fL st 2 b1.toNatClampNeg
                else 
                  if o = (17 : Int32) then fx_Op_resized o (fx_Terms_widthOf st a1) b1 (fL st 2 a1.toNatClampNeg)
                  else 
                    if o = (18 : Int32) then fx_Op_resized o (fx_Terms_widthOf st a1) b1 (fL st 2 a1.toNatClampNeg)
                    else 
                      if o = (19 : Int32) then fx_Op_resized o (fx_Terms_widthOf st a1) b1 (fL st 2 a1.toNatClampNeg)
                      else 
                        if o = (20 : Int32) then fx_Tabs_lookUp st b1 (fL st 2 a1.toNatClampNeg)
                        else fx_Op_ofTwo o (fx_Terms_widthOf st a1) (fL st 2 a1.toNatClampNeg) (fL st 2 b1.toNatClampNeg)
set_option maxHeartbeats 4000000 in
set_option maxRecDepth 100000 in
theorem kx_Eval_apply_r (l : Launch) (dC : Nat → ClassId) (dI : Nat → Nat → Nat) (a : Nat → Nat) (k : Nat → ClassId) (st : XS) (o : Int32) (a1 : Int32) (b1 : Int32) (c1 : Int32) (hA : vp_in a1 64) (hB : ¬ (o = 0 ∨ o = 1 ∨ o = 17 ∨ o = 18 ∨ o = 19 ∨ o = 20) → vp_in b1 64) (hC : o = 16 → vp_in c1 64) (hT : o = 20 → vp_in b1 2) (hV : o = 8 ∨ o = 9 → ¬ fL st 2 b1.toNatClampNeg = 0 → ¬ fx_Width_readPlain (fx_Terms_widthOf st a1) (fL st 2 b1.toNatClampNeg) = 0) : Met l yX5_apply wsX5_apply ({ frames := 2, cells := 0, slots := 0, locals := 54 }) (va_Pc [.ref (a 13), .int o, .int a1, .int b1, .int c1, .ref (a 14)] (wl_prR (dC, dI) vwCl (xt k) (xw a k st))) (vp_Sl (fun r9 => r9 = fx_Eval_apply_r st o a1 b1 c1)) 0 0 (fun _ => False) := by
  refine Met.ofW (cc := cX5_apply) (maxL := 7) (ret := (some .long)) (by decide) rfl ?_
  intro p e s m args below meth c s₁ B hml hv
  obtain ⟨rfl, hP, hK⟩ := hv
  have hx := B.exec
  have hb := B.bytes
  have hr := B.returns
  have hta := aw_hts (atoms_spec (ws := wsX5_apply) B.pre)
  have hown : s.vm.findClass RX5 = some m.cls := findClass_of_methodNamed B.named
  have hlocks := B.notSynchronized
  have hf7 := hta _ mw_127
  have hf17 := hta _ mw_129
  have hl := lv_entry ([.ref (a 13), .int o, .int a1, .int b1, .int c1, .ref (a 14)]) (n := 7) (Nat.le_of_ble_eq_true rfl)
  rw [lg_entry_eq]
  generalize (lg_sl ([.ref (a 13), .int o, .int a1, .int b1, .int c1, .ref (a 14)]) ++ List.replicate (7 - (lg_sl ([.ref (a 13), .int o, .int a1, .int b1, .int c1, .ref (a 14)])).length) Slot.unset).toArray = ls at hl ⊢
  have hl : lv_has ls 7 [(0, .ref (a 13)), (1, .int o), (2, .int a1), (3, .int b1), (4, .int c1), (5, .ref (a 14))] := hl
  generalize hR : fx_Eval_apply_r st o a1 b1 c1 = R
  rw [fx_Eval_apply_r] at hR
  refine lv_aload_n hx hb dX5_apply_0 rfl (lv_at hl 0 rfl) ?_
  refine va_get (D := (dC, dI)) (ci := 3) (v := .ref (a 7)) (C := RX5) (T := TX5) (N := 5) hx hb hta inX5 hown hK hP 13 (xr_13 a k st) rfl 0 (by decide) hf7 (fun _ h9 => h9) rfl dX5_apply_1 ?_
  refine lv_iload_n hx hb dX5_apply_4 rfl (lv_at hl 2 rfl) ?_
  refine wl_ci (va_runV (As := [.int a1]) (rest := []) ⟨hx, hb, hml, hown, hta⟩ (kx_Terms_widthOf l dC dI a k st a1 hA) (cwV 1 hta gX5_72 rfl rfl rfl (by decide +kernel) ⟨Nat.le_of_ble_eq_true rfl, Nat.le_of_ble_eq_true rfl⟩) (wl_pR (C := RX4) (ci := 2) (q0 := 7) hK hP rfl (xr_7 a k st)) rfl rfl hl.1 rfl (lv_room (Nat.le_of_ble_eq_true rfl)) dX5_apply_5 ⟨Nat.zero_le _, Nat.zero_le _⟩) ?_
  refine lv_istore (lv' := [(6, .int (fx_Terms_widthOf st a1)), (0, .ref (a 13)), (1, .int o), (2, .int a1), (3, .int b1), (4, .int c1), (5, .ref (a 14))]) hx hb dX5_apply_8 hl (by decide) rfl (fun ls hl => ?_)
  refine lv_iload_n hx hb dX5_apply_10 rfl (lv_at hl 2 rfl) ?_
  by_cases c11_0 : o = (0 : Int32)
  · skip
    rw [if_pos c11_0] at hR
    refine lv_tableIn (tgt := 108) hx hb dX5_apply_11 (by rw [c11_0]; decide) (by rw [c11_0]; decide) (by rw [c11_0] <;> rfl) (by decide) ?_
    refine lv_iload_n hx hb dX5_apply_108 rfl (lv_at hl 2 rfl) ?_
    refine lv_iload hx hb dX5_apply_109 (lv_at hl 0 rfl) ?_
    refine lv_aload hx hb dX5_apply_111 (lv_at hl 6 rfl) ?_
    refine lv_iload_n hx hb dX5_apply_113 rfl (lv_at hl 3 rfl) ?_
    refine va_lald hx hb hK hP 14 9 (xr_14 a k st) rfl hA dX5_apply_114 ?_
    refine wl_cl (va_runS (As := [.int o, .int (fx_Terms_widthOf st a1), .long (fL st 2 a1.toNatClampNeg)]) (rest := []) ⟨hx, hb, hml, hown, hta⟩ (kx_Op_ofOne l o (fx_Terms_widthOf st a1) (fL st 2 a1.toNatClampNeg)) (va_cwS 3 hta gX5_75 rfl rfl rfl (by decide +kernel) ⟨Nat.le_of_ble_eq_true rfl, Nat.le_of_ble_eq_true rfl⟩) preEq rfl rfl hl.1 rfl (lv_room (Nat.le_of_ble_eq_true rfl)) dX5_apply_115 ⟨Nat.zero_le _, Nat.zero_le _⟩) ?_
    exact W.lret (v := fx_Op_ofOne o (fx_Terms_widthOf st a1) (fL st 2 a1.toNatClampNeg)) hx hb hr (fun t ht hW => ⟨_, rfl, hR, ht⟩) (fun q h => by cases h) dX5_apply_118
  · skip
    rw [if_neg c11_0] at hR
    by_cases c11_1 : o = (1 : Int32)
    · skip
      rw [if_pos c11_1] at hR
      refine lv_tableIn (tgt := 108) hx hb dX5_apply_11 (by rw [c11_1]; decide) (by rw [c11_1]; decide) (by rw [c11_1] <;> rfl) (by decide) ?_
      refine lv_iload_n hx hb dX5_apply_108 rfl (lv_at hl 2 rfl) ?_
      refine lv_iload hx hb dX5_apply_109 (lv_at hl 0 rfl) ?_
      refine lv_aload hx hb dX5_apply_111 (lv_at hl 6 rfl) ?_
      refine lv_iload_n hx hb dX5_apply_113 rfl (lv_at hl 3 rfl) ?_
      refine va_lald hx hb hK hP 14 9 (xr_14 a k st) rfl hA dX5_apply_114 ?_
      refine wl_cl (va_runS (As := [.int o, .int (fx_Terms_widthOf st a1), .long (fL st 2 a1.toNatClampNeg)]) (rest := []) ⟨hx, hb, hml, hown, hta⟩ (kx_Op_ofOne l o (fx_Terms_widthOf st a1) (fL st 2 a1.toNatClampNeg)) (va_cwS 3 hta gX5_75 rfl rfl rfl (by decide +kernel) ⟨Nat.le_of_ble_eq_true rfl, Nat.le_of_ble_eq_true rfl⟩) preEq rfl rfl hl.1 rfl (lv_room (Nat.le_of_ble_eq_true rfl)) dX5_apply_115 ⟨Nat.zero_le _, Nat.zero_le _⟩) ?_
      exact W.lret (v := fx_Op_ofOne o (fx_Terms_widthOf st a1) (fL st 2 a1.toNatClampNeg)) hx hb hr (fun t ht hW => ⟨_, rfl, hR, ht⟩) (fun q h => by cases h) dX5_apply_118
    · skip
      rw [if_neg c11_1] at hR
      by_cases c11_8 : o = (8 : Int32)
      · skip
        rw [if_pos c11_8] at hR
        refine lv_tableIn (tgt := 166) hx hb dX5_apply_11 (by rw [c11_8]; decide) (by rw [c11_8]; decide) (by rw [c11_8] <;> rfl) (by decide) ?_
        refine lv_iload_n hx hb dX5_apply_166 rfl (lv_at hl 2 rfl) ?_
        refine lv_iload hx hb dX5_apply_167 (lv_at hl 0 rfl) ?_
        refine lv_aload hx hb dX5_apply_169 (lv_at hl 6 rfl) ?_
        refine lv_iload_n hx hb dX5_apply_171 rfl (lv_at hl 3 rfl) ?_
        refine va_lald hx hb hK hP 14 9 (xr_14 a k st) rfl hA dX5_apply_172 ?_
        refine lv_aload hx hb dX5_apply_173 (lv_at hl 6 rfl) ?_
        refine lv_iload_n hx hb dX5_apply_175 rfl (lv_at hl 4 rfl) ?_
        refine va_lald hx hb hK hP 14 9 (xr_14 a k st) rfl (hB (by first | (rw [c11_8]; decide) | (rw [c11_9]; decide))) dX5_apply_176 ?_
        refine wl_cl (va_runS (As := [.int o, .int (fx_Terms_widthOf st a1), .long (fL st 2 a1.toNatClampNeg), .long (fL st 2 b1.toNatClampNeg)]) (rest := []) ⟨hx, hb, hml, hown, hta⟩ (kx_Op_divided l o (fx_Terms_widthOf st a1) (fL st 2 a1.toNatClampNeg) (fL st 2 b1.toNatClampNeg) (hV (by first | exact Or.inl c11_8 | exact Or.inr c11_9))) (va_cwS 4 hta gX5_89 rfl rfl rfl (by decide +kernel) ⟨Nat.le_of_ble_eq_true rfl, Nat.le_of_ble_eq_true rfl⟩) preEq rfl rfl hl.1 rfl (lv_room (Nat.le_of_ble_eq_true rfl)) dX5_apply_177 ⟨Nat.zero_le _, Nat.zero_le _⟩) ?_
        exact W.lret (v := fx_Op_divided o (fx_Terms_widthOf st a1) (fL st 2 a1.toNatClampNeg) (fL st 2 b1.toNatClampNeg)) hx hb hr (fun t ht hW => ⟨_, rfl, hR, ht⟩) (fun q h => by cases h) dX5_apply_180
      · skip
        rw [if_neg c11_8] at hR
        by_cases c11_9 : o = (9 : Int32)
        · skip
          rw [if_pos c11_9] at hR
          refine lv_tableIn (tgt := 166) hx hb dX5_apply_11 (by rw [c11_9]; decide) (by rw [c11_9]; decide) (by rw [c11_9] <;> rfl) (by decide) ?_
          refine lv_iload_n hx hb dX5_apply_166 rfl (lv_at hl 2 rfl) ?_
          refine lv_iload hx hb dX5_apply_167 (lv_at hl 0 rfl) ?_
          refine lv_aload hx hb dX5_apply_169 (lv_at hl 6 rfl) ?_
          refine lv_iload_n hx hb dX5_apply_171 rfl (lv_at hl 3 rfl) ?_
          refine va_lald hx hb hK hP 14 9 (xr_14 a k st) rfl hA dX5_apply_172 ?_
          refine lv_aload hx hb dX5_apply_173 (lv_at hl 6 rfl) ?_
          refine lv_iload_n hx hb dX5_apply_175 rfl (lv_at hl 4 rfl) ?_
          refine va_lald hx hb hK hP 14 9 (xr_14 a k st) rfl (hB (by first | (rw [c11_8]; decide) | (rw [c11_9]; decide))) dX5_apply_176 ?_
          refine wl_cl (va_runS (As := [.int o, .int (fx_Terms_widthOf st a1), .long (fL st 2 a1.toNatClampNeg), .long (fL st 2 b1.toNatClampNeg)]) (rest := []) ⟨hx, hb, hml, hown, hta⟩ (kx_Op_divided l o (fx_Terms_widthOf st a1) (fL st 2 a1.toNatClampNeg) (fL st 2 b1.toNatClampNeg) (hV (by first | exact Or.inl c11_8 | exact Or.inr c11_9))) (va_cwS 4 hta gX5_89 rfl rfl rfl (by decide +kernel) ⟨Nat.le_of_ble_eq_true rfl, Nat.le_of_ble_eq_true rfl⟩) preEq rfl rfl hl.1 rfl (lv_room (Nat.le_of_ble_eq_true rfl)) dX5_apply_177 ⟨Nat.zero_le _, Nat.zero_le _⟩) ?_
          exact W.lret (v := fx_Op_divided o (fx_Terms_widthOf st a1) (fL st 2 a1.toNatClampNeg) (fL st 2 b1.toNatClampNeg)) hx hb hr (fun t ht hW => ⟨_, rfl, hR, ht⟩) (fun q h => by cases h) dX5_apply_180
        · skip
          rw [if_neg c11_9] at hR
          by_cases c11_10 : o = (10 : Int32)
          · skip
            rw [if_pos c11_10] at hR
            refine lv_tableIn (tgt := 181) hx hb dX5_apply_11 (by rw [c11_10]; decide) (by rw [c11_10]; decide) (by rw [c11_10] <;> rfl) (by decide) ?_
            refine lv_iload_n hx hb dX5_apply_181 rfl (lv_at hl 2 rfl) ?_
            refine lv_iload hx hb dX5_apply_182 (lv_at hl 0 rfl) ?_
            refine lv_aload hx hb dX5_apply_184 (lv_at hl 6 rfl) ?_
            refine lv_iload_n hx hb dX5_apply_186 rfl (lv_at hl 3 rfl) ?_
            refine va_lald hx hb hK hP 14 9 (xr_14 a k st) rfl hA dX5_apply_187 ?_
            refine lv_aload hx hb dX5_apply_188 (lv_at hl 6 rfl) ?_
            refine lv_iload_n hx hb dX5_apply_190 rfl (lv_at hl 4 rfl) ?_
            refine va_lald hx hb hK hP 14 9 (xr_14 a k st) rfl (hB (by first | (rw [c11_10]; decide) | (rw [c11_11]; decide) | (rw [c11_12]; decide))) dX5_apply_191 ?_
            refine wl_cl (va_runS (As := [.int o, .int (fx_Terms_widthOf st a1), .long (fL st 2 a1.toNatClampNeg), .long (fL st 2 b1.toNatClampNeg)]) (rest := []) ⟨hx, hb, hml, hown, hta⟩ (kx_Op_moved l o (fx_Terms_widthOf st a1) (fL st 2 a1.toNatClampNeg) (fL st 2 b1.toNatClampNeg)) (va_cwS 4 hta gX5_93 rfl rfl rfl (by decide +kernel) ⟨Nat.le_of_ble_eq_true rfl, Nat.le_of_ble_eq_true rfl⟩) preEq rfl rfl hl.1 rfl (lv_room (Nat.le_of_ble_eq_true rfl)) dX5_apply_192 ⟨Nat.zero_le _, Nat.zero_le _⟩) ?_
            exact W.lret (v := fx_Op_moved o (fx_Terms_widthOf st a1) (fL st 2 a1.toNatClampNeg) (fL st 2 b1.toNatClampNeg)) hx hb hr (fun t ht hW => ⟨_, rfl, hR, ht⟩) (fun q h => by cases h) dX5_apply_195
          · skip
            rw [if_neg c11_10] at hR
            by_cases c11_11 : o = (11 : Int32)
            · skip
              rw [if_pos c11_11] at hR
              refine lv_tableIn (tgt := 181) hx hb dX5_apply_11 (by rw [c11_11]; decide) (by rw [c11_11]; decide) (by rw [c11_11] <;> rfl) (by decide) ?_
              refine lv_iload_n hx hb dX5_apply_181 rfl (lv_at hl 2 rfl) ?_
              refine lv_iload hx hb dX5_apply_182 (lv_at hl 0 rfl) ?_
              refine lv_aload hx hb dX5_apply_184 (lv_at hl 6 rfl) ?_
              refine lv_iload_n hx hb dX5_apply_186 rfl (lv_at hl 3 rfl) ?_
              refine va_lald hx hb hK hP 14 9 (xr_14 a k st) rfl hA dX5_apply_187 ?_
              refine lv_aload hx hb dX5_apply_188 (lv_at hl 6 rfl) ?_
              refine lv_iload_n hx hb dX5_apply_190 rfl (lv_at hl 4 rfl) ?_
              refine va_lald hx hb hK hP 14 9 (xr_14 a k st) rfl (hB (by first | (rw [c11_10]; decide) | (rw [c11_11]; decide) | (rw [c11_12]; decide))) dX5_apply_191 ?_
              refine wl_cl (va_runS (As := [.int o, .int (fx_Terms_widthOf st a1), .long (fL st 2 a1.toNatClampNeg), .long (fL st 2 b1.toNatClampNeg)]) (rest := []) ⟨hx, hb, hml, hown, hta⟩ (kx_Op_moved l o (fx_Terms_widthOf st a1) (fL st 2 a1.toNatClampNeg) (fL st 2 b1.toNatClampNeg)) (va_cwS 4 hta gX5_93 rfl rfl rfl (by decide +kernel) ⟨Nat.le_of_ble_eq_true rfl, Nat.le_of_ble_eq_true rfl⟩) preEq rfl rfl hl.1 rfl (lv_room (Nat.le_of_ble_eq_true rfl)) dX5_apply_192 ⟨Nat.zero_le _, Nat.zero_le _⟩) ?_
              exact W.lret (v := fx_Op_moved o (fx_Terms_widthOf st a1) (fL st 2 a1.toNatClampNeg) (fL st 2 b1.toNatClampNeg)) hx hb hr (fun t ht hW => ⟨_, rfl, hR, ht⟩) (fun q h => by cases h) dX5_apply_195
            · skip
              rw [if_neg c11_11] at hR
              by_cases c11_12 : o = (12 : Int32)
              · skip
                rw [if_pos c11_12] at hR
                refine lv_tableIn (tgt := 181) hx hb dX5_apply_11 (by rw [c11_12]; decide) (by rw [c11_12]; decide) (by rw [c11_12] <;> rfl) (by decide) ?_
                refine lv_iload_n hx hb dX5_apply_181 rfl (lv_at hl 2 rfl) ?_
                refine lv_iload hx hb dX5_apply_182 (lv_at hl 0 rfl) ?_
                refine lv_aload hx hb dX5_apply_184 (lv_at hl 6 rfl) ?_
                refine lv_iload_n hx hb dX5_apply_186 rfl (lv_at hl 3 rfl) ?_
                refine va_lald hx hb hK hP 14 9 (xr_14 a k st) rfl hA dX5_apply_187 ?_
                refine lv_aload hx hb dX5_apply_188 (lv_at hl 6 rfl) ?_
                refine lv_iload_n hx hb dX5_apply_190 rfl (lv_at hl 4 rfl) ?_
                refine va_lald hx hb hK hP 14 9 (xr_14 a k st) rfl (hB (by first | (rw [c11_10]; decide) | (rw [c11_11]; decide) | (rw [c11_12]; decide))) dX5_apply_191 ?_
                refine wl_cl (va_runS (As := [.int o, .int (fx_Terms_widthOf st a1), .long (fL st 2 a1.toNatClampNeg), .long (fL st 2 b1.toNatClampNeg)]) (rest := []) ⟨hx, hb, hml, hown, hta⟩ (kx_Op_moved l o (fx_Terms_widthOf st a1) (fL st 2 a1.toNatClampNeg) (fL st 2 b1.toNatClampNeg)) (va_cwS 4 hta gX5_93 rfl rfl rfl (by decide +kernel) ⟨Nat.le_of_ble_eq_true rfl, Nat.le_of_ble_eq_true rfl⟩) preEq rfl rfl hl.1 rfl (lv_room (Nat.le_of_ble_eq_true rfl)) dX5_apply_192 ⟨Nat.zero_le _, Nat.zero_le _⟩) ?_
                exact W.lret (v := fx_Op_moved o (fx_Terms_widthOf st a1) (fL st 2 a1.toNatClampNeg) (fL st 2 b1.toNatClampNeg)) hx hb hr (fun t ht hW => ⟨_, rfl, hR, ht⟩) (fun q h => by cases h) dX5_apply_195
              · skip
                rw [if_neg c11_12] at hR
                by_cases c11_16 : o = (16 : Int32)
                · skip
                  rw [if_pos c11_16] at hR
                  refine lv_tableIn (tgt := 119) hx hb dX5_apply_11 (by rw [c11_16]; decide) (by rw [c11_16]; decide) (by rw [c11_16] <;> rfl) (by decide) ?_
                  refine lv_aload hx hb dX5_apply_119 (lv_at hl 6 rfl) ?_
                  refine lv_iload_n hx hb dX5_apply_121 rfl (lv_at hl 3 rfl) ?_
                  refine va_lald hx hb hK hP 14 9 (xr_14 a k st) rfl hA dX5_apply_122 ?_
                  refine lv_lconst (v := (0 : Int64)) hx hb dX5_apply_123 (by decide) ?_
                  refine W.lcmp hx hb dX5_apply_124 ?_
                  refine lv_if_eq (tgt := 135) hx hb dX5_apply_125 (by decide) (fun c125 => ?_) (fun c125 => ?_)
                  · skip
                    rw [if_pos c125] at hR
                    refine lv_aload hx hb dX5_apply_135 (lv_at hl 6 rfl) ?_
                    refine lv_iload hx hb dX5_apply_137 (lv_at hl 5 rfl) ?_
                    refine va_lald hx hb hK hP 14 9 (xr_14 a k st) rfl (hC c11_16) dX5_apply_139 ?_
                    exact W.lret (v := fL st 2 c1.toNatClampNeg) hx hb hr (fun t ht hW => ⟨_, rfl, hR, ht⟩) (fun q h => by cases h) dX5_apply_140
                  · skip
                    rw [if_neg c125] at hR
                    refine lv_aload hx hb dX5_apply_128 (lv_at hl 6 rfl) ?_
                    refine lv_iload_n hx hb dX5_apply_130 rfl (lv_at hl 4 rfl) ?_
                    refine va_lald hx hb hK hP 14 9 (xr_14 a k st) rfl (hB (by rw [c11_16]; decide)) dX5_apply_131 ?_
                    refine lv_goto (tgt := 140) hx hb dX5_apply_132 (by decide) ?_
                    exact W.lret (v := fL st 2 b1.toNatClampNeg) hx hb hr (fun t ht hW => ⟨_, rfl, hR, ht⟩) (fun q h => by cases h) dX5_apply_140
                · skip
                  rw [if_neg c11_16] at hR
                  by_cases c11_17 : o = (17 : Int32)
                  · skip
                    rw [if_pos c11_17] at hR
                    refine lv_tableIn (tgt := 141) hx hb dX5_apply_11 (by rw [c11_17]; decide) (by rw [c11_17]; decide) (by rw [c11_17] <;> rfl) (by decide) ?_
                    refine lv_iload_n hx hb dX5_apply_141 rfl (lv_at hl 2 rfl) ?_
                    refine lv_iload hx hb dX5_apply_142 (lv_at hl 0 rfl) ?_
                    refine lv_iload_n hx hb dX5_apply_144 rfl (lv_at hl 4 rfl) ?_
                    refine lv_aload hx hb dX5_apply_145 (lv_at hl 6 rfl) ?_
                    refine lv_iload_n hx hb dX5_apply_147 rfl (lv_at hl 3 rfl) ?_
                    refine va_lald hx hb hK hP 14 9 (xr_14 a k st) rfl hA dX5_apply_148 ?_
                    refine wl_cl (va_runS (As := [.int o, .int (fx_Terms_widthOf st a1), .int b1, .long (fL st 2 a1.toNatClampNeg)]) (rest := []) ⟨hx, hb, hml, hown, hta⟩ (kx_Op_resized l o (fx_Terms_widthOf st a1) b1 (fL st 2 a1.toNatClampNeg)) (va_cwS 4 hta gX5_79 rfl rfl rfl (by decide +kernel) ⟨Nat.le_of_ble_eq_true rfl, Nat.le_of_ble_eq_true rfl⟩) preEq rfl rfl hl.1 rfl (lv_room (Nat.le_of_ble_eq_true rfl)) dX5_apply_149 ⟨Nat.zero_le _, Nat.zero_le _⟩) ?_
                    exact W.lret (v := fx_Op_resized o (fx_Terms_widthOf st a1) b1 (fL st 2 a1.toNatClampNeg)) hx hb hr (fun t ht hW => ⟨_, rfl, hR, ht⟩) (fun q h => by cases h) dX5_apply_152
                  · skip
                    rw [if_neg c11_17] at hR
                    by_cases c11_18 : o = (18 : Int32)
                    · skip
                      rw [if_pos c11_18] at hR
                      refine lv_tableIn (tgt := 141) hx hb dX5_apply_11 (by rw [c11_18]; decide) (by rw [c11_18]; decide) (by rw [c11_18] <;> rfl) (by decide) ?_
                      refine lv_iload_n hx hb dX5_apply_141 rfl (lv_at hl 2 rfl) ?_
                      refine lv_iload hx hb dX5_apply_142 (lv_at hl 0 rfl) ?_
                      refine lv_iload_n hx hb dX5_apply_144 rfl (lv_at hl 4 rfl) ?_
                      refine lv_aload hx hb dX5_apply_145 (lv_at hl 6 rfl) ?_
                      refine lv_iload_n hx hb dX5_apply_147 rfl (lv_at hl 3 rfl) ?_
                      refine va_lald hx hb hK hP 14 9 (xr_14 a k st) rfl hA dX5_apply_148 ?_
                      refine wl_cl (va_runS (As := [.int o, .int (fx_Terms_widthOf st a1), .int b1, .long (fL st 2 a1.toNatClampNeg)]) (rest := []) ⟨hx, hb, hml, hown, hta⟩ (kx_Op_resized l o (fx_Terms_widthOf st a1) b1 (fL st 2 a1.toNatClampNeg)) (va_cwS 4 hta gX5_79 rfl rfl rfl (by decide +kernel) ⟨Nat.le_of_ble_eq_true rfl, Nat.le_of_ble_eq_true rfl⟩) preEq rfl rfl hl.1 rfl (lv_room (Nat.le_of_ble_eq_true rfl)) dX5_apply_149 ⟨Nat.zero_le _, Nat.zero_le _⟩) ?_
                      exact W.lret (v := fx_Op_resized o (fx_Terms_widthOf st a1) b1 (fL st 2 a1.toNatClampNeg)) hx hb hr (fun t ht hW => ⟨_, rfl, hR, ht⟩) (fun q h => by cases h) dX5_apply_152
                    · skip
                      rw [if_neg c11_18] at hR
                      by_cases c11_19 : o = (19 : Int32)
                      · skip
                        rw [if_pos c11_19] at hR
                        refine lv_tableIn (tgt := 141) hx hb dX5_apply_11 (by rw [c11_19]; decide) (by rw [c11_19]; decide) (by rw [c11_19] <;> rfl) (by decide) ?_
                        refine lv_iload_n hx hb dX5_apply_141 rfl (lv_at hl 2 rfl) ?_
                        refine lv_iload hx hb dX5_apply_142 (lv_at hl 0 rfl) ?_
                        refine lv_iload_n hx hb dX5_apply_144 rfl (lv_at hl 4 rfl) ?_
                        refine lv_aload hx hb dX5_apply_145 (lv_at hl 6 rfl) ?_
                        refine lv_iload_n hx hb dX5_apply_147 rfl (lv_at hl 3 rfl) ?_
                        refine va_lald hx hb hK hP 14 9 (xr_14 a k st) rfl hA dX5_apply_148 ?_
                        refine wl_cl (va_runS (As := [.int o, .int (fx_Terms_widthOf st a1), .int b1, .long (fL st 2 a1.toNatClampNeg)]) (rest := []) ⟨hx, hb, hml, hown, hta⟩ (kx_Op_resized l o (fx_Terms_widthOf st a1) b1 (fL st 2 a1.toNatClampNeg)) (va_cwS 4 hta gX5_79 rfl rfl rfl (by decide +kernel) ⟨Nat.le_of_ble_eq_true rfl, Nat.le_of_ble_eq_true rfl⟩) preEq rfl rfl hl.1 rfl (lv_room (Nat.le_of_ble_eq_true rfl)) dX5_apply_149 ⟨Nat.zero_le _, Nat.zero_le _⟩) ?_
                        exact W.lret (v := fx_Op_resized o (fx_Terms_widthOf st a1) b1 (fL st 2 a1.toNatClampNeg)) hx hb hr (fun t ht hW => ⟨_, rfl, hR, ht⟩) (fun q h => by cases h) dX5_apply_152
                      · skip
                        rw [if_neg c11_19] at hR
                        by_cases c11_20 : o = (20 : Int32)
                        · skip
                          rw [if_pos c11_20] at hR
                          refine lv_tableIn (tgt := 153) hx hb dX5_apply_11 (by rw [c11_20]; decide) (by rw [c11_20]; decide) (by rw [c11_20] <;> rfl) (by decide) ?_
                          refine lv_aload_n hx hb dX5_apply_153 rfl (lv_at hl 1 rfl) ?_
                          refine va_get (D := (dC, dI)) (ci := 3) (v := .ref (a 5)) (C := RX5) (T := TX5) (N := 5) hx hb hta inX5 hown hK hP 13 (xr_13 a k st) rfl 2 (by decide) hf17 (fun _ h9 => h9) rfl dX5_apply_154 ?_
                          refine lv_iload_n hx hb dX5_apply_157 rfl (lv_at hl 4 rfl) ?_
                          refine lv_aload hx hb dX5_apply_158 (lv_at hl 6 rfl) ?_
                          refine lv_iload_n hx hb dX5_apply_160 rfl (lv_at hl 3 rfl) ?_
                          refine va_lald hx hb hK hP 14 9 (xr_14 a k st) rfl hA dX5_apply_161 ?_
                          refine wl_cl (va_runV (As := [.int b1, .long (fL st 2 a1.toNatClampNeg)]) (rest := []) ⟨hx, hb, hml, hown, hta⟩ (kx_Tabs_lookUp l dC dI a k st b1 (fL st 2 a1.toNatClampNeg) (wl_lk (hT c11_20) _)) (cwV 2 hta gX5_83 rfl rfl rfl (by decide +kernel) ⟨Nat.le_of_ble_eq_true rfl, Nat.le_of_ble_eq_true rfl⟩) (wl_pR (C := RX3) (ci := 1) (q0 := 5) hK hP rfl (xr_5 a k st)) rfl rfl hl.1 rfl (lv_room (Nat.le_of_ble_eq_true rfl)) dX5_apply_162 ⟨Nat.zero_le _, Nat.zero_le _⟩) ?_
                          exact W.lret (v := fx_Tabs_lookUp st b1 (fL st 2 a1.toNatClampNeg)) hx hb hr (fun t ht hW => ⟨_, rfl, hR, ht⟩) (fun q h => by cases h) dX5_apply_165
                        · skip
                          rw [if_neg c11_20] at hR
                          have t11_0 := lv_neT (a := 0) c11_0 (by decide)
                          have t11_1 := lv_neT (a := 1) c11_1 (by decide)
                          have t11_8 := lv_neT (a := 8) c11_8 (by decide)
                          have t11_9 := lv_neT (a := 9) c11_9 (by decide)
                          have t11_10 := lv_neT (a := 10) c11_10 (by decide)
                          have t11_11 := lv_neT (a := 11) c11_11 (by decide)
                          have t11_12 := lv_neT (a := 12) c11_12 (by decide)
                          have t11_16 := lv_neT (a := 16) c11_16 (by decide)
                          have t11_17 := lv_neT (a := 17) c11_17 (by decide)
                          have t11_18 := lv_neT (a := 18) c11_18 (by decide)
                          have t11_19 := lv_neT (a := 19) c11_19 (by decide)
                          have t11_20 := lv_neT (a := 20) c11_20 (by decide)
                          refine wl_tabD (tgt := 196) (ks := [0, 1, 8, 9, 10, 11, 12, 16, 17, 18, 19, 20]) hx hb dX5_apply_11 (by decide) (by decide +kernel) (by intro k hk; simp only [List.mem_cons, List.not_mem_nil, or_false] at hk; rcases hk with rfl | rfl | rfl | rfl | rfl | rfl | rfl | rfl | rfl | rfl | rfl | rfl <;> assumption) (by decide) ?_
                          refine lv_iload_n hx hb dX5_apply_196 rfl (lv_at hl 2 rfl) ?_
                          refine lv_iload hx hb dX5_apply_197 (lv_at hl 0 rfl) ?_
                          refine lv_aload hx hb dX5_apply_199 (lv_at hl 6 rfl) ?_
                          refine lv_iload_n hx hb dX5_apply_201 rfl (lv_at hl 3 rfl) ?_
                          refine va_lald hx hb hK hP 14 9 (xr_14 a k st) rfl hA dX5_apply_202 ?_
                          refine lv_aload hx hb dX5_apply_203 (lv_at hl 6 rfl) ?_
                          refine lv_iload_n hx hb dX5_apply_205 rfl (lv_at hl 4 rfl) ?_
                          refine va_lald hx hb hK hP 14 9 (xr_14 a k st) rfl (hB (fun h => by rcases h with h | h | h | h | h | h <;> contradiction)) dX5_apply_206 ?_
                          refine wl_cl (va_runS (As := [.int o, .int (fx_Terms_widthOf st a1), .long (fL st 2 a1.toNatClampNeg), .long (fL st 2 b1.toNatClampNeg)]) (rest := []) ⟨hx, hb, hml, hown, hta⟩ (kx_Op_ofTwo l o (fx_Terms_widthOf st a1) (fL st 2 a1.toNatClampNeg) (fL st 2 b1.toNatClampNeg)) (va_cwS 4 hta gX5_96 rfl rfl rfl (by decide +kernel) ⟨Nat.le_of_ble_eq_true rfl, Nat.le_of_ble_eq_true rfl⟩) preEq rfl rfl hl.1 rfl (lv_room (Nat.le_of_ble_eq_true rfl)) dX5_apply_207 ⟨Nat.zero_le _, Nat.zero_le _⟩) ?_
                          exact W.lret (v := fx_Op_ofTwo o (fx_Terms_widthOf st a1) (fL st 2 a1.toNatClampNeg) (fL st 2 b1.toNatClampNeg)) hx hb hr (fun t ht hW => ⟨_, rfl, hR, ht⟩) (fun q h => by cases h) dX5_apply_210


def fx_Eval_apply_c (st : XS) (o : Int32) (a1 : Int32) (b1 : Int32) (c1 : Int32) : Int64 := 
  if o = (0 : Int32) then fx_Op_ofOne o (fx_Terms_widthOf st a1) (fL st 1 a1.toNatClampNeg)
  else 
    if o = (1 : Int32) then fx_Op_ofOne o (fx_Terms_widthOf st a1) (fL st 1 a1.toNatClampNeg)
    else 
      if o = (8 : Int32) then fx_Op_divided o (fx_Terms_widthOf st a1) (fL st 1 a1.toNatClampNeg) (fL st 1 b1.toNatClampNeg)
      else 
        if o = (9 : Int32) then fx_Op_divided o (fx_Terms_widthOf st a1) (fL st 1 a1.toNatClampNeg) (fL st 1 b1.toNatClampNeg)
        else 
          if o = (10 : Int32) then fx_Op_moved o (fx_Terms_widthOf st a1) (fL st 1 a1.toNatClampNeg) (fL st 1 b1.toNatClampNeg)
          else 
            if o = (11 : Int32) then fx_Op_moved o (fx_Terms_widthOf st a1) (fL st 1 a1.toNatClampNeg) (fL st 1 b1.toNatClampNeg)
            else 
              if o = (12 : Int32) then fx_Op_moved o (fx_Terms_widthOf st a1) (fL st 1 a1.toNatClampNeg) (fL st 1 b1.toNatClampNeg)
              else 
                if o = (16 : Int32) then 
                  if lg_cmp (fL st 1 a1.toNatClampNeg) (0 : Int64) = (0 : Int32) then fL st 1 c1.toNatClampNeg
                  else fL st 1 b1.toNatClampNeg
                else 
                  if o = (17 : Int32) then fx_Op_resized o (fx_Terms_widthOf st a1) b1 (fL st 1 a1.toNatClampNeg)
                  else 
                    if o = (18 : Int32) then fx_Op_resized o (fx_Terms_widthOf st a1) b1 (fL st 1 a1.toNatClampNeg)
                    else 
                      if o = (19 : Int32) then fx_Op_resized o (fx_Terms_widthOf st a1) b1 (fL st 1 a1.toNatClampNeg)
                      else 
                        if o = (20 : Int32) then fx_Tabs_lookUp st b1 (fL st 1 a1.toNatClampNeg)
                        else fx_Op_ofTwo o (fx_Terms_widthOf st a1) (fL st 1 a1.toNatClampNeg) (fL st 1 b1.toNatClampNeg)
set_option maxHeartbeats 4000000 in
set_option maxRecDepth 100000 in
theorem kx_Eval_apply_c (l : Launch) (dC : Nat → ClassId) (dI : Nat → Nat → Nat) (a : Nat → Nat) (k : Nat → ClassId) (st : XS) (o : Int32) (a1 : Int32) (b1 : Int32) (c1 : Int32) (hA : vp_in a1 64) (hB : ¬ (o = 0 ∨ o = 1 ∨ o = 17 ∨ o = 18 ∨ o = 19 ∨ o = 20) → vp_in b1 64) (hC : o = 16 → vp_in c1 64) (hT : o = 20 → vp_in b1 2) (hV : o = 8 ∨ o = 9 → ¬ fL st 1 b1.toNatClampNeg = 0 → ¬ fx_Width_readPlain (fx_Terms_widthOf st a1) (fL st 1 b1.toNatClampNeg) = 0) : Met l yX5_apply wsX5_apply ({ frames := 2, cells := 0, slots := 0, locals := 54 }) (va_Pc [.ref (a 13), .int o, .int a1, .int b1, .int c1, .ref (a 12)] (wl_prR (dC, dI) vwCl (xt k) (xw a k st))) (vp_Sl (fun r9 => r9 = fx_Eval_apply_c st o a1 b1 c1)) 0 0 (fun _ => False) := by
  refine Met.ofW (cc := cX5_apply) (maxL := 7) (ret := (some .long)) (by decide) rfl ?_
  intro p e s m args below meth c s₁ B hml hv
  obtain ⟨rfl, hP, hK⟩ := hv
  have hx := B.exec
  have hb := B.bytes
  have hr := B.returns
  have hta := aw_hts (atoms_spec (ws := wsX5_apply) B.pre)
  have hown : s.vm.findClass RX5 = some m.cls := findClass_of_methodNamed B.named
  have hlocks := B.notSynchronized
  have hf7 := hta _ mw_127
  have hf17 := hta _ mw_129
  have hl := lv_entry ([.ref (a 13), .int o, .int a1, .int b1, .int c1, .ref (a 12)]) (n := 7) (Nat.le_of_ble_eq_true rfl)
  rw [lg_entry_eq]
  generalize (lg_sl ([.ref (a 13), .int o, .int a1, .int b1, .int c1, .ref (a 12)]) ++ List.replicate (7 - (lg_sl ([.ref (a 13), .int o, .int a1, .int b1, .int c1, .ref (a 12)])).length) Slot.unset).toArray = ls at hl ⊢
  have hl : lv_has ls 7 [(0, .ref (a 13)), (1, .int o), (2, .int a1), (3, .int b1), (4, .int c1), (5, .ref (a 12))] := hl
  generalize hR : fx_Eval_apply_c st o a1 b1 c1 = R
  rw [fx_Eval_apply_c] at hR
  refine lv_aload_n hx hb dX5_apply_0 rfl (lv_at hl 0 rfl) ?_
  refine va_get (D := (dC, dI)) (ci := 3) (v := .ref (a 7)) (C := RX5) (T := TX5) (N := 5) hx hb hta inX5 hown hK hP 13 (xr_13 a k st) rfl 0 (by decide) hf7 (fun _ h9 => h9) rfl dX5_apply_1 ?_
  refine lv_iload_n hx hb dX5_apply_4 rfl (lv_at hl 2 rfl) ?_
  refine wl_ci (va_runV (As := [.int a1]) (rest := []) ⟨hx, hb, hml, hown, hta⟩ (kx_Terms_widthOf l dC dI a k st a1 hA) (cwV 1 hta gX5_72 rfl rfl rfl (by decide +kernel) ⟨Nat.le_of_ble_eq_true rfl, Nat.le_of_ble_eq_true rfl⟩) (wl_pR (C := RX4) (ci := 2) (q0 := 7) hK hP rfl (xr_7 a k st)) rfl rfl hl.1 rfl (lv_room (Nat.le_of_ble_eq_true rfl)) dX5_apply_5 ⟨Nat.zero_le _, Nat.zero_le _⟩) ?_
  refine lv_istore (lv' := [(6, .int (fx_Terms_widthOf st a1)), (0, .ref (a 13)), (1, .int o), (2, .int a1), (3, .int b1), (4, .int c1), (5, .ref (a 12))]) hx hb dX5_apply_8 hl (by decide) rfl (fun ls hl => ?_)
  refine lv_iload_n hx hb dX5_apply_10 rfl (lv_at hl 2 rfl) ?_
  by_cases c11_0 : o = (0 : Int32)
  · skip
    rw [if_pos c11_0] at hR
    refine lv_tableIn (tgt := 108) hx hb dX5_apply_11 (by rw [c11_0]; decide) (by rw [c11_0]; decide) (by rw [c11_0] <;> rfl) (by decide) ?_
    refine lv_iload_n hx hb dX5_apply_108 rfl (lv_at hl 2 rfl) ?_
    refine lv_iload hx hb dX5_apply_109 (lv_at hl 0 rfl) ?_
    refine lv_aload hx hb dX5_apply_111 (lv_at hl 6 rfl) ?_
    refine lv_iload_n hx hb dX5_apply_113 rfl (lv_at hl 3 rfl) ?_
    refine va_lald hx hb hK hP 12 8 (xr_12 a k st) rfl hA dX5_apply_114 ?_
    refine wl_cl (va_runS (As := [.int o, .int (fx_Terms_widthOf st a1), .long (fL st 1 a1.toNatClampNeg)]) (rest := []) ⟨hx, hb, hml, hown, hta⟩ (kx_Op_ofOne l o (fx_Terms_widthOf st a1) (fL st 1 a1.toNatClampNeg)) (va_cwS 3 hta gX5_75 rfl rfl rfl (by decide +kernel) ⟨Nat.le_of_ble_eq_true rfl, Nat.le_of_ble_eq_true rfl⟩) preEq rfl rfl hl.1 rfl (lv_room (Nat.le_of_ble_eq_true rfl)) dX5_apply_115 ⟨Nat.zero_le _, Nat.zero_le _⟩) ?_
    exact W.lret (v := fx_Op_ofOne o (fx_Terms_widthOf st a1) (fL st 1 a1.toNatClampNeg)) hx hb hr (fun t ht hW => ⟨_, rfl, hR, ht⟩) (fun q h => by cases h) dX5_apply_118
  · skip
    rw [if_neg c11_0] at hR
    by_cases c11_1 : o = (1 : Int32)
    · skip
      rw [if_pos c11_1] at hR
      refine lv_tableIn (tgt := 108) hx hb dX5_apply_11 (by rw [c11_1]; decide) (by rw [c11_1]; decide) (by rw [c11_1] <;> rfl) (by decide) ?_
      refine lv_iload_n hx hb dX5_apply_108 rfl (lv_at hl 2 rfl) ?_
      refine lv_iload hx hb dX5_apply_109 (lv_at hl 0 rfl) ?_
      refine lv_aload hx hb dX5_apply_111 (lv_at hl 6 rfl) ?_
      refine lv_iload_n hx hb dX5_apply_113 rfl (lv_at hl 3 rfl) ?_
      refine va_lald hx hb hK hP 12 8 (xr_12 a k st) rfl hA dX5_apply_114 ?_
      refine wl_cl (va_runS (As := [.int o, .int (fx_Terms_widthOf st a1), .long (fL st 1 a1.toNatClampNeg)]) (rest := []) ⟨hx, hb, hml, hown, hta⟩ (kx_Op_ofOne l o (fx_Terms_widthOf st a1) (fL st 1 a1.toNatClampNeg)) (va_cwS 3 hta gX5_75 rfl rfl rfl (by decide +kernel) ⟨Nat.le_of_ble_eq_true rfl, Nat.le_of_ble_eq_true rfl⟩) preEq rfl rfl hl.1 rfl (lv_room (Nat.le_of_ble_eq_true rfl)) dX5_apply_115 ⟨Nat.zero_le _, Nat.zero_le _⟩) ?_
      exact W.lret (v := fx_Op_ofOne o (fx_Terms_widthOf st a1) (fL st 1 a1.toNatClampNeg)) hx hb hr (fun t ht hW => ⟨_, rfl, hR, ht⟩) (fun q h => by cases h) dX5_apply_118
    · skip
      rw [if_neg c11_1] at hR
      by_cases c11_8 : o = (8 : Int32)
      · skip
        rw [if_pos c11_8] at hR
        refine lv_tableIn (tgt := 166) hx hb dX5_apply_11 (by rw [c11_8]; decide) (by rw [c11_8]; decide) (by rw [c11_8] <;> rfl) (by decide) ?_
        refine lv_iload_n hx hb dX5_apply_166 rfl (lv_at hl 2 rfl) ?_
        refine lv_iload hx hb dX5_apply_167 (lv_at hl 0 rfl) ?_
        refine lv_aload hx hb dX5_apply_169 (lv_at hl 6 rfl) ?_
        refine lv_iload_n hx hb dX5_apply_171 rfl (lv_at hl 3 rfl) ?_
        refine va_lald hx hb hK hP 12 8 (xr_12 a k st) rfl hA dX5_apply_172 ?_
        refine lv_aload hx hb dX5_apply_173 (lv_at hl 6 rfl) ?_
        refine lv_iload_n hx hb dX5_apply_175 rfl (lv_at hl 4 rfl) ?_
        refine va_lald hx hb hK hP 12 8 (xr_12 a k st) rfl (hB (by first | (rw [c11_8]; decide) | (rw [c11_9]; decide))) dX5_apply_176 ?_
        refine wl_cl (va_runS (As := [.int o, .int (fx_Terms_widthOf st a1), .long (fL st 1 a1.toNatClampNeg), .long (fL st 1 b1.toNatClampNeg)]) (rest := []) ⟨hx, hb, hml, hown, hta⟩ (kx_Op_divided l o (fx_Terms_widthOf st a1) (fL st 1 a1.toNatClampNeg) (fL st 1 b1.toNatClampNeg) (hV (by first | exact Or.inl c11_8 | exact Or.inr c11_9))) (va_cwS 4 hta gX5_89 rfl rfl rfl (by decide +kernel) ⟨Nat.le_of_ble_eq_true rfl, Nat.le_of_ble_eq_true rfl⟩) preEq rfl rfl hl.1 rfl (lv_room (Nat.le_of_ble_eq_true rfl)) dX5_apply_177 ⟨Nat.zero_le _, Nat.zero_le _⟩) ?_
        exact W.lret (v := fx_Op_divided o (fx_Terms_widthOf st a1) (fL st 1 a1.toNatClampNeg) (fL st 1 b1.toNatClampNeg)) hx hb hr (fun t ht hW => ⟨_, rfl, hR, ht⟩) (fun q h => by cases h) dX5_apply_180
      · skip
        rw [if_neg c11_8] at hR
        by_cases c11_9 : o = (9 : Int32)
        · skip
          rw [if_pos c11_9] at hR
          refine lv_tableIn (tgt := 166) hx hb dX5_apply_11 (by rw [c11_9]; decide) (by rw [c11_9]; decide) (by rw [c11_9] <;> rfl) (by decide) ?_
          refine lv_iload_n hx hb dX5_apply_166 rfl (lv_at hl 2 rfl) ?_
          refine lv_iload hx hb dX5_apply_167 (lv_at hl 0 rfl) ?_
          refine lv_aload hx hb dX5_apply_169 (lv_at hl 6 rfl) ?_
          refine lv_iload_n hx hb dX5_apply_171 rfl (lv_at hl 3 rfl) ?_
          refine va_lald hx hb hK hP 12 8 (xr_12 a k st) rfl hA dX5_apply_172 ?_
          refine lv_aload hx hb dX5_apply_173 (lv_at hl 6 rfl) ?_
          refine lv_iload_n hx hb dX5_apply_175 rfl (lv_at hl 4 rfl) ?_
          refine va_lald hx hb hK hP 12 8 (xr_12 a k st) rfl (hB (by first | (rw [c11_8]; decide) | (rw [c11_9]; decide))) dX5_apply_176 ?_
          refine wl_cl (va_runS (As := [.int o, .int (fx_Terms_widthOf st a1), .long (fL st 1 a1.toNatClampNeg), .long (fL st 1 b1.toNatClampNeg)]) (rest := []) ⟨hx, hb, hml, hown, hta⟩ (kx_Op_divided l o (fx_Terms_widthOf st a1) (fL st 1 a1.toNatClampNeg) (fL st 1 b1.toNatClampNeg) (hV (by first | exact Or.inl c11_8 | exact Or.inr c11_9))) (va_cwS 4 hta gX5_89 rfl rfl rfl (by decide +kernel) ⟨Nat.le_of_ble_eq_true rfl, Nat.le_of_ble_eq_true rfl⟩) preEq rfl rfl hl.1 rfl (lv_room (Nat.le_of_ble_eq_true rfl)) dX5_apply_177 ⟨Nat.zero_le _, Nat.zero_le _⟩) ?_
          exact W.lret (v := fx_Op_divided o (fx_Terms_widthOf st a1) (fL st 1 a1.toNatClampNeg) (fL st 1 b1.toNatClampNeg)) hx hb hr (fun t ht hW => ⟨_, rfl, hR, ht⟩) (fun q h => by cases h) dX5_apply_180
        · skip
          rw [if_neg c11_9] at hR
          by_cases c11_10 : o = (10 : Int32)
          · skip
            rw [if_pos c11_10] at hR
            refine lv_tableIn (tgt := 181) hx hb dX5_apply_11 (by rw [c11_10]; decide) (by rw [c11_10]; decide) (by rw [c11_10] <;> rfl) (by decide) ?_
            refine lv_iload_n hx hb dX5_apply_181 rfl (lv_at hl 2 rfl) ?_
            refine lv_iload hx hb dX5_apply_182 (lv_at hl 0 rfl) ?_
            refine lv_aload hx hb dX5_apply_184 (lv_at hl 6 rfl) ?_
            refine lv_iload_n hx hb dX5_apply_186 rfl (lv_at hl 3 rfl) ?_
            refine va_lald hx hb hK hP 12 8 (xr_12 a k st) rfl hA dX5_apply_187 ?_
            refine lv_aload hx hb dX5_apply_188 (lv_at hl 6 rfl) ?_
            refine lv_iload_n hx hb dX5_apply_190 rfl (lv_at hl 4 rfl) ?_
            refine va_lald hx hb hK hP 12 8 (xr_12 a k st) rfl (hB (by first | (rw [c11_10]; decide) | (rw [c11_11]; decide) | (rw [c11_12]; decide))) dX5_apply_191 ?_
            refine wl_cl (va_runS (As := [.int o, .int (fx_Terms_widthOf st a1), .long (fL st 1 a1.toNatClampNeg), .long (fL st 1 b1.toNatClampNeg)]) (rest := []) ⟨hx, hb, hml, hown, hta⟩ (kx_Op_moved l o (fx_Terms_widthOf st a1) (fL st 1 a1.toNatClampNeg) (fL st 1 b1.toNatClampNeg)) (va_cwS 4 hta gX5_93 rfl rfl rfl (by decide +kernel) ⟨Nat.le_of_ble_eq_true rfl, Nat.le_of_ble_eq_true rfl⟩) preEq rfl rfl hl.1 rfl (lv_room (Nat.le_of_ble_eq_true rfl)) dX5_apply_192 ⟨Nat.zero_le _, Nat.zero_le _⟩) ?_
            exact W.lret (v := fx_Op_moved o (fx_Terms_widthOf st a1) (fL st 1 a1.toNatClampNeg) (fL st 1 b1.toNatClampNeg)) hx hb hr (fun t ht hW => ⟨_, rfl, hR, ht⟩) (fun q h => by cases h) dX5_apply_195
          · skip
            rw [if_neg c11_10] at hR
            by_cases c11_11 : o = (11 : Int32)
            · skip
              rw [if_pos c11_11] at hR
              refine lv_tableIn (tgt := 181) hx hb dX5_apply_11 (by rw [c11_11]; decide) (by rw [c11_11]; decide) (by rw [c11_11] <;> rfl) (by decide) ?_
              refine lv_iload_n hx hb dX5_apply_181 rfl (lv_at hl 2 rfl) ?_
              refine lv_iload hx hb dX5_apply_182 (lv_at hl 0 rfl) ?_
              refine lv_aload hx hb dX5_apply_184 (lv_at hl 6 rfl) ?_
              refine lv_iload_n hx hb dX5_apply_186 rfl (lv_at hl 3 rfl) ?_
              refine va_lald hx hb hK hP 12 8 (xr_12 a k st) rfl hA dX5_apply_187 ?_
              refine lv_aload hx hb dX5_apply_188 (lv_at hl 6 rfl) ?_
              refine lv_iload_n hx hb dX5_apply_190 rfl (lv_at hl 4 rfl) ?_
              refine va_lald hx hb hK hP 12 8 (xr_12 a k st) rfl (hB (by first | (rw [c11_10]; decide) | (rw [c11_11]; decide) | (rw [c11_12]; decide))) dX5_apply_191 ?_
              refine wl_cl (va_runS (As := [.int o, .int (fx_Terms_widthOf st a1), .long (fL st 1 a1.toNatClampNeg), .long (fL st 1 b1.toNatClampNeg)]) (rest := []) ⟨hx, hb, hml, hown, hta⟩ (kx_Op_moved l o (fx_Terms_widthOf st a1) (fL st 1 a1.toNatClampNeg) (fL st 1 b1.toNatClampNeg)) (va_cwS 4 hta gX5_93 rfl rfl rfl (by decide +kernel) ⟨Nat.le_of_ble_eq_true rfl, Nat.le_of_ble_eq_true rfl⟩) preEq rfl rfl hl.1 rfl (lv_room (Nat.le_of_ble_eq_true rfl)) dX5_apply_192 ⟨Nat.zero_le _, Nat.zero_le _⟩) ?_
              exact W.lret (v := fx_Op_moved o (fx_Terms_widthOf st a1) (fL st 1 a1.toNatClampNeg) (fL st 1 b1.toNatClampNeg)) hx hb hr (fun t ht hW => ⟨_, rfl, hR, ht⟩) (fun q h => by cases h) dX5_apply_195
            · skip
              rw [if_neg c11_11] at hR
              by_cases c11_12 : o = (12 : Int32)
              · skip
                rw [if_pos c11_12] at hR
                refine lv_tableIn (tgt := 181) hx hb dX5_apply_11 (by rw [c11_12]; decide) (by rw [c11_12]; decide) (by rw [c11_12] <;> rfl) (by decide) ?_
                refine lv_iload_n hx hb dX5_apply_181 rfl (lv_at hl 2 rfl) ?_
                refine lv_iload hx hb dX5_apply_182 (lv_at hl 0 rfl) ?_
                refine lv_aload hx hb dX5_apply_184 (lv_at hl 6 rfl) ?_
                refine lv_iload_n hx hb dX5_apply_186 rfl (lv_at hl 3 rfl) ?_
                refine va_lald hx hb hK hP 12 8 (xr_12 a k st) rfl hA dX5_apply_187 ?_
                refine lv_aload hx hb dX5_apply_188 (lv_at hl 6 rfl) ?_
                refine lv_iload_n hx hb dX5_apply_190 rfl (lv_at hl 4 rfl) ?_
                refine va_lald hx hb hK hP 12 8 (xr_12 a k st) rfl (hB (by first | (rw [c11_10]; decide) | (rw [c11_11]; decide) | (rw [c11_12]; decide))) dX5_apply_191 ?_
                refine wl_cl (va_runS (As := [.int o, .int (fx_Terms_widthOf st a1), .long (fL st 1 a1.toNatClampNeg), .long (fL st 1 b1.toNatClampNeg)]) (rest := []) ⟨hx, hb, hml, hown, hta⟩ (kx_Op_moved l o (fx_Terms_widthOf st a1) (fL st 1 a1.toNatClampNeg) (fL st 1 b1.toNatClampNeg)) (va_cwS 4 hta gX5_93 rfl rfl rfl (by decide +kernel) ⟨Nat.le_of_ble_eq_true rfl, Nat.le_of_ble_eq_true rfl⟩) preEq rfl rfl hl.1 rfl (lv_room (Nat.le_of_ble_eq_true rfl)) dX5_apply_192 ⟨Nat.zero_le _, Nat.zero_le _⟩) ?_
                exact W.lret (v := fx_Op_moved o (fx_Terms_widthOf st a1) (fL st 1 a1.toNatClampNeg) (fL st 1 b1.toNatClampNeg)) hx hb hr (fun t ht hW => ⟨_, rfl, hR, ht⟩) (fun q h => by cases h) dX5_apply_195
              · skip
                rw [if_neg c11_12] at hR
                by_cases c11_16 : o = (16 : Int32)
                · skip
                  rw [if_pos c11_16] at hR
                  refine lv_tableIn (tgt := 119) hx hb dX5_apply_11 (by rw [c11_16]; decide) (by rw [c11_16]; decide) (by rw [c11_16] <;> rfl) (by decide) ?_
                  refine lv_aload hx hb dX5_apply_119 (lv_at hl 6 rfl) ?_
                  refine lv_iload_n hx hb dX5_apply_121 rfl (lv_at hl 3 rfl) ?_
                  refine va_lald hx hb hK hP 12 8 (xr_12 a k st) rfl hA dX5_apply_122 ?_
                  refine lv_lconst (v := (0 : Int64)) hx hb dX5_apply_123 (by decide) ?_
                  refine W.lcmp hx hb dX5_apply_124 ?_
                  refine lv_if_eq (tgt := 135) hx hb dX5_apply_125 (by decide) (fun c125 => ?_) (fun c125 => ?_)
                  · skip
                    rw [if_pos c125] at hR
                    refine lv_aload hx hb dX5_apply_135 (lv_at hl 6 rfl) ?_
                    refine lv_iload hx hb dX5_apply_137 (lv_at hl 5 rfl) ?_
                    refine va_lald hx hb hK hP 12 8 (xr_12 a k st) rfl (hC c11_16) dX5_apply_139 ?_
                    exact W.lret (v := fL st 1 c1.toNatClampNeg) hx hb hr (fun t ht hW => ⟨_, rfl, hR, ht⟩) (fun q h => by cases h) dX5_apply_140
                  · skip
                    rw [if_neg c125] at hR
                    refine lv_aload hx hb dX5_apply_128 (lv_at hl 6 rfl) ?_
                    refine lv_iload_n hx hb dX5_apply_130 rfl (lv_at hl 4 rfl) ?_
                    refine va_lald hx hb hK hP 12 8 (xr_12 a k st) rfl (hB (by rw [c11_16]; decide)) dX5_apply_131 ?_
                    refine lv_goto (tgt := 140) hx hb dX5_apply_132 (by decide) ?_
                    exact W.lret (v := fL st 1 b1.toNatClampNeg) hx hb hr (fun t ht hW => ⟨_, rfl, hR, ht⟩) (fun q h => by cases h) dX5_apply_140
                · skip
                  rw [if_neg c11_16] at hR
                  by_cases c11_17 : o = (17 : Int32)
                  · skip
                    rw [if_pos c11_17] at hR
                    refine lv_tableIn (tgt := 141) hx hb dX5_apply_11 (by rw [c11_17]; decide) (by rw [c11_17]; decide) (by rw [c11_17] <;> rfl) (by decide) ?_
                    refine lv_iload_n hx hb dX5_apply_141 rfl (lv_at hl 2 rfl) ?_
                    refine lv_iload hx hb dX5_apply_142 (lv_at hl 0 rfl) ?_
                    refine lv_iload_n hx hb dX5_apply_144 rfl (lv_at hl 4 rfl) ?_
                    refine lv_aload hx hb dX5_apply_145 (lv_at hl 6 rfl) ?_
                    refine lv_iload_n hx hb dX5_apply_147 rfl (lv_at hl 3 rfl) ?_
                    refine va_lald hx hb hK hP 12 8 (xr_12 a k st) rfl hA dX5_apply_148 ?_
                    refine wl_cl (va_runS (As := [.int o, .int (fx_Terms_widthOf st a1), .int b1, .long (fL st 1 a1.toNatClampNeg)]) (rest := []) ⟨hx, hb, hml, hown, hta⟩ (kx_Op_resized l o (fx_Terms_widthOf st a1) b1 (fL st 1 a1.toNatClampNeg)) (va_cwS 4 hta gX5_79 rfl rfl rfl (by decide +kernel) ⟨Nat.le_of_ble_eq_true rfl, Nat.le_of_ble_eq_true rfl⟩) preEq rfl rfl hl.1 rfl (lv_room (Nat.le_of_ble_eq_true rfl)) dX5_apply_149 ⟨Nat.zero_le _, Nat.zero_le _⟩) ?_
                    exact W.lret (v := fx_Op_resized o (fx_Terms_widthOf st a1) b1 (fL st 1 a1.toNatClampNeg)) hx hb hr (fun t ht hW => ⟨_, rfl, hR, ht⟩) (fun q h => by cases h) dX5_apply_152
                  · skip
                    rw [if_neg c11_17] at hR
                    by_cases c11_18 : o = (18 : Int32)
                    · skip
                      rw [if_pos c11_18] at hR
                      refine lv_tableIn (tgt := 141) hx hb dX5_apply_11 (by rw [c11_18]; decide) (by rw [c11_18]; decide) (by rw [c11_18] <;> rfl) (by decide) ?_
                      refine lv_iload_n hx hb dX5_apply_141 rfl (lv_at hl 2 rfl) ?_
                      refine lv_iload hx hb dX5_apply_142 (lv_at hl 0 rfl) ?_
                      refine lv_iload_n hx hb dX5_apply_144 rfl (lv_at hl 4 rfl) ?_
                      refine lv_aload hx hb dX5_apply_145 (lv_at hl 6 rfl) ?_
                      refine lv_iload_n hx hb dX5_apply_147 rfl (lv_at hl 3 rfl) ?_
                      refine va_lald hx hb hK hP 12 8 (xr_12 a k st) rfl hA dX5_apply_148 ?_
                      refine wl_cl (va_runS (As := [.int o, .int (fx_Terms_widthOf st a1), .int b1, .long (fL st 1 a1.toNatClampNeg)]) (rest := []) ⟨hx, hb, hml, hown, hta⟩ (kx_Op_resized l o (fx_Terms_widthOf st a1) b1 (fL st 1 a1.toNatClampNeg)) (va_cwS 4 hta gX5_79 rfl rfl rfl (by decide +kernel) ⟨Nat.le_of_ble_eq_true rfl, Nat.le_of_ble_eq_true rfl⟩) preEq rfl rfl hl.1 rfl (lv_room (Nat.le_of_ble_eq_true rfl)) dX5_apply_149 ⟨Nat.zero_le _, Nat.zero_le _⟩) ?_
                      exact W.lret (v := fx_Op_resized o (fx_Terms_widthOf st a1) b1 (fL st 1 a1.toNatClampNeg)) hx hb hr (fun t ht hW => ⟨_, rfl, hR, ht⟩) (fun q h => by cases h) dX5_apply_152
                    · skip
                      rw [if_neg c11_18] at hR
                      by_cases c11_19 : o = (19 : Int32)
                      · skip
                        rw [if_pos c11_19] at hR
                        refine lv_tableIn (tgt := 141) hx hb dX5_apply_11 (by rw [c11_19]; decide) (by rw [c11_19]; decide) (by rw [c11_19] <;> rfl) (by decide) ?_
                        refine lv_iload_n hx hb dX5_apply_141 rfl (lv_at hl 2 rfl) ?_
                        refine lv_iload hx hb dX5_apply_142 (lv_at hl 0 rfl) ?_
                        refine lv_iload_n hx hb dX5_apply_144 rfl (lv_at hl 4 rfl) ?_
                        refine lv_aload hx hb dX5_apply_145 (lv_at hl 6 rfl) ?_
                        refine lv_iload_n hx hb dX5_apply_147 rfl (lv_at hl 3 rfl) ?_
                        refine va_lald hx hb hK hP 12 8 (xr_12 a k st) rfl hA dX5_apply_148 ?_
                        refine wl_cl (va_runS (As := [.int o, .int (fx_Terms_widthOf st a1), .int b1, .long (fL st 1 a1.toNatClampNeg)]) (rest := []) ⟨hx, hb, hml, hown, hta⟩ (kx_Op_resized l o (fx_Terms_widthOf st a1) b1 (fL st 1 a1.toNatClampNeg)) (va_cwS 4 hta gX5_79 rfl rfl rfl (by decide +kernel) ⟨Nat.le_of_ble_eq_true rfl, Nat.le_of_ble_eq_true rfl⟩) preEq rfl rfl hl.1 rfl (lv_room (Nat.le_of_ble_eq_true rfl)) dX5_apply_149 ⟨Nat.zero_le _, Nat.zero_le _⟩) ?_
                        exact W.lret (v := fx_Op_resized o (fx_Terms_widthOf st a1) b1 (fL st 1 a1.toNatClampNeg)) hx hb hr (fun t ht hW => ⟨_, rfl, hR, ht⟩) (fun q h => by cases h) dX5_apply_152
                      · skip
                        rw [if_neg c11_19] at hR
                        by_cases c11_20 : o = (20 : Int32)
                        · skip
                          rw [if_pos c11_20] at hR
                          refine lv_tableIn (tgt := 153) hx hb dX5_apply_11 (by rw [c11_20]; decide) (by rw [c11_20]; decide) (by rw [c11_20] <;> rfl) (by decide) ?_
                          refine lv_aload_n hx hb dX5_apply_153 rfl (lv_at hl 1 rfl) ?_
                          refine va_get (D := (dC, dI)) (ci := 3) (v := .ref (a 5)) (C := RX5) (T := TX5) (N := 5) hx hb hta inX5 hown hK hP 13 (xr_13 a k st) rfl 2 (by decide) hf17 (fun _ h9 => h9) rfl dX5_apply_154 ?_
                          refine lv_iload_n hx hb dX5_apply_157 rfl (lv_at hl 4 rfl) ?_
                          refine lv_aload hx hb dX5_apply_158 (lv_at hl 6 rfl) ?_
                          refine lv_iload_n hx hb dX5_apply_160 rfl (lv_at hl 3 rfl) ?_
                          refine va_lald hx hb hK hP 12 8 (xr_12 a k st) rfl hA dX5_apply_161 ?_
                          refine wl_cl (va_runV (As := [.int b1, .long (fL st 1 a1.toNatClampNeg)]) (rest := []) ⟨hx, hb, hml, hown, hta⟩ (kx_Tabs_lookUp l dC dI a k st b1 (fL st 1 a1.toNatClampNeg) (wl_lk (hT c11_20) _)) (cwV 2 hta gX5_83 rfl rfl rfl (by decide +kernel) ⟨Nat.le_of_ble_eq_true rfl, Nat.le_of_ble_eq_true rfl⟩) (wl_pR (C := RX3) (ci := 1) (q0 := 5) hK hP rfl (xr_5 a k st)) rfl rfl hl.1 rfl (lv_room (Nat.le_of_ble_eq_true rfl)) dX5_apply_162 ⟨Nat.zero_le _, Nat.zero_le _⟩) ?_
                          exact W.lret (v := fx_Tabs_lookUp st b1 (fL st 1 a1.toNatClampNeg)) hx hb hr (fun t ht hW => ⟨_, rfl, hR, ht⟩) (fun q h => by cases h) dX5_apply_165
                        · skip
                          rw [if_neg c11_20] at hR
                          have t11_0 := lv_neT (a := 0) c11_0 (by decide)
                          have t11_1 := lv_neT (a := 1) c11_1 (by decide)
                          have t11_8 := lv_neT (a := 8) c11_8 (by decide)
                          have t11_9 := lv_neT (a := 9) c11_9 (by decide)
                          have t11_10 := lv_neT (a := 10) c11_10 (by decide)
                          have t11_11 := lv_neT (a := 11) c11_11 (by decide)
                          have t11_12 := lv_neT (a := 12) c11_12 (by decide)
                          have t11_16 := lv_neT (a := 16) c11_16 (by decide)
                          have t11_17 := lv_neT (a := 17) c11_17 (by decide)
                          have t11_18 := lv_neT (a := 18) c11_18 (by decide)
                          have t11_19 := lv_neT (a := 19) c11_19 (by decide)
                          have t11_20 := lv_neT (a := 20) c11_20 (by decide)
                          refine wl_tabD (tgt := 196) (ks := [0, 1, 8, 9, 10, 11, 12, 16, 17, 18, 19, 20]) hx hb dX5_apply_11 (by decide) (by decide +kernel) (by intro k hk; simp only [List.mem_cons, List.not_mem_nil, or_false] at hk; rcases hk with rfl | rfl | rfl | rfl | rfl | rfl | rfl | rfl | rfl | rfl | rfl | rfl <;> assumption) (by decide) ?_
                          refine lv_iload_n hx hb dX5_apply_196 rfl (lv_at hl 2 rfl) ?_
                          refine lv_iload hx hb dX5_apply_197 (lv_at hl 0 rfl) ?_
                          refine lv_aload hx hb dX5_apply_199 (lv_at hl 6 rfl) ?_
                          refine lv_iload_n hx hb dX5_apply_201 rfl (lv_at hl 3 rfl) ?_
                          refine va_lald hx hb hK hP 12 8 (xr_12 a k st) rfl hA dX5_apply_202 ?_
                          refine lv_aload hx hb dX5_apply_203 (lv_at hl 6 rfl) ?_
                          refine lv_iload_n hx hb dX5_apply_205 rfl (lv_at hl 4 rfl) ?_
                          refine va_lald hx hb hK hP 12 8 (xr_12 a k st) rfl (hB (fun h => by rcases h with h | h | h | h | h | h <;> contradiction)) dX5_apply_206 ?_
                          refine wl_cl (va_runS (As := [.int o, .int (fx_Terms_widthOf st a1), .long (fL st 1 a1.toNatClampNeg), .long (fL st 1 b1.toNatClampNeg)]) (rest := []) ⟨hx, hb, hml, hown, hta⟩ (kx_Op_ofTwo l o (fx_Terms_widthOf st a1) (fL st 1 a1.toNatClampNeg) (fL st 1 b1.toNatClampNeg)) (va_cwS 4 hta gX5_96 rfl rfl rfl (by decide +kernel) ⟨Nat.le_of_ble_eq_true rfl, Nat.le_of_ble_eq_true rfl⟩) preEq rfl rfl hl.1 rfl (lv_room (Nat.le_of_ble_eq_true rfl)) dX5_apply_207 ⟨Nat.zero_le _, Nat.zero_le _⟩) ?_
                          exact W.lret (v := fx_Op_ofTwo o (fx_Terms_widthOf st a1) (fL st 1 a1.toNatClampNeg) (fL st 1 b1.toNatClampNeg)) hx hb hr (fun t ht hW => ⟨_, rfl, hR, ht⟩) (fun q h => by cases h) dX5_apply_210

theorem mw_360 : (.code yX4_constants cX4_constants 1 (some (.array .long)) : Cond) ∈ AW := List.mem_filter.mpr ⟨List.mem_of_getElem? (i := 360) (by decide +kernel), rfl⟩
theorem mw_357 : (.methodLink RX5 58 yX4_constants : Cond) ∈ AW := List.mem_filter.mpr ⟨List.mem_of_getElem? (i := 357) (by decide +kernel), rfl⟩
theorem mw_358 : (.instanceMethod yX4_constants : Cond) ∈ AW := List.mem_filter.mpr ⟨List.mem_of_getElem? (i := 358) (by decide +kernel), rfl⟩
theorem mw_359 : (.selects RX4 yX4_constants yX4_constants : Cond) ∈ AW := List.mem_filter.mpr ⟨List.mem_of_getElem? (i := 359) (by decide +kernel), rfl⟩
theorem mw_364 : (.code yX5_apply cX5_apply 7 (some .long) : Cond) ∈ AW := List.mem_filter.mpr ⟨List.mem_of_getElem? (i := 364) (by decide +kernel), rfl⟩
theorem mw_361 : (.methodLink RX5 68 yX5_apply : Cond) ∈ AW := List.mem_filter.mpr ⟨List.mem_of_getElem? (i := 361) (by decide +kernel), rfl⟩
theorem mw_363 : (.instanceMethod yX5_apply : Cond) ∈ AW := List.mem_filter.mpr ⟨List.mem_of_getElem? (i := 363) (by decide +kernel), rfl⟩
theorem mw_3 : (.selects RX5 yX5_apply yX5_apply : Cond) ∈ AW := List.mem_filter.mpr ⟨List.mem_of_getElem? (i := 3) (by decide +kernel), rfl⟩
theorem gX5_58 : GoodIn AW (wsV RX5 58 RX4 yX4_constants wsX4_constants) := aw_V mw_357 mw_358 mw_359 mw_41 mw_360
theorem gX5_68 : GoodIn AW (wsV RX5 68 RX5 yX5_apply wsX5_apply) := aw_V mw_361 mw_363 mw_3 mw_42 mw_364
theorem dX5_applyToConstants_0 : decode cX5_applyToConstants 0 = .ok (.aload_n 0, 1) := by decide +kernel
theorem dX5_applyToConstants_1 : decode cX5_applyToConstants 1 = .ok (.iload_n 1, 1) := by decide +kernel
theorem dX5_applyToConstants_2 : decode cX5_applyToConstants 2 = .ok (.iload_n 2, 1) := by decide +kernel
theorem dX5_applyToConstants_3 : decode cX5_applyToConstants 3 = .ok (.iload_n 3, 1) := by decide +kernel
theorem dX5_applyToConstants_4 : decode cX5_applyToConstants 4 = .ok (.iload 4, 2) := by decide +kernel
theorem dX5_applyToConstants_6 : decode cX5_applyToConstants 6 = .ok (.aload_n 0, 1) := by decide +kernel
theorem dX5_applyToConstants_7 : decode cX5_applyToConstants 7 = .ok (.getfield 7, 3) := by decide +kernel
theorem dX5_applyToConstants_10 : decode cX5_applyToConstants 10 = .ok (.invokevirtual 58, 3) := by decide +kernel
theorem dX5_applyToConstants_13 : decode cX5_applyToConstants 13 = .ok (.invokevirtual 68, 3) := by decide +kernel
theorem dX5_applyToConstants_16 : decode cX5_applyToConstants 16 = .ok (.lreturn, 1) := by decide +kernel
def fx_Eval_applyToConstants (st : XS) (o : Int32) (a1 : Int32) (b1 : Int32) (c1 : Int32) : Int64 := fx_Eval_apply_c st o a1 b1 c1
set_option maxHeartbeats 4000000 in
set_option maxRecDepth 100000 in
theorem kx_Eval_applyToConstants (l : Launch) (dC : Nat → ClassId) (dI : Nat → Nat → Nat) (a : Nat → Nat) (k : Nat → ClassId) (st : XS) (o : Int32) (a1 : Int32) (b1 : Int32) (c1 : Int32) (hA : vp_in a1 64) (hB : ¬ (o = 0 ∨ o = 1 ∨ o = 17 ∨ o = 18 ∨ o = 19 ∨ o = 20) → vp_in b1 64) (hC : o = 16 → vp_in c1 64) (hT : o = 20 → vp_in b1 2) (hV : o = 8 ∨ o = 9 → ¬ fL st 1 b1.toNatClampNeg = 0 → ¬ fx_Width_readPlain (fx_Terms_widthOf st a1) (fL st 1 b1.toNatClampNeg) = 0) : Met l yX5_applyToConstants wsX5_applyToConstants ({ frames := 3, cells := 0, slots := 0, locals := 80 }) (va_Pc [.ref (a 13), .int o, .int a1, .int b1, .int c1] (wl_prR (dC, dI) vwCl (xt k) (xw a k st))) (vp_Sl (fun r9 => r9 = fx_Eval_applyToConstants st o a1 b1 c1)) 0 0 (fun _ => False) := by
  refine Met.ofW (cc := cX5_applyToConstants) (maxL := 5) (ret := (some .long)) (by decide) rfl ?_
  intro p e s m args below meth c s₁ B hml hv
  obtain ⟨rfl, hP, hK⟩ := hv
  have hx := B.exec
  have hb := B.bytes
  have hr := B.returns
  have hta := aw_hts (atoms_spec (ws := wsX5_applyToConstants) B.pre)
  have hown : s.vm.findClass RX5 = some m.cls := findClass_of_methodNamed B.named
  have hlocks := B.notSynchronized
  have hf7 := hta _ mw_127
  have hl := lv_entry ([.ref (a 13), .int o, .int a1, .int b1, .int c1]) (n := 5) (Nat.le_of_ble_eq_true rfl)
  rw [lg_entry_eq]
  generalize (lg_sl ([.ref (a 13), .int o, .int a1, .int b1, .int c1]) ++ List.replicate (5 - (lg_sl ([.ref (a 13), .int o, .int a1, .int b1, .int c1])).length) Slot.unset).toArray = ls at hl ⊢
  have hl : lv_has ls 5 [(0, .ref (a 13)), (1, .int o), (2, .int a1), (3, .int b1), (4, .int c1)] := hl
  generalize hR : fx_Eval_applyToConstants st o a1 b1 c1 = R
  rw [fx_Eval_applyToConstants] at hR
  refine lv_aload_n hx hb dX5_applyToConstants_0 rfl (lv_at hl 0 rfl) ?_
  refine lv_iload_n hx hb dX5_applyToConstants_1 rfl (lv_at hl 1 rfl) ?_
  refine lv_iload_n hx hb dX5_applyToConstants_2 rfl (lv_at hl 2 rfl) ?_
  refine lv_iload_n hx hb dX5_applyToConstants_3 rfl (lv_at hl 3 rfl) ?_
  refine lv_iload hx hb dX5_applyToConstants_4 (lv_at hl 4 rfl) ?_
  refine lv_aload_n hx hb dX5_applyToConstants_6 rfl (lv_at hl 0 rfl) ?_
  refine va_get (D := (dC, dI)) (ci := 3) (v := .ref (a 7)) (C := RX5) (T := TX5) (N := 5) hx hb hta inX5 hown hK hP 13 (xr_13 a k st) rfl 0 (by decide) hf7 (fun _ h9 => h9) rfl dX5_applyToConstants_7 ?_
  refine wl_cr (va_runV (As := []) (rest := [.int c1, .int b1, .int a1, .int o, .ref (a 13)]) ⟨hx, hb, hml, hown, hta⟩ (kx_Terms_constants l dC dI a k st) (cwV 0 hta gX5_58 rfl rfl rfl (by decide +kernel) ⟨Nat.le_of_ble_eq_true rfl, Nat.le_of_ble_eq_true rfl⟩) (wl_pR (C := RX4) (ci := 2) (q0 := 7) hK hP rfl (xr_7 a k st)) rfl rfl hl.1 rfl (lv_room (Nat.le_of_ble_eq_true rfl)) dX5_applyToConstants_10 ⟨Nat.zero_le _, Nat.zero_le _⟩) ?_
  refine wl_cl (va_runV (As := [.int o, .int a1, .int b1, .int c1, .ref (a 12)]) (rest := []) ⟨hx, hb, hml, hown, hta⟩ (kx_Eval_apply_c l dC dI a k st o a1 b1 c1 hA hB hC hT hV) (cwV 5 hta gX5_68 rfl rfl rfl (by decide +kernel) ⟨Nat.le_of_ble_eq_true rfl, Nat.le_of_ble_eq_true rfl⟩) (wl_pR (C := RX5) (ci := 3) (q0 := 13) hK hP rfl (xr_13 a k st)) rfl rfl hl.1 rfl (lv_room (Nat.le_of_ble_eq_true rfl)) dX5_applyToConstants_13 ⟨Nat.zero_le _, Nat.zero_le _⟩) ?_
  exact W.lret (v := fx_Eval_apply_c st o a1 b1 c1) hx hb hr (fun t ht hW => ⟨_, rfl, hR, ht⟩) (fun q h => by cases h) dX5_applyToConstants_16
end
section
theorem apr_0 {S : XS} {a b c : Int32} : fx_Eval_apply_r S 0 a b c = fx_Op_ofOne 0 (fx_Terms_widthOf S a) (fL S 2 a.toNatClampNeg) := by
  rw [fx_Eval_apply_r, if_pos rfl]
theorem apr_1 {S : XS} {a b c : Int32} : fx_Eval_apply_r S 1 a b c = fx_Op_ofOne 1 (fx_Terms_widthOf S a) (fL S 2 a.toNatClampNeg) := by
  rw [fx_Eval_apply_r, if_neg (show ¬ (1 : Int32) = (0 : Int32) by decide), if_pos rfl]
theorem apr_2 {S : XS} {a b c : Int32} : fx_Eval_apply_r S 2 a b c = fx_Op_ofTwo 2 (fx_Terms_widthOf S a) (fL S 2 a.toNatClampNeg) (fL S 2 b.toNatClampNeg) := by
  rw [fx_Eval_apply_r, if_neg (show ¬ (2 : Int32) = (0 : Int32) by decide), if_neg (show ¬ (2 : Int32) = (1 : Int32) by decide), if_neg (show ¬ (2 : Int32) = (8 : Int32) by decide), if_neg (show ¬ (2 : Int32) = (9 : Int32) by decide), if_neg (show ¬ (2 : Int32) = (10 : Int32) by decide), if_neg (show ¬ (2 : Int32) = (11 : Int32) by decide), if_neg (show ¬ (2 : Int32) = (12 : Int32) by decide), if_neg (show ¬ (2 : Int32) = (16 : Int32) by decide), if_neg (show ¬ (2 : Int32) = (17 : Int32) by decide), if_neg (show ¬ (2 : Int32) = (18 : Int32) by decide), if_neg (show ¬ (2 : Int32) = (19 : Int32) by decide), if_neg (show ¬ (2 : Int32) = (20 : Int32) by decide)]
theorem apr_3 {S : XS} {a b c : Int32} : fx_Eval_apply_r S 3 a b c = fx_Op_ofTwo 3 (fx_Terms_widthOf S a) (fL S 2 a.toNatClampNeg) (fL S 2 b.toNatClampNeg) := by
  rw [fx_Eval_apply_r, if_neg (show ¬ (3 : Int32) = (0 : Int32) by decide), if_neg (show ¬ (3 : Int32) = (1 : Int32) by decide), if_neg (show ¬ (3 : Int32) = (8 : Int32) by decide), if_neg (show ¬ (3 : Int32) = (9 : Int32) by decide), if_neg (show ¬ (3 : Int32) = (10 : Int32) by decide), if_neg (show ¬ (3 : Int32) = (11 : Int32) by decide), if_neg (show ¬ (3 : Int32) = (12 : Int32) by decide), if_neg (show ¬ (3 : Int32) = (16 : Int32) by decide), if_neg (show ¬ (3 : Int32) = (17 : Int32) by decide), if_neg (show ¬ (3 : Int32) = (18 : Int32) by decide), if_neg (show ¬ (3 : Int32) = (19 : Int32) by decide), if_neg (show ¬ (3 : Int32) = (20 : Int32) by decide)]
theorem apr_4 {S : XS} {a b c : Int32} : fx_Eval_apply_r S 4 a b c = fx_Op_ofTwo 4 (fx_Terms_widthOf S a) (fL S 2 a.toNatClampNeg) (fL S 2 b.toNatClampNeg) := by
  rw [fx_Eval_apply_r, if_neg (show ¬ (4 : Int32) = (0 : Int32) by decide), if_neg (show ¬ (4 : Int32) = (1 : Int32) by decide), if_neg (show ¬ (4 : Int32) = (8 : Int32) by decide), if_neg (show ¬ (4 : Int32) = (9 : Int32) by decide), if_neg (show ¬ (4 : Int32) = (10 : Int32) by decide), if_neg (show ¬ (4 : Int32) = (11 : Int32) by decide), if_neg (show ¬ (4 : Int32) = (12 : Int32) by decide), if_neg (show ¬ (4 : Int32) = (16 : Int32) by decide), if_neg (show ¬ (4 : Int32) = (17 : Int32) by decide), if_neg (show ¬ (4 : Int32) = (18 : Int32) by decide), if_neg (show ¬ (4 : Int32) = (19 : Int32) by decide), if_neg (show ¬ (4 : Int32) = (20 : Int32) by decide)]
theorem apr_5 {S : XS} {a b c : Int32} : fx_Eval_apply_r S 5 a b c = fx_Op_ofTwo 5 (fx_Terms_widthOf S a) (fL S 2 a.toNatClampNeg) (fL S 2 b.toNatClampNeg) := by
  rw [fx_Eval_apply_r, if_neg (show ¬ (5 : Int32) = (0 : Int32) by decide), if_neg (show ¬ (5 : Int32) = (1 : Int32) by decide), if_neg (show ¬ (5 : Int32) = (8 : Int32) by decide), if_neg (show ¬ (5 : Int32) = (9 : Int32) by decide), if_neg (show ¬ (5 : Int32) = (10 : Int32) by decide), if_neg (show ¬ (5 : Int32) = (11 : Int32) by decide), if_neg (show ¬ (5 : Int32) = (12 : Int32) by decide), if_neg (show ¬ (5 : Int32) = (16 : Int32) by decide), if_neg (show ¬ (5 : Int32) = (17 : Int32) by decide), if_neg (show ¬ (5 : Int32) = (18 : Int32) by decide), if_neg (show ¬ (5 : Int32) = (19 : Int32) by decide), if_neg (show ¬ (5 : Int32) = (20 : Int32) by decide)]
theorem apr_6 {S : XS} {a b c : Int32} : fx_Eval_apply_r S 6 a b c = fx_Op_ofTwo 6 (fx_Terms_widthOf S a) (fL S 2 a.toNatClampNeg) (fL S 2 b.toNatClampNeg) := by
  rw [fx_Eval_apply_r, if_neg (show ¬ (6 : Int32) = (0 : Int32) by decide), if_neg (show ¬ (6 : Int32) = (1 : Int32) by decide), if_neg (show ¬ (6 : Int32) = (8 : Int32) by decide), if_neg (show ¬ (6 : Int32) = (9 : Int32) by decide), if_neg (show ¬ (6 : Int32) = (10 : Int32) by decide), if_neg (show ¬ (6 : Int32) = (11 : Int32) by decide), if_neg (show ¬ (6 : Int32) = (12 : Int32) by decide), if_neg (show ¬ (6 : Int32) = (16 : Int32) by decide), if_neg (show ¬ (6 : Int32) = (17 : Int32) by decide), if_neg (show ¬ (6 : Int32) = (18 : Int32) by decide), if_neg (show ¬ (6 : Int32) = (19 : Int32) by decide), if_neg (show ¬ (6 : Int32) = (20 : Int32) by decide)]
theorem apr_7 {S : XS} {a b c : Int32} : fx_Eval_apply_r S 7 a b c = fx_Op_ofTwo 7 (fx_Terms_widthOf S a) (fL S 2 a.toNatClampNeg) (fL S 2 b.toNatClampNeg) := by
  rw [fx_Eval_apply_r, if_neg (show ¬ (7 : Int32) = (0 : Int32) by decide), if_neg (show ¬ (7 : Int32) = (1 : Int32) by decide), if_neg (show ¬ (7 : Int32) = (8 : Int32) by decide), if_neg (show ¬ (7 : Int32) = (9 : Int32) by decide), if_neg (show ¬ (7 : Int32) = (10 : Int32) by decide), if_neg (show ¬ (7 : Int32) = (11 : Int32) by decide), if_neg (show ¬ (7 : Int32) = (12 : Int32) by decide), if_neg (show ¬ (7 : Int32) = (16 : Int32) by decide), if_neg (show ¬ (7 : Int32) = (17 : Int32) by decide), if_neg (show ¬ (7 : Int32) = (18 : Int32) by decide), if_neg (show ¬ (7 : Int32) = (19 : Int32) by decide), if_neg (show ¬ (7 : Int32) = (20 : Int32) by decide)]
theorem apr_8 {S : XS} {a b c : Int32} : fx_Eval_apply_r S 8 a b c = fx_Op_divided 8 (fx_Terms_widthOf S a) (fL S 2 a.toNatClampNeg) (fL S 2 b.toNatClampNeg) := by
  rw [fx_Eval_apply_r, if_neg (show ¬ (8 : Int32) = (0 : Int32) by decide), if_neg (show ¬ (8 : Int32) = (1 : Int32) by decide), if_pos rfl]
theorem apr_9 {S : XS} {a b c : Int32} : fx_Eval_apply_r S 9 a b c = fx_Op_divided 9 (fx_Terms_widthOf S a) (fL S 2 a.toNatClampNeg) (fL S 2 b.toNatClampNeg) := by
  rw [fx_Eval_apply_r, if_neg (show ¬ (9 : Int32) = (0 : Int32) by decide), if_neg (show ¬ (9 : Int32) = (1 : Int32) by decide), if_neg (show ¬ (9 : Int32) = (8 : Int32) by decide), if_pos rfl]
theorem apr_10 {S : XS} {a b c : Int32} : fx_Eval_apply_r S 10 a b c = fx_Op_moved 10 (fx_Terms_widthOf S a) (fL S 2 a.toNatClampNeg) (fL S 2 b.toNatClampNeg) := by
  rw [fx_Eval_apply_r, if_neg (show ¬ (10 : Int32) = (0 : Int32) by decide), if_neg (show ¬ (10 : Int32) = (1 : Int32) by decide), if_neg (show ¬ (10 : Int32) = (8 : Int32) by decide), if_neg (show ¬ (10 : Int32) = (9 : Int32) by decide), if_pos rfl]
theorem apr_11 {S : XS} {a b c : Int32} : fx_Eval_apply_r S 11 a b c = fx_Op_moved 11 (fx_Terms_widthOf S a) (fL S 2 a.toNatClampNeg) (fL S 2 b.toNatClampNeg) := by
  rw [fx_Eval_apply_r, if_neg (show ¬ (11 : Int32) = (0 : Int32) by decide), if_neg (show ¬ (11 : Int32) = (1 : Int32) by decide), if_neg (show ¬ (11 : Int32) = (8 : Int32) by decide), if_neg (show ¬ (11 : Int32) = (9 : Int32) by decide), if_neg (show ¬ (11 : Int32) = (10 : Int32) by decide), if_pos rfl]
theorem apr_12 {S : XS} {a b c : Int32} : fx_Eval_apply_r S 12 a b c = fx_Op_moved 12 (fx_Terms_widthOf S a) (fL S 2 a.toNatClampNeg) (fL S 2 b.toNatClampNeg) := by
  rw [fx_Eval_apply_r, if_neg (show ¬ (12 : Int32) = (0 : Int32) by decide), if_neg (show ¬ (12 : Int32) = (1 : Int32) by decide), if_neg (show ¬ (12 : Int32) = (8 : Int32) by decide), if_neg (show ¬ (12 : Int32) = (9 : Int32) by decide), if_neg (show ¬ (12 : Int32) = (10 : Int32) by decide), if_neg (show ¬ (12 : Int32) = (11 : Int32) by decide), if_pos rfl]
theorem apr_13 {S : XS} {a b c : Int32} : fx_Eval_apply_r S 13 a b c = fx_Op_ofTwo 13 (fx_Terms_widthOf S a) (fL S 2 a.toNatClampNeg) (fL S 2 b.toNatClampNeg) := by
  rw [fx_Eval_apply_r, if_neg (show ¬ (13 : Int32) = (0 : Int32) by decide), if_neg (show ¬ (13 : Int32) = (1 : Int32) by decide), if_neg (show ¬ (13 : Int32) = (8 : Int32) by decide), if_neg (show ¬ (13 : Int32) = (9 : Int32) by decide), if_neg (show ¬ (13 : Int32) = (10 : Int32) by decide), if_neg (show ¬ (13 : Int32) = (11 : Int32) by decide), if_neg (show ¬ (13 : Int32) = (12 : Int32) by decide), if_neg (show ¬ (13 : Int32) = (16 : Int32) by decide), if_neg (show ¬ (13 : Int32) = (17 : Int32) by decide), if_neg (show ¬ (13 : Int32) = (18 : Int32) by decide), if_neg (show ¬ (13 : Int32) = (19 : Int32) by decide), if_neg (show ¬ (13 : Int32) = (20 : Int32) by decide)]
theorem apr_14 {S : XS} {a b c : Int32} : fx_Eval_apply_r S 14 a b c = fx_Op_ofTwo 14 (fx_Terms_widthOf S a) (fL S 2 a.toNatClampNeg) (fL S 2 b.toNatClampNeg) := by
  rw [fx_Eval_apply_r, if_neg (show ¬ (14 : Int32) = (0 : Int32) by decide), if_neg (show ¬ (14 : Int32) = (1 : Int32) by decide), if_neg (show ¬ (14 : Int32) = (8 : Int32) by decide), if_neg (show ¬ (14 : Int32) = (9 : Int32) by decide), if_neg (show ¬ (14 : Int32) = (10 : Int32) by decide), if_neg (show ¬ (14 : Int32) = (11 : Int32) by decide), if_neg (show ¬ (14 : Int32) = (12 : Int32) by decide), if_neg (show ¬ (14 : Int32) = (16 : Int32) by decide), if_neg (show ¬ (14 : Int32) = (17 : Int32) by decide), if_neg (show ¬ (14 : Int32) = (18 : Int32) by decide), if_neg (show ¬ (14 : Int32) = (19 : Int32) by decide), if_neg (show ¬ (14 : Int32) = (20 : Int32) by decide)]
theorem apr_15 {S : XS} {a b c : Int32} : fx_Eval_apply_r S 15 a b c = fx_Op_ofTwo 15 (fx_Terms_widthOf S a) (fL S 2 a.toNatClampNeg) (fL S 2 b.toNatClampNeg) := by
  rw [fx_Eval_apply_r, if_neg (show ¬ (15 : Int32) = (0 : Int32) by decide), if_neg (show ¬ (15 : Int32) = (1 : Int32) by decide), if_neg (show ¬ (15 : Int32) = (8 : Int32) by decide), if_neg (show ¬ (15 : Int32) = (9 : Int32) by decide), if_neg (show ¬ (15 : Int32) = (10 : Int32) by decide), if_neg (show ¬ (15 : Int32) = (11 : Int32) by decide), if_neg (show ¬ (15 : Int32) = (12 : Int32) by decide), if_neg (show ¬ (15 : Int32) = (16 : Int32) by decide), if_neg (show ¬ (15 : Int32) = (17 : Int32) by decide), if_neg (show ¬ (15 : Int32) = (18 : Int32) by decide), if_neg (show ¬ (15 : Int32) = (19 : Int32) by decide), if_neg (show ¬ (15 : Int32) = (20 : Int32) by decide)]
theorem apr_16 {S : XS} {a b c : Int32} : fx_Eval_apply_r S 16 a b c = if lg_cmp (fL S 2 a.toNatClampNeg) (0 : Int64) = (0 : Int32) then (fL S 2 c.toNatClampNeg) else (fL S 2 b.toNatClampNeg) := by
  rw [fx_Eval_apply_r, if_neg (show ¬ (16 : Int32) = (0 : Int32) by decide), if_neg (show ¬ (16 : Int32) = (1 : Int32) by decide), if_neg (show ¬ (16 : Int32) = (8 : Int32) by decide), if_neg (show ¬ (16 : Int32) = (9 : Int32) by decide), if_neg (show ¬ (16 : Int32) = (10 : Int32) by decide), if_neg (show ¬ (16 : Int32) = (11 : Int32) by decide), if_neg (show ¬ (16 : Int32) = (12 : Int32) by decide), if_pos rfl]
theorem apr_17 {S : XS} {a b c : Int32} : fx_Eval_apply_r S 17 a b c = fx_Op_resized 17 (fx_Terms_widthOf S a) b (fL S 2 a.toNatClampNeg) := by
  rw [fx_Eval_apply_r, if_neg (show ¬ (17 : Int32) = (0 : Int32) by decide), if_neg (show ¬ (17 : Int32) = (1 : Int32) by decide), if_neg (show ¬ (17 : Int32) = (8 : Int32) by decide), if_neg (show ¬ (17 : Int32) = (9 : Int32) by decide), if_neg (show ¬ (17 : Int32) = (10 : Int32) by decide), if_neg (show ¬ (17 : Int32) = (11 : Int32) by decide), if_neg (show ¬ (17 : Int32) = (12 : Int32) by decide), if_neg (show ¬ (17 : Int32) = (16 : Int32) by decide), if_pos rfl]
theorem apr_18 {S : XS} {a b c : Int32} : fx_Eval_apply_r S 18 a b c = fx_Op_resized 18 (fx_Terms_widthOf S a) b (fL S 2 a.toNatClampNeg) := by
  rw [fx_Eval_apply_r, if_neg (show ¬ (18 : Int32) = (0 : Int32) by decide), if_neg (show ¬ (18 : Int32) = (1 : Int32) by decide), if_neg (show ¬ (18 : Int32) = (8 : Int32) by decide), if_neg (show ¬ (18 : Int32) = (9 : Int32) by decide), if_neg (show ¬ (18 : Int32) = (10 : Int32) by decide), if_neg (show ¬ (18 : Int32) = (11 : Int32) by decide), if_neg (show ¬ (18 : Int32) = (12 : Int32) by decide), if_neg (show ¬ (18 : Int32) = (16 : Int32) by decide), if_neg (show ¬ (18 : Int32) = (17 : Int32) by decide), if_pos rfl]
theorem apr_19 {S : XS} {a b c : Int32} : fx_Eval_apply_r S 19 a b c = fx_Op_resized 19 (fx_Terms_widthOf S a) b (fL S 2 a.toNatClampNeg) := by
  rw [fx_Eval_apply_r, if_neg (show ¬ (19 : Int32) = (0 : Int32) by decide), if_neg (show ¬ (19 : Int32) = (1 : Int32) by decide), if_neg (show ¬ (19 : Int32) = (8 : Int32) by decide), if_neg (show ¬ (19 : Int32) = (9 : Int32) by decide), if_neg (show ¬ (19 : Int32) = (10 : Int32) by decide), if_neg (show ¬ (19 : Int32) = (11 : Int32) by decide), if_neg (show ¬ (19 : Int32) = (12 : Int32) by decide), if_neg (show ¬ (19 : Int32) = (16 : Int32) by decide), if_neg (show ¬ (19 : Int32) = (17 : Int32) by decide), if_neg (show ¬ (19 : Int32) = (18 : Int32) by decide), if_pos rfl]
theorem apr_20 {S : XS} {a b c : Int32} : fx_Eval_apply_r S 20 a b c = fx_Tabs_lookUp S b (fL S 2 a.toNatClampNeg) := by
  rw [fx_Eval_apply_r, if_neg (show ¬ (20 : Int32) = (0 : Int32) by decide), if_neg (show ¬ (20 : Int32) = (1 : Int32) by decide), if_neg (show ¬ (20 : Int32) = (8 : Int32) by decide), if_neg (show ¬ (20 : Int32) = (9 : Int32) by decide), if_neg (show ¬ (20 : Int32) = (10 : Int32) by decide), if_neg (show ¬ (20 : Int32) = (11 : Int32) by decide), if_neg (show ¬ (20 : Int32) = (12 : Int32) by decide), if_neg (show ¬ (20 : Int32) = (16 : Int32) by decide), if_neg (show ¬ (20 : Int32) = (17 : Int32) by decide), if_neg (show ¬ (20 : Int32) = (18 : Int32) by decide), if_neg (show ¬ (20 : Int32) = (19 : Int32) by decide), if_pos rfl]
theorem apc_0 {S : XS} {a b c : Int32} : fx_Eval_apply_c S 0 a b c = fx_Op_ofOne 0 (fx_Terms_widthOf S a) (fL S 1 a.toNatClampNeg) := by
  rw [fx_Eval_apply_c, if_pos rfl]
theorem apc_1 {S : XS} {a b c : Int32} : fx_Eval_apply_c S 1 a b c = fx_Op_ofOne 1 (fx_Terms_widthOf S a) (fL S 1 a.toNatClampNeg) := by
  rw [fx_Eval_apply_c, if_neg (show ¬ (1 : Int32) = (0 : Int32) by decide), if_pos rfl]
theorem apc_2 {S : XS} {a b c : Int32} : fx_Eval_apply_c S 2 a b c = fx_Op_ofTwo 2 (fx_Terms_widthOf S a) (fL S 1 a.toNatClampNeg) (fL S 1 b.toNatClampNeg) := by
  rw [fx_Eval_apply_c, if_neg (show ¬ (2 : Int32) = (0 : Int32) by decide), if_neg (show ¬ (2 : Int32) = (1 : Int32) by decide), if_neg (show ¬ (2 : Int32) = (8 : Int32) by decide), if_neg (show ¬ (2 : Int32) = (9 : Int32) by decide), if_neg (show ¬ (2 : Int32) = (10 : Int32) by decide), if_neg (show ¬ (2 : Int32) = (11 : Int32) by decide), if_neg (show ¬ (2 : Int32) = (12 : Int32) by decide), if_neg (show ¬ (2 : Int32) = (16 : Int32) by decide), if_neg (show ¬ (2 : Int32) = (17 : Int32) by decide), if_neg (show ¬ (2 : Int32) = (18 : Int32) by decide), if_neg (show ¬ (2 : Int32) = (19 : Int32) by decide), if_neg (show ¬ (2 : Int32) = (20 : Int32) by decide)]
theorem apc_3 {S : XS} {a b c : Int32} : fx_Eval_apply_c S 3 a b c = fx_Op_ofTwo 3 (fx_Terms_widthOf S a) (fL S 1 a.toNatClampNeg) (fL S 1 b.toNatClampNeg) := by
  rw [fx_Eval_apply_c, if_neg (show ¬ (3 : Int32) = (0 : Int32) by decide), if_neg (show ¬ (3 : Int32) = (1 : Int32) by decide), if_neg (show ¬ (3 : Int32) = (8 : Int32) by decide), if_neg (show ¬ (3 : Int32) = (9 : Int32) by decide), if_neg (show ¬ (3 : Int32) = (10 : Int32) by decide), if_neg (show ¬ (3 : Int32) = (11 : Int32) by decide), if_neg (show ¬ (3 : Int32) = (12 : Int32) by decide), if_neg (show ¬ (3 : Int32) = (16 : Int32) by decide), if_neg (show ¬ (3 : Int32) = (17 : Int32) by decide), if_neg (show ¬ (3 : Int32) = (18 : Int32) by decide), if_neg (show ¬ (3 : Int32) = (19 : Int32) by decide), if_neg (show ¬ (3 : Int32) = (20 : Int32) by decide)]
theorem apc_4 {S : XS} {a b c : Int32} : fx_Eval_apply_c S 4 a b c = fx_Op_ofTwo 4 (fx_Terms_widthOf S a) (fL S 1 a.toNatClampNeg) (fL S 1 b.toNatClampNeg) := by
  rw [fx_Eval_apply_c, if_neg (show ¬ (4 : Int32) = (0 : Int32) by decide), if_neg (show ¬ (4 : Int32) = (1 : Int32) by decide), if_neg (show ¬ (4 : Int32) = (8 : Int32) by decide), if_neg (show ¬ (4 : Int32) = (9 : Int32) by decide), if_neg (show ¬ (4 : Int32) = (10 : Int32) by decide), if_neg (show ¬ (4 : Int32) = (11 : Int32) by decide), if_neg (show ¬ (4 : Int32) = (12 : Int32) by decide), if_neg (show ¬ (4 : Int32) = (16 : Int32) by decide), if_neg (show ¬ (4 : Int32) = (17 : Int32) by decide), if_neg (show ¬ (4 : Int32) = (18 : Int32) by decide), if_neg (show ¬ (4 : Int32) = (19 : Int32) by decide), if_neg (show ¬ (4 : Int32) = (20 : Int32) by decide)]
theorem apc_5 {S : XS} {a b c : Int32} : fx_Eval_apply_c S 5 a b c = fx_Op_ofTwo 5 (fx_Terms_widthOf S a) (fL S 1 a.toNatClampNeg) (fL S 1 b.toNatClampNeg) := by
  rw [fx_Eval_apply_c, if_neg (show ¬ (5 : Int32) = (0 : Int32) by decide), if_neg (show ¬ (5 : Int32) = (1 : Int32) by decide), if_neg (show ¬ (5 : Int32) = (8 : Int32) by decide), if_neg (show ¬ (5 : Int32) = (9 : Int32) by decide), if_neg (show ¬ (5 : Int32) = (10 : Int32) by decide), if_neg (show ¬ (5 : Int32) = (11 : Int32) by decide), if_neg (show ¬ (5 : Int32) = (12 : Int32) by decide), if_neg (show ¬ (5 : Int32) = (16 : Int32) by decide), if_neg (show ¬ (5 : Int32) = (17 : Int32) by decide), if_neg (show ¬ (5 : Int32) = (18 : Int32) by decide), if_neg (show ¬ (5 : Int32) = (19 : Int32) by decide), if_neg (show ¬ (5 : Int32) = (20 : Int32) by decide)]
theorem apc_6 {S : XS} {a b c : Int32} : fx_Eval_apply_c S 6 a b c = fx_Op_ofTwo 6 (fx_Terms_widthOf S a) (fL S 1 a.toNatClampNeg) (fL S 1 b.toNatClampNeg) := by
  rw [fx_Eval_apply_c, if_neg (show ¬ (6 : Int32) = (0 : Int32) by decide), if_neg (show ¬ (6 : Int32) = (1 : Int32) by decide), if_neg (show ¬ (6 : Int32) = (8 : Int32) by decide), if_neg (show ¬ (6 : Int32) = (9 : Int32) by decide), if_neg (show ¬ (6 : Int32) = (10 : Int32) by decide), if_neg (show ¬ (6 : Int32) = (11 : Int32) by decide), if_neg (show ¬ (6 : Int32) = (12 : Int32) by decide), if_neg (show ¬ (6 : Int32) = (16 : Int32) by decide), if_neg (show ¬ (6 : Int32) = (17 : Int32) by decide), if_neg (show ¬ (6 : Int32) = (18 : Int32) by decide), if_neg (show ¬ (6 : Int32) = (19 : Int32) by decide), if_neg (show ¬ (6 : Int32) = (20 : Int32) by decide)]
theorem apc_7 {S : XS} {a b c : Int32} : fx_Eval_apply_c S 7 a b c = fx_Op_ofTwo 7 (fx_Terms_widthOf S a) (fL S 1 a.toNatClampNeg) (fL S 1 b.toNatClampNeg) := by
  rw [fx_Eval_apply_c, if_neg (show ¬ (7 : Int32) = (0 : Int32) by decide), if_neg (show ¬ (7 : Int32) = (1 : Int32) by decide), if_neg (show ¬ (7 : Int32) = (8 : Int32) by decide), if_neg (show ¬ (7 : Int32) = (9 : Int32) by decide), if_neg (show ¬ (7 : Int32) = (10 : Int32) by decide), if_neg (show ¬ (7 : Int32) = (11 : Int32) by decide), if_neg (show ¬ (7 : Int32) = (12 : Int32) by decide), if_neg (show ¬ (7 : Int32) = (16 : Int32) by decide), if_neg (show ¬ (7 : Int32) = (17 : Int32) by decide), if_neg (show ¬ (7 : Int32) = (18 : Int32) by decide), if_neg (show ¬ (7 : Int32) = (19 : Int32) by decide), if_neg (show ¬ (7 : Int32) = (20 : Int32) by decide)]
theorem apc_8 {S : XS} {a b c : Int32} : fx_Eval_apply_c S 8 a b c = fx_Op_divided 8 (fx_Terms_widthOf S a) (fL S 1 a.toNatClampNeg) (fL S 1 b.toNatClampNeg) := by
  rw [fx_Eval_apply_c, if_neg (show ¬ (8 : Int32) = (0 : Int32) by decide), if_neg (show ¬ (8 : Int32) = (1 : Int32) by decide), if_pos rfl]
theorem apc_9 {S : XS} {a b c : Int32} : fx_Eval_apply_c S 9 a b c = fx_Op_divided 9 (fx_Terms_widthOf S a) (fL S 1 a.toNatClampNeg) (fL S 1 b.toNatClampNeg) := by
  rw [fx_Eval_apply_c, if_neg (show ¬ (9 : Int32) = (0 : Int32) by decide), if_neg (show ¬ (9 : Int32) = (1 : Int32) by decide), if_neg (show ¬ (9 : Int32) = (8 : Int32) by decide), if_pos rfl]
theorem apc_10 {S : XS} {a b c : Int32} : fx_Eval_apply_c S 10 a b c = fx_Op_moved 10 (fx_Terms_widthOf S a) (fL S 1 a.toNatClampNeg) (fL S 1 b.toNatClampNeg) := by
  rw [fx_Eval_apply_c, if_neg (show ¬ (10 : Int32) = (0 : Int32) by decide), if_neg (show ¬ (10 : Int32) = (1 : Int32) by decide), if_neg (show ¬ (10 : Int32) = (8 : Int32) by decide), if_neg (show ¬ (10 : Int32) = (9 : Int32) by decide), if_pos rfl]
theorem apc_11 {S : XS} {a b c : Int32} : fx_Eval_apply_c S 11 a b c = fx_Op_moved 11 (fx_Terms_widthOf S a) (fL S 1 a.toNatClampNeg) (fL S 1 b.toNatClampNeg) := by
  rw [fx_Eval_apply_c, if_neg (show ¬ (11 : Int32) = (0 : Int32) by decide), if_neg (show ¬ (11 : Int32) = (1 : Int32) by decide), if_neg (show ¬ (11 : Int32) = (8 : Int32) by decide), if_neg (show ¬ (11 : Int32) = (9 : Int32) by decide), if_neg (show ¬ (11 : Int32) = (10 : Int32) by decide), if_pos rfl]
theorem apc_12 {S : XS} {a b c : Int32} : fx_Eval_apply_c S 12 a b c = fx_Op_moved 12 (fx_Terms_widthOf S a) (fL S 1 a.toNatClampNeg) (fL S 1 b.toNatClampNeg) := by
  rw [fx_Eval_apply_c, if_neg (show ¬ (12 : Int32) = (0 : Int32) by decide), if_neg (show ¬ (12 : Int32) = (1 : Int32) by decide), if_neg (show ¬ (12 : Int32) = (8 : Int32) by decide), if_neg (show ¬ (12 : Int32) = (9 : Int32) by decide), if_neg (show ¬ (12 : Int32) = (10 : Int32) by decide), if_neg (show ¬ (12 : Int32) = (11 : Int32) by decide), if_pos rfl]
theorem apc_13 {S : XS} {a b c : Int32} : fx_Eval_apply_c S 13 a b c = fx_Op_ofTwo 13 (fx_Terms_widthOf S a) (fL S 1 a.toNatClampNeg) (fL S 1 b.toNatClampNeg) := by
  rw [fx_Eval_apply_c, if_neg (show ¬ (13 : Int32) = (0 : Int32) by decide), if_neg (show ¬ (13 : Int32) = (1 : Int32) by decide), if_neg (show ¬ (13 : Int32) = (8 : Int32) by decide), if_neg (show ¬ (13 : Int32) = (9 : Int32) by decide), if_neg (show ¬ (13 : Int32) = (10 : Int32) by decide), if_neg (show ¬ (13 : Int32) = (11 : Int32) by decide), if_neg (show ¬ (13 : Int32) = (12 : Int32) by decide), if_neg (show ¬ (13 : Int32) = (16 : Int32) by decide), if_neg (show ¬ (13 : Int32) = (17 : Int32) by decide), if_neg (show ¬ (13 : Int32) = (18 : Int32) by decide), if_neg (show ¬ (13 : Int32) = (19 : Int32) by decide), if_neg (show ¬ (13 : Int32) = (20 : Int32) by decide)]
theorem apc_14 {S : XS} {a b c : Int32} : fx_Eval_apply_c S 14 a b c = fx_Op_ofTwo 14 (fx_Terms_widthOf S a) (fL S 1 a.toNatClampNeg) (fL S 1 b.toNatClampNeg) := by
  rw [fx_Eval_apply_c, if_neg (show ¬ (14 : Int32) = (0 : Int32) by decide), if_neg (show ¬ (14 : Int32) = (1 : Int32) by decide), if_neg (show ¬ (14 : Int32) = (8 : Int32) by decide), if_neg (show ¬ (14 : Int32) = (9 : Int32) by decide), if_neg (show ¬ (14 : Int32) = (10 : Int32) by decide), if_neg (show ¬ (14 : Int32) = (11 : Int32) by decide), if_neg (show ¬ (14 : Int32) = (12 : Int32) by decide), if_neg (show ¬ (14 : Int32) = (16 : Int32) by decide), if_neg (show ¬ (14 : Int32) = (17 : Int32) by decide), if_neg (show ¬ (14 : Int32) = (18 : Int32) by decide), if_neg (show ¬ (14 : Int32) = (19 : Int32) by decide), if_neg (show ¬ (14 : Int32) = (20 : Int32) by decide)]
theorem apc_15 {S : XS} {a b c : Int32} : fx_Eval_apply_c S 15 a b c = fx_Op_ofTwo 15 (fx_Terms_widthOf S a) (fL S 1 a.toNatClampNeg) (fL S 1 b.toNatClampNeg) := by
  rw [fx_Eval_apply_c, if_neg (show ¬ (15 : Int32) = (0 : Int32) by decide), if_neg (show ¬ (15 : Int32) = (1 : Int32) by decide), if_neg (show ¬ (15 : Int32) = (8 : Int32) by decide), if_neg (show ¬ (15 : Int32) = (9 : Int32) by decide), if_neg (show ¬ (15 : Int32) = (10 : Int32) by decide), if_neg (show ¬ (15 : Int32) = (11 : Int32) by decide), if_neg (show ¬ (15 : Int32) = (12 : Int32) by decide), if_neg (show ¬ (15 : Int32) = (16 : Int32) by decide), if_neg (show ¬ (15 : Int32) = (17 : Int32) by decide), if_neg (show ¬ (15 : Int32) = (18 : Int32) by decide), if_neg (show ¬ (15 : Int32) = (19 : Int32) by decide), if_neg (show ¬ (15 : Int32) = (20 : Int32) by decide)]
theorem apc_16 {S : XS} {a b c : Int32} : fx_Eval_apply_c S 16 a b c = if lg_cmp (fL S 1 a.toNatClampNeg) (0 : Int64) = (0 : Int32) then (fL S 1 c.toNatClampNeg) else (fL S 1 b.toNatClampNeg) := by
  rw [fx_Eval_apply_c, if_neg (show ¬ (16 : Int32) = (0 : Int32) by decide), if_neg (show ¬ (16 : Int32) = (1 : Int32) by decide), if_neg (show ¬ (16 : Int32) = (8 : Int32) by decide), if_neg (show ¬ (16 : Int32) = (9 : Int32) by decide), if_neg (show ¬ (16 : Int32) = (10 : Int32) by decide), if_neg (show ¬ (16 : Int32) = (11 : Int32) by decide), if_neg (show ¬ (16 : Int32) = (12 : Int32) by decide), if_pos rfl]
theorem apc_17 {S : XS} {a b c : Int32} : fx_Eval_apply_c S 17 a b c = fx_Op_resized 17 (fx_Terms_widthOf S a) b (fL S 1 a.toNatClampNeg) := by
  rw [fx_Eval_apply_c, if_neg (show ¬ (17 : Int32) = (0 : Int32) by decide), if_neg (show ¬ (17 : Int32) = (1 : Int32) by decide), if_neg (show ¬ (17 : Int32) = (8 : Int32) by decide), if_neg (show ¬ (17 : Int32) = (9 : Int32) by decide), if_neg (show ¬ (17 : Int32) = (10 : Int32) by decide), if_neg (show ¬ (17 : Int32) = (11 : Int32) by decide), if_neg (show ¬ (17 : Int32) = (12 : Int32) by decide), if_neg (show ¬ (17 : Int32) = (16 : Int32) by decide), if_pos rfl]
theorem apc_18 {S : XS} {a b c : Int32} : fx_Eval_apply_c S 18 a b c = fx_Op_resized 18 (fx_Terms_widthOf S a) b (fL S 1 a.toNatClampNeg) := by
  rw [fx_Eval_apply_c, if_neg (show ¬ (18 : Int32) = (0 : Int32) by decide), if_neg (show ¬ (18 : Int32) = (1 : Int32) by decide), if_neg (show ¬ (18 : Int32) = (8 : Int32) by decide), if_neg (show ¬ (18 : Int32) = (9 : Int32) by decide), if_neg (show ¬ (18 : Int32) = (10 : Int32) by decide), if_neg (show ¬ (18 : Int32) = (11 : Int32) by decide), if_neg (show ¬ (18 : Int32) = (12 : Int32) by decide), if_neg (show ¬ (18 : Int32) = (16 : Int32) by decide), if_neg (show ¬ (18 : Int32) = (17 : Int32) by decide), if_pos rfl]
theorem apc_19 {S : XS} {a b c : Int32} : fx_Eval_apply_c S 19 a b c = fx_Op_resized 19 (fx_Terms_widthOf S a) b (fL S 1 a.toNatClampNeg) := by
  rw [fx_Eval_apply_c, if_neg (show ¬ (19 : Int32) = (0 : Int32) by decide), if_neg (show ¬ (19 : Int32) = (1 : Int32) by decide), if_neg (show ¬ (19 : Int32) = (8 : Int32) by decide), if_neg (show ¬ (19 : Int32) = (9 : Int32) by decide), if_neg (show ¬ (19 : Int32) = (10 : Int32) by decide), if_neg (show ¬ (19 : Int32) = (11 : Int32) by decide), if_neg (show ¬ (19 : Int32) = (12 : Int32) by decide), if_neg (show ¬ (19 : Int32) = (16 : Int32) by decide), if_neg (show ¬ (19 : Int32) = (17 : Int32) by decide), if_neg (show ¬ (19 : Int32) = (18 : Int32) by decide), if_pos rfl]
theorem apc_20 {S : XS} {a b c : Int32} : fx_Eval_apply_c S 20 a b c = fx_Tabs_lookUp S b (fL S 1 a.toNatClampNeg) := by
  rw [fx_Eval_apply_c, if_neg (show ¬ (20 : Int32) = (0 : Int32) by decide), if_neg (show ¬ (20 : Int32) = (1 : Int32) by decide), if_neg (show ¬ (20 : Int32) = (8 : Int32) by decide), if_neg (show ¬ (20 : Int32) = (9 : Int32) by decide), if_neg (show ¬ (20 : Int32) = (10 : Int32) by decide), if_neg (show ¬ (20 : Int32) = (11 : Int32) by decide), if_neg (show ¬ (20 : Int32) = (12 : Int32) by decide), if_neg (show ¬ (20 : Int32) = (16 : Int32) by decide), if_neg (show ¬ (20 : Int32) = (17 : Int32) by decide), if_neg (show ¬ (20 : Int32) = (18 : Int32) by decide), if_neg (show ¬ (20 : Int32) = (19 : Int32) by decide), if_pos rfl]

theorem nrm_bit {w : Int32} (h : isW w) (z : Int32) : nrm w (fx_Op_bit z) := by
  rw [fx_Op_bit]
  split
  · exact nrm_0 h
  · exact nrm_m1 h
theorem nrm_one {o w : Int32} (h : isW w) {x : Int64} (hx : nrm w x) : nrm w (fx_Op_ofOne o w x) := by
  rw [fx_Op_ofOne]
  split
  · exact nrm_xor h hx (nrm_m1 h)
  · exact nrm_rs h _
theorem nrm_two {o w : Int32} (h : isW w) (ho : o = 2 ∨ o = 3 ∨ o = 4 ∨ o = 5 ∨ o = 6 ∨ o = 7) {x y : Int64} (hx : nrm w x) (hy : nrm w y) : nrm w (fx_Op_ofTwo o w x y) := by
  rw [fx_Op_ofTwo]
  rcases ho with rfl | rfl | rfl | rfl | rfl | rfl
  · rw [if_pos rfl]; exact nrm_and h hx hy
  · rw [if_neg (show ¬ (3 : Int32) = 2 by decide), if_pos rfl]; exact nrm_or h hx hy
  · rw [if_neg (show ¬ (4 : Int32) = 2 by decide), if_neg (show ¬ (4 : Int32) = 3 by decide), if_pos rfl]; exact nrm_xor h hx hy
  · rw [if_neg (show ¬ (5 : Int32) = 2 by decide), if_neg (show ¬ (5 : Int32) = 3 by decide), if_neg (show ¬ (5 : Int32) = 4 by decide), if_pos rfl]; exact nrm_rs h _
  · rw [if_neg (show ¬ (6 : Int32) = 2 by decide), if_neg (show ¬ (6 : Int32) = 3 by decide), if_neg (show ¬ (6 : Int32) = 4 by decide), if_neg (show ¬ (6 : Int32) = 5 by decide), if_pos rfl]; exact nrm_rs h _
  · rw [if_neg (show ¬ (7 : Int32) = 2 by decide), if_neg (show ¬ (7 : Int32) = 3 by decide), if_neg (show ¬ (7 : Int32) = 4 by decide), if_neg (show ¬ (7 : Int32) = 5 by decide), if_neg (show ¬ (7 : Int32) = 6 by decide), if_pos rfl]; exact nrm_rs h _
theorem nrm_cmp {o w v : Int32} (h : isW v) (ho : o = 13 ∨ o = 14 ∨ o = 15) {x y : Int64} : nrm v (fx_Op_ofTwo o w x y) := by
  have n2 : ∀ k, k ∈ [(2 : Int32), 3, 4, 5, 6, 7] → ¬ o = k := by
    rcases ho with rfl | rfl | rfl <;> decide
  rw [fx_Op_ofTwo, if_neg (n2 2 (by decide)), if_neg (n2 3 (by decide)), if_neg (n2 4 (by decide)), if_neg (n2 5 (by decide)), if_neg (n2 6 (by decide)), if_neg (n2 7 (by decide))]
  exact wl_ite (P := nrm v) (wl_ite (P := nrm v) (nrm_bit h _) (nrm_bit h _)) (wl_ite (P := nrm v) (wl_ite (P := nrm v) (nrm_bit h _) (nrm_bit h _)) (wl_ite (P := nrm v) (nrm_bit h _) (nrm_bit h _)))
theorem nrm_div {o w : Int32} (h : isW w) {x y : Int64} (hx : nrm w x) : nrm w (fx_Op_divided o w x y) := by
  rw [fx_Op_divided]
  exact wl_ite (P := nrm w) (wl_ite (P := nrm w) (nrm_m1 h) hx) (wl_ite (P := nrm w) (nrm_rs h _) (nrm_rs h _))
theorem amt64 (d : Int32) : ∃ n : Nat, n < 64 ∧ (d.toInt64 &&& 63) = lN n := by
  obtain ⟨n, hn, e⟩ := wb_of d.toInt64
  exact ⟨n % 64, Nat.mod_lt _ (by decide), by rw [e]; exact wb_mask (k := 6) hn (by decide)⟩
theorem nrm_mov {o w : Int32} (h : isW w) {x y : Int64} (hx : nrm w x) : nrm w (fx_Op_moved o w x y) := by
  rw [fx_Op_moved]
  obtain ⟨n, hn, e⟩ := amt64 y.toInt32
  rw [e]
  have far := wl_ite (c := o = (12 : Int32)) (P := nrm w) (wl_ite (c := (0 : Int32) ≤ lg_cmp x (0 : Int64)) (P := nrm w) (nrm_0 h) (nrm_m1 h)) (nrm_0 h)
  exact wl_ite (P := nrm w) far (wl_ite (P := nrm w) (wl_ite (P := nrm w) (nrm_rs h _) (wl_ite (P := nrm w) (nrm_rs h _) (nrm_shr h hx hn))) far)

theorem wl_opo {S : XS} {i : Nat} (hi : i < 64) : fx_Terms_operationOf S (nI i) = fA S 3 i := by
  rw [fx_Terms_operationOf, nI_clamp (by omega)]
theorem wl_op0 {S : XS} {i : Nat} (hi : i < 64) : fx_Terms_operandOf S (nI i) (0 : Int32) = fA S 5 (3 * i) := wl_opn (j := 0) hi (by decide)
theorem wl_op1 {S : XS} {i : Nat} (hi : i < 64) : fx_Terms_operandOf S (nI i) (1 : Int32) = fA S 5 (3 * i + 1) := wl_opn (j := 1) hi (by decide)
theorem wl_op2 {S : XS} {i : Nat} (hi : i < 64) : fx_Terms_operandOf S (nI i) (2 : Int32) = fA S 5 (3 * i + 2) := wl_opn (j := 2) hi (by decide)
theorem XTt.o22 {S : XS} {V t : Nat} (h : XTt S V t) (c : fA S 3 t = 22) : fA S 4 t = 8 ∧ vp_in (fA S 5 (3 * t)) V := by
  obtain ⟨hw, h⟩ := h
  rw [c] at h
  rcases h with ⟨h, _⟩ | ⟨_, h⟩ | ⟨h | h, _⟩ | ⟨h | h | h | h | h | h | h | h | h, _⟩ | ⟨h | h, _⟩ | ⟨h | h | h, _⟩ | ⟨h, _⟩ | ⟨h | h, _⟩ | ⟨h, _⟩ | ⟨h, _⟩ <;> first | exact h | exact absurd h (by decide)
theorem XTt.o21 {S : XS} {V t : Nat} (h : XTt S V t) (c : fA S 3 t = 21) : nrm (fA S 4 t) (fL S 1 t) := by
  obtain ⟨hw, h⟩ := h
  rw [c] at h
  rcases h with ⟨_, h⟩ | ⟨h, _⟩ | ⟨h | h, _⟩ | ⟨h | h | h | h | h | h | h | h | h, _⟩ | ⟨h | h, _⟩ | ⟨h | h | h, _⟩ | ⟨h, _⟩ | ⟨h | h, _⟩ | ⟨h, _⟩ | ⟨h, _⟩ <;> first | exact h | exact absurd h (by decide)
theorem wl_ev22 {st S1 : XS} {V N i : Nat} (hE : XF [] [] [2] st S1) (hX : XT st V N) (hlt : i < N) (h64 : N ≤ 64) (hV4 : V ≤ 4) (c52 : ¬ fx_Terms_operationOf S1 (nI i) = 21) (c77 : fx_Terms_operationOf S1 (nI i) = 22) : vp_in (fx_Terms_operandOf S1 (nI i) (0 : Int32)) 4 := by
  have hX1 := hX.fr hE (by decide) (by decide)
  rw [wl_opo (by omega)] at c77
  rw [wl_op0 (by omega)]
  exact vp_up ((hX1.1 i hlt).o22 c77).2 hV4
theorem wl_evop {st S1 : XS} {V N i : Nat} (hE : XF [] [] [2] st S1) (hM : XM S1 N) (hX : XT st V N) (hlt : i < N) (h64 : N ≤ 64) (c52 : ¬ fx_Terms_operationOf S1 (nI i) = 21) (c77 : ¬ fx_Terms_operationOf S1 (nI i) = 22) :
    vp_in (fx_Terms_operandOf S1 (nI i) (0 : Int32)) 64 ∧ (¬ (fx_Terms_operationOf S1 (nI i) = 0 ∨ fx_Terms_operationOf S1 (nI i) = 1 ∨ fx_Terms_operationOf S1 (nI i) = 17 ∨ fx_Terms_operationOf S1 (nI i) = 18 ∨ fx_Terms_operationOf S1 (nI i) = 19 ∨ fx_Terms_operationOf S1 (nI i) = 20) → vp_in (fx_Terms_operandOf S1 (nI i) (1 : Int32)) 64) ∧ (fx_Terms_operationOf S1 (nI i) = 16 → vp_in (fx_Terms_operandOf S1 (nI i) (2 : Int32)) 64) ∧ (fx_Terms_operationOf S1 (nI i) = 20 → vp_in (fx_Terms_operandOf S1 (nI i) (1 : Int32)) 2) ∧ (fx_Terms_operationOf S1 (nI i) = 8 ∨ fx_Terms_operationOf S1 (nI i) = 9 → ¬ fL S1 2 (fx_Terms_operandOf S1 (nI i) (1 : Int32)).toNatClampNeg = 0 → ¬ fx_Width_readPlain (fx_Terms_widthOf S1 (fx_Terms_operandOf S1 (nI i) (0 : Int32))) (fL S1 2 (fx_Terms_operandOf S1 (nI i) (1 : Int32)).toNatClampNeg) = 0) := by
  have hX1 := hX.fr hE (by decide) (by decide)
  rw [wl_opo (by omega)] at *
  rw [wl_op0 (by omega), wl_op1 (by omega), wl_op2 (by omega), fx_Terms_widthOf]
  exact wl_evop0 (hX1.1 i hlt) hM hlt h64 c52 c77
theorem XM.w {S : XS} {N i : Nat} {v : Int64} (hM : XM S N) (h : nrm (fA S 4 i) v) : XM (wL S 2 i v) N := by
  intro t ht
  show nrm (fA S 4 t) (vp_updL (fL S 2) i v t)
  by_cases e : t = i
  · subst e; rw [pk_uLs]; exact h
  · rw [pk_uLn e]; exact hM t ht

theorem oA_lt {S : XS} {i : Nat} (h : vp_in (fA S 5 (3 * i)) i) (hi : i < 2147483648) : oA S i < i := by
  obtain ⟨j, hj, e⟩ := vp_in_of h hi
  show (fA S 5 (3 * i)).toNatClampNeg < i
  rw [e, nI_clamp (by omega)]; exact hj
theorem oB_lt {S : XS} {i : Nat} (h : vp_in (fA S 5 (3 * i + 1)) i) (hi : i < 2147483648) : oB S i < i := by
  obtain ⟨j, hj, e⟩ := vp_in_of h hi
  show (fA S 5 (3 * i + 1)).toNatClampNeg < i
  rw [e, nI_clamp (by omega)]; exact hj
theorem oC_lt {S : XS} {i : Nat} (h : vp_in (fA S 5 (3 * i + 2)) i) (hi : i < 2147483648) : oC S i < i := by
  obtain ⟨j, hj, e⟩ := vp_in_of h hi
  show (fA S 5 (3 * i + 2)).toNatClampNeg < i
  rw [e, nI_clamp (by omega)]; exact hj
theorem nrm_wide {o w v : Int32} (hw : isW w) (hv : isW v) (h : w < v) (ho : o = 17 ∨ o = 18) {x : Int64} (hx : nrm w x) : nrm v (fx_Op_resized o w v x) := by
  obtain ⟨k, h1, h2, rfl⟩ := hw.k
  obtain ⟨k2, h3, h4, rfl⟩ := hv.k
  have hk : k < k2 := (nI_ltI (by omega) (by omega)).mp h
  rw [fx_Op_resized]
  rcases ho with rfl | rfl
  · rw [if_pos rfl]; exact nrm_rp h1 hk h4 x
  · rw [if_neg (show ¬ (18 : Int32) = 17 by decide), if_neg (show ¬ (18 : Int32) = 19 by decide)]; exact nrm_mono h1 (by omega) h4 hx
theorem nrm_op {S : XS} {V i : Nat} (hi : i < 64) (hT : XTt S V i) (hM : ∀ j : Nat, j < i → nrm (fA S 4 j) (fL S 2 j)) (hW : ∀ j : Nat, j < i → isW (fA S 4 j)) (htab : ∀ j : Nat, j < 16 → nrm 8 (fL S 0 j)) (h21 : ¬ fA S 3 i = 21) (h22 : ¬ fA S 3 i = 22) : nrm (fA S 4 i) (fx_Eval_apply_r S (fA S 3 i) (fA S 5 (3 * i)) (fA S 5 (3 * i + 1)) (fA S 5 (3 * i + 2))) := by
  obtain ⟨hw, h⟩ := hT
  rcases h with ⟨h, _⟩ | ⟨h, _⟩ | ⟨ho, ha, wa⟩ | ⟨ho, ha, hb, wa, wb⟩ | ⟨ho, ha, hb, wa, wb, wt⟩ | ⟨ho, ha, hb, wab, wt⟩ | ⟨ho, ha, hb, hc, wa, wb, wc⟩ | ⟨ho, ha, eb, wl⟩ | ⟨ho, ha, eb, wl⟩ | ⟨ho, ha, hb, wa, wt⟩
  · exact absurd h h21
  · exact absurd h h22
  · have la := oA_lt ha (by omega)
    have na := hM _ la
    rw [wa] at na
    rcases ho with ho | ho
    · rw [ho, apr_0]
      rw [show fx_Terms_widthOf S (fA S 5 (3 * i)) = fA S 4 i from wa]
      exact nrm_one hw na
    · rw [ho, apr_1]
      rw [show fx_Terms_widthOf S (fA S 5 (3 * i)) = fA S 4 i from wa]
      exact nrm_one hw na
  · have la := oA_lt ha (by omega)
    have na := hM _ la
    have lb := oB_lt hb (by omega)
    have nb := hM _ lb
    rw [wa] at na
    rw [wb] at nb
    rcases ho with ho | ho | ho | ho | ho | ho | ho | ho | ho
    · rw [ho, apr_2]
      rw [show fx_Terms_widthOf S (fA S 5 (3 * i)) = fA S 4 i from wa]
      exact nrm_two hw (by decide) na nb
    · rw [ho, apr_3]
      rw [show fx_Terms_widthOf S (fA S 5 (3 * i)) = fA S 4 i from wa]
      exact nrm_two hw (by decide) na nb
    · rw [ho, apr_4]
      rw [show fx_Terms_widthOf S (fA S 5 (3 * i)) = fA S 4 i from wa]
      exact nrm_two hw (by decide) na nb
    · rw [ho, apr_5]
      rw [show fx_Terms_widthOf S (fA S 5 (3 * i)) = fA S 4 i from wa]
      exact nrm_two hw (by decide) na nb
    · rw [ho, apr_6]
      rw [show fx_Terms_widthOf S (fA S 5 (3 * i)) = fA S 4 i from wa]
      exact nrm_two hw (by decide) na nb
    · rw [ho, apr_7]
      rw [show fx_Terms_widthOf S (fA S 5 (3 * i)) = fA S 4 i from wa]
      exact nrm_two hw (by decide) na nb
    · rw [ho, apr_10]
      rw [show fx_Terms_widthOf S (fA S 5 (3 * i)) = fA S 4 i from wa]
      exact nrm_mov hw na
    · rw [ho, apr_11]
      rw [show fx_Terms_widthOf S (fA S 5 (3 * i)) = fA S 4 i from wa]
      exact nrm_mov hw na
    · rw [ho, apr_12]
      rw [show fx_Terms_widthOf S (fA S 5 (3 * i)) = fA S 4 i from wa]
      exact nrm_mov hw na
  · have la := oA_lt ha (by omega)
    have na := hM _ la
    have lb := oB_lt hb (by omega)
    have nb := hM _ lb
    rw [wa] at na
    rw [wb] at nb
    rw [wt]
    rcases ho with ho | ho
    · rw [ho, apr_8]
      rw [show fx_Terms_widthOf S (fA S 5 (3 * i)) = 8 from wa]
      exact nrm_div (Or.inr (Or.inl rfl)) na
    · rw [ho, apr_9]
      rw [show fx_Terms_widthOf S (fA S 5 (3 * i)) = 8 from wa]
      exact nrm_div (Or.inr (Or.inl rfl)) na
  · have la := oA_lt ha (by omega)
    have na := hM _ la
    have lb := oB_lt hb (by omega)
    have nb := hM _ lb
    rcases ho with ho | ho | ho
    · rw [ho, apr_13]
      rw [wt]
      exact nrm_cmp (Or.inl rfl) (by decide)
    · rw [ho, apr_14]
      rw [wt]
      exact nrm_cmp (Or.inl rfl) (by decide)
    · rw [ho, apr_15]
      rw [wt]
      exact nrm_cmp (Or.inl rfl) (by decide)
  · have la := oA_lt ha (by omega)
    have na := hM _ la
    have lb := oB_lt hb (by omega)
    have nb := hM _ lb
    have lc := oC_lt hc (by omega)
    have nc := hM _ lc
    rw [ho, apr_16]
    rw [← wb]
    split
    · rw [wb, ← wc]; exact nc
    · exact nb
  · have la := oA_lt ha (by omega)
    have na := hM _ la
    rcases ho with ho | ho
    · rw [ho, apr_17]
      rw [eb]
      exact nrm_wide (hW _ la) hw wl (by decide) na
    · rw [ho, apr_18]
      rw [eb]
      exact nrm_wide (hW _ la) hw wl (by decide) na
  · have la := oA_lt ha (by omega)
    have na := hM _ la
    rw [ho, apr_19]
    rw [eb, fx_Op_resized, if_neg (show ¬ (19 : Int32) = 17 by decide), if_pos rfl]
    exact nrm_rs hw _
  · have la := oA_lt ha (by omega)
    have na := hM _ la
    rw [ho, apr_20]
    rw [wt, fx_Tabs_lookUp]
    obtain ⟨j, hj, e⟩ := vp_in_of (wl_lk hb (fL S 2 (fA S 5 (3 * i)).toNatClampNeg)) (by decide)
    rw [e, nI_clamp (by omega)]
    exact htab j hj
theorem nrm_readAt {S : XS} {v : Nat} {asg : Int32} (hv : v < 4) (h : XVv S v) : nrm 8 (fx_Vars_readAt S (nI v) asg) := by
  obtain ⟨b, lo, h1, h2, h3, e0, e1⟩ := h
  rw [fx_Vars_readAt]
  split
  · exact nrm_rs (Or.inr (Or.inl rfl)) _
  · rw [nI_clamp (by omega), e0]
    exact nrm_mono (k2 := 8) h1 h2 (by decide) (nrm_rsk h1 (by omega) _)
theorem wl_nmC {st S1 : XS} {V N i : Nat} (hE : XF [] [] [2] st S1) (hM : XM S1 N) (hX : XT st V N) (hlt : i < N) (h64 : N ≤ 64) (c52 : fx_Terms_operationOf S1 (nI i) = 21) : XM (wL S1 2 (nI i).toNatClampNeg (fL S1 1 (nI i).toNatClampNeg)) N := by
  have hX1 := hX.fr hE (by decide) (by decide)
  rw [wl_opo (by omega)] at c52
  rw [nI_clamp (by omega)]
  exact hM.w ((hX1.1 i hlt).o21 c52)
theorem wl_nmV {st S1 : XS} {V N i : Nat} {asg : Int32} (hE : XF [] [] [2] st S1) (hM : XM S1 N) (hX : XT st V N) (hlt : i < N) (h64 : N ≤ 64) (hV4 : V ≤ 4) (c77 : fx_Terms_operationOf S1 (nI i) = 22) : XM (wL S1 2 (nI i).toNatClampNeg (fx_Vars_readAt S1 (fx_Terms_operandOf S1 (nI i) (0 : Int32)) asg)) N := by
  have hX1 := hX.fr hE (by decide) (by decide)
  rw [wl_opo (by omega)] at c77
  obtain ⟨hw8, hv⟩ := (hX1.1 i hlt).o22 c77
  obtain ⟨v, hv, e⟩ := vp_in_of hv (by omega)
  rw [nI_clamp (by omega), wl_op0 (by omega), e]
  refine hM.w ?_
  rw [hw8]
  exact nrm_readAt (by omega) (hX1.2.2 v hv)
theorem wl_nmO {st S1 : XS} {V N i : Nat} (hE : XF [] [] [2] st S1) (hM : XM S1 N) (hX : XT st V N) (hlt : i < N) (h64 : N ≤ 64) (c52 : ¬ fx_Terms_operationOf S1 (nI i) = 21) (c77 : ¬ fx_Terms_operationOf S1 (nI i) = 22) : XM (wL S1 2 (nI i).toNatClampNeg (fx_Eval_apply_r S1 (fx_Terms_operationOf S1 (nI i)) (fx_Terms_operandOf S1 (nI i) (0 : Int32)) (fx_Terms_operandOf S1 (nI i) (1 : Int32)) (fx_Terms_operandOf S1 (nI i) (2 : Int32)))) N := by
  have hX1 := hX.fr hE (by decide) (by decide)
  rw [wl_opo (by omega)] at *
  rw [nI_clamp (by omega), wl_op0 (by omega), wl_op1 (by omega), wl_op2 (by omega)]
  exact hM.w (nrm_op (by omega) (hX1.1 i hlt) (fun j hj => hM j (by omega)) (fun j hj => (hX1.1 j (by omega)).1) hX1.2.1 c52 c77)
theorem wl_jlt {j c : Nat} (hj : j < 3) (hc : c < 4) (h : nI j < nI c) : j < c := (nI_ltI (by omega) (by omega)).mp h
theorem wl_opsX {S : XS} {V N : Nat} (hX : XT S V N) (h64 : N ≤ 64) : ∀ t j : Nat, t < N → j < 3 → nI j < fx_Op_namedTerms (fA S 3 t) → vp_in (fA S 5 (3 * t + j)) 64 := by
  intro t j ht hj h
  have up : ∀ {x : Int32}, vp_in x t → vp_in x 64 := fun h => vp_up h (by omega)
  obtain ⟨hw, q⟩ := hX.1 t ht
  rcases q with ⟨ho, _⟩ | ⟨ho, _⟩ | ⟨ho, ha, _⟩ | ⟨ho, ha, hb, _⟩ | ⟨ho, ha, hb, _⟩ | ⟨ho, ha, hb, _⟩ | ⟨ho, ha, hb, hc, _⟩ | ⟨ho, ha, _⟩ | ⟨ho, ha, _⟩ | ⟨ho, ha, hb, _⟩
  · skip
    rw [ho] at h
    have hj2 : j < 0 := wl_jlt hj (by decide) (show nI j < nI 0 from h)
    omega
  · skip
    rw [ho] at h
    have hj2 : j < 0 := wl_jlt hj (by decide) (show nI j < nI 0 from h)
    omega
  · rcases ho with ho | ho
    · rw [ho] at h
      have hj2 : j < 1 := wl_jlt hj (by decide) (show nI j < nI 1 from h)
      obtain rfl : j = 0 := by omega
      exact up ha
    · rw [ho] at h
      have hj2 : j < 1 := wl_jlt hj (by decide) (show nI j < nI 1 from h)
      obtain rfl : j = 0 := by omega
      exact up ha
  · rcases ho with ho | ho | ho | ho | ho | ho | ho | ho | ho
    · rw [ho] at h
      have hj2 : j < 2 := wl_jlt hj (by decide) (show nI j < nI 2 from h)
      rcases (show j = 0 ∨ j = 1 by omega) with rfl | rfl
      · exact up ha
      · exact up hb
    · rw [ho] at h
      have hj2 : j < 2 := wl_jlt hj (by decide) (show nI j < nI 2 from h)
      rcases (show j = 0 ∨ j = 1 by omega) with rfl | rfl
      · exact up ha
      · exact up hb
    · rw [ho] at h
      have hj2 : j < 2 := wl_jlt hj (by decide) (show nI j < nI 2 from h)
      rcases (show j = 0 ∨ j = 1 by omega) with rfl | rfl
      · exact up ha
      · exact up hb
    · rw [ho] at h
      have hj2 : j < 2 := wl_jlt hj (by decide) (show nI j < nI 2 from h)
      rcases (show j = 0 ∨ j = 1 by omega) with rfl | rfl
      · exact up ha
      · exact up hb
    · rw [ho] at h
      have hj2 : j < 2 := wl_jlt hj (by decide) (show nI j < nI 2 from h)
      rcases (show j = 0 ∨ j = 1 by omega) with rfl | rfl
      · exact up ha
      · exact up hb
    · rw [ho] at h
      have hj2 : j < 2 := wl_jlt hj (by decide) (show nI j < nI 2 from h)
      rcases (show j = 0 ∨ j = 1 by omega) with rfl | rfl
      · exact up ha
      · exact up hb
    · rw [ho] at h
      have hj2 : j < 2 := wl_jlt hj (by decide) (show nI j < nI 2 from h)
      rcases (show j = 0 ∨ j = 1 by omega) with rfl | rfl
      · exact up ha
      · exact up hb
    · rw [ho] at h
      have hj2 : j < 2 := wl_jlt hj (by decide) (show nI j < nI 2 from h)
      rcases (show j = 0 ∨ j = 1 by omega) with rfl | rfl
      · exact up ha
      · exact up hb
    · rw [ho] at h
      have hj2 : j < 2 := wl_jlt hj (by decide) (show nI j < nI 2 from h)
      rcases (show j = 0 ∨ j = 1 by omega) with rfl | rfl
      · exact up ha
      · exact up hb
  · rcases ho with ho | ho
    · rw [ho] at h
      have hj2 : j < 2 := wl_jlt hj (by decide) (show nI j < nI 2 from h)
      rcases (show j = 0 ∨ j = 1 by omega) with rfl | rfl
      · exact up ha
      · exact up hb
    · rw [ho] at h
      have hj2 : j < 2 := wl_jlt hj (by decide) (show nI j < nI 2 from h)
      rcases (show j = 0 ∨ j = 1 by omega) with rfl | rfl
      · exact up ha
      · exact up hb
  · rcases ho with ho | ho | ho
    · rw [ho] at h
      have hj2 : j < 2 := wl_jlt hj (by decide) (show nI j < nI 2 from h)
      rcases (show j = 0 ∨ j = 1 by omega) with rfl | rfl
      · exact up ha
      · exact up hb
    · rw [ho] at h
      have hj2 : j < 2 := wl_jlt hj (by decide) (show nI j < nI 2 from h)
      rcases (show j = 0 ∨ j = 1 by omega) with rfl | rfl
      · exact up ha
      · exact up hb
    · rw [ho] at h
      have hj2 : j < 2 := wl_jlt hj (by decide) (show nI j < nI 2 from h)
      rcases (show j = 0 ∨ j = 1 by omega) with rfl | rfl
      · exact up ha
      · exact up hb
  · skip
    rw [ho] at h
    have hj2 : j < 3 := wl_jlt hj (by decide) (show nI j < nI 3 from h)
    rcases (show j = 0 ∨ j = 1 ∨ j = 2 by omega) with rfl | rfl | rfl
    · exact up ha
    · exact up hb
    · exact up hc
  · rcases ho with ho | ho
    · rw [ho] at h
      have hj2 : j < 1 := wl_jlt hj (by decide) (show nI j < nI 1 from h)
      obtain rfl : j = 0 := by omega
      exact up ha
    · rw [ho] at h
      have hj2 : j < 1 := wl_jlt hj (by decide) (show nI j < nI 1 from h)
      obtain rfl : j = 0 := by omega
      exact up ha
  · skip
    rw [ho] at h
    have hj2 : j < 1 := wl_jlt hj (by decide) (show nI j < nI 1 from h)
    obtain rfl : j = 0 := by omega
    exact up ha
  · skip
    rw [ho] at h
    have hj2 : j < 1 := wl_jlt hj (by decide) (show nI j < nI 1 from h)
    obtain rfl : j = 0 := by omega
    exact up ha
end
section
theorem mw_128 : (.fieldLink RX5 13 RX5 "variables" "LPathSolver$Variables;" : Cond) ∈ AW := List.mem_filter.mpr ⟨List.mem_of_getElem? (i := 128) (by decide +kernel), rfl⟩
theorem mw_519 : (.code yX2_readAt cX2_readAt 3 (some .long) : Cond) ∈ AW := List.mem_filter.mpr ⟨List.mem_of_getElem? (i := 519) (by decide +kernel), rfl⟩
theorem mw_516 : (.methodLink RX5 62 yX2_readAt : Cond) ∈ AW := List.mem_filter.mpr ⟨List.mem_of_getElem? (i := 516) (by decide +kernel), rfl⟩
theorem mw_517 : (.instanceMethod yX2_readAt : Cond) ∈ AW := List.mem_filter.mpr ⟨List.mem_of_getElem? (i := 517) (by decide +kernel), rfl⟩
theorem mw_518 : (.selects RX2 yX2_readAt yX2_readAt : Cond) ∈ AW := List.mem_filter.mpr ⟨List.mem_of_getElem? (i := 518) (by decide +kernel), rfl⟩
theorem gX5_62 : GoodIn AW (wsV RX5 62 RX2 yX2_readAt wsX2_readAt) := aw_V mw_516 mw_517 mw_518 mw_39 mw_519
theorem dX5_evaluateNeeded_0 : decode cX5_evaluateNeeded 0 = .ok (.aload_n 0, 1) := by decide +kernel
theorem dX5_evaluateNeeded_1 : decode cX5_evaluateNeeded 1 = .ok (.getfield 7, 3) := by decide +kernel
theorem dX5_evaluateNeeded_4 : decode cX5_evaluateNeeded 4 = .ok (.invokevirtual 41, 3) := by decide +kernel
theorem dX5_evaluateNeeded_7 : decode cX5_evaluateNeeded 7 = .ok (.istore_n 2, 1) := by decide +kernel
theorem dX5_evaluateNeeded_8 : decode cX5_evaluateNeeded 8 = .ok (.iconst 0, 1) := by decide +kernel
theorem dX5_evaluateNeeded_9 : decode cX5_evaluateNeeded 9 = .ok (.istore_n 3, 1) := by decide +kernel
theorem dX5_evaluateNeeded_10 : decode cX5_evaluateNeeded 10 = .ok (.iload_n 3, 1) := by decide +kernel
theorem dX5_evaluateNeeded_11 : decode cX5_evaluateNeeded 11 = .ok (.iload_n 2, 1) := by decide +kernel
theorem dX5_evaluateNeeded_12 : decode cX5_evaluateNeeded 12 = .ok (.if_icmp .ge 133, 3) := by decide +kernel
theorem dX5_evaluateNeeded_15 : decode cX5_evaluateNeeded 15 = .ok (.aload_n 0, 1) := by decide +kernel
theorem dX5_evaluateNeeded_16 : decode cX5_evaluateNeeded 16 = .ok (.getfield 27, 3) := by decide +kernel
theorem dX5_evaluateNeeded_19 : decode cX5_evaluateNeeded 19 = .ok (.iload_n 3, 1) := by decide +kernel
theorem dX5_evaluateNeeded_20 : decode cX5_evaluateNeeded 20 = .ok (.baload, 1) := by decide +kernel
theorem dX5_evaluateNeeded_21 : decode cX5_evaluateNeeded 21 = .ok (.ifCond .ne 6, 3) := by decide +kernel
theorem dX5_evaluateNeeded_24 : decode cX5_evaluateNeeded 24 = .ok (.goto 115, 3) := by decide +kernel
theorem dX5_evaluateNeeded_27 : decode cX5_evaluateNeeded 27 = .ok (.aload_n 0, 1) := by decide +kernel
theorem dX5_evaluateNeeded_28 : decode cX5_evaluateNeeded 28 = .ok (.getfield 7, 3) := by decide +kernel
theorem dX5_evaluateNeeded_31 : decode cX5_evaluateNeeded 31 = .ok (.iload_n 3, 1) := by decide +kernel
theorem dX5_evaluateNeeded_32 : decode cX5_evaluateNeeded 32 = .ok (.invokevirtual 45, 3) := by decide +kernel
theorem dX5_evaluateNeeded_35 : decode cX5_evaluateNeeded 35 = .ok (.istore 4, 2) := by decide +kernel
theorem dX5_evaluateNeeded_37 : decode cX5_evaluateNeeded 37 = .ok (.aload_n 0, 1) := by decide +kernel
theorem dX5_evaluateNeeded_38 : decode cX5_evaluateNeeded 38 = .ok (.getfield 7, 3) := by decide +kernel
theorem dX5_evaluateNeeded_41 : decode cX5_evaluateNeeded 41 = .ok (.iload_n 3, 1) := by decide +kernel
theorem dX5_evaluateNeeded_42 : decode cX5_evaluateNeeded 42 = .ok (.iconst 0, 1) := by decide +kernel
theorem dX5_evaluateNeeded_43 : decode cX5_evaluateNeeded 43 = .ok (.invokevirtual 54, 3) := by decide +kernel
theorem dX5_evaluateNeeded_46 : decode cX5_evaluateNeeded 46 = .ok (.istore 5, 2) := by decide +kernel
theorem dX5_evaluateNeeded_48 : decode cX5_evaluateNeeded 48 = .ok (.iload 4, 2) := by decide +kernel
theorem dX5_evaluateNeeded_50 : decode cX5_evaluateNeeded 50 = .ok (.bipush 21, 2) := by decide +kernel
theorem dX5_evaluateNeeded_52 : decode cX5_evaluateNeeded 52 = .ok (.if_icmp .ne 21, 3) := by decide +kernel
theorem dX5_evaluateNeeded_55 : decode cX5_evaluateNeeded 55 = .ok (.aload_n 0, 1) := by decide +kernel
theorem dX5_evaluateNeeded_56 : decode cX5_evaluateNeeded 56 = .ok (.getfield 23, 3) := by decide +kernel
theorem dX5_evaluateNeeded_59 : decode cX5_evaluateNeeded 59 = .ok (.iload_n 3, 1) := by decide +kernel
theorem dX5_evaluateNeeded_60 : decode cX5_evaluateNeeded 60 = .ok (.aload_n 0, 1) := by decide +kernel
theorem dX5_evaluateNeeded_61 : decode cX5_evaluateNeeded 61 = .ok (.getfield 7, 3) := by decide +kernel
theorem dX5_evaluateNeeded_64 : decode cX5_evaluateNeeded 64 = .ok (.invokevirtual 58, 3) := by decide +kernel
theorem dX5_evaluateNeeded_67 : decode cX5_evaluateNeeded 67 = .ok (.iload_n 3, 1) := by decide +kernel
theorem dX5_evaluateNeeded_68 : decode cX5_evaluateNeeded 68 = .ok (.laload, 1) := by decide +kernel
theorem dX5_evaluateNeeded_69 : decode cX5_evaluateNeeded 69 = .ok (.lastore, 1) := by decide +kernel
theorem dX5_evaluateNeeded_70 : decode cX5_evaluateNeeded 70 = .ok (.goto 69, 3) := by decide +kernel
theorem dX5_evaluateNeeded_73 : decode cX5_evaluateNeeded 73 = .ok (.iload 4, 2) := by decide +kernel
theorem dX5_evaluateNeeded_75 : decode cX5_evaluateNeeded 75 = .ok (.bipush 22, 2) := by decide +kernel
theorem dX5_evaluateNeeded_77 : decode cX5_evaluateNeeded 77 = .ok (.if_icmp .ne 22, 3) := by decide +kernel
theorem dX5_evaluateNeeded_80 : decode cX5_evaluateNeeded 80 = .ok (.aload_n 0, 1) := by decide +kernel
theorem dX5_evaluateNeeded_81 : decode cX5_evaluateNeeded 81 = .ok (.getfield 23, 3) := by decide +kernel
theorem dX5_evaluateNeeded_84 : decode cX5_evaluateNeeded 84 = .ok (.iload_n 3, 1) := by decide +kernel
theorem dX5_evaluateNeeded_85 : decode cX5_evaluateNeeded 85 = .ok (.aload_n 0, 1) := by decide +kernel
theorem dX5_evaluateNeeded_86 : decode cX5_evaluateNeeded 86 = .ok (.getfield 13, 3) := by decide +kernel
theorem dX5_evaluateNeeded_89 : decode cX5_evaluateNeeded 89 = .ok (.iload 5, 2) := by decide +kernel
theorem dX5_evaluateNeeded_91 : decode cX5_evaluateNeeded 91 = .ok (.iload_n 1, 1) := by decide +kernel
theorem dX5_evaluateNeeded_92 : decode cX5_evaluateNeeded 92 = .ok (.invokevirtual 62, 3) := by decide +kernel
theorem dX5_evaluateNeeded_95 : decode cX5_evaluateNeeded 95 = .ok (.lastore, 1) := by decide +kernel
theorem dX5_evaluateNeeded_96 : decode cX5_evaluateNeeded 96 = .ok (.goto 43, 3) := by decide +kernel
theorem dX5_evaluateNeeded_99 : decode cX5_evaluateNeeded 99 = .ok (.aload_n 0, 1) := by decide +kernel
theorem dX5_evaluateNeeded_100 : decode cX5_evaluateNeeded 100 = .ok (.getfield 7, 3) := by decide +kernel
theorem dX5_evaluateNeeded_103 : decode cX5_evaluateNeeded 103 = .ok (.iload_n 3, 1) := by decide +kernel
theorem dX5_evaluateNeeded_104 : decode cX5_evaluateNeeded 104 = .ok (.iconst 1, 1) := by decide +kernel
theorem dX5_evaluateNeeded_105 : decode cX5_evaluateNeeded 105 = .ok (.invokevirtual 54, 3) := by decide +kernel
theorem dX5_evaluateNeeded_108 : decode cX5_evaluateNeeded 108 = .ok (.istore 6, 2) := by decide +kernel
theorem dX5_evaluateNeeded_110 : decode cX5_evaluateNeeded 110 = .ok (.aload_n 0, 1) := by decide +kernel
theorem dX5_evaluateNeeded_111 : decode cX5_evaluateNeeded 111 = .ok (.getfield 23, 3) := by decide +kernel
theorem dX5_evaluateNeeded_114 : decode cX5_evaluateNeeded 114 = .ok (.iload_n 3, 1) := by decide +kernel
theorem dX5_evaluateNeeded_115 : decode cX5_evaluateNeeded 115 = .ok (.aload_n 0, 1) := by decide +kernel
theorem dX5_evaluateNeeded_116 : decode cX5_evaluateNeeded 116 = .ok (.iload 4, 2) := by decide +kernel
theorem dX5_evaluateNeeded_118 : decode cX5_evaluateNeeded 118 = .ok (.iload 5, 2) := by decide +kernel
theorem dX5_evaluateNeeded_120 : decode cX5_evaluateNeeded 120 = .ok (.iload 6, 2) := by decide +kernel
theorem dX5_evaluateNeeded_122 : decode cX5_evaluateNeeded 122 = .ok (.aload_n 0, 1) := by decide +kernel
theorem dX5_evaluateNeeded_123 : decode cX5_evaluateNeeded 123 = .ok (.getfield 7, 3) := by decide +kernel
theorem dX5_evaluateNeeded_126 : decode cX5_evaluateNeeded 126 = .ok (.iload_n 3, 1) := by decide +kernel
theorem dX5_evaluateNeeded_127 : decode cX5_evaluateNeeded 127 = .ok (.iconst 2, 1) := by decide +kernel
theorem dX5_evaluateNeeded_128 : decode cX5_evaluateNeeded 128 = .ok (.invokevirtual 54, 3) := by decide +kernel
theorem dX5_evaluateNeeded_131 : decode cX5_evaluateNeeded 131 = .ok (.aload_n 0, 1) := by decide +kernel
theorem dX5_evaluateNeeded_132 : decode cX5_evaluateNeeded 132 = .ok (.getfield 23, 3) := by decide +kernel
theorem dX5_evaluateNeeded_135 : decode cX5_evaluateNeeded 135 = .ok (.invokevirtual 68, 3) := by decide +kernel
theorem dX5_evaluateNeeded_138 : decode cX5_evaluateNeeded 138 = .ok (.lastore, 1) := by decide +kernel
theorem dX5_evaluateNeeded_139 : decode cX5_evaluateNeeded 139 = .ok (.iinc 3 1, 3) := by decide +kernel
theorem dX5_evaluateNeeded_142 : decode cX5_evaluateNeeded 142 = .ok (.goto (-132), 3) := by decide +kernel
theorem dX5_evaluateNeeded_145 : decode cX5_evaluateNeeded 145 = .ok (.return_, 1) := by decide +kernel
def fx_Eval_evaluateNeeded_L10 (st : XS) (asg : Int32) : Nat → Nat → XS → XS
  | 0, i, S1 => S1
  | n + 1, i, S1 => 
    if fx_Terms_size st ≤ nI i then S1
    else 
      if fA S1 7 (nI i).toNatClampNeg = (0 : Int32) then fx_Eval_evaluateNeeded_L10 st asg n (i + 1) S1
      else 
        if fx_Terms_operationOf S1 (nI i) = (21 : Int32) then fx_Eval_evaluateNeeded_L10 st asg n (i + 1) (wL S1 2 ((nI i).toNatClampNeg) (fL S1 1 (nI i).toNatClampNeg))
        else 
          if fx_Terms_operationOf S1 (nI i) = (22 : Int32) then fx_Eval_evaluateNeeded_L10 st asg n (i + 1) (wL S1 2 ((nI i).toNatClampNeg) (fx_Vars_readAt S1 (fx_Terms_operandOf S1 (nI i) (0 : Int32)) asg))
          else fx_Eval_evaluateNeeded_L10 st asg n (i + 1) (wL S1 2 ((nI i).toNatClampNeg) (fx_Eval_apply_r S1 (fx_Terms_operationOf S1 (nI i)) (fx_Terms_operandOf S1 (nI i) (0 : Int32)) (fx_Terms_operandOf S1 (nI i) (1 : Int32)) (fx_Terms_operandOf S1 (nI i) (2 : Int32))))
def fx_Eval_evaluateNeeded (st : XS) (asg : Int32) : XS := fx_Eval_evaluateNeeded_L10 st asg 65 0 st
theorem fr_Eval_evaluateNeeded_L10 {S0 : XS} (st : XS) (asg : Int32) : ∀ (n : Nat) (i : Nat) (S1 : XS), XF [] [] [2] S0 S1 → XF [] [] [2] S0 (fx_Eval_evaluateNeeded_L10 st asg n i S1) := by
  intro n
  induction n with
  | zero => intro i S1 h; exact h
  | succ n ih =>
    intro i S1 h
    rw [fx_Eval_evaluateNeeded_L10]
    exact (wl_ite (P := fun (q : XS) => XF [] [] [2] _ (q)) h (wl_ite (P := fun (q : XS) => XF [] [] [2] _ (q)) (ih _ _ h) (wl_ite (P := fun (q : XS) => XF [] [] [2] _ (q)) (ih _ _ (XF.wL (by decide) h)) (wl_ite (P := fun (q : XS) => XF [] [] [2] _ (q)) (ih _ _ (XF.wL (by decide) h)) (ih _ _ (XF.wL (by decide) h))))))
theorem ff_Eval_evaluateNeeded (st : XS) (asg : Int32) : XF [] [] [2] st (fx_Eval_evaluateNeeded st asg) := by
  rw [fx_Eval_evaluateNeeded]
  exact (fr_Eval_evaluateNeeded_L10 _ _ _ _ _ XF.rf)
set_option maxHeartbeats 4000000 in
set_option maxRecDepth 100000 in
theorem kx_Eval_evaluateNeeded (l : Launch) (dC : Nat → ClassId) (dI : Nat → Nat → Nat) (a : Nat → Nat) (k : Nat → ClassId) (st : XS) (asg : Int32) (sz : Nat) (N : Nat) (hN : gI st 6 = nI N) (h64 : N ≤ 64) (V : Nat) (hV4 : V ≤ 4) (hX : XT st V N) (hM0 : XM st N) : Met l yX5_evaluateNeeded wsX5_evaluateNeeded ({ frames := 3, cells := 0, slots := 0, locals := 80 }) (va_Pc [.ref (a 13), .int asg] (wl_pre (dC, dI) vwCl (xt k) (xw a k) st sz)) (va_Qv (fun u9 => u9 = fx_Eval_evaluateNeeded st asg) (wl_at (dC, dI) vwCl (xt k) (xw a k) (va_A (xw a k st) sz)) (va_A (xw a k st) sz)) 0 0 (va_A (xw a k st) sz) := by
  refine Met.ofW (cc := cX5_evaluateNeeded) (maxL := 7) (ret := none) (by decide) rfl ?_
  intro p e s m args below meth c s₁ B hml hv
  obtain ⟨rfl, hsz, hP, hK, hD0⟩ := hv
  have hx := B.exec
  have hb := B.bytes
  have hr := B.returns
  have hta := aw_hts (atoms_spec (ws := wsX5_evaluateNeeded) B.pre)
  have hown : s.vm.findClass RX5 = some m.cls := findClass_of_methodNamed B.named
  have hlocks := B.notSynchronized
  have hf7 := hta _ mw_127
  have hf27 := hta _ mw_131
  have hf23 := hta _ mw_130
  have hf13 := hta _ mw_128
  subst hsz
  have hD := hD0.self (sz := s.heap.size)
  generalize hAe : va_A (xw a k st) s.heap.size = A at hD ⊢
  have hAz : ∀ q : Nat, s.heap.size ≤ q → A q := fun q h => by rw [← hAe]; exact Or.inr h
  have hS : va_S A s.heap s.heap [] := va_S.rf
  have hl := lv_entry ([.ref (a 13), .int asg]) (n := 7) (Nat.le_of_ble_eq_true rfl)
  rw [lg_entry_eq]
  generalize (lg_sl ([.ref (a 13), .int asg]) ++ List.replicate (7 - (lg_sl ([.ref (a 13), .int asg])).length) Slot.unset).toArray = ls at hl ⊢
  have hl : lv_has ls 7 [(0, .ref (a 13)), (1, .int asg)] := hl
  generalize hR : fx_Eval_evaluateNeeded st asg = R
  rw [fx_Eval_evaluateNeeded] at hR
  refine lv_aload_n hx hb dX5_evaluateNeeded_0 rfl (lv_at hl 0 rfl) ?_
  refine va_get (D := (dC, dI)) (ci := 3) (v := .ref (a 7)) (C := RX5) (T := TX5) (N := 5) hx hb hta inX5 hown hK hP 13 (xr_13 a k st) rfl 0 (by decide) hf7 (fun _ h9 => h9) rfl dX5_evaluateNeeded_1 ?_
  refine wl_ci (va_runV (As := []) (rest := []) ⟨hx, hb, hml, hown, hta⟩ (kx_Terms_size l dC dI a k st) (cwV 0 hta gX5_41 rfl rfl rfl (by decide +kernel) ⟨Nat.le_of_ble_eq_true rfl, Nat.le_of_ble_eq_true rfl⟩) (wl_pR (C := RX4) (ci := 2) (q0 := 7) hK hP rfl (xr_7 a k st)) rfl rfl hl.1 rfl (lv_room (Nat.le_of_ble_eq_true rfl)) dX5_evaluateNeeded_4 ⟨Nat.zero_le _, Nat.zero_le _⟩) ?_
  refine lv_istore_n (lv' := [(2, .int (fx_Terms_size st)), (0, .ref (a 13)), (1, .int asg)]) hx hb dX5_evaluateNeeded_7 rfl hl (by decide) rfl (fun ls hl => ?_)
  refine lv_iconst (v := (0 : Int32)) hx hb dX5_evaluateNeeded_8 (by decide) ?_
  refine lv_istore_n (lv' := [(3, .int (0 : Int32)), (2, .int (fx_Terms_size st)), (0, .ref (a 13)), (1, .int asg)]) hx hb dX5_evaluateNeeded_9 rfl hl (by decide) rfl (fun ls hl => ?_)
  have L10 : ∀ (n : Nat) (i : Nat) (S1 : XS) (H : Heap) (locs : List Loc) (ls : Array Slot), fx_Eval_evaluateNeeded_L10 st asg n i S1 = R → (i ≤ N) → (XF [] [] [2] st S1) → (XM S1 N) → N - i < n → va_P (dC, dI) vwCl (xw a k S1) H → va_D A (xw a k S1) → va_S A s.heap H locs → lv_has ls 7 [(3, .int (nI i)), (2, .int (fx_Terms_size st)), (0, .ref (a 13)), (1, .int asg)] → W p l e (headSpec wsX5_evaluateNeeded ({ frames := 3, cells := 0, slots := 0, locals := 80 })).room s m ([.ref (a 13), .int asg] : List Value).toArray below meth c H locs 0 0 (MQ below (va_Qv (fun u9 => u9 = R) (wl_at (dC, dI) vwCl (xt k) (xw a k) A) A) ([.ref (a 13), .int asg] : List Value).toArray s 0 0 A) (F0 m 10 ls []) := by
    intro n
    induction n with
    | zero =>
      intro i S1 H locs ls hR hi hE hM hm hP hD hS hl
      exact absurd hm (Nat.not_lt_zero _)
    | succ n ih =>
      intro i S1 H locs ls hR hi hE hM hm hP hD hS hl
      rw [fx_Eval_evaluateNeeded_L10] at hR
      refine lv_iload_n hx hb dX5_evaluateNeeded_10 rfl (lv_at hl 0 rfl) ?_
      refine lv_iload_n hx hb dX5_evaluateNeeded_11 rfl (lv_at hl 1 rfl) ?_
      refine lv_icmp_ge (tgt := 145) hx hb dX5_evaluateNeeded_12 (by decide) (fun c12 => ?_) (fun c12 => ?_)
      · skip
        rw [if_pos c12] at hR
        exact W.vret hx hb hr (fun t ht hW => ⟨⟨_, rfl, hR, by rw [ht]; exact hP, va_K.moved hW.alike hK, hD⟩, hS.F ht⟩) hS.2.2 dX5_evaluateNeeded_145
      · skip
        rw [if_neg c12] at hR
        have hlt : i < N := wl_lt (by rw [← hN]; exact c12) (by omega)
        refine lv_aload_n hx hb dX5_evaluateNeeded_15 rfl (lv_at hl 2 rfl) ?_
        refine va_get (D := (dC, dI)) (ci := 3) (v := .ref (a 15)) (C := RX5) (T := TX5) (N := 5) hx hb hta inX5 hown hK hP 13 (xr_13 a k S1) rfl 4 (by decide) hf27 (fun _ h9 => h9) rfl dX5_evaluateNeeded_16 ?_
        refine lv_iload_n hx hb dX5_evaluateNeeded_19 rfl (lv_at hl 0 rfl) ?_
        refine va_zald hx hb hK hP 15 10 (xr_15 a k S1) rfl (wl_in (by omega) (by decide)) dX5_evaluateNeeded_20 ?_
        refine lv_if_ne (tgt := 27) hx hb dX5_evaluateNeeded_21 (by decide) (fun c21 => ?_) (fun c21 => ?_)
        · skip
          rw [if_neg c21] at hR
          refine lv_aload_n hx hb dX5_evaluateNeeded_27 rfl (lv_at hl 2 rfl) ?_
          refine va_get (D := (dC, dI)) (ci := 3) (v := .ref (a 7)) (C := RX5) (T := TX5) (N := 5) hx hb hta inX5 hown hK hP 13 (xr_13 a k S1) rfl 0 (by decide) hf7 (fun _ h9 => h9) rfl dX5_evaluateNeeded_28 ?_
          refine lv_iload_n hx hb dX5_evaluateNeeded_31 rfl (lv_at hl 0 rfl) ?_
          refine wl_ci (va_runV (As := [.int (nI i)]) (rest := []) ⟨hx, hb, hml, hown, hta⟩ (kx_Terms_operationOf l dC dI a k S1 (nI i) (wl_in (by omega) (by decide))) (cwV 1 hta gX5_45 rfl rfl rfl (by decide +kernel) ⟨Nat.le_of_ble_eq_true rfl, Nat.le_of_ble_eq_true rfl⟩) (wl_pR (C := RX4) (ci := 2) (q0 := 7) hK hP rfl (xr_7 a k S1)) rfl rfl hl.1 rfl (lv_room (Nat.le_of_ble_eq_true rfl)) dX5_evaluateNeeded_32 ⟨Nat.zero_le _, Nat.zero_le _⟩) ?_
          refine lv_istore (lv' := [(4, .int (fx_Terms_operationOf S1 (nI i))), (3, .int (nI i)), (2, .int (fx_Terms_size st)), (0, .ref (a 13)), (1, .int asg)]) hx hb dX5_evaluateNeeded_35 hl (by decide) rfl (fun ls hl => ?_)
          refine lv_aload_n hx hb dX5_evaluateNeeded_37 rfl (lv_at hl 3 rfl) ?_
          refine va_get (D := (dC, dI)) (ci := 3) (v := .ref (a 7)) (C := RX5) (T := TX5) (N := 5) hx hb hta inX5 hown hK hP 13 (xr_13 a k S1) rfl 0 (by decide) hf7 (fun _ h9 => h9) rfl dX5_evaluateNeeded_38 ?_
          refine lv_iload_n hx hb dX5_evaluateNeeded_41 rfl (lv_at hl 1 rfl) ?_
          refine lv_iconst (v := (0 : Int32)) hx hb dX5_evaluateNeeded_42 (by decide) ?_
          refine wl_ci (va_runV (As := [.int (nI i), .int (0 : Int32)]) (rest := []) ⟨hx, hb, hml, hown, hta⟩ (kx_Terms_operandOf l dC dI a k S1 (nI i) (0 : Int32) (wl_i3 0 (by omega) (by decide))) (cwV 2 hta gX5_54 rfl rfl rfl (by decide +kernel) ⟨Nat.le_of_ble_eq_true rfl, Nat.le_of_ble_eq_true rfl⟩) (wl_pR (C := RX4) (ci := 2) (q0 := 7) hK hP rfl (xr_7 a k S1)) rfl rfl hl.1 rfl (lv_room (Nat.le_of_ble_eq_true rfl)) dX5_evaluateNeeded_43 ⟨Nat.zero_le _, Nat.zero_le _⟩) ?_
          refine lv_istore (lv' := [(5, .int (fx_Terms_operandOf S1 (nI i) (0 : Int32))), (4, .int (fx_Terms_operationOf S1 (nI i))), (3, .int (nI i)), (2, .int (fx_Terms_size st)), (0, .ref (a 13)), (1, .int asg)]) hx hb dX5_evaluateNeeded_46 hl (by decide) rfl (fun ls hl => ?_)
          refine lv_iload hx hb dX5_evaluateNeeded_48 (lv_at hl 1 rfl) ?_
          refine lv_bipush (v := (21 : Int32)) hx hb dX5_evaluateNeeded_50 (by decide) ?_
          refine lv_icmp_ne (tgt := 73) hx hb dX5_evaluateNeeded_52 (by decide) (fun c52 => ?_) (fun c52 => ?_)
          · skip
            rw [if_neg c52] at hR
            refine lv_iload hx hb dX5_evaluateNeeded_73 (lv_at hl 1 rfl) ?_
            refine lv_bipush (v := (22 : Int32)) hx hb dX5_evaluateNeeded_75 (by decide) ?_
            refine lv_icmp_ne (tgt := 99) hx hb dX5_evaluateNeeded_77 (by decide) (fun c77 => ?_) (fun c77 => ?_)
            · skip
              rw [if_neg c77] at hR
              obtain ⟨qA, qB, qC, qT, qV⟩ := wl_evop hE hM hX hlt h64 c52 c77
              refine lv_aload_n hx hb dX5_evaluateNeeded_99 rfl (lv_at hl 4 rfl) ?_
              refine va_get (D := (dC, dI)) (ci := 3) (v := .ref (a 7)) (C := RX5) (T := TX5) (N := 5) hx hb hta inX5 hown hK hP 13 (xr_13 a k S1) rfl 0 (by decide) hf7 (fun _ h9 => h9) rfl dX5_evaluateNeeded_100 ?_
              refine lv_iload_n hx hb dX5_evaluateNeeded_103 rfl (lv_at hl 2 rfl) ?_
              refine lv_iconst (v := (1 : Int32)) hx hb dX5_evaluateNeeded_104 (by decide) ?_
              refine wl_ci (va_runV (As := [.int (nI i), .int (1 : Int32)]) (rest := []) ⟨hx, hb, hml, hown, hta⟩ (kx_Terms_operandOf l dC dI a k S1 (nI i) (1 : Int32) (wl_i3 1 (by omega) (by decide))) (cwV 2 hta gX5_54 rfl rfl rfl (by decide +kernel) ⟨Nat.le_of_ble_eq_true rfl, Nat.le_of_ble_eq_true rfl⟩) (wl_pR (C := RX4) (ci := 2) (q0 := 7) hK hP rfl (xr_7 a k S1)) rfl rfl hl.1 rfl (lv_room (Nat.le_of_ble_eq_true rfl)) dX5_evaluateNeeded_105 ⟨Nat.zero_le _, Nat.zero_le _⟩) ?_
              refine lv_istore (lv' := [(6, .int (fx_Terms_operandOf S1 (nI i) (1 : Int32))), (5, .int (fx_Terms_operandOf S1 (nI i) (0 : Int32))), (4, .int (fx_Terms_operationOf S1 (nI i))), (3, .int (nI i)), (2, .int (fx_Terms_size st)), (0, .ref (a 13)), (1, .int asg)]) hx hb dX5_evaluateNeeded_108 hl (by decide) rfl (fun ls hl => ?_)
              refine lv_aload_n hx hb dX5_evaluateNeeded_110 rfl (lv_at hl 5 rfl) ?_
              refine va_get (D := (dC, dI)) (ci := 3) (v := .ref (a 14)) (C := RX5) (T := TX5) (N := 5) hx hb hta inX5 hown hK hP 13 (xr_13 a k S1) rfl 3 (by decide) hf23 (fun _ h9 => h9) rfl dX5_evaluateNeeded_111 ?_
              refine lv_iload_n hx hb dX5_evaluateNeeded_114 rfl (lv_at hl 3 rfl) ?_
              refine lv_aload_n hx hb dX5_evaluateNeeded_115 rfl (lv_at hl 5 rfl) ?_
              refine lv_iload hx hb dX5_evaluateNeeded_116 (lv_at hl 2 rfl) ?_
              refine lv_iload hx hb dX5_evaluateNeeded_118 (lv_at hl 1 rfl) ?_
              refine lv_iload hx hb dX5_evaluateNeeded_120 (lv_at hl 0 rfl) ?_
              refine lv_aload_n hx hb dX5_evaluateNeeded_122 rfl (lv_at hl 5 rfl) ?_
              refine va_get (D := (dC, dI)) (ci := 3) (v := .ref (a 7)) (C := RX5) (T := TX5) (N := 5) hx hb hta inX5 hown hK hP 13 (xr_13 a k S1) rfl 0 (by decide) hf7 (fun _ h9 => h9) rfl dX5_evaluateNeeded_123 ?_
              refine lv_iload_n hx hb dX5_evaluateNeeded_126 rfl (lv_at hl 3 rfl) ?_
              refine lv_iconst (v := (2 : Int32)) hx hb dX5_evaluateNeeded_127 (by decide) ?_
              refine wl_ci (va_runV (As := [.int (nI i), .int (2 : Int32)]) (rest := [.int (fx_Terms_operandOf S1 (nI i) (1 : Int32)), .int (fx_Terms_operandOf S1 (nI i) (0 : Int32)), .int (fx_Terms_operationOf S1 (nI i)), .ref (a 13), .int (nI i), .ref (a 14)]) ⟨hx, hb, hml, hown, hta⟩ (kx_Terms_operandOf l dC dI a k S1 (nI i) (2 : Int32) (wl_i3 2 (by omega) (by decide))) (cwV 2 hta gX5_54 rfl rfl rfl (by decide +kernel) ⟨Nat.le_of_ble_eq_true rfl, Nat.le_of_ble_eq_true rfl⟩) (wl_pR (C := RX4) (ci := 2) (q0 := 7) hK hP rfl (xr_7 a k S1)) rfl rfl hl.1 rfl (lv_room (Nat.le_of_ble_eq_true rfl)) dX5_evaluateNeeded_128 ⟨Nat.zero_le _, Nat.zero_le _⟩) ?_
              refine lv_aload_n hx hb dX5_evaluateNeeded_131 rfl (lv_at hl 5 rfl) ?_
              refine va_get (D := (dC, dI)) (ci := 3) (v := .ref (a 14)) (C := RX5) (T := TX5) (N := 5) hx hb hta inX5 hown hK hP 13 (xr_13 a k S1) rfl 3 (by decide) hf23 (fun _ h9 => h9) rfl dX5_evaluateNeeded_132 ?_
              refine wl_cl (va_runV (As := [.int (fx_Terms_operationOf S1 (nI i)), .int (fx_Terms_operandOf S1 (nI i) (0 : Int32)), .int (fx_Terms_operandOf S1 (nI i) (1 : Int32)), .int (fx_Terms_operandOf S1 (nI i) (2 : Int32)), .ref (a 14)]) (rest := [.int (nI i), .ref (a 14)]) ⟨hx, hb, hml, hown, hta⟩ (kx_Eval_apply_r l dC dI a k S1 (fx_Terms_operationOf S1 (nI i)) (fx_Terms_operandOf S1 (nI i) (0 : Int32)) (fx_Terms_operandOf S1 (nI i) (1 : Int32)) (fx_Terms_operandOf S1 (nI i) (2 : Int32)) qA qB qC qT qV) (cwV 5 hta gX5_68 rfl rfl rfl (by decide +kernel) ⟨Nat.le_of_ble_eq_true rfl, Nat.le_of_ble_eq_true rfl⟩) (wl_pR (C := RX5) (ci := 3) (q0 := 13) hK hP rfl (xr_13 a k S1)) rfl rfl hl.1 rfl (lv_room (Nat.le_of_ble_eq_true rfl)) dX5_evaluateNeeded_135 ⟨Nat.zero_le _, Nat.zero_le _⟩) ?_
              refine va_last hx hb hK hP hD hS 14 9 (xr_14 a k S1) rfl (wl_in (by omega) (by decide)) dX5_evaluateNeeded_138 (fun H locs hP hD hS => ?_)
              have hP := xp_L2 hP
              have hD := xd_L2 hD
              refine lv_iinc (v := nI (i + 1)) (lv' := [(3, .int (nI (i + 1))), (6, .int (fx_Terms_operandOf S1 (nI i) (1 : Int32))), (5, .int (fx_Terms_operandOf S1 (nI i) (0 : Int32))), (4, .int (fx_Terms_operationOf S1 (nI i))), (2, .int (fx_Terms_size st)), (0, .ref (a 13)), (1, .int asg)]) hx hb dX5_evaluateNeeded_139 hl (k := 3) rfl (nI_1 _) (by decide) rfl (fun ls hl => ?_)
              refine lv_goto (tgt := 10) hx hb dX5_evaluateNeeded_142 (by decide) ?_
              exact ih (i + 1) (wL S1 2 ((nI i).toNatClampNeg) (fx_Eval_apply_r S1 (fx_Terms_operationOf S1 (nI i)) (fx_Terms_operandOf S1 (nI i) (0 : Int32)) (fx_Terms_operandOf S1 (nI i) (1 : Int32)) (fx_Terms_operandOf S1 (nI i) (2 : Int32)))) _ _ ls hR (by omega) (XF.wL (by decide) hE) (wl_nmO hE hM hX hlt h64 c52 c77) (by omega) hP hD hS (lv_sub hl [0, 4, 5, 6] rfl)
            · skip
              rw [if_pos c77] at hR
              refine lv_aload_n hx hb dX5_evaluateNeeded_80 rfl (lv_at hl 4 rfl) ?_
              refine va_get (D := (dC, dI)) (ci := 3) (v := .ref (a 14)) (C := RX5) (T := TX5) (N := 5) hx hb hta inX5 hown hK hP 13 (xr_13 a k S1) rfl 3 (by decide) hf23 (fun _ h9 => h9) rfl dX5_evaluateNeeded_81 ?_
              refine lv_iload_n hx hb dX5_evaluateNeeded_84 rfl (lv_at hl 2 rfl) ?_
              refine lv_aload_n hx hb dX5_evaluateNeeded_85 rfl (lv_at hl 4 rfl) ?_
              refine va_get (D := (dC, dI)) (ci := 3) (v := .ref (a 1)) (C := RX5) (T := TX5) (N := 5) hx hb hta inX5 hown hK hP 13 (xr_13 a k S1) rfl 1 (by decide) hf13 (fun _ h9 => h9) rfl dX5_evaluateNeeded_86 ?_
              refine lv_iload hx hb dX5_evaluateNeeded_89 (lv_at hl 0 rfl) ?_
              refine lv_iload_n hx hb dX5_evaluateNeeded_91 rfl (lv_at hl 5 rfl) ?_
              refine wl_cl (va_runV (As := [.int (fx_Terms_operandOf S1 (nI i) (0 : Int32)), .int asg]) (rest := [.int (nI i), .ref (a 14)]) ⟨hx, hb, hml, hown, hta⟩ (kx_Vars_readAt l dC dI a k S1 (fx_Terms_operandOf S1 (nI i) (0 : Int32)) asg (wl_ev22 hE hX hlt h64 hV4 c52 c77)) (cwV 2 hta gX5_62 rfl rfl rfl (by decide +kernel) ⟨Nat.le_of_ble_eq_true rfl, Nat.le_of_ble_eq_true rfl⟩) (wl_pR (C := RX2) (ci := 0) (q0 := 1) hK hP rfl (xr_1 a k S1)) rfl rfl hl.1 rfl (lv_room (Nat.le_of_ble_eq_true rfl)) dX5_evaluateNeeded_92 ⟨Nat.zero_le _, Nat.zero_le _⟩) ?_
              refine va_last hx hb hK hP hD hS 14 9 (xr_14 a k S1) rfl (wl_in (by omega) (by decide)) dX5_evaluateNeeded_95 (fun H locs hP hD hS => ?_)
              have hP := xp_L2 hP
              have hD := xd_L2 hD
              refine lv_goto (tgt := 139) hx hb dX5_evaluateNeeded_96 (by decide) ?_
              refine lv_iinc (v := nI (i + 1)) (lv' := [(3, .int (nI (i + 1))), (5, .int (fx_Terms_operandOf S1 (nI i) (0 : Int32))), (4, .int (fx_Terms_operationOf S1 (nI i))), (2, .int (fx_Terms_size st)), (0, .ref (a 13)), (1, .int asg)]) hx hb dX5_evaluateNeeded_139 hl (k := 2) rfl (nI_1 _) (by decide) rfl (fun ls hl => ?_)
              refine lv_goto (tgt := 10) hx hb dX5_evaluateNeeded_142 (by decide) ?_
              exact ih (i + 1) (wL S1 2 ((nI i).toNatClampNeg) (fx_Vars_readAt S1 (fx_Terms_operandOf S1 (nI i) (0 : Int32)) asg)) _ _ ls hR (by omega) (XF.wL (by decide) hE) (wl_nmV hE hM hX hlt h64 hV4 c77) (by omega) hP hD hS (lv_sub hl [0, 3, 4, 5] rfl)
          · skip
            rw [if_pos c52] at hR
            refine lv_aload_n hx hb dX5_evaluateNeeded_55 rfl (lv_at hl 4 rfl) ?_
            refine va_get (D := (dC, dI)) (ci := 3) (v := .ref (a 14)) (C := RX5) (T := TX5) (N := 5) hx hb hta inX5 hown hK hP 13 (xr_13 a k S1) rfl 3 (by decide) hf23 (fun _ h9 => h9) rfl dX5_evaluateNeeded_56 ?_
            refine lv_iload_n hx hb dX5_evaluateNeeded_59 rfl (lv_at hl 2 rfl) ?_
            refine lv_aload_n hx hb dX5_evaluateNeeded_60 rfl (lv_at hl 4 rfl) ?_
            refine va_get (D := (dC, dI)) (ci := 3) (v := .ref (a 7)) (C := RX5) (T := TX5) (N := 5) hx hb hta inX5 hown hK hP 13 (xr_13 a k S1) rfl 0 (by decide) hf7 (fun _ h9 => h9) rfl dX5_evaluateNeeded_61 ?_
            refine wl_cr (va_runV (As := []) (rest := [.int (nI i), .ref (a 14)]) ⟨hx, hb, hml, hown, hta⟩ (kx_Terms_constants l dC dI a k S1) (cwV 0 hta gX5_58 rfl rfl rfl (by decide +kernel) ⟨Nat.le_of_ble_eq_true rfl, Nat.le_of_ble_eq_true rfl⟩) (wl_pR (C := RX4) (ci := 2) (q0 := 7) hK hP rfl (xr_7 a k S1)) rfl rfl hl.1 rfl (lv_room (Nat.le_of_ble_eq_true rfl)) dX5_evaluateNeeded_64 ⟨Nat.zero_le _, Nat.zero_le _⟩) ?_
            refine lv_iload_n hx hb dX5_evaluateNeeded_67 rfl (lv_at hl 2 rfl) ?_
            refine va_lald hx hb hK hP 12 8 (xr_12 a k S1) rfl (wl_in (by omega) (by decide)) dX5_evaluateNeeded_68 ?_
            refine va_last hx hb hK hP hD hS 14 9 (xr_14 a k S1) rfl (wl_in (by omega) (by decide)) dX5_evaluateNeeded_69 (fun H locs hP hD hS => ?_)
            have hP := xp_L2 hP
            have hD := xd_L2 hD
            refine lv_goto (tgt := 139) hx hb dX5_evaluateNeeded_70 (by decide) ?_
            refine lv_iinc (v := nI (i + 1)) (lv' := [(3, .int (nI (i + 1))), (5, .int (fx_Terms_operandOf S1 (nI i) (0 : Int32))), (4, .int (fx_Terms_operationOf S1 (nI i))), (2, .int (fx_Terms_size st)), (0, .ref (a 13)), (1, .int asg)]) hx hb dX5_evaluateNeeded_139 hl (k := 2) rfl (nI_1 _) (by decide) rfl (fun ls hl => ?_)
            refine lv_goto (tgt := 10) hx hb dX5_evaluateNeeded_142 (by decide) ?_
            exact ih (i + 1) (wL S1 2 ((nI i).toNatClampNeg) (fL S1 1 (nI i).toNatClampNeg)) _ _ ls hR (by omega) (XF.wL (by decide) hE) (wl_nmC hE hM hX hlt h64 c52) (by omega) hP hD hS (lv_sub hl [0, 3, 4, 5] rfl)
        · skip
          rw [if_pos c21] at hR
          refine lv_goto (tgt := 139) hx hb dX5_evaluateNeeded_24 (by decide) ?_
          refine lv_iinc (v := nI (i + 1)) (lv' := [(3, .int (nI (i + 1))), (2, .int (fx_Terms_size st)), (0, .ref (a 13)), (1, .int asg)]) hx hb dX5_evaluateNeeded_139 hl (k := 0) rfl (nI_1 _) (by decide) rfl (fun ls hl => ?_)
          refine lv_goto (tgt := 10) hx hb dX5_evaluateNeeded_142 (by decide) ?_
          exact ih (i + 1) S1 _ _ ls hR (by omega) hE hM (by omega) hP hD hS (lv_sub hl [0, 1, 2, 3] rfl)
  exact L10 65 0 st _ _ ls hR (Nat.zero_le _) XF.rf hM0 (by omega) hP hD hS (lv_sub hl [0, 1, 2, 3] rfl)

theorem wl_evL {st : XS} {V N : Nat} {asg : Int32} (hN : gI st 6 = nI N) (h64 : N ≤ 64) (hV4 : V ≤ 4) (hX : XT st V N) : ∀ (n i : Nat) (S1 : XS), i ≤ N → XF [] [] [2] st S1 → XM S1 N → XM (fx_Eval_evaluateNeeded_L10 st asg n i S1) N := by
  intro n
  induction n with
  | zero => intro i S1 _ _ h; exact h
  | succ n ih =>
    intro i S1 hi hE hM
    rw [fx_Eval_evaluateNeeded_L10]
    by_cases c12 : fx_Terms_size st ≤ nI i
    · rw [if_pos c12]; exact hM
    · rw [if_neg c12]
      have hlt : i < N := wl_lt (by rw [← hN]; exact c12) (by omega)
      by_cases c21 : fA S1 7 (nI i).toNatClampNeg = (0 : Int32)
      · rw [if_pos c21]; exact ih _ _ (by omega) hE hM
      · rw [if_neg c21]
        by_cases c52 : fx_Terms_operationOf S1 (nI i) = (21 : Int32)
        · rw [if_pos c52]; exact ih _ _ (by omega) (XF.wL (by decide) hE) (wl_nmC hE hM hX hlt h64 c52)
        · rw [if_neg c52]
          by_cases c77 : fx_Terms_operationOf S1 (nI i) = (22 : Int32)
          · rw [if_pos c77]; exact ih _ _ (by omega) (XF.wL (by decide) hE) (wl_nmV hE hM hX hlt h64 hV4 c77)
          · rw [if_neg c77]; exact ih _ _ (by omega) (XF.wL (by decide) hE) (wl_nmO hE hM hX hlt h64 c52 c77)
theorem wl_evM {st : XS} {V N : Nat} {asg : Int32} (hN : gI st 6 = nI N) (h64 : N ≤ 64) (hV4 : V ≤ 4) (hX : XT st V N) (hM : XM st N) : XM (fx_Eval_evaluateNeeded st asg) N := by
  rw [fx_Eval_evaluateNeeded]
  exact wl_evL hN h64 hV4 hX 65 0 st (Nat.zero_le _) XF.rf hM
end
section
theorem mw_165 : (.fieldLink RX7 25 RX7 "rows" "[J" : Cond) ∈ AW := List.mem_filter.mpr ⟨List.mem_of_getElem? (i := 165) (by decide +kernel), rfl⟩
theorem dX7_wordOf_0 : decode cX7_wordOf 0 = .ok (.aload_n 0, 1) := by decide +kernel
theorem dX7_wordOf_1 : decode cX7_wordOf 1 = .ok (.getfield 25, 3) := by decide +kernel
theorem dX7_wordOf_4 : decode cX7_wordOf 4 = .ok (.iload_n 1, 1) := by decide +kernel
theorem dX7_wordOf_5 : decode cX7_wordOf 5 = .ok (.bipush 16, 2) := by decide +kernel
theorem dX7_wordOf_7 : decode cX7_wordOf 7 = .ok (.imul, 1) := by decide +kernel
theorem dX7_wordOf_8 : decode cX7_wordOf 8 = .ok (.iload_n 2, 1) := by decide +kernel
theorem dX7_wordOf_9 : decode cX7_wordOf 9 = .ok (.iadd, 1) := by decide +kernel
theorem dX7_wordOf_10 : decode cX7_wordOf 10 = .ok (.laload, 1) := by decide +kernel
theorem dX7_wordOf_11 : decode cX7_wordOf 11 = .ok (.lreturn, 1) := by decide +kernel
def fx_Rows_wordOf (st : XS) (t : Int32) (j : Int32) : Int64 := fL st 3 ((t * (16 : Int32)) + j).toNatClampNeg
set_option maxHeartbeats 4000000 in
set_option maxRecDepth 100000 in
theorem kx_Rows_wordOf (l : Launch) (dC : Nat → ClassId) (dI : Nat → Nat → Nat) (a : Nat → Nat) (k : Nat → ClassId) (st : XS) (t : Int32) (j : Int32) (hi : vp_in (t * (16 : Int32) + j) 1024) : Met l yX7_wordOf wsX7_wordOf ({ frames := 0, cells := 0, slots := 0, locals := 0 }) (va_Pc [.ref (a 17), .int t, .int j] (wl_prR (dC, dI) vwCl (xt k) (xw a k st))) (vp_Sl (fun r9 => r9 = fx_Rows_wordOf st t j)) 0 0 (fun _ => False) := by
  refine Met.ofW (cc := cX7_wordOf) (maxL := 3) (ret := (some .long)) (by decide) rfl ?_
  intro p e s m args below meth c s₁ B hml hv
  obtain ⟨rfl, hP, hK⟩ := hv
  have hx := B.exec
  have hb := B.bytes
  have hr := B.returns
  have hta := aw_hts (atoms_spec (ws := wsX7_wordOf) B.pre)
  have hown : s.vm.findClass RX7 = some m.cls := findClass_of_methodNamed B.named
  have hlocks := B.notSynchronized
  have hf25 := hta _ mw_165
  have hl := lv_entry ([.ref (a 17), .int t, .int j]) (n := 3) (Nat.le_of_ble_eq_true rfl)
  rw [lg_entry_eq]
  generalize (lg_sl ([.ref (a 17), .int t, .int j]) ++ List.replicate (3 - (lg_sl ([.ref (a 17), .int t, .int j])).length) Slot.unset).toArray = ls at hl ⊢
  have hl : lv_has ls 3 [(0, .ref (a 17)), (1, .int t), (2, .int j)] := hl
  generalize hR : fx_Rows_wordOf st t j = R
  rw [fx_Rows_wordOf] at hR
  refine lv_aload_n hx hb dX7_wordOf_0 rfl (lv_at hl 0 rfl) ?_
  refine va_get (D := (dC, dI)) (ci := 5) (v := .ref (a 18)) (C := RX7) (T := TX7) (N := 7) hx hb hta inX7 hown hK hP 17 (xr_17 a k st) rfl 3 (by decide) hf25 (fun _ h9 => h9) rfl dX7_wordOf_1 ?_
  refine lv_iload_n hx hb dX7_wordOf_4 rfl (lv_at hl 1 rfl) ?_
  refine lv_bipush (v := (16 : Int32)) hx hb dX7_wordOf_5 (by decide) ?_
  refine lv_imul hx hb dX7_wordOf_7 ?_
  refine lv_iload_n hx hb dX7_wordOf_8 rfl (lv_at hl 2 rfl) ?_
  refine lv_iadd hx hb dX7_wordOf_9 ?_
  refine va_lald hx hb hK hP 18 11 (xr_18 a k st) rfl hi dX7_wordOf_10 ?_
  exact W.lret (v := fL st 3 ((t * (16 : Int32)) + j).toNatClampNeg) hx hb hr (fun t ht hW => ⟨_, rfl, hR, ht⟩) (fun q h => by cases h) dX7_wordOf_11

theorem mw_162 : (.fieldLink RX7 9 RX7 "terms" "LPathSolver$Terms;" : Cond) ∈ AW := List.mem_filter.mpr ⟨List.mem_of_getElem? (i := 162) (by decide +kernel), rfl⟩
theorem mw_300 : (.methodLink RX7 41 yX4_size : Cond) ∈ AW := List.mem_filter.mpr ⟨List.mem_of_getElem? (i := 300) (by decide +kernel), rfl⟩
theorem mw_307 : (.code yX4_readsTable cX4_readsTable 3 (some .boolean) : Cond) ∈ AW := List.mem_filter.mpr ⟨List.mem_of_getElem? (i := 307) (by decide +kernel), rfl⟩
theorem mw_304 : (.methodLink RX7 45 yX4_readsTable : Cond) ∈ AW := List.mem_filter.mpr ⟨List.mem_of_getElem? (i := 304) (by decide +kernel), rfl⟩
theorem mw_305 : (.instanceMethod yX4_readsTable : Cond) ∈ AW := List.mem_filter.mpr ⟨List.mem_of_getElem? (i := 305) (by decide +kernel), rfl⟩
theorem mw_306 : (.selects RX4 yX4_readsTable yX4_readsTable : Cond) ∈ AW := List.mem_filter.mpr ⟨List.mem_of_getElem? (i := 306) (by decide +kernel), rfl⟩
theorem mw_166 : (.fieldLink RX7 29 RX7 "known" "[Z" : Cond) ∈ AW := List.mem_filter.mpr ⟨List.mem_of_getElem? (i := 166) (by decide +kernel), rfl⟩
theorem gX7_41 : GoodIn AW (wsV RX7 41 RX4 yX4_size wsX4_size) := aw_V mw_300 mw_301 mw_302 mw_41 mw_303
theorem gX7_45 : GoodIn AW (wsV RX7 45 RX4 yX4_readsTable wsX4_readsTable) := aw_V mw_304 mw_305 mw_306 mw_41 mw_307
theorem dX7_forgetReadersOf_0 : decode cX7_forgetReadersOf 0 = .ok (.aload_n 0, 1) := by decide +kernel
theorem dX7_forgetReadersOf_1 : decode cX7_forgetReadersOf 1 = .ok (.getfield 9, 3) := by decide +kernel
theorem dX7_forgetReadersOf_4 : decode cX7_forgetReadersOf 4 = .ok (.invokevirtual 41, 3) := by decide +kernel
theorem dX7_forgetReadersOf_7 : decode cX7_forgetReadersOf 7 = .ok (.istore_n 2, 1) := by decide +kernel
theorem dX7_forgetReadersOf_8 : decode cX7_forgetReadersOf 8 = .ok (.iconst 0, 1) := by decide +kernel
theorem dX7_forgetReadersOf_9 : decode cX7_forgetReadersOf 9 = .ok (.istore_n 3, 1) := by decide +kernel
theorem dX7_forgetReadersOf_10 : decode cX7_forgetReadersOf 10 = .ok (.iload_n 3, 1) := by decide +kernel
theorem dX7_forgetReadersOf_11 : decode cX7_forgetReadersOf 11 = .ok (.iload_n 2, 1) := by decide +kernel
theorem dX7_forgetReadersOf_12 : decode cX7_forgetReadersOf 12 = .ok (.if_icmp .ge 28, 3) := by decide +kernel
theorem dX7_forgetReadersOf_15 : decode cX7_forgetReadersOf 15 = .ok (.aload_n 0, 1) := by decide +kernel
theorem dX7_forgetReadersOf_16 : decode cX7_forgetReadersOf 16 = .ok (.getfield 9, 3) := by decide +kernel
theorem dX7_forgetReadersOf_19 : decode cX7_forgetReadersOf 19 = .ok (.iload_n 3, 1) := by decide +kernel
theorem dX7_forgetReadersOf_20 : decode cX7_forgetReadersOf 20 = .ok (.iload_n 1, 1) := by decide +kernel
theorem dX7_forgetReadersOf_21 : decode cX7_forgetReadersOf 21 = .ok (.invokevirtual 45, 3) := by decide +kernel
theorem dX7_forgetReadersOf_24 : decode cX7_forgetReadersOf 24 = .ok (.ifCond .eq 10, 3) := by decide +kernel
theorem dX7_forgetReadersOf_27 : decode cX7_forgetReadersOf 27 = .ok (.aload_n 0, 1) := by decide +kernel
theorem dX7_forgetReadersOf_28 : decode cX7_forgetReadersOf 28 = .ok (.getfield 29, 3) := by decide +kernel
theorem dX7_forgetReadersOf_31 : decode cX7_forgetReadersOf 31 = .ok (.iload_n 3, 1) := by decide +kernel
theorem dX7_forgetReadersOf_32 : decode cX7_forgetReadersOf 32 = .ok (.iconst 0, 1) := by decide +kernel
theorem dX7_forgetReadersOf_33 : decode cX7_forgetReadersOf 33 = .ok (.bastore, 1) := by decide +kernel
theorem dX7_forgetReadersOf_34 : decode cX7_forgetReadersOf 34 = .ok (.iinc 3 1, 3) := by decide +kernel
theorem dX7_forgetReadersOf_37 : decode cX7_forgetReadersOf 37 = .ok (.goto (-27), 3) := by decide +kernel
theorem dX7_forgetReadersOf_40 : decode cX7_forgetReadersOf 40 = .ok (.return_, 1) := by decide +kernel
def fx_Rows_forgetReadersOf_L10 (st : XS) (tb : Int32) : Nat → Nat → XS → XS
  | 0, i, S1 => S1
  | n + 1, i, S1 => 
    if fx_Terms_size st ≤ nI i then S1
    else 
      if fx_Terms_readsTable S1 (nI i) tb = (0 : Int32) then fx_Rows_forgetReadersOf_L10 st tb n (i + 1) S1
      else fx_Rows_forgetReadersOf_L10 st tb n (i + 1) (wA S1 8 ((nI i).toNatClampNeg) (vp_nar .boolean (0 : Int32)))
def fx_Rows_forgetReadersOf (st : XS) (tb : Int32) : XS := fx_Rows_forgetReadersOf_L10 st tb 65 0 st
theorem fr_Rows_forgetReadersOf_L10 {S0 : XS} (st : XS) (tb : Int32) : ∀ (n : Nat) (i : Nat) (S1 : XS), XF [] [8] [] S0 S1 → XF [] [8] [] S0 (fx_Rows_forgetReadersOf_L10 st tb n i S1) := by
  intro n
  induction n with
  | zero => intro i S1 h; exact h
  | succ n ih =>
    intro i S1 h
    rw [fx_Rows_forgetReadersOf_L10]
    exact (wl_ite (P := fun (q : XS) => XF [] [8] [] _ (q)) h (wl_ite (P := fun (q : XS) => XF [] [8] [] _ (q)) (ih _ _ h) (ih _ _ (XF.wA (by decide) h))))
theorem ff_Rows_forgetReadersOf (st : XS) (tb : Int32) : XF [] [8] [] st (fx_Rows_forgetReadersOf st tb) := by
  rw [fx_Rows_forgetReadersOf]
  exact (fr_Rows_forgetReadersOf_L10 _ _ _ _ _ XF.rf)
set_option maxHeartbeats 4000000 in
set_option maxRecDepth 100000 in
theorem kx_Rows_forgetReadersOf (l : Launch) (dC : Nat → ClassId) (dI : Nat → Nat → Nat) (a : Nat → Nat) (k : Nat → ClassId) (st : XS) (tb : Int32) (sz : Nat) (N : Nat) (hN : gI st 6 = nI N) (h64 : N ≤ 64) : Met l yX7_forgetReadersOf wsX7_forgetReadersOf ({ frames := 1, cells := 0, slots := 0, locals := 22 }) (va_Pc [.ref (a 17), .int tb] (wl_pre (dC, dI) vwCl (xt k) (xw a k) st sz)) (va_Qv (fun u9 => u9 = fx_Rows_forgetReadersOf st tb) (wl_at (dC, dI) vwCl (xt k) (xw a k) (va_A (xw a k st) sz)) (va_A (xw a k st) sz)) 0 0 (va_A (xw a k st) sz) := by
  refine Met.ofW (cc := cX7_forgetReadersOf) (maxL := 4) (ret := none) (by decide) rfl ?_
  intro p e s m args below meth c s₁ B hml hv
  obtain ⟨rfl, hsz, hP, hK, hD0⟩ := hv
  have hx := B.exec
  have hb := B.bytes
  have hr := B.returns
  have hta := aw_hts (atoms_spec (ws := wsX7_forgetReadersOf) B.pre)
  have hown : s.vm.findClass RX7 = some m.cls := findClass_of_methodNamed B.named
  have hlocks := B.notSynchronized
  have hf9 := hta _ mw_162
  have hf29 := hta _ mw_166
  subst hsz
  have hD := hD0.self (sz := s.heap.size)
  generalize hAe : va_A (xw a k st) s.heap.size = A at hD ⊢
  have hAz : ∀ q : Nat, s.heap.size ≤ q → A q := fun q h => by rw [← hAe]; exact Or.inr h
  have hS : va_S A s.heap s.heap [] := va_S.rf
  have hl := lv_entry ([.ref (a 17), .int tb]) (n := 4) (Nat.le_of_ble_eq_true rfl)
  rw [lg_entry_eq]
  generalize (lg_sl ([.ref (a 17), .int tb]) ++ List.replicate (4 - (lg_sl ([.ref (a 17), .int tb])).length) Slot.unset).toArray = ls at hl ⊢
  have hl : lv_has ls 4 [(0, .ref (a 17)), (1, .int tb)] := hl
  generalize hR : fx_Rows_forgetReadersOf st tb = R
  rw [fx_Rows_forgetReadersOf] at hR
  refine lv_aload_n hx hb dX7_forgetReadersOf_0 rfl (lv_at hl 0 rfl) ?_
  refine va_get (D := (dC, dI)) (ci := 5) (v := .ref (a 7)) (C := RX7) (T := TX7) (N := 7) hx hb hta inX7 hown hK hP 17 (xr_17 a k st) rfl 0 (by decide) hf9 (fun _ h9 => h9) rfl dX7_forgetReadersOf_1 ?_
  refine wl_ci (va_runV (As := []) (rest := []) ⟨hx, hb, hml, hown, hta⟩ (kx_Terms_size l dC dI a k st) (cwV 0 hta gX7_41 rfl rfl rfl (by decide +kernel) ⟨Nat.le_of_ble_eq_true rfl, Nat.le_of_ble_eq_true rfl⟩) (wl_pR (C := RX4) (ci := 2) (q0 := 7) hK hP rfl (xr_7 a k st)) rfl rfl hl.1 rfl (lv_room (Nat.le_of_ble_eq_true rfl)) dX7_forgetReadersOf_4 ⟨Nat.zero_le _, Nat.zero_le _⟩) ?_
  refine lv_istore_n (lv' := [(2, .int (fx_Terms_size st)), (0, .ref (a 17)), (1, .int tb)]) hx hb dX7_forgetReadersOf_7 rfl hl (by decide) rfl (fun ls hl => ?_)
  refine lv_iconst (v := (0 : Int32)) hx hb dX7_forgetReadersOf_8 (by decide) ?_
  refine lv_istore_n (lv' := [(3, .int (0 : Int32)), (2, .int (fx_Terms_size st)), (0, .ref (a 17)), (1, .int tb)]) hx hb dX7_forgetReadersOf_9 rfl hl (by decide) rfl (fun ls hl => ?_)
  have L10 : ∀ (n : Nat) (i : Nat) (S1 : XS) (H : Heap) (locs : List Loc) (ls : Array Slot), fx_Rows_forgetReadersOf_L10 st tb n i S1 = R → (i ≤ N) → (XF [] [8] [] st S1) → N - i < n → va_P (dC, dI) vwCl (xw a k S1) H → va_D A (xw a k S1) → va_S A s.heap H locs → lv_has ls 4 [(3, .int (nI i)), (2, .int (fx_Terms_size st)), (0, .ref (a 17)), (1, .int tb)] → W p l e (headSpec wsX7_forgetReadersOf ({ frames := 1, cells := 0, slots := 0, locals := 22 })).room s m ([.ref (a 17), .int tb] : List Value).toArray below meth c H locs 0 0 (MQ below (va_Qv (fun u9 => u9 = R) (wl_at (dC, dI) vwCl (xt k) (xw a k) A) A) ([.ref (a 17), .int tb] : List Value).toArray s 0 0 A) (F0 m 10 ls []) := by
    intro n
    induction n with
    | zero =>
      intro i S1 H locs ls hR hi hE hm hP hD hS hl
      exact absurd hm (Nat.not_lt_zero _)
    | succ n ih =>
      intro i S1 H locs ls hR hi hE hm hP hD hS hl
      rw [fx_Rows_forgetReadersOf_L10] at hR
      refine lv_iload_n hx hb dX7_forgetReadersOf_10 rfl (lv_at hl 0 rfl) ?_
      refine lv_iload_n hx hb dX7_forgetReadersOf_11 rfl (lv_at hl 1 rfl) ?_
      refine lv_icmp_ge (tgt := 40) hx hb dX7_forgetReadersOf_12 (by decide) (fun c12 => ?_) (fun c12 => ?_)
      · skip
        rw [if_pos c12] at hR
        exact W.vret hx hb hr (fun t ht hW => ⟨⟨_, rfl, hR, by rw [ht]; exact hP, va_K.moved hW.alike hK, hD⟩, hS.F ht⟩) hS.2.2 dX7_forgetReadersOf_40
      · skip
        rw [if_neg c12] at hR
        have hlt : i < N := wl_lt (by rw [← hN]; exact c12) (by omega)
        refine lv_aload_n hx hb dX7_forgetReadersOf_15 rfl (lv_at hl 2 rfl) ?_
        refine va_get (D := (dC, dI)) (ci := 5) (v := .ref (a 7)) (C := RX7) (T := TX7) (N := 7) hx hb hta inX7 hown hK hP 17 (xr_17 a k S1) rfl 0 (by decide) hf9 (fun _ h9 => h9) rfl dX7_forgetReadersOf_16 ?_
        refine lv_iload_n hx hb dX7_forgetReadersOf_19 rfl (lv_at hl 0 rfl) ?_
        refine lv_iload_n hx hb dX7_forgetReadersOf_20 rfl (lv_at hl 3 rfl) ?_
        refine wl_ci (va_runV (As := [.int (nI i), .int tb]) (rest := []) ⟨hx, hb, hml, hown, hta⟩ (kx_Terms_readsTable l dC dI a k S1 (nI i) tb (wl_in (by omega) (by decide))) (cwV 2 hta gX7_45 rfl rfl rfl (by decide +kernel) ⟨Nat.le_of_ble_eq_true rfl, Nat.le_of_ble_eq_true rfl⟩) (wl_pR (C := RX4) (ci := 2) (q0 := 7) hK hP rfl (xr_7 a k S1)) rfl rfl hl.1 rfl (lv_room (Nat.le_of_ble_eq_true rfl)) dX7_forgetReadersOf_21 ⟨Nat.zero_le _, Nat.zero_le _⟩) ?_
        refine lv_if_eq (tgt := 34) hx hb dX7_forgetReadersOf_24 (by decide) (fun c24 => ?_) (fun c24 => ?_)
        · skip
          rw [if_pos c24] at hR
          refine lv_iinc (v := nI (i + 1)) (lv' := [(3, .int (nI (i + 1))), (2, .int (fx_Terms_size st)), (0, .ref (a 17)), (1, .int tb)]) hx hb dX7_forgetReadersOf_34 hl (k := 0) rfl (nI_1 _) (by decide) rfl (fun ls hl => ?_)
          refine lv_goto (tgt := 10) hx hb dX7_forgetReadersOf_37 (by decide) ?_
          exact ih (i + 1) S1 _ _ ls hR (by omega) hE (by omega) hP hD hS (lv_sub hl [0, 1, 2, 3] rfl)
        · skip
          rw [if_neg c24] at hR
          refine lv_aload_n hx hb dX7_forgetReadersOf_27 rfl (lv_at hl 2 rfl) ?_
          refine va_get (D := (dC, dI)) (ci := 5) (v := .ref (a 19)) (C := RX7) (T := TX7) (N := 7) hx hb hta inX7 hown hK hP 17 (xr_17 a k S1) rfl 4 (by decide) hf29 (fun _ h9 => h9) rfl dX7_forgetReadersOf_28 ?_
          refine lv_iload_n hx hb dX7_forgetReadersOf_31 rfl (lv_at hl 0 rfl) ?_
          refine lv_iconst (v := (0 : Int32)) hx hb dX7_forgetReadersOf_32 (by decide) ?_
          refine va_zast hx hb hK hP hD hS 19 12 (xr_19 a k S1) rfl (wl_in (by omega) (by decide)) dX7_forgetReadersOf_33 (fun H locs hP hD hS => ?_)
          have hP := xp_A8 hP
          have hD := xd_A8 hD
          refine lv_iinc (v := nI (i + 1)) (lv' := [(3, .int (nI (i + 1))), (2, .int (fx_Terms_size st)), (0, .ref (a 17)), (1, .int tb)]) hx hb dX7_forgetReadersOf_34 hl (k := 0) rfl (nI_1 _) (by decide) rfl (fun ls hl => ?_)
          refine lv_goto (tgt := 10) hx hb dX7_forgetReadersOf_37 (by decide) ?_
          exact ih (i + 1) (wA S1 8 ((nI i).toNatClampNeg) (vp_nar .boolean (0 : Int32))) _ _ ls hR (by omega) (XF.wA (by decide) hE) (by omega) hP hD hS (lv_sub hl [0, 1, 2, 3] rfl)
  exact L10 65 0 st _ _ ls hR (Nat.zero_le _) XF.rf (by omega) hP hD hS (lv_sub hl [0, 1, 2, 3] rfl)

theorem dX7_clearRow_0 : decode cX7_clearRow 0 = .ok (.iconst 0, 1) := by decide +kernel
theorem dX7_clearRow_1 : decode cX7_clearRow 1 = .ok (.istore_n 2, 1) := by decide +kernel
theorem dX7_clearRow_2 : decode cX7_clearRow 2 = .ok (.iload_n 2, 1) := by decide +kernel
theorem dX7_clearRow_3 : decode cX7_clearRow 3 = .ok (.bipush 16, 2) := by decide +kernel
theorem dX7_clearRow_5 : decode cX7_clearRow 5 = .ok (.if_icmp .ge 21, 3) := by decide +kernel
theorem dX7_clearRow_8 : decode cX7_clearRow 8 = .ok (.aload_n 0, 1) := by decide +kernel
theorem dX7_clearRow_9 : decode cX7_clearRow 9 = .ok (.getfield 25, 3) := by decide +kernel
theorem dX7_clearRow_12 : decode cX7_clearRow 12 = .ok (.iload_n 1, 1) := by decide +kernel
theorem dX7_clearRow_13 : decode cX7_clearRow 13 = .ok (.bipush 16, 2) := by decide +kernel
theorem dX7_clearRow_15 : decode cX7_clearRow 15 = .ok (.imul, 1) := by decide +kernel
theorem dX7_clearRow_16 : decode cX7_clearRow 16 = .ok (.iload_n 2, 1) := by decide +kernel
theorem dX7_clearRow_17 : decode cX7_clearRow 17 = .ok (.iadd, 1) := by decide +kernel
theorem dX7_clearRow_18 : decode cX7_clearRow 18 = .ok (.lconst 0, 1) := by decide +kernel
theorem dX7_clearRow_19 : decode cX7_clearRow 19 = .ok (.lastore, 1) := by decide +kernel
theorem dX7_clearRow_20 : decode cX7_clearRow 20 = .ok (.iinc 2 1, 3) := by decide +kernel
theorem dX7_clearRow_23 : decode cX7_clearRow 23 = .ok (.goto (-21), 3) := by decide +kernel
theorem dX7_clearRow_26 : decode cX7_clearRow 26 = .ok (.return_, 1) := by decide +kernel
def fx_Rows_clearRow_L2 (st : XS) (t : Int32) : Nat → Nat → XS → XS
  | 0, i, S1 => S1
  | n + 1, i, S1 => 
    if (16 : Int32) ≤ nI i then S1
    else fx_Rows_clearRow_L2 st t n (i + 1) (wL S1 3 (((t * (16 : Int32)) + (nI i)).toNatClampNeg) (0 : Int64))
def fx_Rows_clearRow (st : XS) (t : Int32) : XS := fx_Rows_clearRow_L2 st t 17 0 st
theorem fr_Rows_clearRow_L2 {S0 : XS} (st : XS) (t : Int32) : ∀ (n : Nat) (i : Nat) (S1 : XS), XF [] [] [3] S0 S1 → XF [] [] [3] S0 (fx_Rows_clearRow_L2 st t n i S1) := by
  intro n
  induction n with
  | zero => intro i S1 h; exact h
  | succ n ih =>
    intro i S1 h
    rw [fx_Rows_clearRow_L2]
    exact (wl_ite (P := fun (q : XS) => XF [] [] [3] _ (q)) h (ih _ _ (XF.wL (by decide) h)))
theorem ff_Rows_clearRow (st : XS) (t : Int32) : XF [] [] [3] st (fx_Rows_clearRow st t) := by
  rw [fx_Rows_clearRow]
  exact (fr_Rows_clearRow_L2 _ _ _ _ _ XF.rf)
set_option maxHeartbeats 4000000 in
set_option maxRecDepth 100000 in
theorem kx_Rows_clearRow (l : Launch) (dC : Nat → ClassId) (dI : Nat → Nat → Nat) (a : Nat → Nat) (k : Nat → ClassId) (st : XS) (t : Int32) (sz : Nat) (hT : vp_in t 64) : Met l yX7_clearRow wsX7_clearRow ({ frames := 0, cells := 0, slots := 0, locals := 0 }) (va_Pc [.ref (a 17), .int t] (wl_pre (dC, dI) vwCl (xt k) (xw a k) st sz)) (va_Qv (fun u9 => u9 = fx_Rows_clearRow st t) (wl_at (dC, dI) vwCl (xt k) (xw a k) (va_A (xw a k st) sz)) (va_A (xw a k st) sz)) 0 0 (va_A (xw a k st) sz) := by
  refine Met.ofW (cc := cX7_clearRow) (maxL := 3) (ret := none) (by decide) rfl ?_
  intro p e s m args below meth c s₁ B hml hv
  obtain ⟨rfl, hsz, hP, hK, hD0⟩ := hv
  have hx := B.exec
  have hb := B.bytes
  have hr := B.returns
  have hta := aw_hts (atoms_spec (ws := wsX7_clearRow) B.pre)
  have hown : s.vm.findClass RX7 = some m.cls := findClass_of_methodNamed B.named
  have hlocks := B.notSynchronized
  have hf25 := hta _ mw_165
  subst hsz
  have hD := hD0.self (sz := s.heap.size)
  generalize hAe : va_A (xw a k st) s.heap.size = A at hD ⊢
  have hAz : ∀ q : Nat, s.heap.size ≤ q → A q := fun q h => by rw [← hAe]; exact Or.inr h
  have hS : va_S A s.heap s.heap [] := va_S.rf
  have hl := lv_entry ([.ref (a 17), .int t]) (n := 3) (Nat.le_of_ble_eq_true rfl)
  rw [lg_entry_eq]
  generalize (lg_sl ([.ref (a 17), .int t]) ++ List.replicate (3 - (lg_sl ([.ref (a 17), .int t])).length) Slot.unset).toArray = ls at hl ⊢
  have hl : lv_has ls 3 [(0, .ref (a 17)), (1, .int t)] := hl
  generalize hR : fx_Rows_clearRow st t = R
  rw [fx_Rows_clearRow] at hR
  refine lv_iconst (v := (0 : Int32)) hx hb dX7_clearRow_0 (by decide) ?_
  refine lv_istore_n (lv' := [(2, .int (0 : Int32)), (0, .ref (a 17)), (1, .int t)]) hx hb dX7_clearRow_1 rfl hl (by decide) rfl (fun ls hl => ?_)
  have L2 : ∀ (n : Nat) (i : Nat) (S1 : XS) (H : Heap) (locs : List Loc) (ls : Array Slot), fx_Rows_clearRow_L2 st t n i S1 = R → (i ≤ 16) → 16 - i < n → va_P (dC, dI) vwCl (xw a k S1) H → va_D A (xw a k S1) → va_S A s.heap H locs → lv_has ls 3 [(2, .int (nI i)), (0, .ref (a 17)), (1, .int t)] → W p l e (headSpec wsX7_clearRow ({ frames := 0, cells := 0, slots := 0, locals := 0 })).room s m ([.ref (a 17), .int t] : List Value).toArray below meth c H locs 0 0 (MQ below (va_Qv (fun u9 => u9 = R) (wl_at (dC, dI) vwCl (xt k) (xw a k) A) A) ([.ref (a 17), .int t] : List Value).toArray s 0 0 A) (F0 m 2 ls []) := by
    intro n
    induction n with
    | zero =>
      intro i S1 H locs ls hR hi hm hP hD hS hl
      exact absurd hm (Nat.not_lt_zero _)
    | succ n ih =>
      intro i S1 H locs ls hR hi hm hP hD hS hl
      rw [fx_Rows_clearRow_L2] at hR
      refine lv_iload_n hx hb dX7_clearRow_2 rfl (lv_at hl 0 rfl) ?_
      refine lv_bipush (v := (16 : Int32)) hx hb dX7_clearRow_3 (by decide) ?_
      refine lv_icmp_ge (tgt := 26) hx hb dX7_clearRow_5 (by decide) (fun c5 => ?_) (fun c5 => ?_)
      · skip
        rw [if_pos c5] at hR
        exact W.vret hx hb hr (fun t ht hW => ⟨⟨_, rfl, hR, by rw [ht]; exact hP, va_K.moved hW.alike hK, hD⟩, hS.F ht⟩) hS.2.2 dX7_clearRow_26
      · skip
        rw [if_neg c5] at hR
        have hlt : i < 16 := wl_lt (N := 16) c5 (by omega)
        refine lv_aload_n hx hb dX7_clearRow_8 rfl (lv_at hl 1 rfl) ?_
        refine va_get (D := (dC, dI)) (ci := 5) (v := .ref (a 18)) (C := RX7) (T := TX7) (N := 7) hx hb hta inX7 hown hK hP 17 (xr_17 a k S1) rfl 3 (by decide) hf25 (fun _ h9 => h9) rfl dX7_clearRow_9 ?_
        refine lv_iload_n hx hb dX7_clearRow_12 rfl (lv_at hl 2 rfl) ?_
        refine lv_bipush (v := (16 : Int32)) hx hb dX7_clearRow_13 (by decide) ?_
        refine lv_imul hx hb dX7_clearRow_15 ?_
        refine lv_iload_n hx hb dX7_clearRow_16 rfl (lv_at hl 0 rfl) ?_
        refine lv_iadd hx hb dX7_clearRow_17 ?_
        refine lv_lconst (v := (0 : Int64)) hx hb dX7_clearRow_18 (by decide) ?_
        refine va_last hx hb hK hP hD hS 18 11 (xr_18 a k S1) rfl (wl_i16 hT hlt) dX7_clearRow_19 (fun H locs hP hD hS => ?_)
        have hP := xp_L3 hP
        have hD := xd_L3 hD
        refine lv_iinc (v := nI (i + 1)) (lv' := [(2, .int (nI (i + 1))), (0, .ref (a 17)), (1, .int t)]) hx hb dX7_clearRow_20 hl (k := 0) rfl (nI_1 _) (by decide) rfl (fun ls hl => ?_)
        refine lv_goto (tgt := 2) hx hb dX7_clearRow_23 (by decide) ?_
        exact ih (i + 1) (wL S1 3 (((t * (16 : Int32)) + (nI i)).toNatClampNeg) (0 : Int64)) _ _ ls hR (by omega) (by omega) hP hD hS (lv_sub hl [0, 1, 2] rfl)
  exact L2 17 0 st _ _ ls hR (Nat.zero_le _) (by omega) hP hD hS (lv_sub hl [0, 1, 2] rfl)

theorem dX7_setBits_0 : decode cX7_setBits 0 = .ok (.iload_n 2, 1) := by decide +kernel
theorem dX7_setBits_1 : decode cX7_setBits 1 = .ok (.istore 4, 2) := by decide +kernel
theorem dX7_setBits_3 : decode cX7_setBits 3 = .ok (.iload 4, 2) := by decide +kernel
theorem dX7_setBits_5 : decode cX7_setBits 5 = .ok (.iload_n 2, 1) := by decide +kernel
theorem dX7_setBits_6 : decode cX7_setBits 6 = .ok (.iload_n 3, 1) := by decide +kernel
theorem dX7_setBits_7 : decode cX7_setBits 7 = .ok (.iadd, 1) := by decide +kernel
theorem dX7_setBits_8 : decode cX7_setBits 8 = .ok (.if_icmp .ge 34, 3) := by decide +kernel
theorem dX7_setBits_11 : decode cX7_setBits 11 = .ok (.aload_n 0, 1) := by decide +kernel
theorem dX7_setBits_12 : decode cX7_setBits 12 = .ok (.getfield 25, 3) := by decide +kernel
theorem dX7_setBits_15 : decode cX7_setBits 15 = .ok (.iload_n 1, 1) := by decide +kernel
theorem dX7_setBits_16 : decode cX7_setBits 16 = .ok (.bipush 16, 2) := by decide +kernel
theorem dX7_setBits_18 : decode cX7_setBits 18 = .ok (.imul, 1) := by decide +kernel
theorem dX7_setBits_19 : decode cX7_setBits 19 = .ok (.iload 4, 2) := by decide +kernel
theorem dX7_setBits_21 : decode cX7_setBits 21 = .ok (.bipush 64, 2) := by decide +kernel
theorem dX7_setBits_23 : decode cX7_setBits 23 = .ok (.idiv, 1) := by decide +kernel
theorem dX7_setBits_24 : decode cX7_setBits 24 = .ok (.iadd, 1) := by decide +kernel
theorem dX7_setBits_25 : decode cX7_setBits 25 = .ok (.dup2, 1) := by decide +kernel
theorem dX7_setBits_26 : decode cX7_setBits 26 = .ok (.laload, 1) := by decide +kernel
theorem dX7_setBits_27 : decode cX7_setBits 27 = .ok (.lconst 1, 1) := by decide +kernel
theorem dX7_setBits_28 : decode cX7_setBits 28 = .ok (.iload 4, 2) := by decide +kernel
theorem dX7_setBits_30 : decode cX7_setBits 30 = .ok (.bipush 64, 2) := by decide +kernel
theorem dX7_setBits_32 : decode cX7_setBits 32 = .ok (.irem, 1) := by decide +kernel
theorem dX7_setBits_33 : decode cX7_setBits 33 = .ok (.lshl, 1) := by decide +kernel
theorem dX7_setBits_34 : decode cX7_setBits 34 = .ok (.lor, 1) := by decide +kernel
theorem dX7_setBits_35 : decode cX7_setBits 35 = .ok (.lastore, 1) := by decide +kernel
theorem dX7_setBits_36 : decode cX7_setBits 36 = .ok (.iinc 4 1, 3) := by decide +kernel
theorem dX7_setBits_39 : decode cX7_setBits 39 = .ok (.goto (-36), 3) := by decide +kernel
theorem dX7_setBits_42 : decode cX7_setBits 42 = .ok (.return_, 1) := by decide +kernel
def fx_Rows_setBits_L3 (st : XS) (t : Int32) (fr : Int32) (rn : Int32) : Nat → Nat → XS → XS
  | 0, i, S1 => S1
  | n + 1, i, S1 => 
    if (fr) + (rn) ≤ nI i then S1
    else fx_Rows_setBits_L3 st t fr rn n (i + 1) (wL S1 3 (((t * (16 : Int32)) + ((nI i) / (64 : Int32))).toNatClampNeg) ((fL S1 3 ((t * (16 : Int32)) + ((nI i) / (64 : Int32))).toNatClampNeg) ||| ((1 : Int64) <<< (((nI i) - (nI i) / (64 : Int32) * (64 : Int32)).toInt64 &&& 63))))
def fx_Rows_setBits (st : XS) (t : Int32) (fr : Int32) (rn : Int32) : XS := fx_Rows_setBits_L3 st t fr rn 1025 fr.toNatClampNeg st
theorem fr_Rows_setBits_L3 {S0 : XS} (st : XS) (t : Int32) (fr : Int32) (rn : Int32) : ∀ (n : Nat) (i : Nat) (S1 : XS), XF [] [] [3] S0 S1 → XF [] [] [3] S0 (fx_Rows_setBits_L3 st t fr rn n i S1) := by
  intro n
  induction n with
  | zero => intro i S1 h; exact h
  | succ n ih =>
    intro i S1 h
    rw [fx_Rows_setBits_L3]
    exact (wl_ite (P := fun (q : XS) => XF [] [] [3] _ (q)) h (ih _ _ (XF.wL (by decide) h)))
theorem ff_Rows_setBits (st : XS) (t : Int32) (fr : Int32) (rn : Int32) : XF [] [] [3] st (fx_Rows_setBits st t fr rn) := by
  rw [fx_Rows_setBits]
  exact (fr_Rows_setBits_L3 _ _ _ _ _ _ _ XF.rf)
set_option maxHeartbeats 4000000 in
set_option maxRecDepth 100000 in
theorem kx_Rows_setBits (l : Launch) (dC : Nat → ClassId) (dI : Nat → Nat → Nat) (a : Nat → Nat) (k : Nat → ClassId) (st : XS) (t : Int32) (F : Nat) (G : Nat) (sz : Nat) (hT : vp_in t 64) (hFG : F + G ≤ 1024) : Met l yX7_setBits wsX7_setBits ({ frames := 0, cells := 0, slots := 0, locals := 0 }) (va_Pc [.ref (a 17), .int t, .int (nI F), .int (nI G)] (wl_pre (dC, dI) vwCl (xt k) (xw a k) st sz)) (va_Qv (fun u9 => u9 = fx_Rows_setBits st t (nI F) (nI G)) (wl_at (dC, dI) vwCl (xt k) (xw a k) (va_A (xw a k st) sz)) (va_A (xw a k st) sz)) 0 0 (va_A (xw a k st) sz) := by
  refine Met.ofW (cc := cX7_setBits) (maxL := 5) (ret := none) (by decide) rfl ?_
  intro p e s m args below meth c s₁ B hml hv
  obtain ⟨rfl, hsz, hP, hK, hD0⟩ := hv
  have hx := B.exec
  have hb := B.bytes
  have hr := B.returns
  have hta := aw_hts (atoms_spec (ws := wsX7_setBits) B.pre)
  have hown : s.vm.findClass RX7 = some m.cls := findClass_of_methodNamed B.named
  have hlocks := B.notSynchronized
  have hf25 := hta _ mw_165
  subst hsz
  have hD := hD0.self (sz := s.heap.size)
  generalize hAe : va_A (xw a k st) s.heap.size = A at hD ⊢
  have hAz : ∀ q : Nat, s.heap.size ≤ q → A q := fun q h => by rw [← hAe]; exact Or.inr h
  have hS : va_S A s.heap s.heap [] := va_S.rf
  have hl := lv_entry ([.ref (a 17), .int t, .int (nI F), .int (nI G)]) (n := 5) (Nat.le_of_ble_eq_true rfl)
  rw [lg_entry_eq]
  generalize (lg_sl ([.ref (a 17), .int t, .int (nI F), .int (nI G)]) ++ List.replicate (5 - (lg_sl ([.ref (a 17), .int t, .int (nI F), .int (nI G)])).length) Slot.unset).toArray = ls at hl ⊢
  have hl : lv_has ls 5 [(0, .ref (a 17)), (1, .int t), (2, .int ((nI F))), (3, .int ((nI G)))] := hl
  generalize hR : fx_Rows_setBits st t (nI F) (nI G) = R
  rw [fx_Rows_setBits] at hR
  rw [nI_clamp (by omega)] at hR
  refine lv_iload_n hx hb dX7_setBits_0 rfl (lv_at hl 2 rfl) ?_
  refine lv_istore (lv' := [(4, .int ((nI F))), (0, .ref (a 17)), (1, .int t), (2, .int ((nI F))), (3, .int ((nI G)))]) hx hb dX7_setBits_1 hl (by decide) rfl (fun ls hl => ?_)
  have L3 : ∀ (n : Nat) (i : Nat) (S1 : XS) (H : Heap) (locs : List Loc) (ls : Array Slot), fx_Rows_setBits_L3 st t (nI F) (nI G) n i S1 = R → (F ≤ i ∧ i ≤ F + G) → F + G - i < n → va_P (dC, dI) vwCl (xw a k S1) H → va_D A (xw a k S1) → va_S A s.heap H locs → lv_has ls 5 [(4, .int (nI i)), (0, .ref (a 17)), (1, .int t), (2, .int ((nI F))), (3, .int ((nI G)))] → W p l e (headSpec wsX7_setBits ({ frames := 0, cells := 0, slots := 0, locals := 0 })).room s m ([.ref (a 17), .int t, .int (nI F), .int (nI G)] : List Value).toArray below meth c H locs 0 0 (MQ below (va_Qv (fun u9 => u9 = R) (wl_at (dC, dI) vwCl (xt k) (xw a k) A) A) ([.ref (a 17), .int t, .int (nI F), .int (nI G)] : List Value).toArray s 0 0 A) (F0 m 3 ls []) := by
    intro n
    induction n with
    | zero =>
      intro i S1 H locs ls hR hi hm hP hD hS hl
      exact absurd hm (Nat.not_lt_zero _)
    | succ n ih =>
      intro i S1 H locs ls hR hi hm hP hD hS hl
      rw [fx_Rows_setBits_L3] at hR
      refine lv_iload hx hb dX7_setBits_3 (lv_at hl 0 rfl) ?_
      refine lv_iload_n hx hb dX7_setBits_5 rfl (lv_at hl 3 rfl) ?_
      refine lv_iload_n hx hb dX7_setBits_6 rfl (lv_at hl 4 rfl) ?_
      refine lv_iadd hx hb dX7_setBits_7 ?_
      refine lv_icmp_ge (tgt := 42) hx hb dX7_setBits_8 (by decide) (fun c8 => ?_) (fun c8 => ?_)
      · skip
        rw [if_pos c8] at hR
        exact W.vret hx hb hr (fun t ht hW => ⟨⟨_, rfl, hR, by rw [ht]; exact hP, va_K.moved hW.alike hK, hD⟩, hS.F ht⟩) hS.2.2 dX7_setBits_42
      · skip
        rw [if_neg c8] at hR
        have hlt : i < F + G := wl_lt (by rw [← nI_add]; exact c8) (by omega)
        refine lv_aload_n hx hb dX7_setBits_11 rfl (lv_at hl 1 rfl) ?_
        refine va_get (D := (dC, dI)) (ci := 5) (v := .ref (a 18)) (C := RX7) (T := TX7) (N := 7) hx hb hta inX7 hown hK hP 17 (xr_17 a k S1) rfl 3 (by decide) hf25 (fun _ h9 => h9) rfl dX7_setBits_12 ?_
        refine lv_iload_n hx hb dX7_setBits_15 rfl (lv_at hl 2 rfl) ?_
        refine lv_bipush (v := (16 : Int32)) hx hb dX7_setBits_16 (by decide) ?_
        refine lv_imul hx hb dX7_setBits_18 ?_
        refine lv_iload hx hb dX7_setBits_19 (lv_at hl 0 rfl) ?_
        refine lv_bipush (v := (64 : Int32)) hx hb dX7_setBits_21 (by decide) ?_
        refine lv_idiv hx hb dX7_setBits_23 (by decide) ?_
        refine lv_iadd hx hb dX7_setBits_24 ?_
        refine lv_dup2_11 hx hb dX7_setBits_25 rfl rfl ?_
        refine va_lald hx hb hK hP 18 11 (xr_18 a k S1) rfl (wl_sb hT (by omega)) dX7_setBits_26 ?_
        refine lv_lconst (v := (1 : Int64)) hx hb dX7_setBits_27 (by decide) ?_
        refine lv_iload hx hb dX7_setBits_28 (lv_at hl 0 rfl) ?_
        refine lv_bipush (v := (64 : Int32)) hx hb dX7_setBits_30 (by decide) ?_
        refine lv_irem hx hb dX7_setBits_32 (by decide) ?_
        refine lv_lshl (v := (1 : Int64) <<< (((nI i) - (nI i) / (64 : Int32) * (64 : Int32)).toInt64 &&& 63)) hx hb dX7_setBits_33 rfl ?_
        refine lv_lor hx hb dX7_setBits_34 ?_
        refine va_last hx hb hK hP hD hS 18 11 (xr_18 a k S1) rfl (wl_sb hT (by omega)) dX7_setBits_35 (fun H locs hP hD hS => ?_)
        have hP := xp_L3 hP
        have hD := xd_L3 hD
        refine lv_iinc (v := nI (i + 1)) (lv' := [(4, .int (nI (i + 1))), (0, .ref (a 17)), (1, .int t), (2, .int ((nI F))), (3, .int ((nI G)))]) hx hb dX7_setBits_36 hl (k := 0) rfl (nI_1 _) (by decide) rfl (fun ls hl => ?_)
        refine lv_goto (tgt := 3) hx hb dX7_setBits_39 (by decide) ?_
        exact ih (i + 1) (wL S1 3 (((t * (16 : Int32)) + ((nI i) / (64 : Int32))).toNatClampNeg) ((fL S1 3 ((t * (16 : Int32)) + ((nI i) / (64 : Int32))).toNatClampNeg) ||| ((1 : Int64) <<< (((nI i) - (nI i) / (64 : Int32) * (64 : Int32)).toInt64 &&& 63)))) _ _ ls hR ⟨by omega, by omega⟩ (by omega) hP hD hS (lv_sub hl [0, 1, 2, 3, 4] rfl)
  exact L3 1025 F st _ _ ls hR ⟨Nat.le_refl _, by omega⟩ (by omega) hP hD hS (lv_sub hl [0, 1, 2, 3, 4] rfl)

theorem mw_168 : (.fieldLink RX7 37 RX7 "askedSize" "I" : Cond) ∈ AW := List.mem_filter.mpr ⟨List.mem_of_getElem? (i := 168) (by decide +kernel), rfl⟩
theorem mw_164 : (.fieldLink RX7 19 RX7 "evaluator" "LPathSolver$Evaluator;" : Cond) ∈ AW := List.mem_filter.mpr ⟨List.mem_of_getElem? (i := 164) (by decide +kernel), rfl⟩
theorem mw_167 : (.fieldLink RX7 33 RX7 "asked" "[I" : Cond) ∈ AW := List.mem_filter.mpr ⟨List.mem_of_getElem? (i := 167) (by decide +kernel), rfl⟩
theorem mw_532 : (.code yX5_resultAt cX5_resultAt 2 (some .long) : Cond) ∈ AW := List.mem_filter.mpr ⟨List.mem_of_getElem? (i := 532) (by decide +kernel), rfl⟩
theorem mw_529 : (.methodLink RX7 78 yX5_resultAt : Cond) ∈ AW := List.mem_filter.mpr ⟨List.mem_of_getElem? (i := 529) (by decide +kernel), rfl⟩
theorem mw_530 : (.instanceMethod yX5_resultAt : Cond) ∈ AW := List.mem_filter.mpr ⟨List.mem_of_getElem? (i := 530) (by decide +kernel), rfl⟩
theorem mw_531 : (.selects RX5 yX5_resultAt yX5_resultAt : Cond) ∈ AW := List.mem_filter.mpr ⟨List.mem_of_getElem? (i := 531) (by decide +kernel), rfl⟩
theorem mw_536 : (.code yX7_setBits cX7_setBits 5 none : Cond) ∈ AW := List.mem_filter.mpr ⟨List.mem_of_getElem? (i := 536) (by decide +kernel), rfl⟩
theorem mw_533 : (.methodLink RX7 82 yX7_setBits : Cond) ∈ AW := List.mem_filter.mpr ⟨List.mem_of_getElem? (i := 533) (by decide +kernel), rfl⟩
theorem mw_44 : (.initialized RX7 : Cond) ∈ AW := List.mem_filter.mpr ⟨List.mem_of_getElem? (i := 44) (by decide +kernel), rfl⟩
theorem mw_535 : (.instanceMethod yX7_setBits : Cond) ∈ AW := List.mem_filter.mpr ⟨List.mem_of_getElem? (i := 535) (by decide +kernel), rfl⟩
theorem mw_13 : (.selects RX7 yX7_setBits yX7_setBits : Cond) ∈ AW := List.mem_filter.mpr ⟨List.mem_of_getElem? (i := 13) (by decide +kernel), rfl⟩
theorem gX7_78 : GoodIn AW (wsV RX7 78 RX5 yX5_resultAt wsX5_resultAt) := aw_V mw_529 mw_530 mw_531 mw_42 mw_532
theorem gX7_82 : GoodIn AW (wsV RX7 82 RX7 yX7_setBits wsX7_setBits) := aw_V mw_533 mw_535 mw_13 mw_44 mw_536
theorem dX7_noteAsked_0 : decode cX7_noteAsked 0 = .ok (.iconst 0, 1) := by decide +kernel
theorem dX7_noteAsked_1 : decode cX7_noteAsked 1 = .ok (.istore_n 3, 1) := by decide +kernel
theorem dX7_noteAsked_2 : decode cX7_noteAsked 2 = .ok (.iload_n 3, 1) := by decide +kernel
theorem dX7_noteAsked_3 : decode cX7_noteAsked 3 = .ok (.aload_n 0, 1) := by decide +kernel
theorem dX7_noteAsked_4 : decode cX7_noteAsked 4 = .ok (.getfield 37, 3) := by decide +kernel
theorem dX7_noteAsked_7 : decode cX7_noteAsked 7 = .ok (.if_icmp .ge 39, 3) := by decide +kernel
theorem dX7_noteAsked_10 : decode cX7_noteAsked 10 = .ok (.aload_n 0, 1) := by decide +kernel
theorem dX7_noteAsked_11 : decode cX7_noteAsked 11 = .ok (.getfield 19, 3) := by decide +kernel
theorem dX7_noteAsked_14 : decode cX7_noteAsked 14 = .ok (.aload_n 0, 1) := by decide +kernel
theorem dX7_noteAsked_15 : decode cX7_noteAsked 15 = .ok (.getfield 33, 3) := by decide +kernel
theorem dX7_noteAsked_18 : decode cX7_noteAsked 18 = .ok (.iload_n 3, 1) := by decide +kernel
theorem dX7_noteAsked_19 : decode cX7_noteAsked 19 = .ok (.iaload, 1) := by decide +kernel
theorem dX7_noteAsked_20 : decode cX7_noteAsked 20 = .ok (.invokevirtual 78, 3) := by decide +kernel
theorem dX7_noteAsked_23 : decode cX7_noteAsked 23 = .ok (.lconst 0, 1) := by decide +kernel
theorem dX7_noteAsked_24 : decode cX7_noteAsked 24 = .ok (.lcmp, 1) := by decide +kernel
theorem dX7_noteAsked_25 : decode cX7_noteAsked 25 = .ok (.ifCond .eq 15, 3) := by decide +kernel
theorem dX7_noteAsked_28 : decode cX7_noteAsked 28 = .ok (.aload_n 0, 1) := by decide +kernel
theorem dX7_noteAsked_29 : decode cX7_noteAsked 29 = .ok (.aload_n 0, 1) := by decide +kernel
theorem dX7_noteAsked_30 : decode cX7_noteAsked 30 = .ok (.getfield 33, 3) := by decide +kernel
theorem dX7_noteAsked_33 : decode cX7_noteAsked 33 = .ok (.iload_n 3, 1) := by decide +kernel
theorem dX7_noteAsked_34 : decode cX7_noteAsked 34 = .ok (.iaload, 1) := by decide +kernel
theorem dX7_noteAsked_35 : decode cX7_noteAsked 35 = .ok (.iload_n 1, 1) := by decide +kernel
theorem dX7_noteAsked_36 : decode cX7_noteAsked 36 = .ok (.iload_n 2, 1) := by decide +kernel
theorem dX7_noteAsked_37 : decode cX7_noteAsked 37 = .ok (.invokevirtual 82, 3) := by decide +kernel
theorem dX7_noteAsked_40 : decode cX7_noteAsked 40 = .ok (.iinc 3 1, 3) := by decide +kernel
theorem dX7_noteAsked_43 : decode cX7_noteAsked 43 = .ok (.goto (-41), 3) := by decide +kernel
theorem dX7_noteAsked_46 : decode cX7_noteAsked 46 = .ok (.return_, 1) := by decide +kernel
def fx_Rows_noteAsked_L2 (st : XS) (fr : Int32) (rn : Int32) : Nat → Nat → XS → XS
  | 0, i, S1 => S1
  | n + 1, i, S1 => 
    if gI S1 8 ≤ nI i then S1
    else 
      if lg_cmp (fx_Eval_resultAt S1 ((fA S1 9 (nI i).toNatClampNeg))) (0 : Int64) = (0 : Int32) then fx_Rows_noteAsked_L2 st fr rn n (i + 1) S1
      else fx_Rows_noteAsked_L2 st fr rn n (i + 1) ((fx_Rows_setBits S1 ((fA S1 9 (nI i).toNatClampNeg)) (fr) (rn)))
def fx_Rows_noteAsked (st : XS) (fr : Int32) (rn : Int32) : XS := fx_Rows_noteAsked_L2 st fr rn 65 0 st
theorem fr_Rows_noteAsked_L2 {S0 : XS} (st : XS) (fr : Int32) (rn : Int32) : ∀ (n : Nat) (i : Nat) (S1 : XS), XF [] [] [3] S0 S1 → XF [] [] [3] S0 (fx_Rows_noteAsked_L2 st fr rn n i S1) := by
  intro n
  induction n with
  | zero => intro i S1 h; exact h
  | succ n ih =>
    intro i S1 h
    rw [fx_Rows_noteAsked_L2]
    exact (wl_ite (P := fun (q : XS) => XF [] [] [3] _ (q)) h (wl_ite (P := fun (q : XS) => XF [] [] [3] _ (q)) (ih _ _ h) (ih _ _ (XF.tr h (XF.mono (ff_Rows_setBits _ _ _ _) (by decide) (by decide) (by decide))))))
theorem ff_Rows_noteAsked (st : XS) (fr : Int32) (rn : Int32) : XF [] [] [3] st (fx_Rows_noteAsked st fr rn) := by
  rw [fx_Rows_noteAsked]
  exact (fr_Rows_noteAsked_L2 _ _ _ _ _ _ XF.rf)
set_option maxHeartbeats 4000000 in
set_option maxRecDepth 100000 in
theorem kx_Rows_noteAsked (l : Launch) (dC : Nat → ClassId) (dI : Nat → Nat → Nat) (a : Nat → Nat) (k : Nat → ClassId) (st : XS) (F : Nat) (G : Nat) (sz : Nat) (Q : Nat) (hQ : gI st 8 = nI Q) (hQ64 : Q ≤ 64) (hak : ∀ j : Nat, j < Q → vp_in (fA st 9 j) 64) (hFG : F + G ≤ 1024) : Met l yX7_noteAsked wsX7_noteAsked ({ frames := 1, cells := 0, slots := 0, locals := 24 }) (va_Pc [.ref (a 17), .int (nI F), .int (nI G)] (wl_pre (dC, dI) vwCl (xt k) (xw a k) st sz)) (va_Qv (fun u9 => u9 = fx_Rows_noteAsked st (nI F) (nI G)) (wl_at (dC, dI) vwCl (xt k) (xw a k) (va_A (xw a k st) sz)) (va_A (xw a k st) sz)) 0 0 (va_A (xw a k st) sz) := by
  refine Met.ofW (cc := cX7_noteAsked) (maxL := 4) (ret := none) (by decide) rfl ?_
  intro p e s m args below meth c s₁ B hml hv
  obtain ⟨rfl, hsz, hP, hK, hD0⟩ := hv
  have hx := B.exec
  have hb := B.bytes
  have hr := B.returns
  have hta := aw_hts (atoms_spec (ws := wsX7_noteAsked) B.pre)
  have hown : s.vm.findClass RX7 = some m.cls := findClass_of_methodNamed B.named
  have hlocks := B.notSynchronized
  have hf37 := hta _ mw_168
  have hf19 := hta _ mw_164
  have hf33 := hta _ mw_167
  subst hsz
  have hD := hD0.self (sz := s.heap.size)
  generalize hAe : va_A (xw a k st) s.heap.size = A at hD ⊢
  have hAz : ∀ q : Nat, s.heap.size ≤ q → A q := fun q h => by rw [← hAe]; exact Or.inr h
  have hS : va_S A s.heap s.heap [] := va_S.rf
  have hl := lv_entry ([.ref (a 17), .int (nI F), .int (nI G)]) (n := 4) (Nat.le_of_ble_eq_true rfl)
  rw [lg_entry_eq]
  generalize (lg_sl ([.ref (a 17), .int (nI F), .int (nI G)]) ++ List.replicate (4 - (lg_sl ([.ref (a 17), .int (nI F), .int (nI G)])).length) Slot.unset).toArray = ls at hl ⊢
  have hl : lv_has ls 4 [(0, .ref (a 17)), (1, .int ((nI F))), (2, .int ((nI G)))] := hl
  generalize hR : fx_Rows_noteAsked st (nI F) (nI G) = R
  rw [fx_Rows_noteAsked] at hR
  refine lv_iconst (v := (0 : Int32)) hx hb dX7_noteAsked_0 (by decide) ?_
  refine lv_istore_n (lv' := [(3, .int (0 : Int32)), (0, .ref (a 17)), (1, .int ((nI F))), (2, .int ((nI G)))]) hx hb dX7_noteAsked_1 rfl hl (by decide) rfl (fun ls hl => ?_)
  have L2 : ∀ (n : Nat) (i : Nat) (S1 : XS) (H : Heap) (locs : List Loc) (ls : Array Slot), fx_Rows_noteAsked_L2 st (nI F) (nI G) n i S1 = R → (i ≤ Q) → (XF [] [] [3] st S1) → Q - i < n → va_P (dC, dI) vwCl (xw a k S1) H → va_D A (xw a k S1) → va_S A s.heap H locs → lv_has ls 4 [(3, .int (nI i)), (0, .ref (a 17)), (1, .int ((nI F))), (2, .int ((nI G)))] → W p l e (headSpec wsX7_noteAsked ({ frames := 1, cells := 0, slots := 0, locals := 24 })).room s m ([.ref (a 17), .int (nI F), .int (nI G)] : List Value).toArray below meth c H locs 0 0 (MQ below (va_Qv (fun u9 => u9 = R) (wl_at (dC, dI) vwCl (xt k) (xw a k) A) A) ([.ref (a 17), .int (nI F), .int (nI G)] : List Value).toArray s 0 0 A) (F0 m 2 ls []) := by
    intro n
    induction n with
    | zero =>
      intro i S1 H locs ls hR hi hE hm hP hD hS hl
      exact absurd hm (Nat.not_lt_zero _)
    | succ n ih =>
      intro i S1 H locs ls hR hi hE hm hP hD hS hl
      rw [fx_Rows_noteAsked_L2] at hR
      refine lv_iload_n hx hb dX7_noteAsked_2 rfl (lv_at hl 0 rfl) ?_
      refine lv_aload_n hx hb dX7_noteAsked_3 rfl (lv_at hl 1 rfl) ?_
      refine va_get (D := (dC, dI)) (ci := 5) (v := .int (gI S1 8)) (C := RX7) (T := TX7) (N := 7) hx hb hta inX7 hown hK hP 17 (xr_17 a k S1) rfl 6 (by decide) hf37 (fun _ h9 => h9) rfl dX7_noteAsked_4 ?_
      refine lv_icmp_ge (tgt := 46) hx hb dX7_noteAsked_7 (by decide) (fun c7 => ?_) (fun c7 => ?_)
      · skip
        rw [if_pos c7] at hR
        exact W.vret hx hb hr (fun t ht hW => ⟨⟨_, rfl, hR, by rw [ht]; exact hP, va_K.moved hW.alike hK, hD⟩, hS.F ht⟩) hS.2.2 dX7_noteAsked_46
      · skip
        rw [if_neg c7] at hR
        have hlt : i < Q := wl_lt (by rw [← hQ, ← hE.I 8 (by decide)]; exact c7) (by omega)
        refine lv_aload_n hx hb dX7_noteAsked_10 rfl (lv_at hl 1 rfl) ?_
        refine va_get (D := (dC, dI)) (ci := 5) (v := .ref (a 13)) (C := RX7) (T := TX7) (N := 7) hx hb hta inX7 hown hK hP 17 (xr_17 a k S1) rfl 2 (by decide) hf19 (fun _ h9 => h9) rfl dX7_noteAsked_11 ?_
        refine lv_aload_n hx hb dX7_noteAsked_14 rfl (lv_at hl 1 rfl) ?_
        refine va_get (D := (dC, dI)) (ci := 5) (v := .ref (a 20)) (C := RX7) (T := TX7) (N := 7) hx hb hta inX7 hown hK hP 17 (xr_17 a k S1) rfl 5 (by decide) hf33 (fun _ h9 => h9) rfl dX7_noteAsked_15 ?_
        refine lv_iload_n hx hb dX7_noteAsked_18 rfl (lv_at hl 0 rfl) ?_
        refine va_iald hx hb hK hP 20 13 (xr_20 a k S1) rfl (wl_in (by omega) (by decide)) dX7_noteAsked_19 ?_
        have e19 : fA S1 9 (nI i).toNatClampNeg = fA st 9 i := (by rw [hE.A 9 (by decide), nI_clamp (by omega)])
        rw [e19]
        try rw [e19] at hR
        refine wl_cl (va_runV (As := [.int ((fA st 9 i))]) (rest := []) ⟨hx, hb, hml, hown, hta⟩ (kx_Eval_resultAt l dC dI a k S1 ((fA st 9 i)) (hak i hlt)) (cwV 1 hta gX7_78 rfl rfl rfl (by decide +kernel) ⟨Nat.le_of_ble_eq_true rfl, Nat.le_of_ble_eq_true rfl⟩) (wl_pR (C := RX5) (ci := 3) (q0 := 13) hK hP rfl (xr_13 a k S1)) rfl rfl hl.1 rfl (lv_room (Nat.le_of_ble_eq_true rfl)) dX7_noteAsked_20 ⟨Nat.zero_le _, Nat.zero_le _⟩) ?_
        refine lv_lconst (v := (0 : Int64)) hx hb dX7_noteAsked_23 (by decide) ?_
        refine W.lcmp hx hb dX7_noteAsked_24 ?_
        refine lv_if_eq (tgt := 40) hx hb dX7_noteAsked_25 (by decide) (fun c25 => ?_) (fun c25 => ?_)
        · skip
          rw [if_pos c25] at hR
          refine lv_iinc (v := nI (i + 1)) (lv' := [(3, .int (nI (i + 1))), (0, .ref (a 17)), (1, .int ((nI F))), (2, .int ((nI G)))]) hx hb dX7_noteAsked_40 hl (k := 0) rfl (nI_1 _) (by decide) rfl (fun ls hl => ?_)
          refine lv_goto (tgt := 2) hx hb dX7_noteAsked_43 (by decide) ?_
          exact ih (i + 1) S1 _ _ ls hR (by omega) hE (by omega) hP hD hS (lv_sub hl [0, 1, 2, 3] rfl)
        · skip
          rw [if_neg c25] at hR
          refine lv_aload_n hx hb dX7_noteAsked_28 rfl (lv_at hl 1 rfl) ?_
          refine lv_aload_n hx hb dX7_noteAsked_29 rfl (lv_at hl 1 rfl) ?_
          refine va_get (D := (dC, dI)) (ci := 5) (v := .ref (a 20)) (C := RX7) (T := TX7) (N := 7) hx hb hta inX7 hown hK hP 17 (xr_17 a k S1) rfl 5 (by decide) hf33 (fun _ h9 => h9) rfl dX7_noteAsked_30 ?_
          refine lv_iload_n hx hb dX7_noteAsked_33 rfl (lv_at hl 0 rfl) ?_
          refine va_iald hx hb hK hP 20 13 (xr_20 a k S1) rfl (wl_in (by omega) (by decide)) dX7_noteAsked_34 ?_
          have e34 : fA S1 9 (nI i).toNatClampNeg = fA st 9 i := (by rw [hE.A 9 (by decide), nI_clamp (by omega)])
          rw [e34]
          try rw [e34] at hR
          refine lv_iload_n hx hb dX7_noteAsked_35 rfl (lv_at hl 2 rfl) ?_
          refine lv_iload_n hx hb dX7_noteAsked_36 rfl (lv_at hl 3 rfl) ?_
          refine wl_mv (va_runV (As := [.int ((fA st 9 i)), .int ((nI F)), .int ((nI G))]) (rest := []) ⟨hx, hb, hml, hown, hta⟩ (kx_Rows_setBits l dC dI a k S1 ((fA st 9 i)) F G _ (hak i hlt) hFG) (cwV 3 hta gX7_82 rfl rfl rfl (by decide +kernel) ⟨Nat.le_of_ble_eq_true rfl, Nat.le_of_ble_eq_true rfl⟩) (wl_pM (C := RX7) (ci := 5) (q0 := 17) hK hP hD rfl (xr_17 a k S1)) rfl rfl hl.1 rfl (lv_room (Nat.le_of_ble_eq_true rfl)) dX7_noteAsked_37 ⟨Nat.zero_le _, Nat.zero_le _⟩) hP hD hS hAz (fun u37 H locs hw37 hP hD hS => ?_)
          have w37 : fx_Rows_setBits S1 ((fA st 9 i)) ((nI F)) ((nI G)) = u37 := hw37.symm
          have hf37 : XF [] [] [3] S1 u37 := by rw [← w37]; exact ff_Rows_setBits S1 ((fA st 9 i)) ((nI F)) ((nI G))
          try rw [w37] at hR
          refine lv_iinc (v := nI (i + 1)) (lv' := [(3, .int (nI (i + 1))), (0, .ref (a 17)), (1, .int ((nI F))), (2, .int ((nI G)))]) hx hb dX7_noteAsked_40 hl (k := 0) rfl (nI_1 _) (by decide) rfl (fun ls hl => ?_)
          refine lv_goto (tgt := 2) hx hb dX7_noteAsked_43 (by decide) ?_
          exact ih (i + 1) (u37) _ _ ls hR (by omega) (XF.tr hE hf37) (by omega) hP hD hS (lv_sub hl [0, 1, 2, 3] rfl)
  exact L2 65 0 st _ _ ls hR (Nat.zero_le _) XF.rf (by omega) hP hD hS (lv_sub hl [0, 1, 2, 3] rfl)

theorem mw_491 : (.methodLink RX7 69 yX5_needNothing : Cond) ∈ AW := List.mem_filter.mpr ⟨List.mem_of_getElem? (i := 491) (by decide +kernel), rfl⟩
theorem mw_498 : (.code yX7_clearRow cX7_clearRow 3 none : Cond) ∈ AW := List.mem_filter.mpr ⟨List.mem_of_getElem? (i := 498) (by decide +kernel), rfl⟩
theorem mw_495 : (.methodLink RX7 72 yX7_clearRow : Cond) ∈ AW := List.mem_filter.mpr ⟨List.mem_of_getElem? (i := 495) (by decide +kernel), rfl⟩
theorem mw_497 : (.instanceMethod yX7_clearRow : Cond) ∈ AW := List.mem_filter.mpr ⟨List.mem_of_getElem? (i := 497) (by decide +kernel), rfl⟩
theorem mw_11 : (.selects RX7 yX7_clearRow yX7_clearRow : Cond) ∈ AW := List.mem_filter.mpr ⟨List.mem_of_getElem? (i := 11) (by decide +kernel), rfl⟩
theorem mw_499 : (.methodLink RX7 75 yX5_need : Cond) ∈ AW := List.mem_filter.mpr ⟨List.mem_of_getElem? (i := 499) (by decide +kernel), rfl⟩
theorem gX7_69 : GoodIn AW (wsV RX7 69 RX5 yX5_needNothing wsX5_needNothing) := aw_V mw_491 mw_492 mw_493 mw_42 mw_494
theorem gX7_72 : GoodIn AW (wsV RX7 72 RX7 yX7_clearRow wsX7_clearRow) := aw_V mw_495 mw_497 mw_11 mw_44 mw_498
theorem gX7_75 : GoodIn AW (wsV RX7 75 RX5 yX5_need wsX5_need) := aw_V mw_499 mw_500 mw_501 mw_42 mw_502
theorem dX7_ask_0 : decode cX7_ask 0 = .ok (.aload_n 0, 1) := by decide +kernel
theorem dX7_ask_1 : decode cX7_ask 1 = .ok (.iconst 0, 1) := by decide +kernel
theorem dX7_ask_2 : decode cX7_ask 2 = .ok (.putfield 37, 3) := by decide +kernel
theorem dX7_ask_5 : decode cX7_ask 5 = .ok (.aload_n 0, 1) := by decide +kernel
theorem dX7_ask_6 : decode cX7_ask 6 = .ok (.getfield 19, 3) := by decide +kernel
theorem dX7_ask_9 : decode cX7_ask 9 = .ok (.invokevirtual 69, 3) := by decide +kernel
theorem dX7_ask_12 : decode cX7_ask 12 = .ok (.iconst 0, 1) := by decide +kernel
theorem dX7_ask_13 : decode cX7_ask 13 = .ok (.istore_n 3, 1) := by decide +kernel
theorem dX7_ask_14 : decode cX7_ask 14 = .ok (.iload_n 3, 1) := by decide +kernel
theorem dX7_ask_15 : decode cX7_ask 15 = .ok (.iload_n 2, 1) := by decide +kernel
theorem dX7_ask_16 : decode cX7_ask 16 = .ok (.if_icmp .ge 68, 3) := by decide +kernel
theorem dX7_ask_19 : decode cX7_ask 19 = .ok (.aload_n 1, 1) := by decide +kernel
theorem dX7_ask_20 : decode cX7_ask 20 = .ok (.iload_n 3, 1) := by decide +kernel
theorem dX7_ask_21 : decode cX7_ask 21 = .ok (.iaload, 1) := by decide +kernel
theorem dX7_ask_22 : decode cX7_ask 22 = .ok (.istore 4, 2) := by decide +kernel
theorem dX7_ask_24 : decode cX7_ask 24 = .ok (.aload_n 0, 1) := by decide +kernel
theorem dX7_ask_25 : decode cX7_ask 25 = .ok (.getfield 29, 3) := by decide +kernel
theorem dX7_ask_28 : decode cX7_ask 28 = .ok (.iload 4, 2) := by decide +kernel
theorem dX7_ask_30 : decode cX7_ask 30 = .ok (.baload, 1) := by decide +kernel
theorem dX7_ask_31 : decode cX7_ask 31 = .ok (.ifCond .ne 47, 3) := by decide +kernel
theorem dX7_ask_34 : decode cX7_ask 34 = .ok (.aload_n 0, 1) := by decide +kernel
theorem dX7_ask_35 : decode cX7_ask 35 = .ok (.getfield 29, 3) := by decide +kernel
theorem dX7_ask_38 : decode cX7_ask 38 = .ok (.iload 4, 2) := by decide +kernel
theorem dX7_ask_40 : decode cX7_ask 40 = .ok (.iconst 1, 1) := by decide +kernel
theorem dX7_ask_41 : decode cX7_ask 41 = .ok (.bastore, 1) := by decide +kernel
theorem dX7_ask_42 : decode cX7_ask 42 = .ok (.aload_n 0, 1) := by decide +kernel
theorem dX7_ask_43 : decode cX7_ask 43 = .ok (.iload 4, 2) := by decide +kernel
theorem dX7_ask_45 : decode cX7_ask 45 = .ok (.invokevirtual 72, 3) := by decide +kernel
theorem dX7_ask_48 : decode cX7_ask 48 = .ok (.aload_n 0, 1) := by decide +kernel
theorem dX7_ask_49 : decode cX7_ask 49 = .ok (.getfield 19, 3) := by decide +kernel
theorem dX7_ask_52 : decode cX7_ask 52 = .ok (.iload 4, 2) := by decide +kernel
theorem dX7_ask_54 : decode cX7_ask 54 = .ok (.invokevirtual 75, 3) := by decide +kernel
theorem dX7_ask_57 : decode cX7_ask 57 = .ok (.aload_n 0, 1) := by decide +kernel
theorem dX7_ask_58 : decode cX7_ask 58 = .ok (.getfield 33, 3) := by decide +kernel
theorem dX7_ask_61 : decode cX7_ask 61 = .ok (.aload_n 0, 1) := by decide +kernel
theorem dX7_ask_62 : decode cX7_ask 62 = .ok (.getfield 37, 3) := by decide +kernel
theorem dX7_ask_65 : decode cX7_ask 65 = .ok (.iload 4, 2) := by decide +kernel
theorem dX7_ask_67 : decode cX7_ask 67 = .ok (.iastore, 1) := by decide +kernel
theorem dX7_ask_68 : decode cX7_ask 68 = .ok (.aload_n 0, 1) := by decide +kernel
theorem dX7_ask_69 : decode cX7_ask 69 = .ok (.dup, 1) := by decide +kernel
theorem dX7_ask_70 : decode cX7_ask 70 = .ok (.getfield 37, 3) := by decide +kernel
theorem dX7_ask_73 : decode cX7_ask 73 = .ok (.iconst 1, 1) := by decide +kernel
theorem dX7_ask_74 : decode cX7_ask 74 = .ok (.iadd, 1) := by decide +kernel
theorem dX7_ask_75 : decode cX7_ask 75 = .ok (.putfield 37, 3) := by decide +kernel
theorem dX7_ask_78 : decode cX7_ask 78 = .ok (.iinc 3 1, 3) := by decide +kernel
theorem dX7_ask_81 : decode cX7_ask 81 = .ok (.goto (-67), 3) := by decide +kernel
theorem dX7_ask_84 : decode cX7_ask 84 = .ok (.return_, 1) := by decide +kernel
def fx_Rows_ask_L14 (st : XS) (len : Int32) : Nat → Nat → XS → XS
  | 0, i, S1 => S1
  | n + 1, i, S1 => 
    if len ≤ nI i then S1
    else 
      if fA S1 8 ((fA S1 10 (nI i).toNatClampNeg)).toNatClampNeg = (0 : Int32) then fx_Rows_ask_L14 st len n (i + 1) (wI (wA ((fx_Eval_need ((fx_Rows_clearRow (wA S1 8 (((fA S1 10 (nI i).toNatClampNeg)).toNatClampNeg) (vp_nar .boolean (1 : Int32))) ((fA S1 10 (nI i).toNatClampNeg)))) ((fA S1 10 (nI i).toNatClampNeg)))) 9 ((gI ((fx_Eval_need ((fx_Rows_clearRow (wA S1 8 (((fA S1 10 (nI i).toNatClampNeg)).toNatClampNeg) (vp_nar .boolean (1 : Int32))) ((fA S1 10 (nI i).toNatClampNeg)))) ((fA S1 10 (nI i).toNatClampNeg)))) 8).toNatClampNeg) ((fA S1 10 (nI i).toNatClampNeg))) 8 ((gI ((fx_Eval_need ((fx_Rows_clearRow (wA S1 8 (((fA S1 10 (nI i).toNatClampNeg)).toNatClampNeg) (vp_nar .boolean (1 : Int32))) ((fA S1 10 (nI i).toNatClampNeg)))) ((fA S1 10 (nI i).toNatClampNeg)))) 8) + (1 : Int32)))
      else fx_Rows_ask_L14 st len n (i + 1) S1
def fx_Rows_ask (st : XS) (len : Int32) : XS := fx_Rows_ask_L14 st len 17 0 ((fx_Eval_needNothing (wI st 8 (0 : Int32))))
theorem fr_Rows_ask_L14 {S0 : XS} (st : XS) (len : Int32) : ∀ (n : Nat) (i : Nat) (S1 : XS), XF [8] [7, 8, 9] [3] S0 S1 → XF [8] [7, 8, 9] [3] S0 (fx_Rows_ask_L14 st len n i S1) := by
  intro n
  induction n with
  | zero => intro i S1 h; exact h
  | succ n ih =>
    intro i S1 h
    rw [fx_Rows_ask_L14]
    exact (wl_ite (P := fun (q : XS) => XF [8] [7, 8, 9] [3] _ (q)) h (wl_ite (P := fun (q : XS) => XF [8] [7, 8, 9] [3] _ (q)) (ih _ _ (XF.wI (by decide) (XF.wA (by decide) (XF.tr (XF.tr (XF.wA (by decide) h) (XF.mono (ff_Rows_clearRow _ _) (by decide) (by decide) (by decide))) (XF.mono (ff_Eval_need _ _) (by decide) (by decide) (by decide)))))) (ih _ _ h)))
theorem ff_Rows_ask (st : XS) (len : Int32) : XF [8] [7, 8, 9] [3] st (fx_Rows_ask st len) := by
  rw [fx_Rows_ask]
  exact (fr_Rows_ask_L14 _ _ _ _ _ (XF.tr (XF.wI (by decide) XF.rf) (XF.mono (ff_Eval_needNothing _) (by decide) (by decide) (by decide))))
set_option maxHeartbeats 4000000 in
set_option maxRecDepth 100000 in
theorem kx_Rows_ask (l : Launch) (dC : Nat → ClassId) (dI : Nat → Nat → Nat) (a : Nat → Nat) (k : Nat → ClassId) (st : XS) (E : Nat) (sz : Nat) (hE16 : E ≤ 16) (hcd : ∀ j : Nat, j < E → vp_in (fA st 10 j) 64) : Met l yX7_ask wsX7_ask ({ frames := 1, cells := 0, slots := 0, locals := 22 }) (va_Pc [.ref (a 17), .ref (a 22), .int (nI E)] (wl_pre (dC, dI) vwCl (xt k) (xw a k) st sz)) (va_Qv (fun u9 => u9 = fx_Rows_ask st (nI E)) (wl_at (dC, dI) vwCl (xt k) (xw a k) (va_A (xw a k st) sz)) (va_A (xw a k st) sz)) 0 0 (va_A (xw a k st) sz) := by
  refine Met.ofW (cc := cX7_ask) (maxL := 5) (ret := none) (by decide) rfl ?_
  intro p e s m args below meth c s₁ B hml hv
  obtain ⟨rfl, hsz, hP, hK, hD0⟩ := hv
  have hx := B.exec
  have hb := B.bytes
  have hr := B.returns
  have hta := aw_hts (atoms_spec (ws := wsX7_ask) B.pre)
  have hown : s.vm.findClass RX7 = some m.cls := findClass_of_methodNamed B.named
  have hlocks := B.notSynchronized
  have hf37 := hta _ mw_168
  have hf19 := hta _ mw_164
  have hf29 := hta _ mw_166
  have hf33 := hta _ mw_167
  subst hsz
  have hD := hD0.self (sz := s.heap.size)
  generalize hAe : va_A (xw a k st) s.heap.size = A at hD ⊢
  have hAz : ∀ q : Nat, s.heap.size ≤ q → A q := fun q h => by rw [← hAe]; exact Or.inr h
  have hS : va_S A s.heap s.heap [] := va_S.rf
  have hl := lv_entry ([.ref (a 17), .ref (a 22), .int (nI E)]) (n := 5) (Nat.le_of_ble_eq_true rfl)
  rw [lg_entry_eq]
  generalize (lg_sl ([.ref (a 17), .ref (a 22), .int (nI E)]) ++ List.replicate (5 - (lg_sl ([.ref (a 17), .ref (a 22), .int (nI E)])).length) Slot.unset).toArray = ls at hl ⊢
  have hl : lv_has ls 5 [(0, .ref (a 17)), (1, .ref (a 22)), (2, .int ((nI E)))] := hl
  generalize hR : fx_Rows_ask st (nI E) = R
  rw [fx_Rows_ask] at hR
  refine lv_aload_n hx hb dX7_ask_0 rfl (lv_at hl 0 rfl) ?_
  refine lv_iconst (v := (0 : Int32)) hx hb dX7_ask_1 (by decide) ?_
  refine va_put (D := (dC, dI)) (ci := 5) (v := .int (0 : Int32)) (ty := .int) (C := RX7) (T := TX7) (N := 7) hx hb hta inX7 tyX7 tyX7_ok nmX7 hown hK hP hD hS 17 (xr_17 a k st) rfl 6 (by decide) hf37 (fun _ h9 => h9) rfl (by decide +kernel) rfl rfl (Nat.le_of_ble_eq_true rfl) dX7_ask_2 (fun H locs hP hD hS => ?_)
  have hP := xp_I8 hP
  have hD := xd_I8 hD
  refine lv_aload_n hx hb dX7_ask_5 rfl (lv_at hl 0 rfl) ?_
  refine va_get (D := (dC, dI)) (ci := 5) (v := .ref (a 13)) (C := RX7) (T := TX7) (N := 7) hx hb hta inX7 hown hK hP 17 (xr_17 a k (wI st 8 (0 : Int32))) rfl 2 (by decide) hf19 (fun _ h9 => h9) rfl dX7_ask_6 ?_
  refine wl_mv (va_runV (As := []) (rest := []) ⟨hx, hb, hml, hown, hta⟩ (kx_Eval_needNothing l dC dI a k (wI st 8 (0 : Int32)) _) (cwV 0 hta gX7_69 rfl rfl rfl (by decide +kernel) ⟨Nat.le_of_ble_eq_true rfl, Nat.le_of_ble_eq_true rfl⟩) (wl_pM (C := RX5) (ci := 3) (q0 := 13) hK hP hD rfl (xr_13 a k (wI st 8 (0 : Int32)))) rfl rfl hl.1 rfl (lv_room (Nat.le_of_ble_eq_true rfl)) dX7_ask_9 ⟨Nat.zero_le _, Nat.zero_le _⟩) hP hD hS hAz (fun u9 H locs hw9 hP hD hS => ?_)
  have w9 : fx_Eval_needNothing (wI st 8 (0 : Int32)) = u9 := hw9.symm
  have hf9 : XF [] [7] [] (wI st 8 (0 : Int32)) u9 := by rw [← w9]; exact ff_Eval_needNothing (wI st 8 (0 : Int32))
  try rw [w9] at hR
  refine lv_iconst (v := (0 : Int32)) hx hb dX7_ask_12 (by decide) ?_
  refine lv_istore_n (lv' := [(3, .int (0 : Int32)), (0, .ref (a 17)), (1, .ref (a 22)), (2, .int ((nI E)))]) hx hb dX7_ask_13 rfl hl (by decide) rfl (fun ls hl => ?_)
  have L14 : ∀ (n : Nat) (i : Nat) (S1 : XS) (H : Heap) (locs : List Loc) (ls : Array Slot), fx_Rows_ask_L14 st (nI E) n i S1 = R → (i ≤ E) → (XF [8] [7, 8, 9] [3] st S1) → (∃ Q : Nat, gI S1 8 = nI Q ∧ Q ≤ i) → E - i < n → va_P (dC, dI) vwCl (xw a k S1) H → va_D A (xw a k S1) → va_S A s.heap H locs → lv_has ls 5 [(3, .int (nI i)), (0, .ref (a 17)), (1, .ref (a 22)), (2, .int ((nI E)))] → W p l e (headSpec wsX7_ask ({ frames := 1, cells := 0, slots := 0, locals := 22 })).room s m ([.ref (a 17), .ref (a 22), .int (nI E)] : List Value).toArray below meth c H locs 0 0 (MQ below (va_Qv (fun u9 => u9 = R) (wl_at (dC, dI) vwCl (xt k) (xw a k) A) A) ([.ref (a 17), .ref (a 22), .int (nI E)] : List Value).toArray s 0 0 A) (F0 m 14 ls []) := by
    intro n
    induction n with
    | zero =>
      intro i S1 H locs ls hR hi hF hq hm hP hD hS hl
      exact absurd hm (Nat.not_lt_zero _)
    | succ n ih =>
      intro i S1 H locs ls hR hi hF hq hm hP hD hS hl
      rw [fx_Rows_ask_L14] at hR
      try rw [w9] at hR
      refine lv_iload_n hx hb dX7_ask_14 rfl (lv_at hl 0 rfl) ?_
      refine lv_iload_n hx hb dX7_ask_15 rfl (lv_at hl 3 rfl) ?_
      refine lv_icmp_ge (tgt := 84) hx hb dX7_ask_16 (by decide) (fun c16 => ?_) (fun c16 => ?_)
      · skip
        rw [if_pos c16] at hR
        exact W.vret hx hb hr (fun t ht hW => ⟨⟨_, rfl, hR, by rw [ht]; exact hP, va_K.moved hW.alike hK, hD⟩, hS.F ht⟩) hS.2.2 dX7_ask_84
      · skip
        rw [if_neg c16] at hR
        have hlt : i < E := wl_lt c16 (by omega)
        obtain ⟨Q, hQ, hQi⟩ := hq
        refine lv_aload_n hx hb dX7_ask_19 rfl (lv_at hl 2 rfl) ?_
        refine lv_iload_n hx hb dX7_ask_20 rfl (lv_at hl 0 rfl) ?_
        refine va_iald hx hb hK hP 22 14 (xr_22 a k S1) rfl (wl_in (by omega) (by decide)) dX7_ask_21 ?_
        have e21 : fA S1 10 (nI i).toNatClampNeg = fA st 10 i := (by rw [hF.A 10 (by decide), nI_clamp (by omega)])
        rw [e21]
        try rw [e21] at hR
        refine lv_istore (lv' := [(4, .int ((fA st 10 i))), (3, .int (nI i)), (0, .ref (a 17)), (1, .ref (a 22)), (2, .int ((nI E)))]) hx hb dX7_ask_22 hl (by decide) rfl (fun ls hl => ?_)
        refine lv_aload_n hx hb dX7_ask_24 rfl (lv_at hl 2 rfl) ?_
        refine va_get (D := (dC, dI)) (ci := 5) (v := .ref (a 19)) (C := RX7) (T := TX7) (N := 7) hx hb hta inX7 hown hK hP 17 (xr_17 a k S1) rfl 4 (by decide) hf29 (fun _ h9 => h9) rfl dX7_ask_25 ?_
        refine lv_iload hx hb dX7_ask_28 (lv_at hl 0 rfl) ?_
        refine va_zald hx hb hK hP 19 12 (xr_19 a k S1) rfl (hcd i hlt) dX7_ask_30 ?_
        refine lv_if_ne (tgt := 78) hx hb dX7_ask_31 (by decide) (fun c31 => ?_) (fun c31 => ?_)
        · skip
          rw [if_neg c31] at hR
          refine lv_iinc (v := nI (i + 1)) (lv' := [(3, .int (nI (i + 1))), (4, .int ((fA st 10 i))), (0, .ref (a 17)), (1, .ref (a 22)), (2, .int ((nI E)))]) hx hb dX7_ask_78 hl (k := 1) rfl (nI_1 _) (by decide) rfl (fun ls hl => ?_)
          refine lv_goto (tgt := 14) hx hb dX7_ask_81 (by decide) ?_
          exact ih (i + 1) S1 _ _ ls hR (by omega) hF ⟨Q, hQ, by omega⟩ (by omega) hP hD hS (lv_sub hl [0, 2, 3, 4] rfl)
        · skip
          rw [if_pos c31] at hR
          refine lv_aload_n hx hb dX7_ask_34 rfl (lv_at hl 2 rfl) ?_
          refine va_get (D := (dC, dI)) (ci := 5) (v := .ref (a 19)) (C := RX7) (T := TX7) (N := 7) hx hb hta inX7 hown hK hP 17 (xr_17 a k S1) rfl 4 (by decide) hf29 (fun _ h9 => h9) rfl dX7_ask_35 ?_
          refine lv_iload hx hb dX7_ask_38 (lv_at hl 0 rfl) ?_
          refine lv_iconst (v := (1 : Int32)) hx hb dX7_ask_40 (by decide) ?_
          refine va_zast hx hb hK hP hD hS 19 12 (xr_19 a k S1) rfl (hcd i hlt) dX7_ask_41 (fun H locs hP hD hS => ?_)
          have hP := xp_A8 hP
          have hD := xd_A8 hD
          refine lv_aload_n hx hb dX7_ask_42 rfl (lv_at hl 2 rfl) ?_
          refine lv_iload hx hb dX7_ask_43 (lv_at hl 0 rfl) ?_
          refine wl_mv (va_runV (As := [.int ((fA st 10 i))]) (rest := []) ⟨hx, hb, hml, hown, hta⟩ (kx_Rows_clearRow l dC dI a k (wA S1 8 (((fA st 10 i)).toNatClampNeg) (vp_nar .boolean (1 : Int32))) ((fA st 10 i)) _ (hcd i hlt)) (cwV 1 hta gX7_72 rfl rfl rfl (by decide +kernel) ⟨Nat.le_of_ble_eq_true rfl, Nat.le_of_ble_eq_true rfl⟩) (wl_pM (C := RX7) (ci := 5) (q0 := 17) hK hP hD rfl (xr_17 a k (wA S1 8 (((fA st 10 i)).toNatClampNeg) (vp_nar .boolean (1 : Int32))))) rfl rfl hl.1 rfl (lv_room (Nat.le_of_ble_eq_true rfl)) dX7_ask_45 ⟨Nat.zero_le _, Nat.zero_le _⟩) hP hD hS hAz (fun u45 H locs hw45 hP hD hS => ?_)
          have w45 : fx_Rows_clearRow (wA S1 8 (((fA st 10 i)).toNatClampNeg) (vp_nar .boolean (1 : Int32))) ((fA st 10 i)) = u45 := hw45.symm
          have hf45 : XF [] [] [3] (wA S1 8 (((fA st 10 i)).toNatClampNeg) (vp_nar .boolean (1 : Int32))) u45 := by rw [← w45]; exact ff_Rows_clearRow (wA S1 8 (((fA st 10 i)).toNatClampNeg) (vp_nar .boolean (1 : Int32))) ((fA st 10 i))
          try rw [w45] at hR
          refine lv_aload_n hx hb dX7_ask_48 rfl (lv_at hl 2 rfl) ?_
          refine va_get (D := (dC, dI)) (ci := 5) (v := .ref (a 13)) (C := RX7) (T := TX7) (N := 7) hx hb hta inX7 hown hK hP 17 (xr_17 a k (u45)) rfl 2 (by decide) hf19 (fun _ h9 => h9) rfl dX7_ask_49 ?_
          refine lv_iload hx hb dX7_ask_52 (lv_at hl 0 rfl) ?_
          refine wl_mv (va_runV (As := [.int ((fA st 10 i))]) (rest := []) ⟨hx, hb, hml, hown, hta⟩ (kx_Eval_need l dC dI a k (u45) ((fA st 10 i)) _ (hcd i hlt)) (cwV 1 hta gX7_75 rfl rfl rfl (by decide +kernel) ⟨Nat.le_of_ble_eq_true rfl, Nat.le_of_ble_eq_true rfl⟩) (wl_pM (C := RX5) (ci := 3) (q0 := 13) hK hP hD rfl (xr_13 a k (u45))) rfl rfl hl.1 rfl (lv_room (Nat.le_of_ble_eq_true rfl)) dX7_ask_54 ⟨Nat.zero_le _, Nat.zero_le _⟩) hP hD hS hAz (fun u54 H locs hw54 hP hD hS => ?_)
          have w54 : fx_Eval_need (u45) ((fA st 10 i)) = u54 := hw54.symm
          have hf54 : XF [] [7] [] (u45) u54 := by rw [← w54]; exact ff_Eval_need (u45) ((fA st 10 i))
          try rw [w54] at hR
          have hc8 : gI u54 8 = gI S1 8 := (hf54.I 8 (by decide)).trans (hf45.I 8 (by decide))
          refine lv_aload_n hx hb dX7_ask_57 rfl (lv_at hl 2 rfl) ?_
          refine va_get (D := (dC, dI)) (ci := 5) (v := .ref (a 20)) (C := RX7) (T := TX7) (N := 7) hx hb hta inX7 hown hK hP 17 (xr_17 a k (u54)) rfl 5 (by decide) hf33 (fun _ h9 => h9) rfl dX7_ask_58 ?_
          refine lv_aload_n hx hb dX7_ask_61 rfl (lv_at hl 2 rfl) ?_
          refine va_get (D := (dC, dI)) (ci := 5) (v := .int (gI (u54) 8)) (C := RX7) (T := TX7) (N := 7) hx hb hta inX7 hown hK hP 17 (xr_17 a k (u54)) rfl 6 (by decide) hf37 (fun _ h9 => h9) rfl dX7_ask_62 ?_
          refine lv_iload hx hb dX7_ask_65 (lv_at hl 0 rfl) ?_
          refine va_iast hx hb hK hP hD hS 20 13 (xr_20 a k (u54)) rfl (by rw [hc8, hQ]; exact wl_in (by omega) (by decide)) dX7_ask_67 (fun H locs hP hD hS => ?_)
          have hP := xp_A9 hP
          have hD := xd_A9 hD
          refine lv_aload_n hx hb dX7_ask_68 rfl (lv_at hl 2 rfl) ?_
          refine lv_dup hx hb dX7_ask_69 rfl ?_
          refine va_get (D := (dC, dI)) (ci := 5) (v := .int (gI (u54) 8)) (C := RX7) (T := TX7) (N := 7) hx hb hta inX7 hown hK hP 17 (xr_17 a k (wA (u54) 9 ((gI (u54) 8).toNatClampNeg) ((fA st 10 i)))) rfl 6 (by decide) hf37 (fun _ h9 => h9) rfl dX7_ask_70 ?_
          refine lv_iconst (v := (1 : Int32)) hx hb dX7_ask_73 (by decide) ?_
          refine lv_iadd hx hb dX7_ask_74 ?_
          refine va_put (D := (dC, dI)) (ci := 5) (v := .int ((gI (u54) 8) + (1 : Int32))) (ty := .int) (C := RX7) (T := TX7) (N := 7) hx hb hta inX7 tyX7 tyX7_ok nmX7 hown hK hP hD hS 17 (xr_17 a k (wA (u54) 9 ((gI (u54) 8).toNatClampNeg) ((fA st 10 i)))) rfl 6 (by decide) hf37 (fun _ h9 => h9) rfl (by decide +kernel) rfl rfl (Nat.le_of_ble_eq_true rfl) dX7_ask_75 (fun H locs hP hD hS => ?_)
          have hP := xp_I8 hP
          have hD := xd_I8 hD
          refine lv_iinc (v := nI (i + 1)) (lv' := [(3, .int (nI (i + 1))), (4, .int ((fA st 10 i))), (0, .ref (a 17)), (1, .ref (a 22)), (2, .int ((nI E)))]) hx hb dX7_ask_78 hl (k := 1) rfl (nI_1 _) (by decide) rfl (fun ls hl => ?_)
          refine lv_goto (tgt := 14) hx hb dX7_ask_81 (by decide) ?_
          exact ih (i + 1) (wI (wA (u54) 9 ((gI (u54) 8).toNatClampNeg) ((fA st 10 i))) 8 ((gI (u54) 8) + (1 : Int32))) _ _ ls hR (by omega) (XF.wI (by decide) (XF.wA (by decide) (XF.tr (XF.tr (XF.wA (by decide) hF) (XF.mono hf45 (by decide) (by decide) (by decide))) (XF.mono hf54 (by decide) (by decide) (by decide))))) ⟨Q + 1, (congrArg (· + (1 : Int32)) (hc8.trans hQ)).trans (nI_1 Q), by omega⟩ (by omega) hP hD hS (lv_sub hl [0, 2, 3, 4] rfl)
  exact L14 17 0 (u9) _ _ ls hR (Nat.zero_le _) (XF.tr (XF.wI (by decide) XF.rf) (XF.mono hf9 (by decide) (by decide) (by decide))) ⟨0, hf9.I 8 (by decide), Nat.le_refl _⟩ (by omega) hP hD hS (lv_sub hl [0, 1, 2, 3] rfl)

theorem wl_askL {st : XS} {E : Nat} (hE16 : E ≤ 16) (hcd : ∀ j : Nat, j < E → vp_in (fA st 10 j) 64) : ∀ (n i : Nat) (S1 : XS), i ≤ E → fA S1 10 = fA st 10 → (∃ Q : Nat, gI S1 8 = nI Q ∧ Q ≤ i ∧ ∀ j : Nat, j < Q → vp_in (fA S1 9 j) 64) → ∃ Q : Nat, gI (fx_Rows_ask_L14 st (nI E) n i S1) 8 = nI Q ∧ Q ≤ 16 ∧ ∀ j : Nat, j < Q → vp_in (fA (fx_Rows_ask_L14 st (nI E) n i S1) 9 j) 64 := by
  intro n
  induction n with
  | zero => intro i S1 hi _ h; obtain ⟨Q, h1, h2, h3⟩ := h; exact ⟨Q, h1, by omega, h3⟩
  | succ n ih =>
    intro i S1 hi h10 h
    obtain ⟨Q, h1, h2, h3⟩ := h
    rw [fx_Rows_ask_L14]
    by_cases c16 : nI E ≤ nI i
    · rw [if_pos c16]; exact ⟨Q, h1, by omega, h3⟩
    · rw [if_neg c16]
      have hlt : i < E := wl_lt c16 (by omega)
      by_cases c31 : fA S1 8 (fA S1 10 (nI i).toNatClampNeg).toNatClampNeg = (0 : Int32)
      · rw [if_pos c31]
        obtain ⟨B, hB⟩ : ∃ B, fx_Eval_need (fx_Rows_clearRow (wA S1 8 (fA S1 10 (nI i).toNatClampNeg).toNatClampNeg (vp_nar .boolean (1 : Int32))) (fA S1 10 (nI i).toNatClampNeg)) (fA S1 10 (nI i).toNatClampNeg) = B := ⟨_, rfl⟩
        have f1 := ff_Rows_clearRow (wA S1 8 (fA S1 10 (nI i).toNatClampNeg).toNatClampNeg (vp_nar .boolean (1 : Int32))) (fA S1 10 (nI i).toNatClampNeg)
        have f2 := ff_Eval_need (fx_Rows_clearRow (wA S1 8 (fA S1 10 (nI i).toNatClampNeg).toNatClampNeg (vp_nar .boolean (1 : Int32))) (fA S1 10 (nI i).toNatClampNeg)) (fA S1 10 (nI i).toNatClampNeg)
        rw [hB] at f2
        rw [hB]
        have b8 : gI B 8 = gI S1 8 := (f2.I 8 (by decide)).trans (f1.I 8 (by decide))
        have b9 : fA B 9 = fA S1 9 := (f2.A 9 (by decide)).trans (f1.A 9 (by decide))
        have b10 : fA B 10 = fA S1 10 := (f2.A 10 (by decide)).trans (f1.A 10 (by decide))
        rw [b8, h1, nI_clamp (by omega), nI_clamp (by omega)]
        refine ih _ _ (by omega) (b10.trans h10) ⟨Q + 1, nI_1 Q, by omega, fun j hj => ?_⟩
        show vp_in (upd (fA B 9) Q (fA S1 10 i) j) 64
        by_cases e : j = Q
        · rw [e, pk_us, h10]; exact hcd i hlt
        · rw [pk_un e, b9]; exact h3 j (by omega)
      · rw [if_neg c31]; exact ih _ _ (by omega) h10 ⟨Q, h1, by omega, h3⟩
theorem wl_askQ {st : XS} {E : Nat} (hE16 : E ≤ 16) (hcd : ∀ j : Nat, j < E → vp_in (fA st 10 j) 64) : ∃ Q : Nat, gI (fx_Rows_ask st (nI E)) 8 = nI Q ∧ Q ≤ 16 ∧ ∀ j : Nat, j < Q → vp_in (fA (fx_Rows_ask st (nI E)) 9 j) 64 := by
  rw [fx_Rows_ask]
  have f := ff_Eval_needNothing (wI st 8 (0 : Int32))
  exact wl_askL hE16 hcd 17 0 _ (Nat.zero_le _) (f.A 10 (by decide)) ⟨0, f.I 8 (by decide), Nat.le_refl _, fun j hj => absurd hj (Nat.not_lt_zero _)⟩
theorem wl_free {S : XS} {B : Nat} (hB : B ≤ 10) (h : gI S 5 = nI B) : fx_Vars_freeBits S = nI (10 - B) := by
  rw [fx_Vars_freeBits, h]; exact pk_sub (a := 10) hB
theorem wl_diff0 : ∀ B, B < 11 → (1 : Int32) <<< (((10 : Int32) - nI (10 - B)) &&& 31) = nI (2 ^ B) := by decide +kernel
theorem wl_diff {B : Nat} (hB : B ≤ 10) : (1 : Int32) <<< (((10 : Int32) - nI (10 - B)) &&& 31) = nI (2 ^ B) := wl_diff0 B (by omega)
theorem wl_sm0 : ∀ B, B < 11 → ((nI B &&& 31).toBitVec.smod 32).toNat = B := by decide +kernel
theorem wl_p2 {B : Nat} (hB : B ≤ 10) : 2 ^ B * 2 ^ (10 - B) = 1024 := by rw [← Nat.pow_add, show B + (10 - B) = 10 by omega]
theorem wl_p2le {B : Nat} (hB : B ≤ 10) : 2 ^ B ≤ 1024 := Nat.pow_le_pow_right (by decide) hB
theorem wl_p2pos (B : Nat) : 0 < 2 ^ B := Nat.pow_pos (by decide)
theorem wl_fg {B i : Nat} (hB : B ≤ 10) (hi : i < 2 ^ B) : i * 2 ^ (10 - B) + 2 ^ (10 - B) ≤ 1024 := by
  rw [← wl_p2 hB, ← Nat.succ_mul]
  exact Nat.mul_le_mul_right _ hi
theorem wl_shl {B i : Nat} (hB : B ≤ 10) (hi : i < 2 ^ B) : nI i <<< (nI (10 - B) &&& 31) = nI (i * 2 ^ (10 - B)) := by
  have h := wl_fg hB hi
  have h2 := wl_p2pos (10 - B)
  exact pk_shlN _ (10 - B) (wl_sm0 _ (by omega)) (by omega)
theorem wl_sh1 {B : Nat} (hB : B ≤ 10) : (1 : Int32) <<< (nI (10 - B) &&& 31) = nI (2 ^ (10 - B)) := by
  have q := wl_p2le (B := 10 - B) (by omega)
  have r := pk_shlN (n := 1) (nI (10 - B) &&& 31) (10 - B) (wl_sm0 _ (by omega)) (by omega)
  rw [Nat.one_mul] at r
  exact r
theorem wl_plt {B i : Nat} (hB : B ≤ 10) (hi : i ≤ 2 ^ B) : i < 2147483648 := by
  have := wl_p2le hB; omega
theorem wl_p1025 {B : Nat} (hB : B ≤ 10) : 2 ^ B - 0 < 1025 := by
  have := wl_p2le hB; omega

theorem mw_490 : (.code yX7_ask cX7_ask 5 none : Cond) ∈ AW := List.mem_filter.mpr ⟨List.mem_of_getElem? (i := 490) (by decide +kernel), rfl⟩
theorem mw_487 : (.methodLink RX7 49 yX7_ask : Cond) ∈ AW := List.mem_filter.mpr ⟨List.mem_of_getElem? (i := 487) (by decide +kernel), rfl⟩
theorem mw_489 : (.instanceMethod yX7_ask : Cond) ∈ AW := List.mem_filter.mpr ⟨List.mem_of_getElem? (i := 489) (by decide +kernel), rfl⟩
theorem mw_10 : (.selects RX7 yX7_ask yX7_ask : Cond) ∈ AW := List.mem_filter.mpr ⟨List.mem_of_getElem? (i := 10) (by decide +kernel), rfl⟩
theorem mw_503 : (.methodLink RX7 53 yX5_needOperands : Cond) ∈ AW := List.mem_filter.mpr ⟨List.mem_of_getElem? (i := 503) (by decide +kernel), rfl⟩
theorem mw_163 : (.fieldLink RX7 15 RX7 "variables" "LPathSolver$Variables;" : Cond) ∈ AW := List.mem_filter.mpr ⟨List.mem_of_getElem? (i := 163) (by decide +kernel), rfl⟩
theorem mw_511 : (.methodLink RX7 58 yX2_freeBits : Cond) ∈ AW := List.mem_filter.mpr ⟨List.mem_of_getElem? (i := 511) (by decide +kernel), rfl⟩
theorem mw_515 : (.code yX5_evaluateNeeded cX5_evaluateNeeded 7 none : Cond) ∈ AW := List.mem_filter.mpr ⟨List.mem_of_getElem? (i := 515) (by decide +kernel), rfl⟩
theorem mw_512 : (.methodLink RX7 61 yX5_evaluateNeeded : Cond) ∈ AW := List.mem_filter.mpr ⟨List.mem_of_getElem? (i := 512) (by decide +kernel), rfl⟩
theorem mw_513 : (.instanceMethod yX5_evaluateNeeded : Cond) ∈ AW := List.mem_filter.mpr ⟨List.mem_of_getElem? (i := 513) (by decide +kernel), rfl⟩
theorem mw_514 : (.selects RX5 yX5_evaluateNeeded yX5_evaluateNeeded : Cond) ∈ AW := List.mem_filter.mpr ⟨List.mem_of_getElem? (i := 514) (by decide +kernel), rfl⟩
theorem mw_528 : (.code yX7_noteAsked cX7_noteAsked 4 none : Cond) ∈ AW := List.mem_filter.mpr ⟨List.mem_of_getElem? (i := 528) (by decide +kernel), rfl⟩
theorem mw_525 : (.methodLink RX7 65 yX7_noteAsked : Cond) ∈ AW := List.mem_filter.mpr ⟨List.mem_of_getElem? (i := 525) (by decide +kernel), rfl⟩
theorem mw_527 : (.instanceMethod yX7_noteAsked : Cond) ∈ AW := List.mem_filter.mpr ⟨List.mem_of_getElem? (i := 527) (by decide +kernel), rfl⟩
theorem mw_12 : (.selects RX7 yX7_noteAsked yX7_noteAsked : Cond) ∈ AW := List.mem_filter.mpr ⟨List.mem_of_getElem? (i := 12) (by decide +kernel), rfl⟩
theorem gX7_49 : GoodIn AW (wsV RX7 49 RX7 yX7_ask wsX7_ask) := aw_V mw_487 mw_489 mw_10 mw_44 mw_490
theorem gX7_53 : GoodIn AW (wsV RX7 53 RX5 yX5_needOperands wsX5_needOperands) := aw_V mw_503 mw_504 mw_505 mw_42 mw_506
theorem gX7_58 : GoodIn AW (wsV RX7 58 RX2 yX2_freeBits wsX2_freeBits) := aw_V mw_511 mw_251 mw_252 mw_39 mw_253
theorem gX7_61 : GoodIn AW (wsV RX7 61 RX5 yX5_evaluateNeeded wsX5_evaluateNeeded) := aw_V mw_512 mw_513 mw_514 mw_42 mw_515
theorem gX7_65 : GoodIn AW (wsV RX7 65 RX7 yX7_noteAsked wsX7_noteAsked) := aw_V mw_525 mw_527 mw_12 mw_44 mw_528
theorem dX7_learn_0 : decode cX7_learn 0 = .ok (.aload_n 0, 1) := by decide +kernel
theorem dX7_learn_1 : decode cX7_learn 1 = .ok (.aload_n 1, 1) := by decide +kernel
theorem dX7_learn_2 : decode cX7_learn 2 = .ok (.iload_n 2, 1) := by decide +kernel
theorem dX7_learn_3 : decode cX7_learn 3 = .ok (.invokevirtual 49, 3) := by decide +kernel
theorem dX7_learn_6 : decode cX7_learn 6 = .ok (.aload_n 0, 1) := by decide +kernel
theorem dX7_learn_7 : decode cX7_learn 7 = .ok (.getfield 37, 3) := by decide +kernel
theorem dX7_learn_10 : decode cX7_learn 10 = .ok (.ifCond .ne 4, 3) := by decide +kernel
theorem dX7_learn_13 : decode cX7_learn 13 = .ok (.return_, 1) := by decide +kernel
theorem dX7_learn_14 : decode cX7_learn 14 = .ok (.aload_n 0, 1) := by decide +kernel
theorem dX7_learn_15 : decode cX7_learn 15 = .ok (.getfield 19, 3) := by decide +kernel
theorem dX7_learn_18 : decode cX7_learn 18 = .ok (.invokevirtual 53, 3) := by decide +kernel
theorem dX7_learn_21 : decode cX7_learn 21 = .ok (.aload_n 0, 1) := by decide +kernel
theorem dX7_learn_22 : decode cX7_learn 22 = .ok (.getfield 15, 3) := by decide +kernel
theorem dX7_learn_25 : decode cX7_learn 25 = .ok (.invokevirtual 58, 3) := by decide +kernel
theorem dX7_learn_28 : decode cX7_learn 28 = .ok (.istore_n 3, 1) := by decide +kernel
theorem dX7_learn_29 : decode cX7_learn 29 = .ok (.iconst 1, 1) := by decide +kernel
theorem dX7_learn_30 : decode cX7_learn 30 = .ok (.bipush 10, 2) := by decide +kernel
theorem dX7_learn_32 : decode cX7_learn 32 = .ok (.iload_n 3, 1) := by decide +kernel
theorem dX7_learn_33 : decode cX7_learn 33 = .ok (.isub, 1) := by decide +kernel
theorem dX7_learn_34 : decode cX7_learn 34 = .ok (.ishl, 1) := by decide +kernel
theorem dX7_learn_35 : decode cX7_learn 35 = .ok (.istore 4, 2) := by decide +kernel
theorem dX7_learn_37 : decode cX7_learn 37 = .ok (.iconst 0, 1) := by decide +kernel
theorem dX7_learn_38 : decode cX7_learn 38 = .ok (.istore 5, 2) := by decide +kernel
theorem dX7_learn_40 : decode cX7_learn 40 = .ok (.iload 5, 2) := by decide +kernel
theorem dX7_learn_42 : decode cX7_learn 42 = .ok (.iload 4, 2) := by decide +kernel
theorem dX7_learn_44 : decode cX7_learn 44 = .ok (.if_icmp .ge 31, 3) := by decide +kernel
theorem dX7_learn_47 : decode cX7_learn 47 = .ok (.aload_n 0, 1) := by decide +kernel
theorem dX7_learn_48 : decode cX7_learn 48 = .ok (.getfield 19, 3) := by decide +kernel
theorem dX7_learn_51 : decode cX7_learn 51 = .ok (.iload 5, 2) := by decide +kernel
theorem dX7_learn_53 : decode cX7_learn 53 = .ok (.iload_n 3, 1) := by decide +kernel
theorem dX7_learn_54 : decode cX7_learn 54 = .ok (.ishl, 1) := by decide +kernel
theorem dX7_learn_55 : decode cX7_learn 55 = .ok (.invokevirtual 61, 3) := by decide +kernel
theorem dX7_learn_58 : decode cX7_learn 58 = .ok (.aload_n 0, 1) := by decide +kernel
theorem dX7_learn_59 : decode cX7_learn 59 = .ok (.iload 5, 2) := by decide +kernel
theorem dX7_learn_61 : decode cX7_learn 61 = .ok (.iload_n 3, 1) := by decide +kernel
theorem dX7_learn_62 : decode cX7_learn 62 = .ok (.ishl, 1) := by decide +kernel
theorem dX7_learn_63 : decode cX7_learn 63 = .ok (.iconst 1, 1) := by decide +kernel
theorem dX7_learn_64 : decode cX7_learn 64 = .ok (.iload_n 3, 1) := by decide +kernel
theorem dX7_learn_65 : decode cX7_learn 65 = .ok (.ishl, 1) := by decide +kernel
theorem dX7_learn_66 : decode cX7_learn 66 = .ok (.invokevirtual 65, 3) := by decide +kernel
theorem dX7_learn_69 : decode cX7_learn 69 = .ok (.iinc 5 1, 3) := by decide +kernel
theorem dX7_learn_72 : decode cX7_learn 72 = .ok (.goto (-32), 3) := by decide +kernel
theorem dX7_learn_75 : decode cX7_learn 75 = .ok (.return_, 1) := by decide +kernel
def fx_Rows_learn_L40 (st : XS) (len : Int32) : Nat → Nat → XS → XS
  | 0, i, S1 => S1
  | n + 1, i, S1 => 
    if ((1 : Int32) <<< (((10 : Int32) - ((fx_Vars_freeBits ((fx_Eval_needOperands ((fx_Rows_ask st (len)))))))) &&& 31)) ≤ nI i then S1
    else fx_Rows_learn_L40 st len n (i + 1) ((fx_Rows_noteAsked ((fx_Eval_evaluateNeeded S1 (((nI i) <<< (((fx_Vars_freeBits ((fx_Eval_needOperands ((fx_Rows_ask st (len))))))) &&& 31))))) (((nI i) <<< (((fx_Vars_freeBits ((fx_Eval_needOperands ((fx_Rows_ask st (len))))))) &&& 31))) (((1 : Int32) <<< (((fx_Vars_freeBits ((fx_Eval_needOperands ((fx_Rows_ask st (len))))))) &&& 31)))))
def fx_Rows_learn (st : XS) (len : Int32) : XS := 
  if gI ((fx_Rows_ask st (len))) 8 = (0 : Int32) then (fx_Rows_ask st (len))
  else fx_Rows_learn_L40 st len 1025 0 ((fx_Eval_needOperands ((fx_Rows_ask st (len)))))
theorem fr_Rows_learn_L40 {S0 : XS} (st : XS) (len : Int32) : ∀ (n : Nat) (i : Nat) (S1 : XS), XF [8] [7, 8, 9] [2, 3] S0 S1 → XF [8] [7, 8, 9] [2, 3] S0 (fx_Rows_learn_L40 st len n i S1) := by
  intro n
  induction n with
  | zero => intro i S1 h; exact h
  | succ n ih =>
    intro i S1 h
    rw [fx_Rows_learn_L40]
    exact (wl_ite (P := fun (q : XS) => XF [8] [7, 8, 9] [2, 3] _ (q)) h (ih _ _ (XF.tr (XF.tr h (XF.mono (ff_Eval_evaluateNeeded _ _) (by decide) (by decide) (by decide))) (XF.mono (ff_Rows_noteAsked _ _ _) (by decide) (by decide) (by decide)))))
theorem ff_Rows_learn (st : XS) (len : Int32) : XF [8] [7, 8, 9] [2, 3] st (fx_Rows_learn st len) := by
  rw [fx_Rows_learn]
  exact (wl_ite (P := fun (q : XS) => XF [8] [7, 8, 9] [2, 3] _ (q)) (XF.tr XF.rf (XF.mono (ff_Rows_ask _ _) (by decide) (by decide) (by decide))) (fr_Rows_learn_L40 _ _ _ _ _ (XF.tr (XF.tr XF.rf (XF.mono (ff_Rows_ask _ _) (by decide) (by decide) (by decide))) (XF.mono (ff_Eval_needOperands _) (by decide) (by decide) (by decide)))))
set_option maxHeartbeats 4000000 in
set_option maxRecDepth 100000 in
theorem kx_Rows_learn (l : Launch) (dC : Nat → ClassId) (dI : Nat → Nat → Nat) (a : Nat → Nat) (k : Nat → ClassId) (st : XS) (E : Nat) (sz : Nat) (hE16 : E ≤ 16) (hcd : ∀ j : Nat, j < E → vp_in (fA st 10 j) 64) (N : Nat) (hN : gI st 6 = nI N) (h64 : N ≤ 64) (V : Nat) (hV4 : V ≤ 4) (hX : XT st V N) (hM0 : XM st N) (Bt : Nat) (hBt : gI st 5 = nI Bt) (hBt10 : Bt ≤ 10) : Met l yX7_learn wsX7_learn ({ frames := 4, cells := 0, slots := 0, locals := 106 }) (va_Pc [.ref (a 17), .ref (a 22), .int (nI E)] (wl_pre (dC, dI) vwCl (xt k) (xw a k) st sz)) (va_Qv (fun u9 => u9 = fx_Rows_learn st (nI E)) (wl_at (dC, dI) vwCl (xt k) (xw a k) (va_A (xw a k st) sz)) (va_A (xw a k st) sz)) 0 0 (va_A (xw a k st) sz) := by
  refine Met.ofW (cc := cX7_learn) (maxL := 6) (ret := none) (by decide) rfl ?_
  intro p e s m args below meth c s₁ B hml hv
  obtain ⟨rfl, hsz, hP, hK, hD0⟩ := hv
  have hx := B.exec
  have hb := B.bytes
  have hr := B.returns
  have hta := aw_hts (atoms_spec (ws := wsX7_learn) B.pre)
  have hown : s.vm.findClass RX7 = some m.cls := findClass_of_methodNamed B.named
  have hlocks := B.notSynchronized
  have hf37 := hta _ mw_168
  have hf19 := hta _ mw_164
  have hf15 := hta _ mw_163
  subst hsz
  have hD := hD0.self (sz := s.heap.size)
  generalize hAe : va_A (xw a k st) s.heap.size = A at hD ⊢
  have hAz : ∀ q : Nat, s.heap.size ≤ q → A q := fun q h => by rw [← hAe]; exact Or.inr h
  have hS : va_S A s.heap s.heap [] := va_S.rf
  have hl := lv_entry ([.ref (a 17), .ref (a 22), .int (nI E)]) (n := 6) (Nat.le_of_ble_eq_true rfl)
  rw [lg_entry_eq]
  generalize (lg_sl ([.ref (a 17), .ref (a 22), .int (nI E)]) ++ List.replicate (6 - (lg_sl ([.ref (a 17), .ref (a 22), .int (nI E)])).length) Slot.unset).toArray = ls at hl ⊢
  have hl : lv_has ls 6 [(0, .ref (a 17)), (1, .ref (a 22)), (2, .int ((nI E)))] := hl
  generalize hR : fx_Rows_learn st (nI E) = R
  rw [fx_Rows_learn] at hR
  refine lv_aload_n hx hb dX7_learn_0 rfl (lv_at hl 0 rfl) ?_
  refine lv_aload_n hx hb dX7_learn_1 rfl (lv_at hl 1 rfl) ?_
  refine lv_iload_n hx hb dX7_learn_2 rfl (lv_at hl 2 rfl) ?_
  refine wl_mv (va_runV (As := [.ref (a 22), .int ((nI E))]) (rest := []) ⟨hx, hb, hml, hown, hta⟩ (kx_Rows_ask l dC dI a k st E _ hE16 hcd) (cwV 2 hta gX7_49 rfl rfl rfl (by decide +kernel) ⟨Nat.le_of_ble_eq_true rfl, Nat.le_of_ble_eq_true rfl⟩) (wl_pM (C := RX7) (ci := 5) (q0 := 17) hK hP hD rfl (xr_17 a k st)) rfl rfl hl.1 rfl (lv_room (Nat.le_of_ble_eq_true rfl)) dX7_learn_3 ⟨Nat.zero_le _, Nat.zero_le _⟩) hP hD hS hAz (fun u3 H locs hw3 hP hD hS => ?_)
  have w3 : fx_Rows_ask st ((nI E)) = u3 := hw3.symm
  have hf3 : XF [8] [7, 8, 9] [3] st u3 := by rw [← w3]; exact ff_Rows_ask st ((nI E))
  try rw [w3] at hR
  obtain ⟨Q, hQ, hQ16, hak⟩ := wl_askQ hE16 hcd
  rw [w3] at hQ
  rw [w3] at hak
  refine lv_aload_n hx hb dX7_learn_6 rfl (lv_at hl 0 rfl) ?_
  refine va_get (D := (dC, dI)) (ci := 5) (v := .int (gI (u3) 8)) (C := RX7) (T := TX7) (N := 7) hx hb hta inX7 hown hK hP 17 (xr_17 a k (u3)) rfl 6 (by decide) hf37 (fun _ h9 => h9) rfl dX7_learn_7 ?_
  refine lv_if_ne (tgt := 14) hx hb dX7_learn_10 (by decide) (fun c10 => ?_) (fun c10 => ?_)
  · skip
    rw [if_neg c10] at hR
    refine lv_aload_n hx hb dX7_learn_14 rfl (lv_at hl 0 rfl) ?_
    refine va_get (D := (dC, dI)) (ci := 5) (v := .ref (a 13)) (C := RX7) (T := TX7) (N := 7) hx hb hta inX7 hown hK hP 17 (xr_17 a k (u3)) rfl 2 (by decide) hf19 (fun _ h9 => h9) rfl dX7_learn_15 ?_
    refine wl_mv (va_runV (As := []) (rest := []) ⟨hx, hb, hml, hown, hta⟩ (kx_Eval_needOperands l dC dI a k (u3) _ N ((hf3.I 6 (by decide)).trans hN) h64 (wl_opsX (hX.fr hf3 (by decide) (by decide)) h64)) (cwV 0 hta gX7_53 rfl rfl rfl (by decide +kernel) ⟨Nat.le_of_ble_eq_true rfl, Nat.le_of_ble_eq_true rfl⟩) (wl_pM (C := RX5) (ci := 3) (q0 := 13) hK hP hD rfl (xr_13 a k (u3))) rfl rfl hl.1 rfl (lv_room (Nat.le_of_ble_eq_true rfl)) dX7_learn_18 ⟨Nat.zero_le _, Nat.zero_le _⟩) hP hD hS hAz (fun u18 H locs hw18 hP hD hS => ?_)
    have w18 : fx_Eval_needOperands (u3) = u18 := hw18.symm
    have hf18 : XF [] [7] [] (u3) u18 := by rw [← w18]; exact ff_Eval_needOperands (u3)
    try rw [w18] at hR
    refine lv_aload_n hx hb dX7_learn_21 rfl (lv_at hl 0 rfl) ?_
    refine va_get (D := (dC, dI)) (ci := 5) (v := .ref (a 1)) (C := RX7) (T := TX7) (N := 7) hx hb hta inX7 hown hK hP 17 (xr_17 a k (u18)) rfl 1 (by decide) hf15 (fun _ h9 => h9) rfl dX7_learn_22 ?_
    refine wl_ci (va_runV (As := []) (rest := []) ⟨hx, hb, hml, hown, hta⟩ (kx_Vars_freeBits l dC dI a k (u18)) (cwV 0 hta gX7_58 rfl rfl rfl (by decide +kernel) ⟨Nat.le_of_ble_eq_true rfl, Nat.le_of_ble_eq_true rfl⟩) (wl_pR (C := RX2) (ci := 0) (q0 := 1) hK hP rfl (xr_1 a k (u18))) rfl rfl hl.1 rfl (lv_room (Nat.le_of_ble_eq_true rfl)) dX7_learn_25 ⟨Nat.zero_le _, Nat.zero_le _⟩) ?_
    have e25 : fx_Vars_freeBits (u18) = nI (10 - Bt) := (wl_free hBt10 ((hf18.I 5 (by decide)).trans ((hf3.I 5 (by decide)).trans hBt)))
    rw [e25]
    try rw [e25] at hR
    refine lv_istore_n (lv' := [(3, .int ((nI (10 - Bt)))), (0, .ref (a 17)), (1, .ref (a 22)), (2, .int ((nI E)))]) hx hb dX7_learn_28 rfl hl (by decide) rfl (fun ls hl => ?_)
    refine lv_iconst (v := (1 : Int32)) hx hb dX7_learn_29 (by decide) ?_
    refine lv_bipush (v := (10 : Int32)) hx hb dX7_learn_30 (by decide) ?_
    refine lv_iload_n hx hb dX7_learn_32 rfl (lv_at hl 0 rfl) ?_
    refine lv_isub hx hb dX7_learn_33 ?_
    refine lv_ishl hx hb dX7_learn_34 ?_
    have e34 : (1 : Int32) <<< (((10 : Int32) - ((nI (10 - Bt)))) &&& 31) = nI (2 ^ Bt) := (wl_diff hBt10)
    rw [e34]
    try rw [e34] at hR
    refine lv_istore (lv' := [(4, .int ((nI (2 ^ Bt)))), (3, .int ((nI (10 - Bt)))), (0, .ref (a 17)), (1, .ref (a 22)), (2, .int ((nI E)))]) hx hb dX7_learn_35 hl (by decide) rfl (fun ls hl => ?_)
    refine lv_iconst (v := (0 : Int32)) hx hb dX7_learn_37 (by decide) ?_
    refine lv_istore (lv' := [(5, .int (0 : Int32)), (4, .int ((nI (2 ^ Bt)))), (3, .int ((nI (10 - Bt)))), (0, .ref (a 17)), (1, .ref (a 22)), (2, .int ((nI E)))]) hx hb dX7_learn_38 hl (by decide) rfl (fun ls hl => ?_)
    have L40 : ∀ (n : Nat) (i : Nat) (S1 : XS) (H : Heap) (locs : List Loc) (ls : Array Slot), fx_Rows_learn_L40 st (nI E) n i S1 = R → (i ≤ 2 ^ Bt) → (XF [8] [7, 8, 9] [2, 3] st S1) → (XF [] [7] [2, 3] u3 S1) → (XM S1 N) → 2 ^ Bt - i < n → va_P (dC, dI) vwCl (xw a k S1) H → va_D A (xw a k S1) → va_S A s.heap H locs → lv_has ls 6 [(5, .int (nI i)), (4, .int ((nI (2 ^ Bt)))), (3, .int ((nI (10 - Bt)))), (0, .ref (a 17))] → W p l e (headSpec wsX7_learn ({ frames := 4, cells := 0, slots := 0, locals := 106 })).room s m ([.ref (a 17), .ref (a 22), .int (nI E)] : List Value).toArray below meth c H locs 0 0 (MQ below (va_Qv (fun u9 => u9 = R) (wl_at (dC, dI) vwCl (xt k) (xw a k) A) A) ([.ref (a 17), .ref (a 22), .int (nI E)] : List Value).toArray s 0 0 A) (F0 m 40 ls []) := by
      intro n
      induction n with
      | zero =>
        intro i S1 H locs ls hR hi hF hG hM hm hP hD hS hl
        exact absurd hm (Nat.not_lt_zero _)
      | succ n ih =>
        intro i S1 H locs ls hR hi hF hG hM hm hP hD hS hl
        rw [fx_Rows_learn_L40] at hR
        try rw [w3] at hR
        try rw [w18] at hR
        try rw [e25] at hR
        try rw [e34] at hR
        refine lv_iload hx hb dX7_learn_40 (lv_at hl 0 rfl) ?_
        refine lv_iload hx hb dX7_learn_42 (lv_at hl 1 rfl) ?_
        refine lv_icmp_ge (tgt := 75) hx hb dX7_learn_44 (by decide) (fun c44 => ?_) (fun c44 => ?_)
        · skip
          rw [if_pos c44] at hR
          exact W.vret hx hb hr (fun t ht hW => ⟨⟨_, rfl, hR, by rw [ht]; exact hP, va_K.moved hW.alike hK, hD⟩, hS.F ht⟩) hS.2.2 dX7_learn_75
        · skip
          rw [if_neg c44] at hR
          have hlt : i < 2 ^ Bt := wl_lt c44 (wl_plt hBt10 hi)
          refine lv_aload_n hx hb dX7_learn_47 rfl (lv_at hl 3 rfl) ?_
          refine va_get (D := (dC, dI)) (ci := 5) (v := .ref (a 13)) (C := RX7) (T := TX7) (N := 7) hx hb hta inX7 hown hK hP 17 (xr_17 a k S1) rfl 2 (by decide) hf19 (fun _ h9 => h9) rfl dX7_learn_48 ?_
          refine lv_iload hx hb dX7_learn_51 (lv_at hl 0 rfl) ?_
          refine lv_iload_n hx hb dX7_learn_53 rfl (lv_at hl 2 rfl) ?_
          refine lv_ishl hx hb dX7_learn_54 ?_
          have e54 : (nI i) <<< (((nI (10 - Bt))) &&& 31) = nI (i * 2 ^ (10 - Bt)) := (wl_shl hBt10 hlt)
          rw [e54]
          try rw [e54] at hR
          refine wl_mv (va_runV (As := [.int ((nI (i * 2 ^ (10 - Bt))))]) (rest := []) ⟨hx, hb, hml, hown, hta⟩ (kx_Eval_evaluateNeeded l dC dI a k S1 ((nI (i * 2 ^ (10 - Bt)))) _ N ((hF.I 6 (by decide)).trans hN) h64 V hV4 (hX.fr hF (by decide) (by decide)) hM) (cwV 1 hta gX7_61 rfl rfl rfl (by decide +kernel) ⟨Nat.le_of_ble_eq_true rfl, Nat.le_of_ble_eq_true rfl⟩) (wl_pM (C := RX5) (ci := 3) (q0 := 13) hK hP hD rfl (xr_13 a k S1)) rfl rfl hl.1 rfl (lv_room (Nat.le_of_ble_eq_true rfl)) dX7_learn_55 ⟨Nat.zero_le _, Nat.zero_le _⟩) hP hD hS hAz (fun u55 H locs hw55 hP hD hS => ?_)
          have w55 : fx_Eval_evaluateNeeded S1 ((nI (i * 2 ^ (10 - Bt)))) = u55 := hw55.symm
          have hf55 : XF [] [] [2] S1 u55 := by rw [← w55]; exact ff_Eval_evaluateNeeded S1 ((nI (i * 2 ^ (10 - Bt))))
          try rw [w55] at hR
          refine lv_aload_n hx hb dX7_learn_58 rfl (lv_at hl 3 rfl) ?_
          refine lv_iload hx hb dX7_learn_59 (lv_at hl 0 rfl) ?_
          refine lv_iload_n hx hb dX7_learn_61 rfl (lv_at hl 2 rfl) ?_
          refine lv_ishl hx hb dX7_learn_62 ?_
          have e62 : (nI i) <<< (((nI (10 - Bt))) &&& 31) = nI (i * 2 ^ (10 - Bt)) := (wl_shl hBt10 hlt)
          rw [e62]
          try rw [e62] at hR
          refine lv_iconst (v := (1 : Int32)) hx hb dX7_learn_63 (by decide) ?_
          refine lv_iload_n hx hb dX7_learn_64 rfl (lv_at hl 2 rfl) ?_
          refine lv_ishl hx hb dX7_learn_65 ?_
          have e65 : (1 : Int32) <<< (((nI (10 - Bt))) &&& 31) = nI (2 ^ (10 - Bt)) := (wl_sh1 hBt10)
          rw [e65]
          try rw [e65] at hR
          refine wl_mv (va_runV (As := [.int ((nI (i * 2 ^ (10 - Bt)))), .int ((nI (2 ^ (10 - Bt))))]) (rest := []) ⟨hx, hb, hml, hown, hta⟩ (kx_Rows_noteAsked l dC dI a k (u55) (i * 2 ^ (10 - Bt)) (2 ^ (10 - Bt)) _ Q ((hf55.I 8 (by decide)).trans ((hG.I 8 (by decide)).trans hQ)) (by omega) (fun j hj => by rw [hf55.A 9 (by decide), hG.A 9 (by decide)]; exact hak j hj) (wl_fg hBt10 hlt)) (cwV 2 hta gX7_65 rfl rfl rfl (by decide +kernel) ⟨Nat.le_of_ble_eq_true rfl, Nat.le_of_ble_eq_true rfl⟩) (wl_pM (C := RX7) (ci := 5) (q0 := 17) hK hP hD rfl (xr_17 a k (u55))) rfl rfl hl.1 rfl (lv_room (Nat.le_of_ble_eq_true rfl)) dX7_learn_66 ⟨Nat.zero_le _, Nat.zero_le _⟩) hP hD hS hAz (fun u66 H locs hw66 hP hD hS => ?_)
          have w66 : fx_Rows_noteAsked (u55) ((nI (i * 2 ^ (10 - Bt)))) ((nI (2 ^ (10 - Bt)))) = u66 := hw66.symm
          have hf66 : XF [] [] [3] (u55) u66 := by rw [← w66]; exact ff_Rows_noteAsked (u55) ((nI (i * 2 ^ (10 - Bt)))) ((nI (2 ^ (10 - Bt))))
          try rw [w66] at hR
          refine lv_iinc (v := nI (i + 1)) (lv' := [(5, .int (nI (i + 1))), (4, .int ((nI (2 ^ Bt)))), (3, .int ((nI (10 - Bt)))), (0, .ref (a 17))]) hx hb dX7_learn_69 hl (k := 0) rfl (nI_1 _) (by decide) rfl (fun ls hl => ?_)
          refine lv_goto (tgt := 40) hx hb dX7_learn_72 (by decide) ?_
          exact ih (i + 1) (u66) _ _ ls hR (by omega) (XF.tr (XF.tr hF (hf55.mono (by decide) (by decide) (by decide))) (hf66.mono (by decide) (by decide) (by decide))) (XF.tr (XF.tr hG (hf55.mono (by decide) (by decide) (by decide))) (hf66.mono (by decide) (by decide) (by decide))) ((show XM u55 N from by rw [← w55]; exact wl_evM ((hF.I 6 (by decide)).trans hN) h64 hV4 (hX.fr hF (by decide) (by decide)) hM).fr hf66 (by decide) (by decide)) (by omega) hP hD hS (lv_sub hl [0, 1, 2, 3] rfl)
    exact L40 1025 0 (u18) _ _ ls hR (Nat.zero_le _) (XF.tr (hf3.mono (by decide) (by decide) (by decide)) (hf18.mono (by decide) (by decide) (by decide))) (hf18.mono (by decide) (by decide) (by decide)) ((hM0.fr hf3 (by decide) (by decide)).fr hf18 (by decide) (by decide)) (wl_p1025 hBt10) hP hD hS (lv_sub hl [0, 1, 2, 3] rfl)
  · skip
    rw [if_pos c10] at hR
    exact W.vret hx hb hr (fun t ht hW => ⟨⟨_, rfl, hR, by rw [ht]; exact hP, va_K.moved hW.alike hK, hD⟩, hS.F ht⟩) hS.2.2 dX7_learn_13
end
section
theorem mw_192 : (.fieldLink RX8 19 RX8 "length" "I" : Cond) ∈ AW := List.mem_filter.mpr ⟨List.mem_of_getElem? (i := 192) (by decide +kernel), rfl⟩
theorem dX8_length_0 : decode cX8_length 0 = .ok (.aload_n 0, 1) := by decide +kernel
theorem dX8_length_1 : decode cX8_length 1 = .ok (.getfield 19, 3) := by decide +kernel
theorem dX8_length_4 : decode cX8_length 4 = .ok (.ireturn, 1) := by decide +kernel
def fx_Path_length (st : XS) : Int32 := gI st 9
set_option maxHeartbeats 4000000 in
set_option maxRecDepth 100000 in
theorem kx_Path_length (l : Launch) (dC : Nat → ClassId) (dI : Nat → Nat → Nat) (a : Nat → Nat) (k : Nat → ClassId) (st : XS) : Met l yX8_length wsX8_length ({ frames := 0, cells := 0, slots := 0, locals := 0 }) (va_Pc [.ref (a 21)] (wl_prR (dC, dI) vwCl (xt k) (xw a k st))) (vp_Si (fun r9 => r9 = fx_Path_length st)) 0 0 (fun _ => False) := by
  refine Met.ofW (cc := cX8_length) (maxL := 1) (ret := (some .int)) (by decide) rfl ?_
  intro p e s m args below meth c s₁ B hml hv
  obtain ⟨rfl, hP, hK⟩ := hv
  have hx := B.exec
  have hb := B.bytes
  have hr := B.returns
  have hta := aw_hts (atoms_spec (ws := wsX8_length) B.pre)
  have hown : s.vm.findClass RX8 = some m.cls := findClass_of_methodNamed B.named
  have hlocks := B.notSynchronized
  have hf19 := hta _ mw_192
  have hl := lv_entry ([.ref (a 21)]) (n := 1) (Nat.le_of_ble_eq_true rfl)
  rw [lg_entry_eq]
  generalize (lg_sl ([.ref (a 21)]) ++ List.replicate (1 - (lg_sl ([.ref (a 21)])).length) Slot.unset).toArray = ls at hl ⊢
  have hl : lv_has ls 1 [(0, .ref (a 21))] := hl
  generalize hR : fx_Path_length st = R
  rw [fx_Path_length] at hR
  refine lv_aload_n hx hb dX8_length_0 rfl (lv_at hl 0 rfl) ?_
  refine va_get (D := (dC, dI)) (ci := 6) (v := .int (gI st 9)) (C := RX8) (T := TX8) (N := 3) hx hb hta inX8 hown hK hP 21 (xr_21 a k st) rfl 2 (by decide) hf19 (fun _ h9 => h9) rfl dX8_length_1 ?_
  exact W.iret (v := gI st 9) hx hb hr (fun t ht hW => ⟨_, rfl, hR, ht⟩) (fun q h => by cases h) dX8_length_4

theorem dX8_isFull_0 : decode cX8_isFull 0 = .ok (.aload_n 0, 1) := by decide +kernel
theorem dX8_isFull_1 : decode cX8_isFull 1 = .ok (.getfield 19, 3) := by decide +kernel
theorem dX8_isFull_4 : decode cX8_isFull 4 = .ok (.bipush 16, 2) := by decide +kernel
theorem dX8_isFull_6 : decode cX8_isFull 6 = .ok (.if_icmp .lt 7, 3) := by decide +kernel
theorem dX8_isFull_9 : decode cX8_isFull 9 = .ok (.iconst 1, 1) := by decide +kernel
theorem dX8_isFull_10 : decode cX8_isFull 10 = .ok (.goto 4, 3) := by decide +kernel
theorem dX8_isFull_13 : decode cX8_isFull 13 = .ok (.iconst 0, 1) := by decide +kernel
theorem dX8_isFull_14 : decode cX8_isFull 14 = .ok (.ireturn, 1) := by decide +kernel
def fx_Path_isFull (st : XS) : Int32 := 
  if gI st 9 < (16 : Int32) then (0 : Int32)
  else (1 : Int32)
set_option maxHeartbeats 4000000 in
set_option maxRecDepth 100000 in
theorem kx_Path_isFull (l : Launch) (dC : Nat → ClassId) (dI : Nat → Nat → Nat) (a : Nat → Nat) (k : Nat → ClassId) (st : XS) : Met l yX8_isFull wsX8_isFull ({ frames := 0, cells := 0, slots := 0, locals := 0 }) (va_Pc [.ref (a 21)] (wl_prR (dC, dI) vwCl (xt k) (xw a k st))) (vp_Si (fun r9 => r9 = fx_Path_isFull st)) 0 0 (fun _ => False) := by
  refine Met.ofW (cc := cX8_isFull) (maxL := 1) (ret := (some .boolean)) (by decide) rfl ?_
  intro p e s m args below meth c s₁ B hml hv
  obtain ⟨rfl, hP, hK⟩ := hv
  have hx := B.exec
  have hb := B.bytes
  have hr := B.returns
  have hta := aw_hts (atoms_spec (ws := wsX8_isFull) B.pre)
  have hown : s.vm.findClass RX8 = some m.cls := findClass_of_methodNamed B.named
  have hlocks := B.notSynchronized
  have hf19 := hta _ mw_192
  have hl := lv_entry ([.ref (a 21)]) (n := 1) (Nat.le_of_ble_eq_true rfl)
  rw [lg_entry_eq]
  generalize (lg_sl ([.ref (a 21)]) ++ List.replicate (1 - (lg_sl ([.ref (a 21)])).length) Slot.unset).toArray = ls at hl ⊢
  have hl : lv_has ls 1 [(0, .ref (a 21))] := hl
  generalize hR : fx_Path_isFull st = R
  rw [fx_Path_isFull] at hR
  refine lv_aload_n hx hb dX8_isFull_0 rfl (lv_at hl 0 rfl) ?_
  refine va_get (D := (dC, dI)) (ci := 6) (v := .int (gI st 9)) (C := RX8) (T := TX8) (N := 3) hx hb hta inX8 hown hK hP 21 (xr_21 a k st) rfl 2 (by decide) hf19 (fun _ h9 => h9) rfl dX8_isFull_1 ?_
  refine lv_bipush (v := (16 : Int32)) hx hb dX8_isFull_4 (by decide) ?_
  refine lv_icmp_lt (tgt := 13) hx hb dX8_isFull_6 (by decide) (fun c6 => ?_) (fun c6 => ?_)
  · skip
    rw [if_pos c6] at hR
    refine lv_iconst (v := (0 : Int32)) hx hb dX8_isFull_13 (by decide) ?_
    exact W.zret (v := (0 : Int32)) (ty := .boolean) hx hb hr rfl (fun t ht hW => ⟨_, rfl, hR, ht⟩) (fun q h => by cases h) dX8_isFull_14
  · skip
    rw [if_neg c6] at hR
    refine lv_iconst (v := (1 : Int32)) hx hb dX8_isFull_9 (by decide) ?_
    refine lv_goto (tgt := 14) hx hb dX8_isFull_10 (by decide) ?_
    exact W.zret (v := (1 : Int32)) (ty := .boolean) hx hb hr rfl (fun t ht hW => ⟨_, rfl, hR, ht⟩) (fun q h => by cases h) dX8_isFull_14

theorem mw_191 : (.fieldLink RX8 15 RX8 "conditions" "[I" : Cond) ∈ AW := List.mem_filter.mpr ⟨List.mem_of_getElem? (i := 191) (by decide +kernel), rfl⟩
theorem dX8_conditionAt_0 : decode cX8_conditionAt 0 = .ok (.aload_n 0, 1) := by decide +kernel
theorem dX8_conditionAt_1 : decode cX8_conditionAt 1 = .ok (.getfield 15, 3) := by decide +kernel
theorem dX8_conditionAt_4 : decode cX8_conditionAt 4 = .ok (.iload_n 1, 1) := by decide +kernel
theorem dX8_conditionAt_5 : decode cX8_conditionAt 5 = .ok (.iaload, 1) := by decide +kernel
theorem dX8_conditionAt_6 : decode cX8_conditionAt 6 = .ok (.ireturn, 1) := by decide +kernel
def fx_Path_conditionAt (st : XS) (i1 : Int32) : Int32 := fA st 10 i1.toNatClampNeg
set_option maxHeartbeats 4000000 in
set_option maxRecDepth 100000 in
theorem kx_Path_conditionAt (l : Launch) (dC : Nat → ClassId) (dI : Nat → Nat → Nat) (a : Nat → Nat) (k : Nat → ClassId) (st : XS) (i1 : Int32) (hi : vp_in i1 16) : Met l yX8_conditionAt wsX8_conditionAt ({ frames := 0, cells := 0, slots := 0, locals := 0 }) (va_Pc [.ref (a 21), .int i1] (wl_prR (dC, dI) vwCl (xt k) (xw a k st))) (vp_Si (fun r9 => r9 = fx_Path_conditionAt st i1)) 0 0 (fun _ => False) := by
  refine Met.ofW (cc := cX8_conditionAt) (maxL := 2) (ret := (some .int)) (by decide) rfl ?_
  intro p e s m args below meth c s₁ B hml hv
  obtain ⟨rfl, hP, hK⟩ := hv
  have hx := B.exec
  have hb := B.bytes
  have hr := B.returns
  have hta := aw_hts (atoms_spec (ws := wsX8_conditionAt) B.pre)
  have hown : s.vm.findClass RX8 = some m.cls := findClass_of_methodNamed B.named
  have hlocks := B.notSynchronized
  have hf15 := hta _ mw_191
  have hl := lv_entry ([.ref (a 21), .int i1]) (n := 2) (Nat.le_of_ble_eq_true rfl)
  rw [lg_entry_eq]
  generalize (lg_sl ([.ref (a 21), .int i1]) ++ List.replicate (2 - (lg_sl ([.ref (a 21), .int i1])).length) Slot.unset).toArray = ls at hl ⊢
  have hl : lv_has ls 2 [(0, .ref (a 21)), (1, .int i1)] := hl
  generalize hR : fx_Path_conditionAt st i1 = R
  rw [fx_Path_conditionAt] at hR
  refine lv_aload_n hx hb dX8_conditionAt_0 rfl (lv_at hl 0 rfl) ?_
  refine va_get (D := (dC, dI)) (ci := 6) (v := .ref (a 22)) (C := RX8) (T := TX8) (N := 3) hx hb hta inX8 hown hK hP 21 (xr_21 a k st) rfl 1 (by decide) hf15 (fun _ h9 => h9) rfl dX8_conditionAt_1 ?_
  refine lv_iload_n hx hb dX8_conditionAt_4 rfl (lv_at hl 1 rfl) ?_
  refine va_iald hx hb hK hP 22 14 (xr_22 a k st) rfl hi dX8_conditionAt_5 ?_
  exact W.iret (v := fA st 10 i1.toNatClampNeg) hx hb hr (fun t ht hW => ⟨_, rfl, hR, ht⟩) (fun q h => by cases h) dX8_conditionAt_6

theorem dX8_push_0 : decode cX8_push 0 = .ok (.aload_n 0, 1) := by decide +kernel
theorem dX8_push_1 : decode cX8_push 1 = .ok (.getfield 15, 3) := by decide +kernel
theorem dX8_push_4 : decode cX8_push 4 = .ok (.aload_n 0, 1) := by decide +kernel
theorem dX8_push_5 : decode cX8_push 5 = .ok (.getfield 19, 3) := by decide +kernel
theorem dX8_push_8 : decode cX8_push 8 = .ok (.iload_n 1, 1) := by decide +kernel
theorem dX8_push_9 : decode cX8_push 9 = .ok (.iastore, 1) := by decide +kernel
theorem dX8_push_10 : decode cX8_push 10 = .ok (.aload_n 0, 1) := by decide +kernel
theorem dX8_push_11 : decode cX8_push 11 = .ok (.dup, 1) := by decide +kernel
theorem dX8_push_12 : decode cX8_push 12 = .ok (.getfield 19, 3) := by decide +kernel
theorem dX8_push_15 : decode cX8_push 15 = .ok (.iconst 1, 1) := by decide +kernel
theorem dX8_push_16 : decode cX8_push 16 = .ok (.iadd, 1) := by decide +kernel
theorem dX8_push_17 : decode cX8_push 17 = .ok (.putfield 19, 3) := by decide +kernel
theorem dX8_push_20 : decode cX8_push 20 = .ok (.aload_n 0, 1) := by decide +kernel
theorem dX8_push_21 : decode cX8_push 21 = .ok (.getfield 19, 3) := by decide +kernel
theorem dX8_push_24 : decode cX8_push 24 = .ok (.ireturn, 1) := by decide +kernel
def fx_Path_push (st : XS) (cnd : Int32) : Int32 × XS := (gI (wI (wA st 10 ((gI st 9).toNatClampNeg) cnd) 9 ((gI st 9) + (1 : Int32))) 9, wI (wA st 10 ((gI st 9).toNatClampNeg) cnd) 9 ((gI st 9) + (1 : Int32)))
theorem ff_Path_push (st : XS) (cnd : Int32) : XF [9] [10] [] st (fx_Path_push st cnd).2 := by
  rw [fx_Path_push]
  exact (XF.wI (by decide) (XF.wA (by decide) XF.rf))
set_option maxHeartbeats 4000000 in
set_option maxRecDepth 100000 in
theorem kx_Path_push (l : Launch) (dC : Nat → ClassId) (dI : Nat → Nat → Nat) (a : Nat → Nat) (k : Nat → ClassId) (st : XS) (cnd : Int32) (sz : Nat) (hi : vp_in (gI st 9) 16) : Met l yX8_push wsX8_push ({ frames := 0, cells := 0, slots := 0, locals := 0 }) (va_Pc [.ref (a 21), .int cnd] (wl_pre (dC, dI) vwCl (xt k) (xw a k) st sz)) (va_Qi (fun r9 u9 => (r9, u9) = fx_Path_push st cnd) (wl_at (dC, dI) vwCl (xt k) (xw a k) (va_A (xw a k st) sz)) (va_A (xw a k st) sz)) 0 0 (va_A (xw a k st) sz) := by
  refine Met.ofW (cc := cX8_push) (maxL := 2) (ret := (some .int)) (by decide) rfl ?_
  intro p e s m args below meth c s₁ B hml hv
  obtain ⟨rfl, hsz, hP, hK, hD0⟩ := hv
  have hx := B.exec
  have hb := B.bytes
  have hr := B.returns
  have hta := aw_hts (atoms_spec (ws := wsX8_push) B.pre)
  have hown : s.vm.findClass RX8 = some m.cls := findClass_of_methodNamed B.named
  have hlocks := B.notSynchronized
  have hf15 := hta _ mw_191
  have hf19 := hta _ mw_192
  subst hsz
  have hD := hD0.self (sz := s.heap.size)
  generalize hAe : va_A (xw a k st) s.heap.size = A at hD ⊢
  have hAz : ∀ q : Nat, s.heap.size ≤ q → A q := fun q h => by rw [← hAe]; exact Or.inr h
  have hS : va_S A s.heap s.heap [] := va_S.rf
  have hl := lv_entry ([.ref (a 21), .int cnd]) (n := 2) (Nat.le_of_ble_eq_true rfl)
  rw [lg_entry_eq]
  generalize (lg_sl ([.ref (a 21), .int cnd]) ++ List.replicate (2 - (lg_sl ([.ref (a 21), .int cnd])).length) Slot.unset).toArray = ls at hl ⊢
  have hl : lv_has ls 2 [(0, .ref (a 21)), (1, .int cnd)] := hl
  generalize hR : fx_Path_push st cnd = R
  rw [fx_Path_push] at hR
  refine lv_aload_n hx hb dX8_push_0 rfl (lv_at hl 0 rfl) ?_
  refine va_get (D := (dC, dI)) (ci := 6) (v := .ref (a 22)) (C := RX8) (T := TX8) (N := 3) hx hb hta inX8 hown hK hP 21 (xr_21 a k st) rfl 1 (by decide) hf15 (fun _ h9 => h9) rfl dX8_push_1 ?_
  refine lv_aload_n hx hb dX8_push_4 rfl (lv_at hl 0 rfl) ?_
  refine va_get (D := (dC, dI)) (ci := 6) (v := .int (gI st 9)) (C := RX8) (T := TX8) (N := 3) hx hb hta inX8 hown hK hP 21 (xr_21 a k st) rfl 2 (by decide) hf19 (fun _ h9 => h9) rfl dX8_push_5 ?_
  refine lv_iload_n hx hb dX8_push_8 rfl (lv_at hl 1 rfl) ?_
  refine va_iast hx hb hK hP hD hS 22 14 (xr_22 a k st) rfl hi dX8_push_9 (fun H locs hP hD hS => ?_)
  have hP := xp_A10 hP
  have hD := xd_A10 hD
  refine lv_aload_n hx hb dX8_push_10 rfl (lv_at hl 0 rfl) ?_
  refine lv_dup hx hb dX8_push_11 rfl ?_
  refine va_get (D := (dC, dI)) (ci := 6) (v := .int (gI st 9)) (C := RX8) (T := TX8) (N := 3) hx hb hta inX8 hown hK hP 21 (xr_21 a k (wA st 10 ((gI st 9).toNatClampNeg) cnd)) rfl 2 (by decide) hf19 (fun _ h9 => h9) rfl dX8_push_12 ?_
  refine lv_iconst (v := (1 : Int32)) hx hb dX8_push_15 (by decide) ?_
  refine lv_iadd hx hb dX8_push_16 ?_
  refine va_put (D := (dC, dI)) (ci := 6) (v := .int ((gI st 9) + (1 : Int32))) (ty := .int) (C := RX8) (T := TX8) (N := 3) hx hb hta inX8 tyX8 tyX8_ok nmX8 hown hK hP hD hS 21 (xr_21 a k (wA st 10 ((gI st 9).toNatClampNeg) cnd)) rfl 2 (by decide) hf19 (fun _ h9 => h9) rfl (by decide +kernel) rfl rfl (Nat.le_of_ble_eq_true rfl) dX8_push_17 (fun H locs hP hD hS => ?_)
  have hP := xp_I9 hP
  have hD := xd_I9 hD
  refine lv_aload_n hx hb dX8_push_20 rfl (lv_at hl 0 rfl) ?_
  refine va_get (D := (dC, dI)) (ci := 6) (v := .int (gI (wI (wA st 10 ((gI st 9).toNatClampNeg) cnd) 9 ((gI st 9) + (1 : Int32))) 9)) (C := RX8) (T := TX8) (N := 3) hx hb hta inX8 hown hK hP 21 (xr_21 a k (wI (wA st 10 ((gI st 9).toNatClampNeg) cnd) 9 ((gI st 9) + (1 : Int32)))) rfl 2 (by decide) hf19 (fun _ h9 => h9) rfl dX8_push_21 ?_
  exact W.iret (v := gI (wI (wA st 10 ((gI st 9).toNatClampNeg) cnd) 9 ((gI st 9) + (1 : Int32))) 9) hx hb hr (fun t ht hW => ⟨⟨_, _, rfl, hR, by rw [ht]; exact hP, va_K.moved hW.alike hK, hD⟩, hS.F ht⟩) hS.2.2 dX8_push_24

theorem dX8_pop_0 : decode cX8_pop 0 = .ok (.aload_n 0, 1) := by decide +kernel
theorem dX8_pop_1 : decode cX8_pop 1 = .ok (.dup, 1) := by decide +kernel
theorem dX8_pop_2 : decode cX8_pop 2 = .ok (.getfield 19, 3) := by decide +kernel
theorem dX8_pop_5 : decode cX8_pop 5 = .ok (.iconst 1, 1) := by decide +kernel
theorem dX8_pop_6 : decode cX8_pop 6 = .ok (.isub, 1) := by decide +kernel
theorem dX8_pop_7 : decode cX8_pop 7 = .ok (.putfield 19, 3) := by decide +kernel
theorem dX8_pop_10 : decode cX8_pop 10 = .ok (.aload_n 0, 1) := by decide +kernel
theorem dX8_pop_11 : decode cX8_pop 11 = .ok (.getfield 19, 3) := by decide +kernel
theorem dX8_pop_14 : decode cX8_pop 14 = .ok (.ireturn, 1) := by decide +kernel
def fx_Path_pop (st : XS) : Int32 × XS := (gI (wI st 9 ((gI st 9) - (1 : Int32))) 9, wI st 9 ((gI st 9) - (1 : Int32)))
theorem ff_Path_pop (st : XS) : XF [9] [] [] st (fx_Path_pop st).2 := by
  rw [fx_Path_pop]
  exact (XF.wI (by decide) XF.rf)
set_option maxHeartbeats 4000000 in
set_option maxRecDepth 100000 in
theorem kx_Path_pop (l : Launch) (dC : Nat → ClassId) (dI : Nat → Nat → Nat) (a : Nat → Nat) (k : Nat → ClassId) (st : XS) (sz : Nat) : Met l yX8_pop wsX8_pop ({ frames := 0, cells := 0, slots := 0, locals := 0 }) (va_Pc [.ref (a 21)] (wl_pre (dC, dI) vwCl (xt k) (xw a k) st sz)) (va_Qi (fun r9 u9 => (r9, u9) = fx_Path_pop st) (wl_at (dC, dI) vwCl (xt k) (xw a k) (va_A (xw a k st) sz)) (va_A (xw a k st) sz)) 0 0 (va_A (xw a k st) sz) := by
  refine Met.ofW (cc := cX8_pop) (maxL := 1) (ret := (some .int)) (by decide) rfl ?_
  intro p e s m args below meth c s₁ B hml hv
  obtain ⟨rfl, hsz, hP, hK, hD0⟩ := hv
  have hx := B.exec
  have hb := B.bytes
  have hr := B.returns
  have hta := aw_hts (atoms_spec (ws := wsX8_pop) B.pre)
  have hown : s.vm.findClass RX8 = some m.cls := findClass_of_methodNamed B.named
  have hlocks := B.notSynchronized
  have hf19 := hta _ mw_192
  subst hsz
  have hD := hD0.self (sz := s.heap.size)
  generalize hAe : va_A (xw a k st) s.heap.size = A at hD ⊢
  have hAz : ∀ q : Nat, s.heap.size ≤ q → A q := fun q h => by rw [← hAe]; exact Or.inr h
  have hS : va_S A s.heap s.heap [] := va_S.rf
  have hl := lv_entry ([.ref (a 21)]) (n := 1) (Nat.le_of_ble_eq_true rfl)
  rw [lg_entry_eq]
  generalize (lg_sl ([.ref (a 21)]) ++ List.replicate (1 - (lg_sl ([.ref (a 21)])).length) Slot.unset).toArray = ls at hl ⊢
  have hl : lv_has ls 1 [(0, .ref (a 21))] := hl
  generalize hR : fx_Path_pop st = R
  rw [fx_Path_pop] at hR
  refine lv_aload_n hx hb dX8_pop_0 rfl (lv_at hl 0 rfl) ?_
  refine lv_dup hx hb dX8_pop_1 rfl ?_
  refine va_get (D := (dC, dI)) (ci := 6) (v := .int (gI st 9)) (C := RX8) (T := TX8) (N := 3) hx hb hta inX8 hown hK hP 21 (xr_21 a k st) rfl 2 (by decide) hf19 (fun _ h9 => h9) rfl dX8_pop_2 ?_
  refine lv_iconst (v := (1 : Int32)) hx hb dX8_pop_5 (by decide) ?_
  refine lv_isub hx hb dX8_pop_6 ?_
  refine va_put (D := (dC, dI)) (ci := 6) (v := .int ((gI st 9) - (1 : Int32))) (ty := .int) (C := RX8) (T := TX8) (N := 3) hx hb hta inX8 tyX8 tyX8_ok nmX8 hown hK hP hD hS 21 (xr_21 a k st) rfl 2 (by decide) hf19 (fun _ h9 => h9) rfl (by decide +kernel) rfl rfl (Nat.le_of_ble_eq_true rfl) dX8_pop_7 (fun H locs hP hD hS => ?_)
  have hP := xp_I9 hP
  have hD := xd_I9 hD
  refine lv_aload_n hx hb dX8_pop_10 rfl (lv_at hl 0 rfl) ?_
  refine va_get (D := (dC, dI)) (ci := 6) (v := .int (gI (wI st 9 ((gI st 9) - (1 : Int32))) 9)) (C := RX8) (T := TX8) (N := 3) hx hb hta inX8 hown hK hP 21 (xr_21 a k (wI st 9 ((gI st 9) - (1 : Int32)))) rfl 2 (by decide) hf19 (fun _ h9 => h9) rfl dX8_pop_11 ?_
  exact W.iret (v := gI (wI st 9 ((gI st 9) - (1 : Int32))) 9) hx hb hr (fun t ht hW => ⟨⟨_, _, rfl, hR, by rw [ht]; exact hP, va_K.moved hW.alike hK, hD⟩, hS.F ht⟩) hS.2.2 dX8_pop_14

theorem mw_541 : (.constantLong RX8 40 (-1) : Cond) ∈ AW := List.mem_filter.mpr ⟨List.mem_of_getElem? (i := 541) (by decide +kernel), rfl⟩
theorem mw_190 : (.fieldLink RX8 9 RX8 "rows" "LPathSolver$TruthRows;" : Cond) ∈ AW := List.mem_filter.mpr ⟨List.mem_of_getElem? (i := 190) (by decide +kernel), rfl⟩
theorem mw_545 : (.code yX7_wordOf cX7_wordOf 3 (some .long) : Cond) ∈ AW := List.mem_filter.mpr ⟨List.mem_of_getElem? (i := 545) (by decide +kernel), rfl⟩
theorem mw_542 : (.methodLink RX8 37 yX7_wordOf : Cond) ∈ AW := List.mem_filter.mpr ⟨List.mem_of_getElem? (i := 542) (by decide +kernel), rfl⟩
theorem mw_543 : (.instanceMethod yX7_wordOf : Cond) ∈ AW := List.mem_filter.mpr ⟨List.mem_of_getElem? (i := 543) (by decide +kernel), rfl⟩
theorem mw_544 : (.selects RX7 yX7_wordOf yX7_wordOf : Cond) ∈ AW := List.mem_filter.mpr ⟨List.mem_of_getElem? (i := 544) (by decide +kernel), rfl⟩
theorem gX8_37 : GoodIn AW (wsV RX8 37 RX7 yX7_wordOf wsX7_wordOf) := aw_V mw_542 mw_543 mw_544 mw_44 mw_545
theorem dX8_holdingBefore_0 : decode cX8_holdingBefore 0 = .ok (.ldc2_w 40, 3) := by decide +kernel
theorem dX8_holdingBefore_3 : decode cX8_holdingBefore 3 = .ok (.lstore_n 3, 1) := by decide +kernel
theorem dX8_holdingBefore_4 : decode cX8_holdingBefore 4 = .ok (.iconst 0, 1) := by decide +kernel
theorem dX8_holdingBefore_5 : decode cX8_holdingBefore 5 = .ok (.istore 5, 2) := by decide +kernel
theorem dX8_holdingBefore_7 : decode cX8_holdingBefore 7 = .ok (.iload 5, 2) := by decide +kernel
theorem dX8_holdingBefore_9 : decode cX8_holdingBefore 9 = .ok (.iload_n 1, 1) := by decide +kernel
theorem dX8_holdingBefore_10 : decode cX8_holdingBefore 10 = .ok (.if_icmp .ge 27, 3) := by decide +kernel
theorem dX8_holdingBefore_13 : decode cX8_holdingBefore 13 = .ok (.lload_n 3, 1) := by decide +kernel
theorem dX8_holdingBefore_14 : decode cX8_holdingBefore 14 = .ok (.aload_n 0, 1) := by decide +kernel
theorem dX8_holdingBefore_15 : decode cX8_holdingBefore 15 = .ok (.getfield 9, 3) := by decide +kernel
theorem dX8_holdingBefore_18 : decode cX8_holdingBefore 18 = .ok (.aload_n 0, 1) := by decide +kernel
theorem dX8_holdingBefore_19 : decode cX8_holdingBefore 19 = .ok (.getfield 15, 3) := by decide +kernel
theorem dX8_holdingBefore_22 : decode cX8_holdingBefore 22 = .ok (.iload 5, 2) := by decide +kernel
theorem dX8_holdingBefore_24 : decode cX8_holdingBefore 24 = .ok (.iaload, 1) := by decide +kernel
theorem dX8_holdingBefore_25 : decode cX8_holdingBefore 25 = .ok (.iload_n 2, 1) := by decide +kernel
theorem dX8_holdingBefore_26 : decode cX8_holdingBefore 26 = .ok (.invokevirtual 37, 3) := by decide +kernel
theorem dX8_holdingBefore_29 : decode cX8_holdingBefore 29 = .ok (.land, 1) := by decide +kernel
theorem dX8_holdingBefore_30 : decode cX8_holdingBefore 30 = .ok (.lstore_n 3, 1) := by decide +kernel
theorem dX8_holdingBefore_31 : decode cX8_holdingBefore 31 = .ok (.iinc 5 1, 3) := by decide +kernel
theorem dX8_holdingBefore_34 : decode cX8_holdingBefore 34 = .ok (.goto (-27), 3) := by decide +kernel
theorem dX8_holdingBefore_37 : decode cX8_holdingBefore 37 = .ok (.lload_n 3, 1) := by decide +kernel
theorem dX8_holdingBefore_38 : decode cX8_holdingBefore 38 = .ok (.lreturn, 1) := by decide +kernel
def fx_Path_holdingBefore_L7 (st : XS) (kk : Int32) (wd : Int32) : Nat → Int64 → Nat → Int64
  | 0, acc, i => 0
  | n + 1, acc, i => 
    if kk ≤ nI i then acc
    else fx_Path_holdingBefore_L7 st kk wd n (acc &&& (fx_Rows_wordOf st ((fA st 10 (nI i).toNatClampNeg)) (wd))) (i + 1)
def fx_Path_holdingBefore (st : XS) (kk : Int32) (wd : Int32) : Int64 := fx_Path_holdingBefore_L7 st kk wd 17 (-1 : Int64) 0
set_option maxHeartbeats 4000000 in
set_option maxRecDepth 100000 in
theorem kx_Path_holdingBefore (l : Launch) (dC : Nat → ClassId) (dI : Nat → Nat → Nat) (a : Nat → Nat) (k : Nat → ClassId) (st : XS) (KK : Nat) (WD : Nat) (hK16 : KK ≤ 16) (hcd : ∀ j : Nat, j < KK → vp_in (fA st 10 j) 64) (hW : WD < 16) : Met l yX8_holdingBefore wsX8_holdingBefore ({ frames := 1, cells := 0, slots := 0, locals := 22 }) (va_Pc [.ref (a 21), .int (nI KK), .int (nI WD)] (wl_prR (dC, dI) vwCl (xt k) (xw a k st))) (vp_Sl (fun r9 => r9 = fx_Path_holdingBefore st (nI KK) (nI WD))) 0 0 (fun _ => False) := by
  refine Met.ofW (cc := cX8_holdingBefore) (maxL := 6) (ret := (some .long)) (by decide) rfl ?_
  intro p e s m args below meth c s₁ B hml hv
  obtain ⟨rfl, hP, hK⟩ := hv
  have hx := B.exec
  have hb := B.bytes
  have hr := B.returns
  have hta := aw_hts (atoms_spec (ws := wsX8_holdingBefore) B.pre)
  have hown : s.vm.findClass RX8 = some m.cls := findClass_of_methodNamed B.named
  have hlocks := B.notSynchronized
  have hc40 := hta _ mw_541
  have hf9 := hta _ mw_190
  have hf15 := hta _ mw_191
  have hl := lv_entry ([.ref (a 21), .int (nI KK), .int (nI WD)]) (n := 6) (Nat.le_of_ble_eq_true rfl)
  rw [lg_entry_eq]
  generalize (lg_sl ([.ref (a 21), .int (nI KK), .int (nI WD)]) ++ List.replicate (6 - (lg_sl ([.ref (a 21), .int (nI KK), .int (nI WD)])).length) Slot.unset).toArray = ls at hl ⊢
  have hl : lv_has ls 6 [(0, .ref (a 21)), (1, .int ((nI KK))), (2, .int ((nI WD)))] := hl
  generalize hR : fx_Path_holdingBefore st (nI KK) (nI WD) = R
  rw [fx_Path_holdingBefore] at hR
  refine lv_ldc2 (v := (-1 : Int64)) hx hb hown hc40 dX8_holdingBefore_0 ?_
  refine lv_lstore_n (lv' := [(3, .long (-1 : Int64)), (0, .ref (a 21)), (1, .int ((nI KK))), (2, .int ((nI WD)))]) hx hb dX8_holdingBefore_3 rfl hl (by decide) rfl (fun ls hl => ?_)
  refine lv_iconst (v := (0 : Int32)) hx hb dX8_holdingBefore_4 (by decide) ?_
  refine lv_istore (lv' := [(5, .int (0 : Int32)), (3, .long (-1 : Int64)), (0, .ref (a 21)), (1, .int ((nI KK))), (2, .int ((nI WD)))]) hx hb dX8_holdingBefore_5 hl (by decide) rfl (fun ls hl => ?_)
  have L7 : ∀ (n : Nat) (acc : Int64) (i : Nat) (ls : Array Slot), fx_Path_holdingBefore_L7 st (nI KK) (nI WD) n acc i = R → (i ≤ KK) → KK - i < n → lv_has ls 6 [(5, .int (nI i)), (3, .long acc), (0, .ref (a 21)), (1, .int ((nI KK))), (2, .int ((nI WD)))] → W p l e (headSpec wsX8_holdingBefore ({ frames := 1, cells := 0, slots := 0, locals := 22 })).room s m ([.ref (a 21), .int (nI KK), .int (nI WD)] : List Value).toArray below meth c s.heap [] 0 0 (MQ below (vp_Sl (fun r9 => r9 = R)) ([.ref (a 21), .int (nI KK), .int (nI WD)] : List Value).toArray s 0 0 (fun _ => False)) (F0 m 7 ls []) := by
    intro n
    induction n with
    | zero =>
      intro acc i ls hR hi hm hl
      exact absurd hm (Nat.not_lt_zero _)
    | succ n ih =>
      intro acc i ls hR hi hm hl
      rw [fx_Path_holdingBefore_L7] at hR
      refine lv_iload hx hb dX8_holdingBefore_7 (lv_at hl 0 rfl) ?_
      refine lv_iload_n hx hb dX8_holdingBefore_9 rfl (lv_at hl 3 rfl) ?_
      refine lv_icmp_ge (tgt := 37) hx hb dX8_holdingBefore_10 (by decide) (fun c10 => ?_) (fun c10 => ?_)
      · skip
        rw [if_pos c10] at hR
        refine lv_lload_n hx hb dX8_holdingBefore_37 rfl (lv_at hl 1 rfl) ?_
        exact W.lret (v := acc) hx hb hr (fun t ht hW => ⟨_, rfl, hR, ht⟩) (fun q h => by cases h) dX8_holdingBefore_38
      · skip
        rw [if_neg c10] at hR
        have hlt : i < KK := wl_lt c10 (by omega)
        refine lv_lload_n hx hb dX8_holdingBefore_13 rfl (lv_at hl 1 rfl) ?_
        refine lv_aload_n hx hb dX8_holdingBefore_14 rfl (lv_at hl 2 rfl) ?_
        refine va_get (D := (dC, dI)) (ci := 6) (v := .ref (a 17)) (C := RX8) (T := TX8) (N := 3) hx hb hta inX8 hown hK hP 21 (xr_21 a k st) rfl 0 (by decide) hf9 (fun _ h9 => h9) rfl dX8_holdingBefore_15 ?_
        refine lv_aload_n hx hb dX8_holdingBefore_18 rfl (lv_at hl 2 rfl) ?_
        refine va_get (D := (dC, dI)) (ci := 6) (v := .ref (a 22)) (C := RX8) (T := TX8) (N := 3) hx hb hta inX8 hown hK hP 21 (xr_21 a k st) rfl 1 (by decide) hf15 (fun _ h9 => h9) rfl dX8_holdingBefore_19 ?_
        refine lv_iload hx hb dX8_holdingBefore_22 (lv_at hl 0 rfl) ?_
        refine va_iald hx hb hK hP 22 14 (xr_22 a k st) rfl (wl_in (by omega) (by decide)) dX8_holdingBefore_24 ?_
        have e24 : fA st 10 (nI i).toNatClampNeg = fA st 10 i := (congrArg (fA st 10) (nI_clamp (by omega)))
        rw [e24]
        try rw [e24] at hR
        refine lv_iload_n hx hb dX8_holdingBefore_25 rfl (lv_at hl 4 rfl) ?_
        refine wl_cl (va_runV (As := [.int ((fA st 10 i)), .int ((nI WD))]) (rest := [.long acc]) ⟨hx, hb, hml, hown, hta⟩ (kx_Rows_wordOf l dC dI a k st ((fA st 10 i)) ((nI WD)) (wl_i16 (hcd i hlt) hW)) (cwV 2 hta gX8_37 rfl rfl rfl (by decide +kernel) ⟨Nat.le_of_ble_eq_true rfl, Nat.le_of_ble_eq_true rfl⟩) (wl_pR (C := RX7) (ci := 5) (q0 := 17) hK hP rfl (xr_17 a k st)) rfl rfl hl.1 rfl (lv_room (Nat.le_of_ble_eq_true rfl)) dX8_holdingBefore_26 ⟨Nat.zero_le _, Nat.zero_le _⟩) ?_
        refine lv_land hx hb dX8_holdingBefore_29 ?_
        refine lv_lstore_n (lv' := [(3, .long (acc &&& (fx_Rows_wordOf st ((fA st 10 i)) ((nI WD))))), (5, .int (nI i)), (0, .ref (a 21)), (1, .int ((nI KK))), (2, .int ((nI WD)))]) hx hb dX8_holdingBefore_30 rfl hl (by decide) rfl (fun ls hl => ?_)
        refine lv_iinc (v := nI (i + 1)) (lv' := [(5, .int (nI (i + 1))), (3, .long (acc &&& (fx_Rows_wordOf st ((fA st 10 i)) ((nI WD))))), (0, .ref (a 21)), (1, .int ((nI KK))), (2, .int ((nI WD)))]) hx hb dX8_holdingBefore_31 hl (k := 1) rfl (nI_1 _) (by decide) rfl (fun ls hl => ?_)
        refine lv_goto (tgt := 7) hx hb dX8_holdingBefore_34 (by decide) ?_
        exact ih (acc &&& (fx_Rows_wordOf st ((fA st 10 i)) ((nI WD)))) (i + 1) ls hR (by omega) (by omega) (lv_sub hl [0, 1, 2, 3, 4] rfl)
  exact L7 17 (-1 : Int64) 0 ls hR (Nat.zero_le _) (by omega) (lv_sub hl [0, 1, 2, 3, 4] rfl)

theorem dX8_lowestBit_0 : decode cX8_lowestBit 0 = .ok (.iconst 0, 1) := by decide +kernel
theorem dX8_lowestBit_1 : decode cX8_lowestBit 1 = .ok (.istore_n 2, 1) := by decide +kernel
theorem dX8_lowestBit_2 : decode cX8_lowestBit 2 = .ok (.iload_n 2, 1) := by decide +kernel
theorem dX8_lowestBit_3 : decode cX8_lowestBit 3 = .ok (.bipush 63, 2) := by decide +kernel
theorem dX8_lowestBit_5 : decode cX8_lowestBit 5 = .ok (.if_icmp .ge 19, 3) := by decide +kernel
theorem dX8_lowestBit_8 : decode cX8_lowestBit 8 = .ok (.lload_n 0, 1) := by decide +kernel
theorem dX8_lowestBit_9 : decode cX8_lowestBit 9 = .ok (.iload_n 2, 1) := by decide +kernel
theorem dX8_lowestBit_10 : decode cX8_lowestBit 10 = .ok (.lshr, 1) := by decide +kernel
theorem dX8_lowestBit_11 : decode cX8_lowestBit 11 = .ok (.lconst 1, 1) := by decide +kernel
theorem dX8_lowestBit_12 : decode cX8_lowestBit 12 = .ok (.land, 1) := by decide +kernel
theorem dX8_lowestBit_13 : decode cX8_lowestBit 13 = .ok (.lconst 0, 1) := by decide +kernel
theorem dX8_lowestBit_14 : decode cX8_lowestBit 14 = .ok (.lcmp, 1) := by decide +kernel
theorem dX8_lowestBit_15 : decode cX8_lowestBit 15 = .ok (.ifCond .ne 9, 3) := by decide +kernel
theorem dX8_lowestBit_18 : decode cX8_lowestBit 18 = .ok (.iinc 2 1, 3) := by decide +kernel
theorem dX8_lowestBit_21 : decode cX8_lowestBit 21 = .ok (.goto (-19), 3) := by decide +kernel
theorem dX8_lowestBit_24 : decode cX8_lowestBit 24 = .ok (.iload_n 2, 1) := by decide +kernel
theorem dX8_lowestBit_25 : decode cX8_lowestBit 25 = .ok (.ireturn, 1) := by decide +kernel
def fx_Path_lowestBit_L2 (wd : Int64) : Nat → Nat → Int32
  | 0, i => 0
  | n + 1, i => 
    if (63 : Int32) ≤ nI i then nI i
    else 
      if lg_cmp ((wd >>> ((nI i).toInt64 &&& 63)) &&& (1 : Int64)) (0 : Int64) = (0 : Int32) then fx_Path_lowestBit_L2 wd n (i + 1)
      else nI i
def fx_Path_lowestBit (wd : Int64) : Int32 := fx_Path_lowestBit_L2 wd 64 0
set_option maxHeartbeats 4000000 in
set_option maxRecDepth 100000 in
theorem kx_Path_lowestBit (l : Launch) (wd : Int64) : Met l yX8_lowestBit wsX8_lowestBit ({ frames := 0, cells := 0, slots := 0, locals := 0 }) (fun v _ => v = ([.long wd] : List Value).toArray) (vp_Si (fun r9 => r9 = fx_Path_lowestBit wd)) 0 0 (fun _ => False) := by
  refine Met.ofW (cc := cX8_lowestBit) (maxL := 3) (ret := (some .int)) (by decide) rfl ?_
  intro p e s m args below meth c s₁ B hml hv
  subst hv
  have hx := B.exec
  have hb := B.bytes
  have hr := B.returns
  have hta := aw_hts (atoms_spec (ws := wsX8_lowestBit) B.pre)
  have hown : s.vm.findClass RX8 = some m.cls := findClass_of_methodNamed B.named
  have hlocks := B.notSynchronized
  have hl := lv_entry ([.long wd]) (n := 3) (Nat.le_of_ble_eq_true rfl)
  rw [lg_entry_eq]
  generalize (lg_sl ([.long wd]) ++ List.replicate (3 - (lg_sl ([.long wd])).length) Slot.unset).toArray = ls at hl ⊢
  have hl : lv_has ls 3 [(0, .long wd)] := hl
  generalize hR : fx_Path_lowestBit wd = R
  rw [fx_Path_lowestBit] at hR
  refine lv_iconst (v := (0 : Int32)) hx hb dX8_lowestBit_0 (by decide) ?_
  refine lv_istore_n (lv' := [(2, .int (0 : Int32)), (0, .long wd)]) hx hb dX8_lowestBit_1 rfl hl (by decide) rfl (fun ls hl => ?_)
  have L2 : ∀ (n : Nat) (i : Nat) (ls : Array Slot), fx_Path_lowestBit_L2 wd n i = R → (i ≤ 63) → 63 - i < n → lv_has ls 3 [(2, .int (nI i)), (0, .long wd)] → W p l e (headSpec wsX8_lowestBit ({ frames := 0, cells := 0, slots := 0, locals := 0 })).room s m ([.long wd] : List Value).toArray below meth c s.heap [] 0 0 (MQ below (vp_Si (fun r9 => r9 = R)) ([.long wd] : List Value).toArray s 0 0 (fun _ => False)) (F0 m 2 ls []) := by
    intro n
    induction n with
    | zero =>
      intro i ls hR hi hm hl
      exact absurd hm (Nat.not_lt_zero _)
    | succ n ih =>
      intro i ls hR hi hm hl
      rw [fx_Path_lowestBit_L2] at hR
      refine lv_iload_n hx hb dX8_lowestBit_2 rfl (lv_at hl 0 rfl) ?_
      refine lv_bipush (v := (63 : Int32)) hx hb dX8_lowestBit_3 (by decide) ?_
      refine lv_icmp_ge (tgt := 24) hx hb dX8_lowestBit_5 (by decide) (fun c5 => ?_) (fun c5 => ?_)
      · skip
        rw [if_pos c5] at hR
        refine lv_iload_n hx hb dX8_lowestBit_24 rfl (lv_at hl 0 rfl) ?_
        exact W.iret (v := nI i) hx hb hr (fun t ht hW => ⟨_, rfl, hR, ht⟩) (fun q h => by cases h) dX8_lowestBit_25
      · skip
        rw [if_neg c5] at hR
        have hlt : i < 63 := wl_lt (N := 63) c5 (by omega)
        refine lv_lload_n hx hb dX8_lowestBit_8 rfl (lv_at hl 1 rfl) ?_
        refine lv_iload_n hx hb dX8_lowestBit_9 rfl (lv_at hl 0 rfl) ?_
        refine lv_lshr (v := wd >>> ((nI i).toInt64 &&& 63)) hx hb dX8_lowestBit_10 rfl ?_
        refine lv_lconst (v := (1 : Int64)) hx hb dX8_lowestBit_11 (by decide) ?_
        refine lv_land hx hb dX8_lowestBit_12 ?_
        refine lv_lconst (v := (0 : Int64)) hx hb dX8_lowestBit_13 (by decide) ?_
        refine W.lcmp hx hb dX8_lowestBit_14 ?_
        refine lv_if_ne (tgt := 24) hx hb dX8_lowestBit_15 (by decide) (fun c15 => ?_) (fun c15 => ?_)
        · skip
          rw [if_neg c15] at hR
          refine lv_iload_n hx hb dX8_lowestBit_24 rfl (lv_at hl 0 rfl) ?_
          exact W.iret (v := nI i) hx hb hr (fun t ht hW => ⟨_, rfl, hR, ht⟩) (fun q h => by cases h) dX8_lowestBit_25
        · skip
          rw [if_pos c15] at hR
          refine lv_iinc (v := nI (i + 1)) (lv' := [(2, .int (nI (i + 1))), (0, .long wd)]) hx hb dX8_lowestBit_18 hl (k := 0) rfl (nI_1 _) (by decide) rfl (fun ls hl => ?_)
          refine lv_goto (tgt := 2) hx hb dX8_lowestBit_21 (by decide) ?_
          exact ih (i + 1) ls hR (by omega) (by omega) (lv_sub hl [0, 1] rfl)
  exact L2 64 0 ls hR (Nat.zero_le _) (by omega) (lv_sub hl [0, 1] rfl)

theorem mw_486 : (.code yX7_learn cX7_learn 6 none : Cond) ∈ AW := List.mem_filter.mpr ⟨List.mem_of_getElem? (i := 486) (by decide +kernel), rfl⟩
theorem mw_483 : (.methodLink RX8 23 yX7_learn : Cond) ∈ AW := List.mem_filter.mpr ⟨List.mem_of_getElem? (i := 483) (by decide +kernel), rfl⟩
theorem mw_484 : (.instanceMethod yX7_learn : Cond) ∈ AW := List.mem_filter.mpr ⟨List.mem_of_getElem? (i := 484) (by decide +kernel), rfl⟩
theorem mw_485 : (.selects RX7 yX7_learn yX7_learn : Cond) ∈ AW := List.mem_filter.mpr ⟨List.mem_of_getElem? (i := 485) (by decide +kernel), rfl⟩
theorem mw_540 : (.code yX8_holdingBefore cX8_holdingBefore 6 (some .long) : Cond) ∈ AW := List.mem_filter.mpr ⟨List.mem_of_getElem? (i := 540) (by decide +kernel), rfl⟩
theorem mw_537 : (.methodLink RX8 29 yX8_holdingBefore : Cond) ∈ AW := List.mem_filter.mpr ⟨List.mem_of_getElem? (i := 537) (by decide +kernel), rfl⟩
theorem mw_45 : (.initialized RX8 : Cond) ∈ AW := List.mem_filter.mpr ⟨List.mem_of_getElem? (i := 45) (by decide +kernel), rfl⟩
theorem mw_539 : (.instanceMethod yX8_holdingBefore : Cond) ∈ AW := List.mem_filter.mpr ⟨List.mem_of_getElem? (i := 539) (by decide +kernel), rfl⟩
theorem mw_14 : (.selects RX8 yX8_holdingBefore yX8_holdingBefore : Cond) ∈ AW := List.mem_filter.mpr ⟨List.mem_of_getElem? (i := 14) (by decide +kernel), rfl⟩
theorem mw_548 : (.code yX8_lowestBit cX8_lowestBit 3 (some .int) : Cond) ∈ AW := List.mem_filter.mpr ⟨List.mem_of_getElem? (i := 548) (by decide +kernel), rfl⟩
theorem mw_546 : (.methodLink RX8 33 yX8_lowestBit : Cond) ∈ AW := List.mem_filter.mpr ⟨List.mem_of_getElem? (i := 546) (by decide +kernel), rfl⟩
theorem mw_547 : (.static yX8_lowestBit : Cond) ∈ AW := List.mem_filter.mpr ⟨List.mem_of_getElem? (i := 547) (by decide +kernel), rfl⟩
theorem gX8_23 : GoodIn AW (wsV RX8 23 RX7 yX7_learn wsX7_learn) := aw_V mw_483 mw_484 mw_485 mw_44 mw_486
theorem gX8_29 : GoodIn AW (wsV RX8 29 RX8 yX8_holdingBefore wsX8_holdingBefore) := aw_V mw_537 mw_539 mw_14 mw_45 mw_540
theorem gX8_33 : GoodIn AW (va_wsS RX8 33 yX8_lowestBit wsX8_lowestBit) := aw_S mw_546 mw_547 mw_45 mw_548
theorem dX8_firstTaking_0 : decode cX8_firstTaking 0 = .ok (.aload_n 0, 1) := by decide +kernel
theorem dX8_firstTaking_1 : decode cX8_firstTaking 1 = .ok (.getfield 9, 3) := by decide +kernel
theorem dX8_firstTaking_4 : decode cX8_firstTaking 4 = .ok (.aload_n 0, 1) := by decide +kernel
theorem dX8_firstTaking_5 : decode cX8_firstTaking 5 = .ok (.getfield 15, 3) := by decide +kernel
theorem dX8_firstTaking_8 : decode cX8_firstTaking 8 = .ok (.aload_n 0, 1) := by decide +kernel
theorem dX8_firstTaking_9 : decode cX8_firstTaking 9 = .ok (.getfield 19, 3) := by decide +kernel
theorem dX8_firstTaking_12 : decode cX8_firstTaking 12 = .ok (.invokevirtual 23, 3) := by decide +kernel
theorem dX8_firstTaking_15 : decode cX8_firstTaking 15 = .ok (.iconst 0, 1) := by decide +kernel
theorem dX8_firstTaking_16 : decode cX8_firstTaking 16 = .ok (.istore_n 1, 1) := by decide +kernel
theorem dX8_firstTaking_17 : decode cX8_firstTaking 17 = .ok (.iload_n 1, 1) := by decide +kernel
theorem dX8_firstTaking_18 : decode cX8_firstTaking 18 = .ok (.bipush 16, 2) := by decide +kernel
theorem dX8_firstTaking_20 : decode cX8_firstTaking 20 = .ok (.if_icmp .ge 35, 3) := by decide +kernel
theorem dX8_firstTaking_23 : decode cX8_firstTaking 23 = .ok (.aload_n 0, 1) := by decide +kernel
theorem dX8_firstTaking_24 : decode cX8_firstTaking 24 = .ok (.aload_n 0, 1) := by decide +kernel
theorem dX8_firstTaking_25 : decode cX8_firstTaking 25 = .ok (.getfield 19, 3) := by decide +kernel
theorem dX8_firstTaking_28 : decode cX8_firstTaking 28 = .ok (.iload_n 1, 1) := by decide +kernel
theorem dX8_firstTaking_29 : decode cX8_firstTaking 29 = .ok (.invokevirtual 29, 3) := by decide +kernel
theorem dX8_firstTaking_32 : decode cX8_firstTaking 32 = .ok (.lstore_n 2, 1) := by decide +kernel
theorem dX8_firstTaking_33 : decode cX8_firstTaking 33 = .ok (.lload_n 2, 1) := by decide +kernel
theorem dX8_firstTaking_34 : decode cX8_firstTaking 34 = .ok (.lconst 0, 1) := by decide +kernel
theorem dX8_firstTaking_35 : decode cX8_firstTaking 35 = .ok (.lcmp, 1) := by decide +kernel
theorem dX8_firstTaking_36 : decode cX8_firstTaking 36 = .ok (.ifCond .eq 13, 3) := by decide +kernel
theorem dX8_firstTaking_39 : decode cX8_firstTaking 39 = .ok (.iload_n 1, 1) := by decide +kernel
theorem dX8_firstTaking_40 : decode cX8_firstTaking 40 = .ok (.bipush 64, 2) := by decide +kernel
theorem dX8_firstTaking_42 : decode cX8_firstTaking 42 = .ok (.imul, 1) := by decide +kernel
theorem dX8_firstTaking_43 : decode cX8_firstTaking 43 = .ok (.lload_n 2, 1) := by decide +kernel
theorem dX8_firstTaking_44 : decode cX8_firstTaking 44 = .ok (.invokestatic 33, 3) := by decide +kernel
theorem dX8_firstTaking_47 : decode cX8_firstTaking 47 = .ok (.iadd, 1) := by decide +kernel
theorem dX8_firstTaking_48 : decode cX8_firstTaking 48 = .ok (.ireturn, 1) := by decide +kernel
theorem dX8_firstTaking_49 : decode cX8_firstTaking 49 = .ok (.iinc 1 1, 3) := by decide +kernel
theorem dX8_firstTaking_52 : decode cX8_firstTaking 52 = .ok (.goto (-35), 3) := by decide +kernel
theorem dX8_firstTaking_55 : decode cX8_firstTaking 55 = .ok (.iconst (-1), 1) := by decide +kernel
theorem dX8_firstTaking_56 : decode cX8_firstTaking 56 = .ok (.ireturn, 1) := by decide +kernel
def fx_Path_firstTaking_L17 (st : XS) : Nat → Nat → Int32 × XS
  | 0, i => (0, st)
  | n + 1, i => 
    if (16 : Int32) ≤ nI i then ((-1 : Int32), (fx_Rows_learn st ((gI st 9))))
    else 
      if lg_cmp (fx_Path_holdingBefore ((fx_Rows_learn st ((gI st 9)))) ((gI ((fx_Rows_learn st ((gI st 9)))) 9)) (nI i)) (0 : Int64) = (0 : Int32) then fx_Path_firstTaking_L17 st n (i + 1)
      else (((nI i) * (64 : Int32)) + (fx_Path_lowestBit (fx_Path_holdingBefore ((fx_Rows_learn st ((gI st 9)))) ((gI ((fx_Rows_learn st ((gI st 9)))) 9)) (nI i))), (fx_Rows_learn st ((gI st 9))))
def fx_Path_firstTaking (st : XS) : Int32 × XS := fx_Path_firstTaking_L17 st 17 0
theorem fr_Path_firstTaking_L17 (st : XS) : ∀ (n : Nat) (i : Nat), XF [8] [7, 8, 9] [2, 3] st (fx_Path_firstTaking_L17 st n i).2 := by
  intro n
  induction n with
  | zero => intro i; exact XF.rf
  | succ n ih =>
    intro i
    rw [fx_Path_firstTaking_L17]
    exact (wl_ite (P := fun (q : Int32 × XS) => XF [8] [7, 8, 9] [2, 3] _ (q.2)) (XF.tr XF.rf (XF.mono (ff_Rows_learn _ _) (by decide) (by decide) (by decide))) (wl_ite (P := fun (q : Int32 × XS) => XF [8] [7, 8, 9] [2, 3] _ (q.2)) (ih _) (XF.tr XF.rf (XF.mono (ff_Rows_learn _ _) (by decide) (by decide) (by decide)))))
theorem ff_Path_firstTaking (st : XS) : XF [8] [7, 8, 9] [2, 3] st (fx_Path_firstTaking st).2 := by
  rw [fx_Path_firstTaking]
  exact (fr_Path_firstTaking_L17 _ _ _)
set_option maxHeartbeats 4000000 in
set_option maxRecDepth 100000 in
theorem kx_Path_firstTaking (l : Launch) (dC : Nat → ClassId) (dI : Nat → Nat → Nat) (a : Nat → Nat) (k : Nat → ClassId) (st : XS) (sz : Nat) (E : Nat) (hEl : gI st 9 = nI E) (hE16 : E ≤ 16) (hcd : ∀ j : Nat, j < E → vp_in (fA st 10 j) 64) (N : Nat) (hN : gI st 6 = nI N) (h64 : N ≤ 64) (V : Nat) (hV4 : V ≤ 4) (hX : XT st V N) (hM0 : XM st N) (Bt : Nat) (hBt : gI st 5 = nI Bt) (hBt10 : Bt ≤ 10) : Met l yX8_firstTaking wsX8_firstTaking ({ frames := 5, cells := 0, slots := 0, locals := 131 }) (va_Pc [.ref (a 21)] (wl_pre (dC, dI) vwCl (xt k) (xw a k) st sz)) (va_Qi (fun r9 u9 => (r9, u9) = fx_Path_firstTaking st) (wl_at (dC, dI) vwCl (xt k) (xw a k) (va_A (xw a k st) sz)) (va_A (xw a k st) sz)) 0 0 (va_A (xw a k st) sz) := by
  refine Met.ofW (cc := cX8_firstTaking) (maxL := 4) (ret := (some .int)) (by decide) rfl ?_
  intro p e s m args below meth c s₁ B hml hv
  obtain ⟨rfl, hsz, hP, hK, hD0⟩ := hv
  have hx := B.exec
  have hb := B.bytes
  have hr := B.returns
  have hta := aw_hts (atoms_spec (ws := wsX8_firstTaking) B.pre)
  have hown : s.vm.findClass RX8 = some m.cls := findClass_of_methodNamed B.named
  have hlocks := B.notSynchronized
  have hf9 := hta _ mw_190
  have hf15 := hta _ mw_191
  have hf19 := hta _ mw_192
  subst hsz
  have hD := hD0.self (sz := s.heap.size)
  generalize hAe : va_A (xw a k st) s.heap.size = A at hD ⊢
  have hAz : ∀ q : Nat, s.heap.size ≤ q → A q := fun q h => by rw [← hAe]; exact Or.inr h
  have hS : va_S A s.heap s.heap [] := va_S.rf
  have hl := lv_entry ([.ref (a 21)]) (n := 4) (Nat.le_of_ble_eq_true rfl)
  rw [lg_entry_eq]
  generalize (lg_sl ([.ref (a 21)]) ++ List.replicate (4 - (lg_sl ([.ref (a 21)])).length) Slot.unset).toArray = ls at hl ⊢
  have hl : lv_has ls 4 [(0, .ref (a 21))] := hl
  generalize hR : fx_Path_firstTaking st = R
  rw [fx_Path_firstTaking] at hR
  refine lv_aload_n hx hb dX8_firstTaking_0 rfl (lv_at hl 0 rfl) ?_
  refine va_get (D := (dC, dI)) (ci := 6) (v := .ref (a 17)) (C := RX8) (T := TX8) (N := 3) hx hb hta inX8 hown hK hP 21 (xr_21 a k st) rfl 0 (by decide) hf9 (fun _ h9 => h9) rfl dX8_firstTaking_1 ?_
  refine lv_aload_n hx hb dX8_firstTaking_4 rfl (lv_at hl 0 rfl) ?_
  refine va_get (D := (dC, dI)) (ci := 6) (v := .ref (a 22)) (C := RX8) (T := TX8) (N := 3) hx hb hta inX8 hown hK hP 21 (xr_21 a k st) rfl 1 (by decide) hf15 (fun _ h9 => h9) rfl dX8_firstTaking_5 ?_
  refine lv_aload_n hx hb dX8_firstTaking_8 rfl (lv_at hl 0 rfl) ?_
  refine va_get (D := (dC, dI)) (ci := 6) (v := .int (gI st 9)) (C := RX8) (T := TX8) (N := 3) hx hb hta inX8 hown hK hP 21 (xr_21 a k st) rfl 2 (by decide) hf19 (fun _ h9 => h9) rfl dX8_firstTaking_9 ?_
  have e9 : gI st 9 = nI E := hEl
  rw [e9]
  try rw [e9] at hR
  refine wl_mv (va_runV (As := [.ref (a 22), .int ((nI E))]) (rest := []) ⟨hx, hb, hml, hown, hta⟩ (kx_Rows_learn l dC dI a k st E _ hE16 hcd N hN h64 V hV4 hX hM0 Bt hBt hBt10) (cwV 2 hta gX8_23 rfl rfl rfl (by decide +kernel) ⟨Nat.le_of_ble_eq_true rfl, Nat.le_of_ble_eq_true rfl⟩) (wl_pM (C := RX7) (ci := 5) (q0 := 17) hK hP hD rfl (xr_17 a k st)) rfl rfl hl.1 rfl (lv_room (Nat.le_of_ble_eq_true rfl)) dX8_firstTaking_12 ⟨Nat.zero_le _, Nat.zero_le _⟩) hP hD hS hAz (fun u12 H locs hw12 hP hD hS => ?_)
  have w12 : fx_Rows_learn st ((nI E)) = u12 := hw12.symm
  have hf12 : XF [8] [7, 8, 9] [2, 3] st u12 := by rw [← w12]; exact ff_Rows_learn st ((nI E))
  try rw [w12] at hR
  refine lv_iconst (v := (0 : Int32)) hx hb dX8_firstTaking_15 (by decide) ?_
  refine lv_istore_n (lv' := [(1, .int (0 : Int32)), (0, .ref (a 21))]) hx hb dX8_firstTaking_16 rfl hl (by decide) rfl (fun ls hl => ?_)
  have L17 : ∀ (n : Nat) (i : Nat) (H : Heap) (locs : List Loc) (ls : Array Slot), fx_Path_firstTaking_L17 st n i = R → (i ≤ 16) → 16 - i < n → va_P (dC, dI) vwCl (xw a k (u12)) H → va_D A (xw a k (u12)) → va_S A s.heap H locs → lv_has ls 4 [(1, .int (nI i)), (0, .ref (a 21))] → W p l e (headSpec wsX8_firstTaking ({ frames := 5, cells := 0, slots := 0, locals := 131 })).room s m ([.ref (a 21)] : List Value).toArray below meth c H locs 0 0 (MQ below (va_Qi (fun r9 u9 => (r9, u9) = R) (wl_at (dC, dI) vwCl (xt k) (xw a k) A) A) ([.ref (a 21)] : List Value).toArray s 0 0 A) (F0 m 17 ls []) := by
    intro n
    induction n with
    | zero =>
      intro i H locs ls hR hi hm hP hD hS hl
      exact absurd hm (Nat.not_lt_zero _)
    | succ n ih =>
      intro i H locs ls hR hi hm hP hD hS hl
      rw [fx_Path_firstTaking_L17] at hR
      try rw [e9] at hR
      try rw [w12] at hR
      refine lv_iload_n hx hb dX8_firstTaking_17 rfl (lv_at hl 0 rfl) ?_
      refine lv_bipush (v := (16 : Int32)) hx hb dX8_firstTaking_18 (by decide) ?_
      refine lv_icmp_ge (tgt := 55) hx hb dX8_firstTaking_20 (by decide) (fun c20 => ?_) (fun c20 => ?_)
      · skip
        rw [if_pos c20] at hR
        refine lv_iconst (v := (-1 : Int32)) hx hb dX8_firstTaking_55 (by decide) ?_
        exact W.iret (v := (-1 : Int32)) hx hb hr (fun t ht hW => ⟨⟨_, _, rfl, hR, by rw [ht]; exact hP, va_K.moved hW.alike hK, hD⟩, hS.F ht⟩) hS.2.2 dX8_firstTaking_56
      · skip
        rw [if_neg c20] at hR
        have hlt : i < 16 := wl_lt (N := 16) c20 (by omega)
        refine lv_aload_n hx hb dX8_firstTaking_23 rfl (lv_at hl 1 rfl) ?_
        refine lv_aload_n hx hb dX8_firstTaking_24 rfl (lv_at hl 1 rfl) ?_
        refine va_get (D := (dC, dI)) (ci := 6) (v := .int (gI (u12) 9)) (C := RX8) (T := TX8) (N := 3) hx hb hta inX8 hown hK hP 21 (xr_21 a k (u12)) rfl 2 (by decide) hf19 (fun _ h9 => h9) rfl dX8_firstTaking_25 ?_
        have e25 : gI (u12) 9 = nI E := ((hf12.I 9 (by decide)).trans hEl)
        rw [e25]
        try rw [e25] at hR
        refine lv_iload_n hx hb dX8_firstTaking_28 rfl (lv_at hl 0 rfl) ?_
        refine wl_cl (va_runV (As := [.int ((nI E)), .int (nI i)]) (rest := []) ⟨hx, hb, hml, hown, hta⟩ (kx_Path_holdingBefore l dC dI a k (u12) E i hE16 (fun j hj => by rw [hf12.A 10 (by decide)]; exact hcd j hj) hlt) (cwV 2 hta gX8_29 rfl rfl rfl (by decide +kernel) ⟨Nat.le_of_ble_eq_true rfl, Nat.le_of_ble_eq_true rfl⟩) (wl_pR (C := RX8) (ci := 6) (q0 := 21) hK hP rfl (xr_21 a k (u12))) rfl rfl hl.1 rfl (lv_room (Nat.le_of_ble_eq_true rfl)) dX8_firstTaking_29 ⟨Nat.zero_le _, Nat.zero_le _⟩) ?_
        refine lv_lstore_n (lv' := [(2, .long (fx_Path_holdingBefore (u12) ((nI E)) (nI i))), (1, .int (nI i)), (0, .ref (a 21))]) hx hb dX8_firstTaking_32 rfl hl (by decide) rfl (fun ls hl => ?_)
        refine lv_lload_n hx hb dX8_firstTaking_33 rfl (lv_at hl 0 rfl) ?_
        refine lv_lconst (v := (0 : Int64)) hx hb dX8_firstTaking_34 (by decide) ?_
        refine W.lcmp hx hb dX8_firstTaking_35 ?_
        refine lv_if_eq (tgt := 49) hx hb dX8_firstTaking_36 (by decide) (fun c36 => ?_) (fun c36 => ?_)
        · skip
          rw [if_pos c36] at hR
          refine lv_iinc (v := nI (i + 1)) (lv' := [(1, .int (nI (i + 1))), (2, .long (fx_Path_holdingBefore (u12) ((nI E)) (nI i))), (0, .ref (a 21))]) hx hb dX8_firstTaking_49 hl (k := 1) rfl (nI_1 _) (by decide) rfl (fun ls hl => ?_)
          refine lv_goto (tgt := 17) hx hb dX8_firstTaking_52 (by decide) ?_
          exact ih (i + 1) _ _ ls hR (by omega) (by omega) hP hD hS (lv_sub hl [0, 2] rfl)
        · skip
          rw [if_neg c36] at hR
          refine lv_iload_n hx hb dX8_firstTaking_39 rfl (lv_at hl 1 rfl) ?_
          refine lv_bipush (v := (64 : Int32)) hx hb dX8_firstTaking_40 (by decide) ?_
          refine lv_imul hx hb dX8_firstTaking_42 ?_
          refine lv_lload_n hx hb dX8_firstTaking_43 rfl (lv_at hl 0 rfl) ?_
          refine wl_ci (va_runS (As := [.long (fx_Path_holdingBefore (u12) ((nI E)) (nI i))]) (rest := [.int ((nI i) * (64 : Int32))]) ⟨hx, hb, hml, hown, hta⟩ (kx_Path_lowestBit l (fx_Path_holdingBefore (u12) ((nI E)) (nI i))) (va_cwS 1 hta gX8_33 rfl rfl rfl (by decide +kernel) ⟨Nat.le_of_ble_eq_true rfl, Nat.le_of_ble_eq_true rfl⟩) preEq rfl rfl hl.1 rfl (lv_room (Nat.le_of_ble_eq_true rfl)) dX8_firstTaking_44 ⟨Nat.zero_le _, Nat.zero_le _⟩) ?_
          refine lv_iadd hx hb dX8_firstTaking_47 ?_
          exact W.iret (v := ((nI i) * (64 : Int32)) + (fx_Path_lowestBit (fx_Path_holdingBefore (u12) ((nI E)) (nI i)))) hx hb hr (fun t ht hW => ⟨⟨_, _, rfl, hR, by rw [ht]; exact hP, va_K.moved hW.alike hK, hD⟩, hS.F ht⟩) hS.2.2 dX8_firstTaking_48
  exact L17 17 0 _ _ ls hR (Nat.zero_le _) (by omega) hP hD hS (lv_sub hl [0, 1] rfl)

theorem dX8_firstLeavingAt_0 : decode cX8_firstLeavingAt 0 = .ok (.aload_n 0, 1) := by decide +kernel
theorem dX8_firstLeavingAt_1 : decode cX8_firstLeavingAt 1 = .ok (.getfield 9, 3) := by decide +kernel
theorem dX8_firstLeavingAt_4 : decode cX8_firstLeavingAt 4 = .ok (.aload_n 0, 1) := by decide +kernel
theorem dX8_firstLeavingAt_5 : decode cX8_firstLeavingAt 5 = .ok (.getfield 15, 3) := by decide +kernel
theorem dX8_firstLeavingAt_8 : decode cX8_firstLeavingAt 8 = .ok (.iload_n 1, 1) := by decide +kernel
theorem dX8_firstLeavingAt_9 : decode cX8_firstLeavingAt 9 = .ok (.iconst 1, 1) := by decide +kernel
theorem dX8_firstLeavingAt_10 : decode cX8_firstLeavingAt 10 = .ok (.iadd, 1) := by decide +kernel
theorem dX8_firstLeavingAt_11 : decode cX8_firstLeavingAt 11 = .ok (.invokevirtual 23, 3) := by decide +kernel
theorem dX8_firstLeavingAt_14 : decode cX8_firstLeavingAt 14 = .ok (.iconst 0, 1) := by decide +kernel
theorem dX8_firstLeavingAt_15 : decode cX8_firstLeavingAt 15 = .ok (.istore_n 2, 1) := by decide +kernel
theorem dX8_firstLeavingAt_16 : decode cX8_firstLeavingAt 16 = .ok (.iload_n 2, 1) := by decide +kernel
theorem dX8_firstLeavingAt_17 : decode cX8_firstLeavingAt 17 = .ok (.bipush 16, 2) := by decide +kernel
theorem dX8_firstLeavingAt_19 : decode cX8_firstLeavingAt 19 = .ok (.if_icmp .ge 51, 3) := by decide +kernel
theorem dX8_firstLeavingAt_22 : decode cX8_firstLeavingAt 22 = .ok (.aload_n 0, 1) := by decide +kernel
theorem dX8_firstLeavingAt_23 : decode cX8_firstLeavingAt 23 = .ok (.iload_n 1, 1) := by decide +kernel
theorem dX8_firstLeavingAt_24 : decode cX8_firstLeavingAt 24 = .ok (.iload_n 2, 1) := by decide +kernel
theorem dX8_firstLeavingAt_25 : decode cX8_firstLeavingAt 25 = .ok (.invokevirtual 29, 3) := by decide +kernel
theorem dX8_firstLeavingAt_28 : decode cX8_firstLeavingAt 28 = .ok (.aload_n 0, 1) := by decide +kernel
theorem dX8_firstLeavingAt_29 : decode cX8_firstLeavingAt 29 = .ok (.getfield 9, 3) := by decide +kernel
theorem dX8_firstLeavingAt_32 : decode cX8_firstLeavingAt 32 = .ok (.aload_n 0, 1) := by decide +kernel
theorem dX8_firstLeavingAt_33 : decode cX8_firstLeavingAt 33 = .ok (.getfield 15, 3) := by decide +kernel
theorem dX8_firstLeavingAt_36 : decode cX8_firstLeavingAt 36 = .ok (.iload_n 1, 1) := by decide +kernel
theorem dX8_firstLeavingAt_37 : decode cX8_firstLeavingAt 37 = .ok (.iaload, 1) := by decide +kernel
theorem dX8_firstLeavingAt_38 : decode cX8_firstLeavingAt 38 = .ok (.iload_n 2, 1) := by decide +kernel
theorem dX8_firstLeavingAt_39 : decode cX8_firstLeavingAt 39 = .ok (.invokevirtual 37, 3) := by decide +kernel
theorem dX8_firstLeavingAt_42 : decode cX8_firstLeavingAt 42 = .ok (.ldc2_w 40, 3) := by decide +kernel
theorem dX8_firstLeavingAt_45 : decode cX8_firstLeavingAt 45 = .ok (.lxor, 1) := by decide +kernel
theorem dX8_firstLeavingAt_46 : decode cX8_firstLeavingAt 46 = .ok (.land, 1) := by decide +kernel
theorem dX8_firstLeavingAt_47 : decode cX8_firstLeavingAt 47 = .ok (.lstore_n 3, 1) := by decide +kernel
theorem dX8_firstLeavingAt_48 : decode cX8_firstLeavingAt 48 = .ok (.lload_n 3, 1) := by decide +kernel
theorem dX8_firstLeavingAt_49 : decode cX8_firstLeavingAt 49 = .ok (.lconst 0, 1) := by decide +kernel
theorem dX8_firstLeavingAt_50 : decode cX8_firstLeavingAt 50 = .ok (.lcmp, 1) := by decide +kernel
theorem dX8_firstLeavingAt_51 : decode cX8_firstLeavingAt 51 = .ok (.ifCond .eq 13, 3) := by decide +kernel
theorem dX8_firstLeavingAt_54 : decode cX8_firstLeavingAt 54 = .ok (.iload_n 2, 1) := by decide +kernel
theorem dX8_firstLeavingAt_55 : decode cX8_firstLeavingAt 55 = .ok (.bipush 64, 2) := by decide +kernel
theorem dX8_firstLeavingAt_57 : decode cX8_firstLeavingAt 57 = .ok (.imul, 1) := by decide +kernel
theorem dX8_firstLeavingAt_58 : decode cX8_firstLeavingAt 58 = .ok (.lload_n 3, 1) := by decide +kernel
theorem dX8_firstLeavingAt_59 : decode cX8_firstLeavingAt 59 = .ok (.invokestatic 33, 3) := by decide +kernel
theorem dX8_firstLeavingAt_62 : decode cX8_firstLeavingAt 62 = .ok (.iadd, 1) := by decide +kernel
theorem dX8_firstLeavingAt_63 : decode cX8_firstLeavingAt 63 = .ok (.ireturn, 1) := by decide +kernel
theorem dX8_firstLeavingAt_64 : decode cX8_firstLeavingAt 64 = .ok (.iinc 2 1, 3) := by decide +kernel
theorem dX8_firstLeavingAt_67 : decode cX8_firstLeavingAt 67 = .ok (.goto (-51), 3) := by decide +kernel
theorem dX8_firstLeavingAt_70 : decode cX8_firstLeavingAt 70 = .ok (.iconst (-1), 1) := by decide +kernel
theorem dX8_firstLeavingAt_71 : decode cX8_firstLeavingAt 71 = .ok (.ireturn, 1) := by decide +kernel
def fx_Path_firstLeavingAt_L16 (st : XS) (kk : Int32) : Nat → Nat → Int32 × XS
  | 0, i => (0, st)
  | n + 1, i => 
    if (16 : Int32) ≤ nI i then ((-1 : Int32), (fx_Rows_learn st (((kk) + (1 : Int32)))))
    else 
      if lg_cmp ((fx_Path_holdingBefore ((fx_Rows_learn st (((kk) + (1 : Int32))))) (kk) (nI i)) &&& ((fx_Rows_wordOf ((fx_Rows_learn st (((kk) + (1 : Int32))))) ((fA ((fx_Rows_learn st (((kk) + (1 : Int32))))) 10 (kk).toNatClampNeg)) (nI i)) ^^^ (-1 : Int64))) (0 : Int64) = (0 : Int32) then fx_Path_firstLeavingAt_L16 st kk n (i + 1)
      else (((nI i) * (64 : Int32)) + (fx_Path_lowestBit ((fx_Path_holdingBefore ((fx_Rows_learn st (((kk) + (1 : Int32))))) (kk) (nI i)) &&& ((fx_Rows_wordOf ((fx_Rows_learn st (((kk) + (1 : Int32))))) ((fA ((fx_Rows_learn st (((kk) + (1 : Int32))))) 10 (kk).toNatClampNeg)) (nI i)) ^^^ (-1 : Int64)))), (fx_Rows_learn st (((kk) + (1 : Int32)))))
def fx_Path_firstLeavingAt (st : XS) (kk : Int32) : Int32 × XS := fx_Path_firstLeavingAt_L16 st kk 17 0
theorem fr_Path_firstLeavingAt_L16 (st : XS) (kk : Int32) : ∀ (n : Nat) (i : Nat), XF [8] [7, 8, 9] [2, 3] st (fx_Path_firstLeavingAt_L16 st kk n i).2 := by
  intro n
  induction n with
  | zero => intro i; exact XF.rf
  | succ n ih =>
    intro i
    rw [fx_Path_firstLeavingAt_L16]
    exact (wl_ite (P := fun (q : Int32 × XS) => XF [8] [7, 8, 9] [2, 3] _ (q.2)) (XF.tr XF.rf (XF.mono (ff_Rows_learn _ _) (by decide) (by decide) (by decide))) (wl_ite (P := fun (q : Int32 × XS) => XF [8] [7, 8, 9] [2, 3] _ (q.2)) (ih _) (XF.tr XF.rf (XF.mono (ff_Rows_learn _ _) (by decide) (by decide) (by decide)))))
theorem ff_Path_firstLeavingAt (st : XS) (kk : Int32) : XF [8] [7, 8, 9] [2, 3] st (fx_Path_firstLeavingAt st kk).2 := by
  rw [fx_Path_firstLeavingAt]
  exact (fr_Path_firstLeavingAt_L16 _ _ _ _)
set_option maxHeartbeats 4000000 in
set_option maxRecDepth 100000 in
theorem kx_Path_firstLeavingAt (l : Launch) (dC : Nat → ClassId) (dI : Nat → Nat → Nat) (a : Nat → Nat) (k : Nat → ClassId) (st : XS) (KK : Nat) (sz : Nat) (hK16 : KK < 16) (hcd : ∀ j : Nat, j < KK + 1 → vp_in (fA st 10 j) 64) (N : Nat) (hN : gI st 6 = nI N) (h64 : N ≤ 64) (V : Nat) (hV4 : V ≤ 4) (hX : XT st V N) (hM0 : XM st N) (Bt : Nat) (hBt : gI st 5 = nI Bt) (hBt10 : Bt ≤ 10) : Met l yX8_firstLeavingAt wsX8_firstLeavingAt ({ frames := 5, cells := 0, slots := 0, locals := 131 }) (va_Pc [.ref (a 21), .int (nI KK)] (wl_pre (dC, dI) vwCl (xt k) (xw a k) st sz)) (va_Qi (fun r9 u9 => (r9, u9) = fx_Path_firstLeavingAt st (nI KK)) (wl_at (dC, dI) vwCl (xt k) (xw a k) (va_A (xw a k st) sz)) (va_A (xw a k st) sz)) 0 0 (va_A (xw a k st) sz) := by
  refine Met.ofW (cc := cX8_firstLeavingAt) (maxL := 5) (ret := (some .int)) (by decide) rfl ?_
  intro p e s m args below meth c s₁ B hml hv
  obtain ⟨rfl, hsz, hP, hK, hD0⟩ := hv
  have hx := B.exec
  have hb := B.bytes
  have hr := B.returns
  have hta := aw_hts (atoms_spec (ws := wsX8_firstLeavingAt) B.pre)
  have hown : s.vm.findClass RX8 = some m.cls := findClass_of_methodNamed B.named
  have hlocks := B.notSynchronized
  have hf9 := hta _ mw_190
  have hf15 := hta _ mw_191
  have hc40 := hta _ mw_541
  subst hsz
  have hD := hD0.self (sz := s.heap.size)
  generalize hAe : va_A (xw a k st) s.heap.size = A at hD ⊢
  have hAz : ∀ q : Nat, s.heap.size ≤ q → A q := fun q h => by rw [← hAe]; exact Or.inr h
  have hS : va_S A s.heap s.heap [] := va_S.rf
  have hl := lv_entry ([.ref (a 21), .int (nI KK)]) (n := 5) (Nat.le_of_ble_eq_true rfl)
  rw [lg_entry_eq]
  generalize (lg_sl ([.ref (a 21), .int (nI KK)]) ++ List.replicate (5 - (lg_sl ([.ref (a 21), .int (nI KK)])).length) Slot.unset).toArray = ls at hl ⊢
  have hl : lv_has ls 5 [(0, .ref (a 21)), (1, .int ((nI KK)))] := hl
  generalize hR : fx_Path_firstLeavingAt st (nI KK) = R
  rw [fx_Path_firstLeavingAt] at hR
  refine lv_aload_n hx hb dX8_firstLeavingAt_0 rfl (lv_at hl 0 rfl) ?_
  refine va_get (D := (dC, dI)) (ci := 6) (v := .ref (a 17)) (C := RX8) (T := TX8) (N := 3) hx hb hta inX8 hown hK hP 21 (xr_21 a k st) rfl 0 (by decide) hf9 (fun _ h9 => h9) rfl dX8_firstLeavingAt_1 ?_
  refine lv_aload_n hx hb dX8_firstLeavingAt_4 rfl (lv_at hl 0 rfl) ?_
  refine va_get (D := (dC, dI)) (ci := 6) (v := .ref (a 22)) (C := RX8) (T := TX8) (N := 3) hx hb hta inX8 hown hK hP 21 (xr_21 a k st) rfl 1 (by decide) hf15 (fun _ h9 => h9) rfl dX8_firstLeavingAt_5 ?_
  refine lv_iload_n hx hb dX8_firstLeavingAt_8 rfl (lv_at hl 1 rfl) ?_
  refine lv_iconst (v := (1 : Int32)) hx hb dX8_firstLeavingAt_9 (by decide) ?_
  refine lv_iadd hx hb dX8_firstLeavingAt_10 ?_
  have e10 : ((nI KK)) + (1 : Int32) = nI (KK + 1) := (nI_1 KK)
  rw [e10]
  try rw [e10] at hR
  refine wl_mv (va_runV (As := [.ref (a 22), .int ((nI (KK + 1)))]) (rest := []) ⟨hx, hb, hml, hown, hta⟩ (kx_Rows_learn l dC dI a k st (KK + 1) _ (by omega) hcd N hN h64 V hV4 hX hM0 Bt hBt hBt10) (cwV 2 hta gX8_23 rfl rfl rfl (by decide +kernel) ⟨Nat.le_of_ble_eq_true rfl, Nat.le_of_ble_eq_true rfl⟩) (wl_pM (C := RX7) (ci := 5) (q0 := 17) hK hP hD rfl (xr_17 a k st)) rfl rfl hl.1 rfl (lv_room (Nat.le_of_ble_eq_true rfl)) dX8_firstLeavingAt_11 ⟨Nat.zero_le _, Nat.zero_le _⟩) hP hD hS hAz (fun u11 H locs hw11 hP hD hS => ?_)
  have w11 : fx_Rows_learn st ((nI (KK + 1))) = u11 := hw11.symm
  have hf11 : XF [8] [7, 8, 9] [2, 3] st u11 := by rw [← w11]; exact ff_Rows_learn st ((nI (KK + 1)))
  try rw [w11] at hR
  refine lv_iconst (v := (0 : Int32)) hx hb dX8_firstLeavingAt_14 (by decide) ?_
  refine lv_istore_n (lv' := [(2, .int (0 : Int32)), (0, .ref (a 21)), (1, .int ((nI KK)))]) hx hb dX8_firstLeavingAt_15 rfl hl (by decide) rfl (fun ls hl => ?_)
  have L16 : ∀ (n : Nat) (i : Nat) (H : Heap) (locs : List Loc) (ls : Array Slot), fx_Path_firstLeavingAt_L16 st (nI KK) n i = R → (i ≤ 16) → 16 - i < n → va_P (dC, dI) vwCl (xw a k (u11)) H → va_D A (xw a k (u11)) → va_S A s.heap H locs → lv_has ls 5 [(2, .int (nI i)), (0, .ref (a 21)), (1, .int ((nI KK)))] → W p l e (headSpec wsX8_firstLeavingAt ({ frames := 5, cells := 0, slots := 0, locals := 131 })).room s m ([.ref (a 21), .int (nI KK)] : List Value).toArray below meth c H locs 0 0 (MQ below (va_Qi (fun r9 u9 => (r9, u9) = R) (wl_at (dC, dI) vwCl (xt k) (xw a k) A) A) ([.ref (a 21), .int (nI KK)] : List Value).toArray s 0 0 A) (F0 m 16 ls []) := by
    intro n
    induction n with
    | zero =>
      intro i H locs ls hR hi hm hP hD hS hl
      exact absurd hm (Nat.not_lt_zero _)
    | succ n ih =>
      intro i H locs ls hR hi hm hP hD hS hl
      rw [fx_Path_firstLeavingAt_L16] at hR
      try rw [e10] at hR
      try rw [w11] at hR
      refine lv_iload_n hx hb dX8_firstLeavingAt_16 rfl (lv_at hl 0 rfl) ?_
      refine lv_bipush (v := (16 : Int32)) hx hb dX8_firstLeavingAt_17 (by decide) ?_
      refine lv_icmp_ge (tgt := 70) hx hb dX8_firstLeavingAt_19 (by decide) (fun c19 => ?_) (fun c19 => ?_)
      · skip
        rw [if_pos c19] at hR
        refine lv_iconst (v := (-1 : Int32)) hx hb dX8_firstLeavingAt_70 (by decide) ?_
        exact W.iret (v := (-1 : Int32)) hx hb hr (fun t ht hW => ⟨⟨_, _, rfl, hR, by rw [ht]; exact hP, va_K.moved hW.alike hK, hD⟩, hS.F ht⟩) hS.2.2 dX8_firstLeavingAt_71
      · skip
        rw [if_neg c19] at hR
        have hlt : i < 16 := wl_lt (N := 16) c19 (by omega)
        refine lv_aload_n hx hb dX8_firstLeavingAt_22 rfl (lv_at hl 1 rfl) ?_
        refine lv_iload_n hx hb dX8_firstLeavingAt_23 rfl (lv_at hl 2 rfl) ?_
        refine lv_iload_n hx hb dX8_firstLeavingAt_24 rfl (lv_at hl 0 rfl) ?_
        refine wl_cl (va_runV (As := [.int ((nI KK)), .int (nI i)]) (rest := []) ⟨hx, hb, hml, hown, hta⟩ (kx_Path_holdingBefore l dC dI a k (u11) KK i (by omega) (fun j hj => by rw [hf11.A 10 (by decide)]; exact hcd j (by omega)) hlt) (cwV 2 hta gX8_29 rfl rfl rfl (by decide +kernel) ⟨Nat.le_of_ble_eq_true rfl, Nat.le_of_ble_eq_true rfl⟩) (wl_pR (C := RX8) (ci := 6) (q0 := 21) hK hP rfl (xr_21 a k (u11))) rfl rfl hl.1 rfl (lv_room (Nat.le_of_ble_eq_true rfl)) dX8_firstLeavingAt_25 ⟨Nat.zero_le _, Nat.zero_le _⟩) ?_
        refine lv_aload_n hx hb dX8_firstLeavingAt_28 rfl (lv_at hl 1 rfl) ?_
        refine va_get (D := (dC, dI)) (ci := 6) (v := .ref (a 17)) (C := RX8) (T := TX8) (N := 3) hx hb hta inX8 hown hK hP 21 (xr_21 a k (u11)) rfl 0 (by decide) hf9 (fun _ h9 => h9) rfl dX8_firstLeavingAt_29 ?_
        refine lv_aload_n hx hb dX8_firstLeavingAt_32 rfl (lv_at hl 1 rfl) ?_
        refine va_get (D := (dC, dI)) (ci := 6) (v := .ref (a 22)) (C := RX8) (T := TX8) (N := 3) hx hb hta inX8 hown hK hP 21 (xr_21 a k (u11)) rfl 1 (by decide) hf15 (fun _ h9 => h9) rfl dX8_firstLeavingAt_33 ?_
        refine lv_iload_n hx hb dX8_firstLeavingAt_36 rfl (lv_at hl 2 rfl) ?_
        refine va_iald hx hb hK hP 22 14 (xr_22 a k (u11)) rfl (wl_in hK16 (by decide)) dX8_firstLeavingAt_37 ?_
        have e37 : fA (u11) 10 ((nI KK)).toNatClampNeg = fA st 10 KK := (by rw [hf11.A 10 (by decide), nI_clamp (by omega)])
        rw [e37]
        try rw [e37] at hR
        refine lv_iload_n hx hb dX8_firstLeavingAt_38 rfl (lv_at hl 0 rfl) ?_
        refine wl_cl (va_runV (As := [.int ((fA st 10 KK)), .int (nI i)]) (rest := [.long (fx_Path_holdingBefore (u11) ((nI KK)) (nI i))]) ⟨hx, hb, hml, hown, hta⟩ (kx_Rows_wordOf l dC dI a k (u11) ((fA st 10 KK)) (nI i) (wl_i16 (hcd KK (by omega)) hlt)) (cwV 2 hta gX8_37 rfl rfl rfl (by decide +kernel) ⟨Nat.le_of_ble_eq_true rfl, Nat.le_of_ble_eq_true rfl⟩) (wl_pR (C := RX7) (ci := 5) (q0 := 17) hK hP rfl (xr_17 a k (u11))) rfl rfl hl.1 rfl (lv_room (Nat.le_of_ble_eq_true rfl)) dX8_firstLeavingAt_39 ⟨Nat.zero_le _, Nat.zero_le _⟩) ?_
        refine lv_ldc2 (v := (-1 : Int64)) hx hb hown hc40 dX8_firstLeavingAt_42 ?_
        refine lv_lxor hx hb dX8_firstLeavingAt_45 ?_
        refine lv_land hx hb dX8_firstLeavingAt_46 ?_
        refine lv_lstore_n (lv' := [(3, .long ((fx_Path_holdingBefore (u11) ((nI KK)) (nI i)) &&& ((fx_Rows_wordOf (u11) ((fA st 10 KK)) (nI i)) ^^^ (-1 : Int64)))), (2, .int (nI i)), (0, .ref (a 21)), (1, .int ((nI KK)))]) hx hb dX8_firstLeavingAt_47 rfl hl (by decide) rfl (fun ls hl => ?_)
        refine lv_lload_n hx hb dX8_firstLeavingAt_48 rfl (lv_at hl 0 rfl) ?_
        refine lv_lconst (v := (0 : Int64)) hx hb dX8_firstLeavingAt_49 (by decide) ?_
        refine W.lcmp hx hb dX8_firstLeavingAt_50 ?_
        refine lv_if_eq (tgt := 64) hx hb dX8_firstLeavingAt_51 (by decide) (fun c51 => ?_) (fun c51 => ?_)
        · skip
          rw [if_pos c51] at hR
          refine lv_iinc (v := nI (i + 1)) (lv' := [(2, .int (nI (i + 1))), (3, .long ((fx_Path_holdingBefore (u11) ((nI KK)) (nI i)) &&& ((fx_Rows_wordOf (u11) ((fA st 10 KK)) (nI i)) ^^^ (-1 : Int64)))), (0, .ref (a 21)), (1, .int ((nI KK)))]) hx hb dX8_firstLeavingAt_64 hl (k := 1) rfl (nI_1 _) (by decide) rfl (fun ls hl => ?_)
          refine lv_goto (tgt := 16) hx hb dX8_firstLeavingAt_67 (by decide) ?_
          exact ih (i + 1) _ _ ls hR (by omega) (by omega) hP hD hS (lv_sub hl [0, 2, 3] rfl)
        · skip
          rw [if_neg c51] at hR
          refine lv_iload_n hx hb dX8_firstLeavingAt_54 rfl (lv_at hl 1 rfl) ?_
          refine lv_bipush (v := (64 : Int32)) hx hb dX8_firstLeavingAt_55 (by decide) ?_
          refine lv_imul hx hb dX8_firstLeavingAt_57 ?_
          refine lv_lload_n hx hb dX8_firstLeavingAt_58 rfl (lv_at hl 0 rfl) ?_
          refine wl_ci (va_runS (As := [.long ((fx_Path_holdingBefore (u11) ((nI KK)) (nI i)) &&& ((fx_Rows_wordOf (u11) ((fA st 10 KK)) (nI i)) ^^^ (-1 : Int64)))]) (rest := [.int ((nI i) * (64 : Int32))]) ⟨hx, hb, hml, hown, hta⟩ (kx_Path_lowestBit l ((fx_Path_holdingBefore (u11) ((nI KK)) (nI i)) &&& ((fx_Rows_wordOf (u11) ((fA st 10 KK)) (nI i)) ^^^ (-1 : Int64)))) (va_cwS 1 hta gX8_33 rfl rfl rfl (by decide +kernel) ⟨Nat.le_of_ble_eq_true rfl, Nat.le_of_ble_eq_true rfl⟩) preEq rfl rfl hl.1 rfl (lv_room (Nat.le_of_ble_eq_true rfl)) dX8_firstLeavingAt_59 ⟨Nat.zero_le _, Nat.zero_le _⟩) ?_
          refine lv_iadd hx hb dX8_firstLeavingAt_62 ?_
          exact W.iret (v := ((nI i) * (64 : Int32)) + (fx_Path_lowestBit ((fx_Path_holdingBefore (u11) ((nI KK)) (nI i)) &&& ((fx_Rows_wordOf (u11) ((fA st 10 KK)) (nI i)) ^^^ (-1 : Int64))))) hx hb hr (fun t ht hW => ⟨⟨_, _, rfl, hR, by rw [ht]; exact hP, va_K.moved hW.alike hK, hD⟩, hS.F ht⟩) hS.2.2 dX8_firstLeavingAt_63
  exact L16 17 0 _ _ ls hR (Nat.zero_le _) (by omega) hP hD hS (lv_sub hl [0, 1, 2] rfl)
end
section
theorem wl_hasN {st : XS} {N : Nat} {t : Int32} (hN : gI st 6 = nI N) (h64 : N ≤ 64) (c : ¬ fx_Terms_has st t = 0) : vp_in t N := by
  rw [fx_Terms_has] at c
  by_cases h0 : t < (0 : Int32)
  · rw [if_pos h0] at c; exact absurd rfl c
  · rw [if_neg h0] at c
    by_cases h1 : gI st 6 ≤ t
    · rw [if_pos h1] at c; exact absurd rfl c
    · rw [hN, Int32.le_iff_toInt_le, nI_toInt (by omega)] at h1
      rw [Int32.lt_iff_toInt_lt, Int32.toInt_zero] at h0
      rw [vp_in_iff]; omega
theorem wl_has {st : XS} {N : Nat} {t : Int32} (hN : gI st 6 = nI N) (h64 : N ≤ 64) (c : ¬ fx_Terms_has st t = 0) : vp_in t 64 := vp_up (wl_hasN hN h64 c) h64
theorem wl_i3v {x : Int32} (h : vp_in x 64) : vp_in (x * (3 : Int32) + (0 : Int32)) 192 := by
  obtain ⟨t, ht, rfl⟩ := vp_in_of h (by decide)
  exact wl_i3 0 ht (by decide)
theorem wl_focL {st : XS} {N : Nat} {w : Int32} {x : Int64} (hN : gI st 6 = nI N) (h64 : N ≤ 64) : ∀ n i : Nat, ∃ N2 : Nat, gI (fx_Terms_findOrAddConstant_L10 st w x n i).2 6 = nI N2 ∧ N2 ≤ 64 := by
  intro n
  induction n with
  | zero => intro i; exact ⟨N, hN, h64⟩
  | succ n ih =>
    intro i
    have ret : ∀ r : Int32, ∃ N2 : Nat, gI ((r, st) : Int32 × XS).2 6 = nI N2 ∧ N2 ≤ 64 := fun r => ⟨N, hN, h64⟩
    have full : ∃ N2 : Nat, gI (if fx_Terms_isFull st = (0 : Int32) then ((fx_Terms_addPlain st (21 : Int32) w).1, wL (fx_Terms_addPlain st (21 : Int32) w).2 1 (fx_Terms_addPlain st (21 : Int32) w).1.toNatClampNeg (fx_Width_readSigned w x)) else ((-2 : Int32), st)).2 6 = nI N2 ∧ N2 ≤ 64 := by
      by_cases c : fx_Terms_isFull st = (0 : Int32)
      · rw [if_pos c]
        exact ⟨N + 1, (congrArg (· + (1 : Int32)) hN).trans (nI_1 N), wl_isFullN hN h64 c⟩
      · rw [if_neg c]; exact ⟨N, hN, h64⟩
    rw [fx_Terms_findOrAddConstant_L10]
    exact wl_ite (P := fun (q : Int32 × XS) => ∃ N2 : Nat, gI q.2 6 = nI N2 ∧ N2 ≤ 64) full (wl_ite (P := fun (q : Int32 × XS) => ∃ N2 : Nat, gI q.2 6 = nI N2 ∧ N2 ≤ 64) (ih _) (wl_ite (P := fun (q : Int32 × XS) => ∃ N2 : Nat, gI q.2 6 = nI N2 ∧ N2 ≤ 64) (wl_ite (P := fun (q : Int32 × XS) => ∃ N2 : Nat, gI q.2 6 = nI N2 ∧ N2 ≤ 64) (ret _) (ih _)) (ih _)))
theorem wl_focN {st : XS} {N : Nat} (w : Int32) (x : Int64) (hN : gI st 6 = nI N) (h64 : N ≤ 64) : ∃ N2 : Nat, gI (fx_Terms_findOrAddConstant st w x).2 6 = nI N2 ∧ N2 ≤ 64 := by
  rw [fx_Terms_findOrAddConstant]; exact wl_focL hN h64 65 0

theorem mw_149 : (.fieldLink RX6 9 RX6 "terms" "LPathSolver$Terms;" : Cond) ∈ AW := List.mem_filter.mpr ⟨List.mem_of_getElem? (i := 149) (by decide +kernel), rfl⟩
theorem mw_319 : (.code yX4_has cX4_has 2 (some .boolean) : Cond) ∈ AW := List.mem_filter.mpr ⟨List.mem_of_getElem? (i := 319) (by decide +kernel), rfl⟩
theorem mw_316 : (.methodLink RX6 21 yX4_has : Cond) ∈ AW := List.mem_filter.mpr ⟨List.mem_of_getElem? (i := 316) (by decide +kernel), rfl⟩
theorem mw_317 : (.instanceMethod yX4_has : Cond) ∈ AW := List.mem_filter.mpr ⟨List.mem_of_getElem? (i := 317) (by decide +kernel), rfl⟩
theorem mw_318 : (.selects RX4 yX4_has yX4_has : Cond) ∈ AW := List.mem_filter.mpr ⟨List.mem_of_getElem? (i := 318) (by decide +kernel), rfl⟩
theorem mw_320 : (.methodLink RX6 25 yX4_widthOf : Cond) ∈ AW := List.mem_filter.mpr ⟨List.mem_of_getElem? (i := 320) (by decide +kernel), rfl⟩
theorem gX6_21 : GoodIn AW (wsV RX6 21 RX4 yX4_has wsX4_has) := aw_V mw_316 mw_317 mw_318 mw_41 mw_319
theorem gX6_25 : GoodIn AW (wsV RX6 25 RX4 yX4_widthOf wsX4_widthOf) := aw_V mw_320 mw_321 mw_322 mw_41 mw_323
theorem dX6_areAlike_0 : decode cX6_areAlike 0 = .ok (.aload_n 0, 1) := by decide +kernel
theorem dX6_areAlike_1 : decode cX6_areAlike 1 = .ok (.getfield 9, 3) := by decide +kernel
theorem dX6_areAlike_4 : decode cX6_areAlike 4 = .ok (.iload_n 1, 1) := by decide +kernel
theorem dX6_areAlike_5 : decode cX6_areAlike 5 = .ok (.invokevirtual 21, 3) := by decide +kernel
theorem dX6_areAlike_8 : decode cX6_areAlike 8 = .ok (.ifCond .eq 37, 3) := by decide +kernel
theorem dX6_areAlike_11 : decode cX6_areAlike 11 = .ok (.aload_n 0, 1) := by decide +kernel
theorem dX6_areAlike_12 : decode cX6_areAlike 12 = .ok (.getfield 9, 3) := by decide +kernel
theorem dX6_areAlike_15 : decode cX6_areAlike 15 = .ok (.iload_n 2, 1) := by decide +kernel
theorem dX6_areAlike_16 : decode cX6_areAlike 16 = .ok (.invokevirtual 21, 3) := by decide +kernel
theorem dX6_areAlike_19 : decode cX6_areAlike 19 = .ok (.ifCond .eq 26, 3) := by decide +kernel
theorem dX6_areAlike_22 : decode cX6_areAlike 22 = .ok (.aload_n 0, 1) := by decide +kernel
theorem dX6_areAlike_23 : decode cX6_areAlike 23 = .ok (.getfield 9, 3) := by decide +kernel
theorem dX6_areAlike_26 : decode cX6_areAlike 26 = .ok (.iload_n 1, 1) := by decide +kernel
theorem dX6_areAlike_27 : decode cX6_areAlike 27 = .ok (.invokevirtual 25, 3) := by decide +kernel
theorem dX6_areAlike_30 : decode cX6_areAlike 30 = .ok (.aload_n 0, 1) := by decide +kernel
theorem dX6_areAlike_31 : decode cX6_areAlike 31 = .ok (.getfield 9, 3) := by decide +kernel
theorem dX6_areAlike_34 : decode cX6_areAlike 34 = .ok (.iload_n 2, 1) := by decide +kernel
theorem dX6_areAlike_35 : decode cX6_areAlike 35 = .ok (.invokevirtual 25, 3) := by decide +kernel
theorem dX6_areAlike_38 : decode cX6_areAlike 38 = .ok (.if_icmp .ne 7, 3) := by decide +kernel
theorem dX6_areAlike_41 : decode cX6_areAlike 41 = .ok (.iconst 1, 1) := by decide +kernel
theorem dX6_areAlike_42 : decode cX6_areAlike 42 = .ok (.goto 4, 3) := by decide +kernel
theorem dX6_areAlike_45 : decode cX6_areAlike 45 = .ok (.iconst 0, 1) := by decide +kernel
theorem dX6_areAlike_46 : decode cX6_areAlike 46 = .ok (.ireturn, 1) := by decide +kernel
def fx_Maker_areAlike (st : XS) (x1 : Int32) (y1 : Int32) : Int32 := 
  if fx_Terms_has st x1 = (0 : Int32) then (0 : Int32)
  else 
    if fx_Terms_has st y1 = (0 : Int32) then (0 : Int32)
    else 
      if fx_Terms_widthOf st x1 = fx_Terms_widthOf st y1 then (1 : Int32)
      else (0 : Int32)
set_option maxHeartbeats 4000000 in
set_option maxRecDepth 100000 in
theorem kx_Maker_areAlike (l : Launch) (dC : Nat → ClassId) (dI : Nat → Nat → Nat) (a : Nat → Nat) (k : Nat → ClassId) (st : XS) (x1 : Int32) (y1 : Int32) (N : Nat) (hN : gI st 6 = nI N) (h64 : N ≤ 64) : Met l yX6_areAlike wsX6_areAlike ({ frames := 1, cells := 0, slots := 0, locals := 21 }) (va_Pc [.ref (a 16), .int x1, .int y1] (wl_prR (dC, dI) vwCl (xt k) (xw a k st))) (vp_Si (fun r9 => r9 = fx_Maker_areAlike st x1 y1)) 0 0 (fun _ => False) := by
  refine Met.ofW (cc := cX6_areAlike) (maxL := 3) (ret := (some .boolean)) (by decide) rfl ?_
  intro p e s m args below meth c s₁ B hml hv
  obtain ⟨rfl, hP, hK⟩ := hv
  have hx := B.exec
  have hb := B.bytes
  have hr := B.returns
  have hta := aw_hts (atoms_spec (ws := wsX6_areAlike) B.pre)
  have hown : s.vm.findClass RX6 = some m.cls := findClass_of_methodNamed B.named
  have hlocks := B.notSynchronized
  have hf9 := hta _ mw_149
  have hl := lv_entry ([.ref (a 16), .int x1, .int y1]) (n := 3) (Nat.le_of_ble_eq_true rfl)
  rw [lg_entry_eq]
  generalize (lg_sl ([.ref (a 16), .int x1, .int y1]) ++ List.replicate (3 - (lg_sl ([.ref (a 16), .int x1, .int y1])).length) Slot.unset).toArray = ls at hl ⊢
  have hl : lv_has ls 3 [(0, .ref (a 16)), (1, .int x1), (2, .int y1)] := hl
  generalize hR : fx_Maker_areAlike st x1 y1 = R
  rw [fx_Maker_areAlike] at hR
  refine lv_aload_n hx hb dX6_areAlike_0 rfl (lv_at hl 0 rfl) ?_
  refine va_get (D := (dC, dI)) (ci := 4) (v := .ref (a 7)) (C := RX6) (T := TX6) (N := 2) hx hb hta inX6 hown hK hP 16 (xr_16 a k st) rfl 0 (by decide) hf9 (fun _ h9 => h9) rfl dX6_areAlike_1 ?_
  refine lv_iload_n hx hb dX6_areAlike_4 rfl (lv_at hl 1 rfl) ?_
  refine wl_ci (va_runV (As := [.int x1]) (rest := []) ⟨hx, hb, hml, hown, hta⟩ (kx_Terms_has l dC dI a k st x1) (cwV 1 hta gX6_21 rfl rfl rfl (by decide +kernel) ⟨Nat.le_of_ble_eq_true rfl, Nat.le_of_ble_eq_true rfl⟩) (wl_pR (C := RX4) (ci := 2) (q0 := 7) hK hP rfl (xr_7 a k st)) rfl rfl hl.1 rfl (lv_room (Nat.le_of_ble_eq_true rfl)) dX6_areAlike_5 ⟨Nat.zero_le _, Nat.zero_le _⟩) ?_
  refine lv_if_eq (tgt := 45) hx hb dX6_areAlike_8 (by decide) (fun c8 => ?_) (fun c8 => ?_)
  · skip
    rw [if_pos c8] at hR
    refine lv_iconst (v := (0 : Int32)) hx hb dX6_areAlike_45 (by decide) ?_
    exact W.zret (v := (0 : Int32)) (ty := .boolean) hx hb hr rfl (fun t ht hW => ⟨_, rfl, hR, ht⟩) (fun q h => by cases h) dX6_areAlike_46
  · skip
    rw [if_neg c8] at hR
    refine lv_aload_n hx hb dX6_areAlike_11 rfl (lv_at hl 0 rfl) ?_
    refine va_get (D := (dC, dI)) (ci := 4) (v := .ref (a 7)) (C := RX6) (T := TX6) (N := 2) hx hb hta inX6 hown hK hP 16 (xr_16 a k st) rfl 0 (by decide) hf9 (fun _ h9 => h9) rfl dX6_areAlike_12 ?_
    refine lv_iload_n hx hb dX6_areAlike_15 rfl (lv_at hl 2 rfl) ?_
    refine wl_ci (va_runV (As := [.int y1]) (rest := []) ⟨hx, hb, hml, hown, hta⟩ (kx_Terms_has l dC dI a k st y1) (cwV 1 hta gX6_21 rfl rfl rfl (by decide +kernel) ⟨Nat.le_of_ble_eq_true rfl, Nat.le_of_ble_eq_true rfl⟩) (wl_pR (C := RX4) (ci := 2) (q0 := 7) hK hP rfl (xr_7 a k st)) rfl rfl hl.1 rfl (lv_room (Nat.le_of_ble_eq_true rfl)) dX6_areAlike_16 ⟨Nat.zero_le _, Nat.zero_le _⟩) ?_
    refine lv_if_eq (tgt := 45) hx hb dX6_areAlike_19 (by decide) (fun c19 => ?_) (fun c19 => ?_)
    · skip
      rw [if_pos c19] at hR
      refine lv_iconst (v := (0 : Int32)) hx hb dX6_areAlike_45 (by decide) ?_
      exact W.zret (v := (0 : Int32)) (ty := .boolean) hx hb hr rfl (fun t ht hW => ⟨_, rfl, hR, ht⟩) (fun q h => by cases h) dX6_areAlike_46
    · skip
      rw [if_neg c19] at hR
      refine lv_aload_n hx hb dX6_areAlike_22 rfl (lv_at hl 0 rfl) ?_
      refine va_get (D := (dC, dI)) (ci := 4) (v := .ref (a 7)) (C := RX6) (T := TX6) (N := 2) hx hb hta inX6 hown hK hP 16 (xr_16 a k st) rfl 0 (by decide) hf9 (fun _ h9 => h9) rfl dX6_areAlike_23 ?_
      refine lv_iload_n hx hb dX6_areAlike_26 rfl (lv_at hl 1 rfl) ?_
      refine wl_ci (va_runV (As := [.int x1]) (rest := []) ⟨hx, hb, hml, hown, hta⟩ (kx_Terms_widthOf l dC dI a k st x1 (wl_has hN h64 c8)) (cwV 1 hta gX6_25 rfl rfl rfl (by decide +kernel) ⟨Nat.le_of_ble_eq_true rfl, Nat.le_of_ble_eq_true rfl⟩) (wl_pR (C := RX4) (ci := 2) (q0 := 7) hK hP rfl (xr_7 a k st)) rfl rfl hl.1 rfl (lv_room (Nat.le_of_ble_eq_true rfl)) dX6_areAlike_27 ⟨Nat.zero_le _, Nat.zero_le _⟩) ?_
      refine lv_aload_n hx hb dX6_areAlike_30 rfl (lv_at hl 0 rfl) ?_
      refine va_get (D := (dC, dI)) (ci := 4) (v := .ref (a 7)) (C := RX6) (T := TX6) (N := 2) hx hb hta inX6 hown hK hP 16 (xr_16 a k st) rfl 0 (by decide) hf9 (fun _ h9 => h9) rfl dX6_areAlike_31 ?_
      refine lv_iload_n hx hb dX6_areAlike_34 rfl (lv_at hl 2 rfl) ?_
      refine wl_ci (va_runV (As := [.int y1]) (rest := [.int (fx_Terms_widthOf st x1)]) ⟨hx, hb, hml, hown, hta⟩ (kx_Terms_widthOf l dC dI a k st y1 (wl_has hN h64 c19)) (cwV 1 hta gX6_25 rfl rfl rfl (by decide +kernel) ⟨Nat.le_of_ble_eq_true rfl, Nat.le_of_ble_eq_true rfl⟩) (wl_pR (C := RX4) (ci := 2) (q0 := 7) hK hP rfl (xr_7 a k st)) rfl rfl hl.1 rfl (lv_room (Nat.le_of_ble_eq_true rfl)) dX6_areAlike_35 ⟨Nat.zero_le _, Nat.zero_le _⟩) ?_
      refine lv_icmp_ne (tgt := 45) hx hb dX6_areAlike_38 (by decide) (fun c38 => ?_) (fun c38 => ?_)
      · skip
        rw [if_neg c38] at hR
        refine lv_iconst (v := (0 : Int32)) hx hb dX6_areAlike_45 (by decide) ?_
        exact W.zret (v := (0 : Int32)) (ty := .boolean) hx hb hr rfl (fun t ht hW => ⟨_, rfl, hR, ht⟩) (fun q h => by cases h) dX6_areAlike_46
      · skip
        rw [if_pos c38] at hR
        refine lv_iconst (v := (1 : Int32)) hx hb dX6_areAlike_41 (by decide) ?_
        refine lv_goto (tgt := 46) hx hb dX6_areAlike_42 (by decide) ?_
        exact W.zret (v := (1 : Int32)) (ty := .boolean) hx hb hr rfl (fun t ht hW => ⟨_, rfl, hR, ht⟩) (fun q h => by cases h) dX6_areAlike_46

theorem mw_348 : (.methodLink RX6 93 yX4_isConstant : Cond) ∈ AW := List.mem_filter.mpr ⟨List.mem_of_getElem? (i := 348) (by decide +kernel), rfl⟩
theorem gX6_93 : GoodIn AW (wsV RX6 93 RX4 yX4_isConstant wsX4_isConstant) := aw_V mw_348 mw_277 mw_278 mw_41 mw_279
theorem dX6_areConstants_0 : decode cX6_areConstants 0 = .ok (.aload_n 0, 1) := by decide +kernel
theorem dX6_areConstants_1 : decode cX6_areConstants 1 = .ok (.getfield 9, 3) := by decide +kernel
theorem dX6_areConstants_4 : decode cX6_areConstants 4 = .ok (.iload_n 2, 1) := by decide +kernel
theorem dX6_areConstants_5 : decode cX6_areConstants 5 = .ok (.invokevirtual 93, 3) := by decide +kernel
theorem dX6_areConstants_8 : decode cX6_areConstants 8 = .ok (.ifCond .eq 40, 3) := by decide +kernel
theorem dX6_areConstants_11 : decode cX6_areConstants 11 = .ok (.iload_n 1, 1) := by decide +kernel
theorem dX6_areConstants_12 : decode cX6_areConstants 12 = .ok (.iconst 2, 1) := by decide +kernel
theorem dX6_areConstants_13 : decode cX6_areConstants 13 = .ok (.if_icmp .lt 14, 3) := by decide +kernel
theorem dX6_areConstants_16 : decode cX6_areConstants 16 = .ok (.aload_n 0, 1) := by decide +kernel
theorem dX6_areConstants_17 : decode cX6_areConstants 17 = .ok (.getfield 9, 3) := by decide +kernel
theorem dX6_areConstants_20 : decode cX6_areConstants 20 = .ok (.iload_n 3, 1) := by decide +kernel
theorem dX6_areConstants_21 : decode cX6_areConstants 21 = .ok (.invokevirtual 93, 3) := by decide +kernel
theorem dX6_areConstants_24 : decode cX6_areConstants 24 = .ok (.ifCond .eq 24, 3) := by decide +kernel
theorem dX6_areConstants_27 : decode cX6_areConstants 27 = .ok (.iload_n 1, 1) := by decide +kernel
theorem dX6_areConstants_28 : decode cX6_areConstants 28 = .ok (.iconst 3, 1) := by decide +kernel
theorem dX6_areConstants_29 : decode cX6_areConstants 29 = .ok (.if_icmp .lt 15, 3) := by decide +kernel
theorem dX6_areConstants_32 : decode cX6_areConstants 32 = .ok (.aload_n 0, 1) := by decide +kernel
theorem dX6_areConstants_33 : decode cX6_areConstants 33 = .ok (.getfield 9, 3) := by decide +kernel
theorem dX6_areConstants_36 : decode cX6_areConstants 36 = .ok (.iload 4, 2) := by decide +kernel
theorem dX6_areConstants_38 : decode cX6_areConstants 38 = .ok (.invokevirtual 93, 3) := by decide +kernel
theorem dX6_areConstants_41 : decode cX6_areConstants 41 = .ok (.ifCond .eq 7, 3) := by decide +kernel
theorem dX6_areConstants_44 : decode cX6_areConstants 44 = .ok (.iconst 1, 1) := by decide +kernel
theorem dX6_areConstants_45 : decode cX6_areConstants 45 = .ok (.goto 4, 3) := by decide +kernel
theorem dX6_areConstants_48 : decode cX6_areConstants 48 = .ok (.iconst 0, 1) := by decide +kernel
theorem dX6_areConstants_49 : decode cX6_areConstants 49 = .ok (.ireturn, 1) := by decide +kernel
def fx_Maker_areConstants (st : XS) (nm : Int32) (a1 : Int32) (b1 : Int32) (c1 : Int32) : Int32 := 
  if fx_Terms_isConstant st a1 = (0 : Int32) then (0 : Int32)
  else 
    if nm < (2 : Int32) then 
      if nm < (3 : Int32) then (1 : Int32)
      else 
        if fx_Terms_isConstant st c1 = (0 : Int32) then (0 : Int32)
        else (1 : Int32)
    else 
      if fx_Terms_isConstant st b1 = (0 : Int32) then (0 : Int32)
      else 
        if nm < (3 : Int32) then (1 : Int32)
        else 
          if fx_Terms_isConstant st c1 = (0 : Int32) then (0 : Int32)
          else (1 : Int32)
set_option maxHeartbeats 4000000 in
set_option maxRecDepth 100000 in
theorem kx_Maker_areConstants (l : Launch) (dC : Nat → ClassId) (dI : Nat → Nat → Nat) (a : Nat → Nat) (k : Nat → ClassId) (st : XS) (nm : Int32) (a1 : Int32) (b1 : Int32) (c1 : Int32) (hA : vp_in a1 64) (hB : ¬ nm < (2 : Int32) → vp_in b1 64) (hC : ¬ nm < (3 : Int32) → vp_in c1 64) : Met l yX6_areConstants wsX6_areConstants ({ frames := 1, cells := 0, slots := 0, locals := 21 }) (va_Pc [.ref (a 16), .int nm, .int a1, .int b1, .int c1] (wl_prR (dC, dI) vwCl (xt k) (xw a k st))) (vp_Si (fun r9 => r9 = fx_Maker_areConstants st nm a1 b1 c1)) 0 0 (fun _ => False) := by
  refine Met.ofW (cc := cX6_areConstants) (maxL := 5) (ret := (some .boolean)) (by decide) rfl ?_
  intro p e s m args below meth c s₁ B hml hv
  obtain ⟨rfl, hP, hK⟩ := hv
  have hx := B.exec
  have hb := B.bytes
  have hr := B.returns
  have hta := aw_hts (atoms_spec (ws := wsX6_areConstants) B.pre)
  have hown : s.vm.findClass RX6 = some m.cls := findClass_of_methodNamed B.named
  have hlocks := B.notSynchronized
  have hf9 := hta _ mw_149
  have hl := lv_entry ([.ref (a 16), .int nm, .int a1, .int b1, .int c1]) (n := 5) (Nat.le_of_ble_eq_true rfl)
  rw [lg_entry_eq]
  generalize (lg_sl ([.ref (a 16), .int nm, .int a1, .int b1, .int c1]) ++ List.replicate (5 - (lg_sl ([.ref (a 16), .int nm, .int a1, .int b1, .int c1])).length) Slot.unset).toArray = ls at hl ⊢
  have hl : lv_has ls 5 [(0, .ref (a 16)), (1, .int nm), (2, .int a1), (3, .int b1), (4, .int c1)] := hl
  generalize hR : fx_Maker_areConstants st nm a1 b1 c1 = R
  rw [fx_Maker_areConstants] at hR
  refine lv_aload_n hx hb dX6_areConstants_0 rfl (lv_at hl 0 rfl) ?_
  refine va_get (D := (dC, dI)) (ci := 4) (v := .ref (a 7)) (C := RX6) (T := TX6) (N := 2) hx hb hta inX6 hown hK hP 16 (xr_16 a k st) rfl 0 (by decide) hf9 (fun _ h9 => h9) rfl dX6_areConstants_1 ?_
  refine lv_iload_n hx hb dX6_areConstants_4 rfl (lv_at hl 2 rfl) ?_
  refine wl_ci (va_runV (As := [.int a1]) (rest := []) ⟨hx, hb, hml, hown, hta⟩ (kx_Terms_isConstant l dC dI a k st a1 hA) (cwV 1 hta gX6_93 rfl rfl rfl (by decide +kernel) ⟨Nat.le_of_ble_eq_true rfl, Nat.le_of_ble_eq_true rfl⟩) (wl_pR (C := RX4) (ci := 2) (q0 := 7) hK hP rfl (xr_7 a k st)) rfl rfl hl.1 rfl (lv_room (Nat.le_of_ble_eq_true rfl)) dX6_areConstants_5 ⟨Nat.zero_le _, Nat.zero_le _⟩) ?_
  refine lv_if_eq (tgt := 48) hx hb dX6_areConstants_8 (by decide) (fun c8 => ?_) (fun c8 => ?_)
  · skip
    rw [if_pos c8] at hR
    refine lv_iconst (v := (0 : Int32)) hx hb dX6_areConstants_48 (by decide) ?_
    exact W.zret (v := (0 : Int32)) (ty := .boolean) hx hb hr rfl (fun t ht hW => ⟨_, rfl, hR, ht⟩) (fun q h => by cases h) dX6_areConstants_49
  · skip
    rw [if_neg c8] at hR
    refine lv_iload_n hx hb dX6_areConstants_11 rfl (lv_at hl 1 rfl) ?_
    refine lv_iconst (v := (2 : Int32)) hx hb dX6_areConstants_12 (by decide) ?_
    refine lv_icmp_lt (tgt := 27) hx hb dX6_areConstants_13 (by decide) (fun c13 => ?_) (fun c13 => ?_)
    · skip
      rw [if_pos c13] at hR
      refine lv_iload_n hx hb dX6_areConstants_27 rfl (lv_at hl 1 rfl) ?_
      refine lv_iconst (v := (3 : Int32)) hx hb dX6_areConstants_28 (by decide) ?_
      refine lv_icmp_lt (tgt := 44) hx hb dX6_areConstants_29 (by decide) (fun c29 => ?_) (fun c29 => ?_)
      · skip
        rw [if_pos c29] at hR
        refine lv_iconst (v := (1 : Int32)) hx hb dX6_areConstants_44 (by decide) ?_
        refine lv_goto (tgt := 49) hx hb dX6_areConstants_45 (by decide) ?_
        exact W.zret (v := (1 : Int32)) (ty := .boolean) hx hb hr rfl (fun t ht hW => ⟨_, rfl, hR, ht⟩) (fun q h => by cases h) dX6_areConstants_49
      · skip
        rw [if_neg c29] at hR
        refine lv_aload_n hx hb dX6_areConstants_32 rfl (lv_at hl 0 rfl) ?_
        refine va_get (D := (dC, dI)) (ci := 4) (v := .ref (a 7)) (C := RX6) (T := TX6) (N := 2) hx hb hta inX6 hown hK hP 16 (xr_16 a k st) rfl 0 (by decide) hf9 (fun _ h9 => h9) rfl dX6_areConstants_33 ?_
        refine lv_iload hx hb dX6_areConstants_36 (lv_at hl 4 rfl) ?_
        refine wl_ci (va_runV (As := [.int c1]) (rest := []) ⟨hx, hb, hml, hown, hta⟩ (kx_Terms_isConstant l dC dI a k st c1 (hC c29)) (cwV 1 hta gX6_93 rfl rfl rfl (by decide +kernel) ⟨Nat.le_of_ble_eq_true rfl, Nat.le_of_ble_eq_true rfl⟩) (wl_pR (C := RX4) (ci := 2) (q0 := 7) hK hP rfl (xr_7 a k st)) rfl rfl hl.1 rfl (lv_room (Nat.le_of_ble_eq_true rfl)) dX6_areConstants_38 ⟨Nat.zero_le _, Nat.zero_le _⟩) ?_
        refine lv_if_eq (tgt := 48) hx hb dX6_areConstants_41 (by decide) (fun c41 => ?_) (fun c41 => ?_)
        · skip
          rw [if_pos c41] at hR
          refine lv_iconst (v := (0 : Int32)) hx hb dX6_areConstants_48 (by decide) ?_
          exact W.zret (v := (0 : Int32)) (ty := .boolean) hx hb hr rfl (fun t ht hW => ⟨_, rfl, hR, ht⟩) (fun q h => by cases h) dX6_areConstants_49
        · skip
          rw [if_neg c41] at hR
          refine lv_iconst (v := (1 : Int32)) hx hb dX6_areConstants_44 (by decide) ?_
          refine lv_goto (tgt := 49) hx hb dX6_areConstants_45 (by decide) ?_
          exact W.zret (v := (1 : Int32)) (ty := .boolean) hx hb hr rfl (fun t ht hW => ⟨_, rfl, hR, ht⟩) (fun q h => by cases h) dX6_areConstants_49
    · skip
      rw [if_neg c13] at hR
      refine lv_aload_n hx hb dX6_areConstants_16 rfl (lv_at hl 0 rfl) ?_
      refine va_get (D := (dC, dI)) (ci := 4) (v := .ref (a 7)) (C := RX6) (T := TX6) (N := 2) hx hb hta inX6 hown hK hP 16 (xr_16 a k st) rfl 0 (by decide) hf9 (fun _ h9 => h9) rfl dX6_areConstants_17 ?_
      refine lv_iload_n hx hb dX6_areConstants_20 rfl (lv_at hl 3 rfl) ?_
      refine wl_ci (va_runV (As := [.int b1]) (rest := []) ⟨hx, hb, hml, hown, hta⟩ (kx_Terms_isConstant l dC dI a k st b1 (hB c13)) (cwV 1 hta gX6_93 rfl rfl rfl (by decide +kernel) ⟨Nat.le_of_ble_eq_true rfl, Nat.le_of_ble_eq_true rfl⟩) (wl_pR (C := RX4) (ci := 2) (q0 := 7) hK hP rfl (xr_7 a k st)) rfl rfl hl.1 rfl (lv_room (Nat.le_of_ble_eq_true rfl)) dX6_areConstants_21 ⟨Nat.zero_le _, Nat.zero_le _⟩) ?_
      refine lv_if_eq (tgt := 48) hx hb dX6_areConstants_24 (by decide) (fun c24 => ?_) (fun c24 => ?_)
      · skip
        rw [if_pos c24] at hR
        refine lv_iconst (v := (0 : Int32)) hx hb dX6_areConstants_48 (by decide) ?_
        exact W.zret (v := (0 : Int32)) (ty := .boolean) hx hb hr rfl (fun t ht hW => ⟨_, rfl, hR, ht⟩) (fun q h => by cases h) dX6_areConstants_49
      · skip
        rw [if_neg c24] at hR
        refine lv_iload_n hx hb dX6_areConstants_27 rfl (lv_at hl 1 rfl) ?_
        refine lv_iconst (v := (3 : Int32)) hx hb dX6_areConstants_28 (by decide) ?_
        refine lv_icmp_lt (tgt := 44) hx hb dX6_areConstants_29 (by decide) (fun c29 => ?_) (fun c29 => ?_)
        · skip
          rw [if_pos c29] at hR
          refine lv_iconst (v := (1 : Int32)) hx hb dX6_areConstants_44 (by decide) ?_
          refine lv_goto (tgt := 49) hx hb dX6_areConstants_45 (by decide) ?_
          exact W.zret (v := (1 : Int32)) (ty := .boolean) hx hb hr rfl (fun t ht hW => ⟨_, rfl, hR, ht⟩) (fun q h => by cases h) dX6_areConstants_49
        · skip
          rw [if_neg c29] at hR
          refine lv_aload_n hx hb dX6_areConstants_32 rfl (lv_at hl 0 rfl) ?_
          refine va_get (D := (dC, dI)) (ci := 4) (v := .ref (a 7)) (C := RX6) (T := TX6) (N := 2) hx hb hta inX6 hown hK hP 16 (xr_16 a k st) rfl 0 (by decide) hf9 (fun _ h9 => h9) rfl dX6_areConstants_33 ?_
          refine lv_iload hx hb dX6_areConstants_36 (lv_at hl 4 rfl) ?_
          refine wl_ci (va_runV (As := [.int c1]) (rest := []) ⟨hx, hb, hml, hown, hta⟩ (kx_Terms_isConstant l dC dI a k st c1 (hC c29)) (cwV 1 hta gX6_93 rfl rfl rfl (by decide +kernel) ⟨Nat.le_of_ble_eq_true rfl, Nat.le_of_ble_eq_true rfl⟩) (wl_pR (C := RX4) (ci := 2) (q0 := 7) hK hP rfl (xr_7 a k st)) rfl rfl hl.1 rfl (lv_room (Nat.le_of_ble_eq_true rfl)) dX6_areConstants_38 ⟨Nat.zero_le _, Nat.zero_le _⟩) ?_
          refine lv_if_eq (tgt := 48) hx hb dX6_areConstants_41 (by decide) (fun c41 => ?_) (fun c41 => ?_)
          · skip
            rw [if_pos c41] at hR
            refine lv_iconst (v := (0 : Int32)) hx hb dX6_areConstants_48 (by decide) ?_
            exact W.zret (v := (0 : Int32)) (ty := .boolean) hx hb hr rfl (fun t ht hW => ⟨_, rfl, hR, ht⟩) (fun q h => by cases h) dX6_areConstants_49
          · skip
            rw [if_neg c41] at hR
            refine lv_iconst (v := (1 : Int32)) hx hb dX6_areConstants_44 (by decide) ?_
            refine lv_goto (tgt := 49) hx hb dX6_areConstants_45 (by decide) ?_
            exact W.zret (v := (1 : Int32)) (ty := .boolean) hx hb hr rfl (fun t ht hW => ⟨_, rfl, hR, ht⟩) (fun q h => by cases h) dX6_areConstants_49

theorem mw_327 : (.code yX6_areAlike cX6_areAlike 3 (some .boolean) : Cond) ∈ AW := List.mem_filter.mpr ⟨List.mem_of_getElem? (i := 327) (by decide +kernel), rfl⟩
theorem mw_324 : (.methodLink RX6 29 yX6_areAlike : Cond) ∈ AW := List.mem_filter.mpr ⟨List.mem_of_getElem? (i := 324) (by decide +kernel), rfl⟩
theorem mw_43 : (.initialized RX6 : Cond) ∈ AW := List.mem_filter.mpr ⟨List.mem_of_getElem? (i := 43) (by decide +kernel), rfl⟩
theorem mw_326 : (.instanceMethod yX6_areAlike : Cond) ∈ AW := List.mem_filter.mpr ⟨List.mem_of_getElem? (i := 326) (by decide +kernel), rfl⟩
theorem mw_1 : (.selects RX6 yX6_areAlike yX6_areAlike : Cond) ∈ AW := List.mem_filter.mpr ⟨List.mem_of_getElem? (i := 1) (by decide +kernel), rfl⟩
theorem mw_268 : (.code yX0_isOne cX0_isOne 1 (some .boolean) : Cond) ∈ AW := List.mem_filter.mpr ⟨List.mem_of_getElem? (i := 268) (by decide +kernel), rfl⟩
theorem mw_328 : (.methodLink RX6 33 yX0_isOne : Cond) ∈ AW := List.mem_filter.mpr ⟨List.mem_of_getElem? (i := 328) (by decide +kernel), rfl⟩
theorem mw_267 : (.static yX0_isOne : Cond) ∈ AW := List.mem_filter.mpr ⟨List.mem_of_getElem? (i := 267) (by decide +kernel), rfl⟩
theorem mw_287 : (.code yX3_isTable cX3_isTable 1 (some .boolean) : Cond) ∈ AW := List.mem_filter.mpr ⟨List.mem_of_getElem? (i := 287) (by decide +kernel), rfl⟩
theorem mw_329 : (.methodLink RX6 38 yX3_isTable : Cond) ∈ AW := List.mem_filter.mpr ⟨List.mem_of_getElem? (i := 329) (by decide +kernel), rfl⟩
theorem mw_286 : (.static yX3_isTable : Cond) ∈ AW := List.mem_filter.mpr ⟨List.mem_of_getElem? (i := 286) (by decide +kernel), rfl⟩
theorem mw_332 : (.code yX1_isThereFor cX1_isThereFor 2 (some .boolean) : Cond) ∈ AW := List.mem_filter.mpr ⟨List.mem_of_getElem? (i := 332) (by decide +kernel), rfl⟩
theorem mw_330 : (.methodLink RX6 43 yX1_isThereFor : Cond) ∈ AW := List.mem_filter.mpr ⟨List.mem_of_getElem? (i := 330) (by decide +kernel), rfl⟩
theorem mw_331 : (.static yX1_isThereFor : Cond) ∈ AW := List.mem_filter.mpr ⟨List.mem_of_getElem? (i := 331) (by decide +kernel), rfl⟩
theorem gX6_29 : GoodIn AW (wsV RX6 29 RX6 yX6_areAlike wsX6_areAlike) := aw_V mw_324 mw_326 mw_1 mw_43 mw_327
theorem gX6_33 : GoodIn AW (va_wsS RX6 33 yX0_isOne wsX0_isOne) := aw_S mw_328 mw_267 mw_47 mw_268
theorem gX6_38 : GoodIn AW (va_wsS RX6 38 yX3_isTable wsX3_isTable) := aw_S mw_329 mw_286 mw_40 mw_287
theorem gX6_43 : GoodIn AW (va_wsS RX6 43 yX1_isThereFor wsX1_isThereFor) := aw_S mw_330 mw_331 mw_48 mw_332
theorem dX6_accepts_0 : decode cX6_accepts 0 = .ok (.iload_n 1, 1) := by decide +kernel
theorem dX6_accepts_1 : decode cX6_accepts 1 = .ok (.ifCond .lt 20, 3) := by decide +kernel
theorem dX6_accepts_4 : decode cX6_accepts 4 = .ok (.iload_n 1, 1) := by decide +kernel
theorem dX6_accepts_5 : decode cX6_accepts 5 = .ok (.bipush 20, 2) := by decide +kernel
theorem dX6_accepts_7 : decode cX6_accepts 7 = .ok (.if_icmp .gt 14, 3) := by decide +kernel
theorem dX6_accepts_10 : decode cX6_accepts 10 = .ok (.aload_n 0, 1) := by decide +kernel
theorem dX6_accepts_11 : decode cX6_accepts 11 = .ok (.getfield 9, 3) := by decide +kernel
theorem dX6_accepts_14 : decode cX6_accepts 14 = .ok (.iload_n 2, 1) := by decide +kernel
theorem dX6_accepts_15 : decode cX6_accepts 15 = .ok (.invokevirtual 21, 3) := by decide +kernel
theorem dX6_accepts_18 : decode cX6_accepts 18 = .ok (.ifCond .ne 5, 3) := by decide +kernel
theorem dX6_accepts_21 : decode cX6_accepts 21 = .ok (.iconst 0, 1) := by decide +kernel
theorem dX6_accepts_22 : decode cX6_accepts 22 = .ok (.ireturn, 1) := by decide +kernel
theorem dX6_accepts_23 : decode cX6_accepts 23 = .ok (.aload_n 0, 1) := by decide +kernel
theorem dX6_accepts_24 : decode cX6_accepts 24 = .ok (.getfield 9, 3) := by decide +kernel
theorem dX6_accepts_27 : decode cX6_accepts 27 = .ok (.iload_n 2, 1) := by decide +kernel
theorem dX6_accepts_28 : decode cX6_accepts 28 = .ok (.invokevirtual 25, 3) := by decide +kernel
theorem dX6_accepts_31 : decode cX6_accepts 31 = .ok (.istore 5, 2) := by decide +kernel
theorem dX6_accepts_33 : decode cX6_accepts 33 = .ok (.iload_n 1, 1) := by decide +kernel
theorem dX6_accepts_34 : decode cX6_accepts 34 = .ok (.tableswitch 180 0 20 #[98, 98, 180, 180, 180, 180, 180, 180, 180, 180, 180, 180, 180, 180, 180, 180, 100, 122, 122, 141, 160], 98) := by decide +kernel
theorem dX6_accepts_132 : decode cX6_accepts 132 = .ok (.iconst 1, 1) := by decide +kernel
theorem dX6_accepts_133 : decode cX6_accepts 133 = .ok (.ireturn, 1) := by decide +kernel
theorem dX6_accepts_134 : decode cX6_accepts 134 = .ok (.iload 5, 2) := by decide +kernel
theorem dX6_accepts_136 : decode cX6_accepts 136 = .ok (.iconst 1, 1) := by decide +kernel
theorem dX6_accepts_137 : decode cX6_accepts 137 = .ok (.if_icmp .ne 17, 3) := by decide +kernel
theorem dX6_accepts_140 : decode cX6_accepts 140 = .ok (.aload_n 0, 1) := by decide +kernel
theorem dX6_accepts_141 : decode cX6_accepts 141 = .ok (.iload_n 3, 1) := by decide +kernel
theorem dX6_accepts_142 : decode cX6_accepts 142 = .ok (.iload 4, 2) := by decide +kernel
theorem dX6_accepts_144 : decode cX6_accepts 144 = .ok (.invokevirtual 29, 3) := by decide +kernel
theorem dX6_accepts_147 : decode cX6_accepts 147 = .ok (.ifCond .eq 7, 3) := by decide +kernel
theorem dX6_accepts_150 : decode cX6_accepts 150 = .ok (.iconst 1, 1) := by decide +kernel
theorem dX6_accepts_151 : decode cX6_accepts 151 = .ok (.goto 4, 3) := by decide +kernel
theorem dX6_accepts_154 : decode cX6_accepts 154 = .ok (.iconst 0, 1) := by decide +kernel
theorem dX6_accepts_155 : decode cX6_accepts 155 = .ok (.ireturn, 1) := by decide +kernel
theorem dX6_accepts_156 : decode cX6_accepts 156 = .ok (.iload_n 3, 1) := by decide +kernel
theorem dX6_accepts_157 : decode cX6_accepts 157 = .ok (.invokestatic 33, 3) := by decide +kernel
theorem dX6_accepts_160 : decode cX6_accepts 160 = .ok (.ifCond .eq 13, 3) := by decide +kernel
theorem dX6_accepts_163 : decode cX6_accepts 163 = .ok (.iload_n 3, 1) := by decide +kernel
theorem dX6_accepts_164 : decode cX6_accepts 164 = .ok (.iload 5, 2) := by decide +kernel
theorem dX6_accepts_166 : decode cX6_accepts 166 = .ok (.if_icmp .le 7, 3) := by decide +kernel
theorem dX6_accepts_169 : decode cX6_accepts 169 = .ok (.iconst 1, 1) := by decide +kernel
theorem dX6_accepts_170 : decode cX6_accepts 170 = .ok (.goto 4, 3) := by decide +kernel
theorem dX6_accepts_173 : decode cX6_accepts 173 = .ok (.iconst 0, 1) := by decide +kernel
theorem dX6_accepts_174 : decode cX6_accepts 174 = .ok (.ireturn, 1) := by decide +kernel
theorem dX6_accepts_175 : decode cX6_accepts 175 = .ok (.iload_n 3, 1) := by decide +kernel
theorem dX6_accepts_176 : decode cX6_accepts 176 = .ok (.invokestatic 33, 3) := by decide +kernel
theorem dX6_accepts_179 : decode cX6_accepts 179 = .ok (.ifCond .eq 13, 3) := by decide +kernel
theorem dX6_accepts_182 : decode cX6_accepts 182 = .ok (.iload_n 3, 1) := by decide +kernel
theorem dX6_accepts_183 : decode cX6_accepts 183 = .ok (.iload 5, 2) := by decide +kernel
theorem dX6_accepts_185 : decode cX6_accepts 185 = .ok (.if_icmp .ge 7, 3) := by decide +kernel
theorem dX6_accepts_188 : decode cX6_accepts 188 = .ok (.iconst 1, 1) := by decide +kernel
theorem dX6_accepts_189 : decode cX6_accepts 189 = .ok (.goto 4, 3) := by decide +kernel
theorem dX6_accepts_192 : decode cX6_accepts 192 = .ok (.iconst 0, 1) := by decide +kernel
theorem dX6_accepts_193 : decode cX6_accepts 193 = .ok (.ireturn, 1) := by decide +kernel
theorem dX6_accepts_194 : decode cX6_accepts 194 = .ok (.iload 5, 2) := by decide +kernel
theorem dX6_accepts_196 : decode cX6_accepts 196 = .ok (.bipush 8, 2) := by decide +kernel
theorem dX6_accepts_198 : decode cX6_accepts 198 = .ok (.if_icmp .ne 14, 3) := by decide +kernel
theorem dX6_accepts_201 : decode cX6_accepts 201 = .ok (.iload_n 3, 1) := by decide +kernel
theorem dX6_accepts_202 : decode cX6_accepts 202 = .ok (.invokestatic 38, 3) := by decide +kernel
theorem dX6_accepts_205 : decode cX6_accepts 205 = .ok (.ifCond .eq 7, 3) := by decide +kernel
theorem dX6_accepts_208 : decode cX6_accepts 208 = .ok (.iconst 1, 1) := by decide +kernel
theorem dX6_accepts_209 : decode cX6_accepts 209 = .ok (.goto 4, 3) := by decide +kernel
theorem dX6_accepts_212 : decode cX6_accepts 212 = .ok (.iconst 0, 1) := by decide +kernel
theorem dX6_accepts_213 : decode cX6_accepts 213 = .ok (.ireturn, 1) := by decide +kernel
theorem dX6_accepts_214 : decode cX6_accepts 214 = .ok (.aload_n 0, 1) := by decide +kernel
theorem dX6_accepts_215 : decode cX6_accepts 215 = .ok (.iload_n 2, 1) := by decide +kernel
theorem dX6_accepts_216 : decode cX6_accepts 216 = .ok (.iload_n 3, 1) := by decide +kernel
theorem dX6_accepts_217 : decode cX6_accepts 217 = .ok (.invokevirtual 29, 3) := by decide +kernel
theorem dX6_accepts_220 : decode cX6_accepts 220 = .ok (.ifCond .eq 16, 3) := by decide +kernel
theorem dX6_accepts_223 : decode cX6_accepts 223 = .ok (.iload_n 1, 1) := by decide +kernel
theorem dX6_accepts_224 : decode cX6_accepts 224 = .ok (.iload 5, 2) := by decide +kernel
theorem dX6_accepts_226 : decode cX6_accepts 226 = .ok (.invokestatic 43, 3) := by decide +kernel
theorem dX6_accepts_229 : decode cX6_accepts 229 = .ok (.ifCond .eq 7, 3) := by decide +kernel
theorem dX6_accepts_232 : decode cX6_accepts 232 = .ok (.iconst 1, 1) := by decide +kernel
theorem dX6_accepts_233 : decode cX6_accepts 233 = .ok (.goto 4, 3) := by decide +kernel
theorem dX6_accepts_236 : decode cX6_accepts 236 = .ok (.iconst 0, 1) := by decide +kernel
theorem dX6_accepts_237 : decode cX6_accepts 237 = .ok (.ireturn, 1) := by decide +kernel
def fx_Maker_accepts (st : XS) (o : Int32) (a1 : Int32) (b1 : Int32) (d1 : Int32) : Int32 := 
  if o < (0 : Int32) then (0 : Int32)
  else 
    if (20 : Int32) < o then (0 : Int32)
    else 
      if fx_Terms_has st a1 = (0 : Int32) then (0 : Int32)
      else 
        if o = (0 : Int32) then (1 : Int32)
        else 
          if o = (1 : Int32) then (1 : Int32)
          else 
            if o = (16 : Int32) then 
              if fx_Terms_widthOf st a1 = (1 : Int32) then 
                if fx_Maker_areAlike st b1 d1 = (0 : Int32) then (0 : Int32)
                else (1 : Int32)
              else (0 : Int32)
            else 
              if o = (17 : Int32) then 
                if fx_Width_isOne b1 = (0 : Int32) then (0 : Int32)
                else 
                  if b1 ≤ fx_Terms_widthOf st a1 then (0 : Int32)
                  else (1 : Int32)
              else 
                if o = (18 : Int32) then 
                  if fx_Width_isOne b1 = (0 : Int32) then (0 : Int32)
                  else 
                    if b1 ≤ fx_Terms_widthOf st a1 then (0 : Int32)
                    else (1 : Int32)
                else 
                  if o = (19 : Int32) then 
                    if fx_Width_isOne b1 = (0 : Int32) then (0 : Int32)
                    else 
                      if fx_Terms_widthOf st a1 ≤ b1 then (0 : Int32)
                      else (1 : Int32)
                  else 
                    if o = (20 : Int32) then 
                      if fx_Terms_widthOf st a1 = (8 : Int32) then 
                        if fx_Tabs_isTable b1 = (0 : Int32) then (0 : Int32)
                        else (1 : Int32)
                      else (0 : Int32)
                    else 
                      if fx_Maker_areAlike st a1 b1 = (0 : Int32) then (0 : Int32)
                      else 
                        if fx_Op_isThereFor o (fx_Terms_widthOf st a1) = (0 : Int32) then (0 : Int32)
                        else (1 : Int32)
set_option maxHeartbeats 4000000 in
set_option maxRecDepth 100000 in
theorem kx_Maker_accepts (l : Launch) (dC : Nat → ClassId) (dI : Nat → Nat → Nat) (a : Nat → Nat) (k : Nat → ClassId) (st : XS) (o : Int32) (a1 : Int32) (b1 : Int32) (d1 : Int32) (N : Nat) (hN : gI st 6 = nI N) (h64 : N ≤ 64) : Met l yX6_accepts wsX6_accepts ({ frames := 2, cells := 0, slots := 0, locals := 43 }) (va_Pc [.ref (a 16), .int o, .int a1, .int b1, .int d1] (wl_prR (dC, dI) vwCl (xt k) (xw a k st))) (vp_Si (fun r9 => r9 = fx_Maker_accepts st o a1 b1 d1)) 0 0 (fun _ => False) := by
  refine Met.ofW (cc := cX6_accepts) (maxL := 6) (ret := (some .boolean)) (by decide) rfl ?_
  intro p e s m args below meth c s₁ B hml hv
  obtain ⟨rfl, hP, hK⟩ := hv
  have hx := B.exec
  have hb := B.bytes
  have hr := B.returns
  have hta := aw_hts (atoms_spec (ws := wsX6_accepts) B.pre)
  have hown : s.vm.findClass RX6 = some m.cls := findClass_of_methodNamed B.named
  have hlocks := B.notSynchronized
  have hf9 := hta _ mw_149
  have hl := lv_entry ([.ref (a 16), .int o, .int a1, .int b1, .int d1]) (n := 6) (Nat.le_of_ble_eq_true rfl)
  rw [lg_entry_eq]
  generalize (lg_sl ([.ref (a 16), .int o, .int a1, .int b1, .int d1]) ++ List.replicate (6 - (lg_sl ([.ref (a 16), .int o, .int a1, .int b1, .int d1])).length) Slot.unset).toArray = ls at hl ⊢
  have hl : lv_has ls 6 [(0, .ref (a 16)), (1, .int o), (2, .int a1), (3, .int b1), (4, .int d1)] := hl
  generalize hR : fx_Maker_accepts st o a1 b1 d1 = R
  rw [fx_Maker_accepts] at hR
  refine lv_iload_n hx hb dX6_accepts_0 rfl (lv_at hl 1 rfl) ?_
  refine lv_if_lt (tgt := 21) hx hb dX6_accepts_1 (by decide) (fun c1 => ?_) (fun c1 => ?_)
  · skip
    rw [if_pos c1] at hR
    refine lv_iconst (v := (0 : Int32)) hx hb dX6_accepts_21 (by decide) ?_
    exact W.zret (v := (0 : Int32)) (ty := .boolean) hx hb hr rfl (fun t ht hW => ⟨_, rfl, hR, ht⟩) (fun q h => by cases h) dX6_accepts_22
  · skip
    rw [if_neg c1] at hR
    refine lv_iload_n hx hb dX6_accepts_4 rfl (lv_at hl 1 rfl) ?_
    refine lv_bipush (v := (20 : Int32)) hx hb dX6_accepts_5 (by decide) ?_
    refine lv_icmp_gt (tgt := 21) hx hb dX6_accepts_7 (by decide) (fun c7 => ?_) (fun c7 => ?_)
    · skip
      rw [if_pos c7] at hR
      refine lv_iconst (v := (0 : Int32)) hx hb dX6_accepts_21 (by decide) ?_
      exact W.zret (v := (0 : Int32)) (ty := .boolean) hx hb hr rfl (fun t ht hW => ⟨_, rfl, hR, ht⟩) (fun q h => by cases h) dX6_accepts_22
    · skip
      rw [if_neg c7] at hR
      refine lv_aload_n hx hb dX6_accepts_10 rfl (lv_at hl 0 rfl) ?_
      refine va_get (D := (dC, dI)) (ci := 4) (v := .ref (a 7)) (C := RX6) (T := TX6) (N := 2) hx hb hta inX6 hown hK hP 16 (xr_16 a k st) rfl 0 (by decide) hf9 (fun _ h9 => h9) rfl dX6_accepts_11 ?_
      refine lv_iload_n hx hb dX6_accepts_14 rfl (lv_at hl 2 rfl) ?_
      refine wl_ci (va_runV (As := [.int a1]) (rest := []) ⟨hx, hb, hml, hown, hta⟩ (kx_Terms_has l dC dI a k st a1) (cwV 1 hta gX6_21 rfl rfl rfl (by decide +kernel) ⟨Nat.le_of_ble_eq_true rfl, Nat.le_of_ble_eq_true rfl⟩) (wl_pR (C := RX4) (ci := 2) (q0 := 7) hK hP rfl (xr_7 a k st)) rfl rfl hl.1 rfl (lv_room (Nat.le_of_ble_eq_true rfl)) dX6_accepts_15 ⟨Nat.zero_le _, Nat.zero_le _⟩) ?_
      refine lv_if_ne (tgt := 23) hx hb dX6_accepts_18 (by decide) (fun c18 => ?_) (fun c18 => ?_)
      · skip
        rw [if_neg c18] at hR
        refine lv_aload_n hx hb dX6_accepts_23 rfl (lv_at hl 0 rfl) ?_
        refine va_get (D := (dC, dI)) (ci := 4) (v := .ref (a 7)) (C := RX6) (T := TX6) (N := 2) hx hb hta inX6 hown hK hP 16 (xr_16 a k st) rfl 0 (by decide) hf9 (fun _ h9 => h9) rfl dX6_accepts_24 ?_
        refine lv_iload_n hx hb dX6_accepts_27 rfl (lv_at hl 2 rfl) ?_
        refine wl_ci (va_runV (As := [.int a1]) (rest := []) ⟨hx, hb, hml, hown, hta⟩ (kx_Terms_widthOf l dC dI a k st a1 (wl_has hN h64 c18)) (cwV 1 hta gX6_25 rfl rfl rfl (by decide +kernel) ⟨Nat.le_of_ble_eq_true rfl, Nat.le_of_ble_eq_true rfl⟩) (wl_pR (C := RX4) (ci := 2) (q0 := 7) hK hP rfl (xr_7 a k st)) rfl rfl hl.1 rfl (lv_room (Nat.le_of_ble_eq_true rfl)) dX6_accepts_28 ⟨Nat.zero_le _, Nat.zero_le _⟩) ?_
        refine lv_istore (lv' := [(5, .int (fx_Terms_widthOf st a1)), (0, .ref (a 16)), (1, .int o), (2, .int a1), (3, .int b1), (4, .int d1)]) hx hb dX6_accepts_31 hl (by decide) rfl (fun ls hl => ?_)
        refine lv_iload_n hx hb dX6_accepts_33 rfl (lv_at hl 2 rfl) ?_
        by_cases c34_0 : o = (0 : Int32)
        · skip
          rw [if_pos c34_0] at hR
          refine lv_tableIn (tgt := 132) hx hb dX6_accepts_34 (by rw [c34_0]; decide) (by rw [c34_0]; decide) (by rw [c34_0] <;> rfl) (by decide) ?_
          refine lv_iconst (v := (1 : Int32)) hx hb dX6_accepts_132 (by decide) ?_
          exact W.zret (v := (1 : Int32)) (ty := .boolean) hx hb hr rfl (fun t ht hW => ⟨_, rfl, hR, ht⟩) (fun q h => by cases h) dX6_accepts_133
        · skip
          rw [if_neg c34_0] at hR
          by_cases c34_1 : o = (1 : Int32)
          · skip
            rw [if_pos c34_1] at hR
            refine lv_tableIn (tgt := 132) hx hb dX6_accepts_34 (by rw [c34_1]; decide) (by rw [c34_1]; decide) (by rw [c34_1] <;> rfl) (by decide) ?_
            refine lv_iconst (v := (1 : Int32)) hx hb dX6_accepts_132 (by decide) ?_
            exact W.zret (v := (1 : Int32)) (ty := .boolean) hx hb hr rfl (fun t ht hW => ⟨_, rfl, hR, ht⟩) (fun q h => by cases h) dX6_accepts_133
          · skip
            rw [if_neg c34_1] at hR
            by_cases c34_16 : o = (16 : Int32)
            · skip
              rw [if_pos c34_16] at hR
              refine lv_tableIn (tgt := 134) hx hb dX6_accepts_34 (by rw [c34_16]; decide) (by rw [c34_16]; decide) (by rw [c34_16] <;> rfl) (by decide) ?_
              refine lv_iload hx hb dX6_accepts_134 (lv_at hl 0 rfl) ?_
              refine lv_iconst (v := (1 : Int32)) hx hb dX6_accepts_136 (by decide) ?_
              refine lv_icmp_ne (tgt := 154) hx hb dX6_accepts_137 (by decide) (fun c137 => ?_) (fun c137 => ?_)
              · skip
                rw [if_neg c137] at hR
                refine lv_iconst (v := (0 : Int32)) hx hb dX6_accepts_154 (by decide) ?_
                exact W.zret (v := (0 : Int32)) (ty := .boolean) hx hb hr rfl (fun t ht hW => ⟨_, rfl, hR, ht⟩) (fun q h => by cases h) dX6_accepts_155
              · skip
                rw [if_pos c137] at hR
                refine lv_aload_n hx hb dX6_accepts_140 rfl (lv_at hl 1 rfl) ?_
                refine lv_iload_n hx hb dX6_accepts_141 rfl (lv_at hl 4 rfl) ?_
                refine lv_iload hx hb dX6_accepts_142 (lv_at hl 5 rfl) ?_
                refine wl_ci (va_runV (As := [.int b1, .int d1]) (rest := []) ⟨hx, hb, hml, hown, hta⟩ (kx_Maker_areAlike l dC dI a k st b1 d1 N hN h64) (cwV 2 hta gX6_29 rfl rfl rfl (by decide +kernel) ⟨Nat.le_of_ble_eq_true rfl, Nat.le_of_ble_eq_true rfl⟩) (wl_pR (C := RX6) (ci := 4) (q0 := 16) hK hP rfl (xr_16 a k st)) rfl rfl hl.1 rfl (lv_room (Nat.le_of_ble_eq_true rfl)) dX6_accepts_144 ⟨Nat.zero_le _, Nat.zero_le _⟩) ?_
                refine lv_if_eq (tgt := 154) hx hb dX6_accepts_147 (by decide) (fun c147 => ?_) (fun c147 => ?_)
                · skip
                  rw [if_pos c147] at hR
                  refine lv_iconst (v := (0 : Int32)) hx hb dX6_accepts_154 (by decide) ?_
                  exact W.zret (v := (0 : Int32)) (ty := .boolean) hx hb hr rfl (fun t ht hW => ⟨_, rfl, hR, ht⟩) (fun q h => by cases h) dX6_accepts_155
                · skip
                  rw [if_neg c147] at hR
                  refine lv_iconst (v := (1 : Int32)) hx hb dX6_accepts_150 (by decide) ?_
                  refine lv_goto (tgt := 155) hx hb dX6_accepts_151 (by decide) ?_
                  exact W.zret (v := (1 : Int32)) (ty := .boolean) hx hb hr rfl (fun t ht hW => ⟨_, rfl, hR, ht⟩) (fun q h => by cases h) dX6_accepts_155
            · skip
              rw [if_neg c34_16] at hR
              by_cases c34_17 : o = (17 : Int32)
              · skip
                rw [if_pos c34_17] at hR
                refine lv_tableIn (tgt := 156) hx hb dX6_accepts_34 (by rw [c34_17]; decide) (by rw [c34_17]; decide) (by rw [c34_17] <;> rfl) (by decide) ?_
                refine lv_iload_n hx hb dX6_accepts_156 rfl (lv_at hl 4 rfl) ?_
                refine wl_ci (va_runS (As := [.int b1]) (rest := []) ⟨hx, hb, hml, hown, hta⟩ (kx_Width_isOne l b1) (va_cwS 1 hta gX6_33 rfl rfl rfl (by decide +kernel) ⟨Nat.le_of_ble_eq_true rfl, Nat.le_of_ble_eq_true rfl⟩) preEq rfl rfl hl.1 rfl (lv_room (Nat.le_of_ble_eq_true rfl)) dX6_accepts_157 ⟨Nat.zero_le _, Nat.zero_le _⟩) ?_
                refine lv_if_eq (tgt := 173) hx hb dX6_accepts_160 (by decide) (fun c160 => ?_) (fun c160 => ?_)
                · skip
                  rw [if_pos c160] at hR
                  refine lv_iconst (v := (0 : Int32)) hx hb dX6_accepts_173 (by decide) ?_
                  exact W.zret (v := (0 : Int32)) (ty := .boolean) hx hb hr rfl (fun t ht hW => ⟨_, rfl, hR, ht⟩) (fun q h => by cases h) dX6_accepts_174
                · skip
                  rw [if_neg c160] at hR
                  refine lv_iload_n hx hb dX6_accepts_163 rfl (lv_at hl 4 rfl) ?_
                  refine lv_iload hx hb dX6_accepts_164 (lv_at hl 0 rfl) ?_
                  refine lv_icmp_le (tgt := 173) hx hb dX6_accepts_166 (by decide) (fun c166 => ?_) (fun c166 => ?_)
                  · skip
                    rw [if_pos c166] at hR
                    refine lv_iconst (v := (0 : Int32)) hx hb dX6_accepts_173 (by decide) ?_
                    exact W.zret (v := (0 : Int32)) (ty := .boolean) hx hb hr rfl (fun t ht hW => ⟨_, rfl, hR, ht⟩) (fun q h => by cases h) dX6_accepts_174
                  · skip
                    rw [if_neg c166] at hR
                    refine lv_iconst (v := (1 : Int32)) hx hb dX6_accepts_169 (by decide) ?_
                    refine lv_goto (tgt := 174) hx hb dX6_accepts_170 (by decide) ?_
                    exact W.zret (v := (1 : Int32)) (ty := .boolean) hx hb hr rfl (fun t ht hW => ⟨_, rfl, hR, ht⟩) (fun q h => by cases h) dX6_accepts_174
              · skip
                rw [if_neg c34_17] at hR
                by_cases c34_18 : o = (18 : Int32)
                · skip
                  rw [if_pos c34_18] at hR
                  refine lv_tableIn (tgt := 156) hx hb dX6_accepts_34 (by rw [c34_18]; decide) (by rw [c34_18]; decide) (by rw [c34_18] <;> rfl) (by decide) ?_
                  refine lv_iload_n hx hb dX6_accepts_156 rfl (lv_at hl 4 rfl) ?_
                  refine wl_ci (va_runS (As := [.int b1]) (rest := []) ⟨hx, hb, hml, hown, hta⟩ (kx_Width_isOne l b1) (va_cwS 1 hta gX6_33 rfl rfl rfl (by decide +kernel) ⟨Nat.le_of_ble_eq_true rfl, Nat.le_of_ble_eq_true rfl⟩) preEq rfl rfl hl.1 rfl (lv_room (Nat.le_of_ble_eq_true rfl)) dX6_accepts_157 ⟨Nat.zero_le _, Nat.zero_le _⟩) ?_
                  refine lv_if_eq (tgt := 173) hx hb dX6_accepts_160 (by decide) (fun c160 => ?_) (fun c160 => ?_)
                  · skip
                    rw [if_pos c160] at hR
                    refine lv_iconst (v := (0 : Int32)) hx hb dX6_accepts_173 (by decide) ?_
                    exact W.zret (v := (0 : Int32)) (ty := .boolean) hx hb hr rfl (fun t ht hW => ⟨_, rfl, hR, ht⟩) (fun q h => by cases h) dX6_accepts_174
                  · skip
                    rw [if_neg c160] at hR
                    refine lv_iload_n hx hb dX6_accepts_163 rfl (lv_at hl 4 rfl) ?_
                    refine lv_iload hx hb dX6_accepts_164 (lv_at hl 0 rfl) ?_
                    refine lv_icmp_le (tgt := 173) hx hb dX6_accepts_166 (by decide) (fun c166 => ?_) (fun c166 => ?_)
                    · skip
                      rw [if_pos c166] at hR
                      refine lv_iconst (v := (0 : Int32)) hx hb dX6_accepts_173 (by decide) ?_
                      exact W.zret (v := (0 : Int32)) (ty := .boolean) hx hb hr rfl (fun t ht hW => ⟨_, rfl, hR, ht⟩) (fun q h => by cases h) dX6_accepts_174
                    · skip
                      rw [if_neg c166] at hR
                      refine lv_iconst (v := (1 : Int32)) hx hb dX6_accepts_169 (by decide) ?_
                      refine lv_goto (tgt := 174) hx hb dX6_accepts_170 (by decide) ?_
                      exact W.zret (v := (1 : Int32)) (ty := .boolean) hx hb hr rfl (fun t ht hW => ⟨_, rfl, hR, ht⟩) (fun q h => by cases h) dX6_accepts_174
                · skip
                  rw [if_neg c34_18] at hR
                  by_cases c34_19 : o = (19 : Int32)
                  · skip
                    rw [if_pos c34_19] at hR
                    refine lv_tableIn (tgt := 175) hx hb dX6_accepts_34 (by rw [c34_19]; decide) (by rw [c34_19]; decide) (by rw [c34_19] <;> rfl) (by decide) ?_
                    refine lv_iload_n hx hb dX6_accepts_175 rfl (lv_at hl 4 rfl) ?_
                    refine wl_ci (va_runS (As := [.int b1]) (rest := []) ⟨hx, hb, hml, hown, hta⟩ (kx_Width_isOne l b1) (va_cwS 1 hta gX6_33 rfl rfl rfl (by decide +kernel) ⟨Nat.le_of_ble_eq_true rfl, Nat.le_of_ble_eq_true rfl⟩) preEq rfl rfl hl.1 rfl (lv_room (Nat.le_of_ble_eq_true rfl)) dX6_accepts_176 ⟨Nat.zero_le _, Nat.zero_le _⟩) ?_
                    refine lv_if_eq (tgt := 192) hx hb dX6_accepts_179 (by decide) (fun c179 => ?_) (fun c179 => ?_)
                    · skip
                      rw [if_pos c179] at hR
                      refine lv_iconst (v := (0 : Int32)) hx hb dX6_accepts_192 (by decide) ?_
                      exact W.zret (v := (0 : Int32)) (ty := .boolean) hx hb hr rfl (fun t ht hW => ⟨_, rfl, hR, ht⟩) (fun q h => by cases h) dX6_accepts_193
                    · skip
                      rw [if_neg c179] at hR
                      refine lv_iload_n hx hb dX6_accepts_182 rfl (lv_at hl 4 rfl) ?_
                      refine lv_iload hx hb dX6_accepts_183 (lv_at hl 0 rfl) ?_
                      refine lv_icmp_ge (tgt := 192) hx hb dX6_accepts_185 (by decide) (fun c185 => ?_) (fun c185 => ?_)
                      · skip
                        rw [if_pos c185] at hR
                        refine lv_iconst (v := (0 : Int32)) hx hb dX6_accepts_192 (by decide) ?_
                        exact W.zret (v := (0 : Int32)) (ty := .boolean) hx hb hr rfl (fun t ht hW => ⟨_, rfl, hR, ht⟩) (fun q h => by cases h) dX6_accepts_193
                      · skip
                        rw [if_neg c185] at hR
                        refine lv_iconst (v := (1 : Int32)) hx hb dX6_accepts_188 (by decide) ?_
                        refine lv_goto (tgt := 193) hx hb dX6_accepts_189 (by decide) ?_
                        exact W.zret (v := (1 : Int32)) (ty := .boolean) hx hb hr rfl (fun t ht hW => ⟨_, rfl, hR, ht⟩) (fun q h => by cases h) dX6_accepts_193
                  · skip
                    rw [if_neg c34_19] at hR
                    by_cases c34_20 : o = (20 : Int32)
                    · skip
                      rw [if_pos c34_20] at hR
                      refine lv_tableIn (tgt := 194) hx hb dX6_accepts_34 (by rw [c34_20]; decide) (by rw [c34_20]; decide) (by rw [c34_20] <;> rfl) (by decide) ?_
                      refine lv_iload hx hb dX6_accepts_194 (lv_at hl 0 rfl) ?_
                      refine lv_bipush (v := (8 : Int32)) hx hb dX6_accepts_196 (by decide) ?_
                      refine lv_icmp_ne (tgt := 212) hx hb dX6_accepts_198 (by decide) (fun c198 => ?_) (fun c198 => ?_)
                      · skip
                        rw [if_neg c198] at hR
                        refine lv_iconst (v := (0 : Int32)) hx hb dX6_accepts_212 (by decide) ?_
                        exact W.zret (v := (0 : Int32)) (ty := .boolean) hx hb hr rfl (fun t ht hW => ⟨_, rfl, hR, ht⟩) (fun q h => by cases h) dX6_accepts_213
                      · skip
                        rw [if_pos c198] at hR
                        refine lv_iload_n hx hb dX6_accepts_201 rfl (lv_at hl 4 rfl) ?_
                        refine wl_ci (va_runS (As := [.int b1]) (rest := []) ⟨hx, hb, hml, hown, hta⟩ (kx_Tabs_isTable l b1) (va_cwS 1 hta gX6_38 rfl rfl rfl (by decide +kernel) ⟨Nat.le_of_ble_eq_true rfl, Nat.le_of_ble_eq_true rfl⟩) preEq rfl rfl hl.1 rfl (lv_room (Nat.le_of_ble_eq_true rfl)) dX6_accepts_202 ⟨Nat.zero_le _, Nat.zero_le _⟩) ?_
                        refine lv_if_eq (tgt := 212) hx hb dX6_accepts_205 (by decide) (fun c205 => ?_) (fun c205 => ?_)
                        · skip
                          rw [if_pos c205] at hR
                          refine lv_iconst (v := (0 : Int32)) hx hb dX6_accepts_212 (by decide) ?_
                          exact W.zret (v := (0 : Int32)) (ty := .boolean) hx hb hr rfl (fun t ht hW => ⟨_, rfl, hR, ht⟩) (fun q h => by cases h) dX6_accepts_213
                        · skip
                          rw [if_neg c205] at hR
                          refine lv_iconst (v := (1 : Int32)) hx hb dX6_accepts_208 (by decide) ?_
                          refine lv_goto (tgt := 213) hx hb dX6_accepts_209 (by decide) ?_
                          exact W.zret (v := (1 : Int32)) (ty := .boolean) hx hb hr rfl (fun t ht hW => ⟨_, rfl, hR, ht⟩) (fun q h => by cases h) dX6_accepts_213
                    · skip
                      rw [if_neg c34_20] at hR
                      have t34_0 := lv_neT (a := 0) c34_0 (by decide)
                      have t34_1 := lv_neT (a := 1) c34_1 (by decide)
                      have t34_16 := lv_neT (a := 16) c34_16 (by decide)
                      have t34_17 := lv_neT (a := 17) c34_17 (by decide)
                      have t34_18 := lv_neT (a := 18) c34_18 (by decide)
                      have t34_19 := lv_neT (a := 19) c34_19 (by decide)
                      have t34_20 := lv_neT (a := 20) c34_20 (by decide)
                      refine wl_tabD (tgt := 214) (ks := [0, 1, 16, 17, 18, 19, 20]) hx hb dX6_accepts_34 (by decide) (by decide +kernel) (by intro k hk; simp only [List.mem_cons, List.not_mem_nil, or_false] at hk; rcases hk with rfl | rfl | rfl | rfl | rfl | rfl | rfl <;> assumption) (by decide) ?_
                      refine lv_aload_n hx hb dX6_accepts_214 rfl (lv_at hl 1 rfl) ?_
                      refine lv_iload_n hx hb dX6_accepts_215 rfl (lv_at hl 3 rfl) ?_
                      refine lv_iload_n hx hb dX6_accepts_216 rfl (lv_at hl 4 rfl) ?_
                      refine wl_ci (va_runV (As := [.int a1, .int b1]) (rest := []) ⟨hx, hb, hml, hown, hta⟩ (kx_Maker_areAlike l dC dI a k st a1 b1 N hN h64) (cwV 2 hta gX6_29 rfl rfl rfl (by decide +kernel) ⟨Nat.le_of_ble_eq_true rfl, Nat.le_of_ble_eq_true rfl⟩) (wl_pR (C := RX6) (ci := 4) (q0 := 16) hK hP rfl (xr_16 a k st)) rfl rfl hl.1 rfl (lv_room (Nat.le_of_ble_eq_true rfl)) dX6_accepts_217 ⟨Nat.zero_le _, Nat.zero_le _⟩) ?_
                      refine lv_if_eq (tgt := 236) hx hb dX6_accepts_220 (by decide) (fun c220 => ?_) (fun c220 => ?_)
                      · skip
                        rw [if_pos c220] at hR
                        refine lv_iconst (v := (0 : Int32)) hx hb dX6_accepts_236 (by decide) ?_
                        exact W.zret (v := (0 : Int32)) (ty := .boolean) hx hb hr rfl (fun t ht hW => ⟨_, rfl, hR, ht⟩) (fun q h => by cases h) dX6_accepts_237
                      · skip
                        rw [if_neg c220] at hR
                        refine lv_iload_n hx hb dX6_accepts_223 rfl (lv_at hl 2 rfl) ?_
                        refine lv_iload hx hb dX6_accepts_224 (lv_at hl 0 rfl) ?_
                        refine wl_ci (va_runS (As := [.int o, .int (fx_Terms_widthOf st a1)]) (rest := []) ⟨hx, hb, hml, hown, hta⟩ (kx_Op_isThereFor l o (fx_Terms_widthOf st a1)) (va_cwS 2 hta gX6_43 rfl rfl rfl (by decide +kernel) ⟨Nat.le_of_ble_eq_true rfl, Nat.le_of_ble_eq_true rfl⟩) preEq rfl rfl hl.1 rfl (lv_room (Nat.le_of_ble_eq_true rfl)) dX6_accepts_226 ⟨Nat.zero_le _, Nat.zero_le _⟩) ?_
                        refine lv_if_eq (tgt := 236) hx hb dX6_accepts_229 (by decide) (fun c229 => ?_) (fun c229 => ?_)
                        · skip
                          rw [if_pos c229] at hR
                          refine lv_iconst (v := (0 : Int32)) hx hb dX6_accepts_236 (by decide) ?_
                          exact W.zret (v := (0 : Int32)) (ty := .boolean) hx hb hr rfl (fun t ht hW => ⟨_, rfl, hR, ht⟩) (fun q h => by cases h) dX6_accepts_237
                        · skip
                          rw [if_neg c229] at hR
                          refine lv_iconst (v := (1 : Int32)) hx hb dX6_accepts_232 (by decide) ?_
                          refine lv_goto (tgt := 237) hx hb dX6_accepts_233 (by decide) ?_
                          exact W.zret (v := (1 : Int32)) (ty := .boolean) hx hb hr rfl (fun t ht hW => ⟨_, rfl, hR, ht⟩) (fun q h => by cases h) dX6_accepts_237
      · skip
        rw [if_pos c18] at hR
        refine lv_iconst (v := (0 : Int32)) hx hb dX6_accepts_21 (by decide) ?_
        exact W.zret (v := (0 : Int32)) (ty := .boolean) hx hb hr rfl (fun t ht hW => ⟨_, rfl, hR, ht⟩) (fun q h => by cases h) dX6_accepts_22

theorem mw_414 : (.code yX4_isZero cX4_isZero 2 (some .boolean) : Cond) ∈ AW := List.mem_filter.mpr ⟨List.mem_of_getElem? (i := 414) (by decide +kernel), rfl⟩
theorem mw_411 : (.methodLink RX6 99 yX4_isZero : Cond) ∈ AW := List.mem_filter.mpr ⟨List.mem_of_getElem? (i := 411) (by decide +kernel), rfl⟩
theorem mw_412 : (.instanceMethod yX4_isZero : Cond) ∈ AW := List.mem_filter.mpr ⟨List.mem_of_getElem? (i := 412) (by decide +kernel), rfl⟩
theorem mw_413 : (.selects RX4 yX4_isZero yX4_isZero : Cond) ∈ AW := List.mem_filter.mpr ⟨List.mem_of_getElem? (i := 413) (by decide +kernel), rfl⟩
theorem gX6_99 : GoodIn AW (wsV RX6 99 RX4 yX4_isZero wsX4_isZero) := aw_V mw_411 mw_412 mw_413 mw_41 mw_414
theorem dX6_ofSettledChoice_0 : decode cX6_ofSettledChoice 0 = .ok (.iload_n 2, 1) := by decide +kernel
theorem dX6_ofSettledChoice_1 : decode cX6_ofSettledChoice 1 = .ok (.iload_n 3, 1) := by decide +kernel
theorem dX6_ofSettledChoice_2 : decode cX6_ofSettledChoice 2 = .ok (.if_icmp .ne 5, 3) := by decide +kernel
theorem dX6_ofSettledChoice_5 : decode cX6_ofSettledChoice 5 = .ok (.iload_n 2, 1) := by decide +kernel
theorem dX6_ofSettledChoice_6 : decode cX6_ofSettledChoice 6 = .ok (.ireturn, 1) := by decide +kernel
theorem dX6_ofSettledChoice_7 : decode cX6_ofSettledChoice 7 = .ok (.aload_n 0, 1) := by decide +kernel
theorem dX6_ofSettledChoice_8 : decode cX6_ofSettledChoice 8 = .ok (.getfield 9, 3) := by decide +kernel
theorem dX6_ofSettledChoice_11 : decode cX6_ofSettledChoice 11 = .ok (.iload_n 1, 1) := by decide +kernel
theorem dX6_ofSettledChoice_12 : decode cX6_ofSettledChoice 12 = .ok (.invokevirtual 93, 3) := by decide +kernel
theorem dX6_ofSettledChoice_15 : decode cX6_ofSettledChoice 15 = .ok (.ifCond .ne 6, 3) := by decide +kernel
theorem dX6_ofSettledChoice_18 : decode cX6_ofSettledChoice 18 = .ok (.bipush (-3), 2) := by decide +kernel
theorem dX6_ofSettledChoice_20 : decode cX6_ofSettledChoice 20 = .ok (.ireturn, 1) := by decide +kernel
theorem dX6_ofSettledChoice_21 : decode cX6_ofSettledChoice 21 = .ok (.aload_n 0, 1) := by decide +kernel
theorem dX6_ofSettledChoice_22 : decode cX6_ofSettledChoice 22 = .ok (.getfield 9, 3) := by decide +kernel
theorem dX6_ofSettledChoice_25 : decode cX6_ofSettledChoice 25 = .ok (.iload_n 1, 1) := by decide +kernel
theorem dX6_ofSettledChoice_26 : decode cX6_ofSettledChoice 26 = .ok (.invokevirtual 99, 3) := by decide +kernel
theorem dX6_ofSettledChoice_29 : decode cX6_ofSettledChoice 29 = .ok (.ifCond .eq 7, 3) := by decide +kernel
theorem dX6_ofSettledChoice_32 : decode cX6_ofSettledChoice 32 = .ok (.iload_n 3, 1) := by decide +kernel
theorem dX6_ofSettledChoice_33 : decode cX6_ofSettledChoice 33 = .ok (.goto 4, 3) := by decide +kernel
theorem dX6_ofSettledChoice_36 : decode cX6_ofSettledChoice 36 = .ok (.iload_n 2, 1) := by decide +kernel
theorem dX6_ofSettledChoice_37 : decode cX6_ofSettledChoice 37 = .ok (.ireturn, 1) := by decide +kernel
def fx_Maker_ofSettledChoice (st : XS) (a1 : Int32) (b1 : Int32) (c1 : Int32) : Int32 := 
  if b1 = c1 then b1
  else 
    if fx_Terms_isConstant st a1 = (0 : Int32) then (-3 : Int32)
    else 
      if fx_Terms_isZero st a1 = (0 : Int32) then b1
      else c1
set_option maxHeartbeats 4000000 in
set_option maxRecDepth 100000 in
theorem kx_Maker_ofSettledChoice (l : Launch) (dC : Nat → ClassId) (dI : Nat → Nat → Nat) (a : Nat → Nat) (k : Nat → ClassId) (st : XS) (a1 : Int32) (b1 : Int32) (c1 : Int32) (hA : vp_in a1 64) : Met l yX6_ofSettledChoice wsX6_ofSettledChoice ({ frames := 2, cells := 0, slots := 0, locals := 42 }) (va_Pc [.ref (a 16), .int a1, .int b1, .int c1] (wl_prR (dC, dI) vwCl (xt k) (xw a k st))) (vp_Si (fun r9 => r9 = fx_Maker_ofSettledChoice st a1 b1 c1)) 0 0 (fun _ => False) := by
  refine Met.ofW (cc := cX6_ofSettledChoice) (maxL := 4) (ret := (some .int)) (by decide) rfl ?_
  intro p e s m args below meth c s₁ B hml hv
  obtain ⟨rfl, hP, hK⟩ := hv
  have hx := B.exec
  have hb := B.bytes
  have hr := B.returns
  have hta := aw_hts (atoms_spec (ws := wsX6_ofSettledChoice) B.pre)
  have hown : s.vm.findClass RX6 = some m.cls := findClass_of_methodNamed B.named
  have hlocks := B.notSynchronized
  have hf9 := hta _ mw_149
  have hl := lv_entry ([.ref (a 16), .int a1, .int b1, .int c1]) (n := 4) (Nat.le_of_ble_eq_true rfl)
  rw [lg_entry_eq]
  generalize (lg_sl ([.ref (a 16), .int a1, .int b1, .int c1]) ++ List.replicate (4 - (lg_sl ([.ref (a 16), .int a1, .int b1, .int c1])).length) Slot.unset).toArray = ls at hl ⊢
  have hl : lv_has ls 4 [(0, .ref (a 16)), (1, .int a1), (2, .int b1), (3, .int c1)] := hl
  generalize hR : fx_Maker_ofSettledChoice st a1 b1 c1 = R
  rw [fx_Maker_ofSettledChoice] at hR
  refine lv_iload_n hx hb dX6_ofSettledChoice_0 rfl (lv_at hl 2 rfl) ?_
  refine lv_iload_n hx hb dX6_ofSettledChoice_1 rfl (lv_at hl 3 rfl) ?_
  refine lv_icmp_ne (tgt := 7) hx hb dX6_ofSettledChoice_2 (by decide) (fun c2 => ?_) (fun c2 => ?_)
  · skip
    rw [if_neg c2] at hR
    refine lv_aload_n hx hb dX6_ofSettledChoice_7 rfl (lv_at hl 0 rfl) ?_
    refine va_get (D := (dC, dI)) (ci := 4) (v := .ref (a 7)) (C := RX6) (T := TX6) (N := 2) hx hb hta inX6 hown hK hP 16 (xr_16 a k st) rfl 0 (by decide) hf9 (fun _ h9 => h9) rfl dX6_ofSettledChoice_8 ?_
    refine lv_iload_n hx hb dX6_ofSettledChoice_11 rfl (lv_at hl 1 rfl) ?_
    refine wl_ci (va_runV (As := [.int a1]) (rest := []) ⟨hx, hb, hml, hown, hta⟩ (kx_Terms_isConstant l dC dI a k st a1 hA) (cwV 1 hta gX6_93 rfl rfl rfl (by decide +kernel) ⟨Nat.le_of_ble_eq_true rfl, Nat.le_of_ble_eq_true rfl⟩) (wl_pR (C := RX4) (ci := 2) (q0 := 7) hK hP rfl (xr_7 a k st)) rfl rfl hl.1 rfl (lv_room (Nat.le_of_ble_eq_true rfl)) dX6_ofSettledChoice_12 ⟨Nat.zero_le _, Nat.zero_le _⟩) ?_
    refine lv_if_ne (tgt := 21) hx hb dX6_ofSettledChoice_15 (by decide) (fun c15 => ?_) (fun c15 => ?_)
    · skip
      rw [if_neg c15] at hR
      refine lv_aload_n hx hb dX6_ofSettledChoice_21 rfl (lv_at hl 0 rfl) ?_
      refine va_get (D := (dC, dI)) (ci := 4) (v := .ref (a 7)) (C := RX6) (T := TX6) (N := 2) hx hb hta inX6 hown hK hP 16 (xr_16 a k st) rfl 0 (by decide) hf9 (fun _ h9 => h9) rfl dX6_ofSettledChoice_22 ?_
      refine lv_iload_n hx hb dX6_ofSettledChoice_25 rfl (lv_at hl 1 rfl) ?_
      refine wl_ci (va_runV (As := [.int a1]) (rest := []) ⟨hx, hb, hml, hown, hta⟩ (kx_Terms_isZero l dC dI a k st a1 hA) (cwV 1 hta gX6_99 rfl rfl rfl (by decide +kernel) ⟨Nat.le_of_ble_eq_true rfl, Nat.le_of_ble_eq_true rfl⟩) (wl_pR (C := RX4) (ci := 2) (q0 := 7) hK hP rfl (xr_7 a k st)) rfl rfl hl.1 rfl (lv_room (Nat.le_of_ble_eq_true rfl)) dX6_ofSettledChoice_26 ⟨Nat.zero_le _, Nat.zero_le _⟩) ?_
      refine lv_if_eq (tgt := 36) hx hb dX6_ofSettledChoice_29 (by decide) (fun c29 => ?_) (fun c29 => ?_)
      · skip
        rw [if_pos c29] at hR
        refine lv_iload_n hx hb dX6_ofSettledChoice_36 rfl (lv_at hl 2 rfl) ?_
        exact W.iret (v := b1) hx hb hr (fun t ht hW => ⟨_, rfl, hR, ht⟩) (fun q h => by cases h) dX6_ofSettledChoice_37
      · skip
        rw [if_neg c29] at hR
        refine lv_iload_n hx hb dX6_ofSettledChoice_32 rfl (lv_at hl 3 rfl) ?_
        refine lv_goto (tgt := 37) hx hb dX6_ofSettledChoice_33 (by decide) ?_
        exact W.iret (v := c1) hx hb hr (fun t ht hW => ⟨_, rfl, hR, ht⟩) (fun q h => by cases h) dX6_ofSettledChoice_37
    · skip
      rw [if_pos c15] at hR
      refine lv_bipush (v := (-3 : Int32)) hx hb dX6_ofSettledChoice_18 (by decide) ?_
      exact W.iret (v := (-3 : Int32)) hx hb hr (fun t ht hW => ⟨_, rfl, hR, ht⟩) (fun q h => by cases h) dX6_ofSettledChoice_20
  · skip
    rw [if_pos c2] at hR
    refine lv_iload_n hx hb dX6_ofSettledChoice_5 rfl (lv_at hl 2 rfl) ?_
    exact W.iret (v := b1) hx hb hr (fun t ht hW => ⟨_, rfl, hR, ht⟩) (fun q h => by cases h) dX6_ofSettledChoice_6

theorem mw_272 : (.code yX4_findOrAddConstant cX4_findOrAddConstant 7 (some .int) : Cond) ∈ AW := List.mem_filter.mpr ⟨List.mem_of_getElem? (i := 272) (by decide +kernel), rfl⟩
theorem mw_395 : (.methodLink RX6 66 yX4_findOrAddConstant : Cond) ∈ AW := List.mem_filter.mpr ⟨List.mem_of_getElem? (i := 395) (by decide +kernel), rfl⟩
theorem mw_270 : (.instanceMethod yX4_findOrAddConstant : Cond) ∈ AW := List.mem_filter.mpr ⟨List.mem_of_getElem? (i := 270) (by decide +kernel), rfl⟩
theorem mw_271 : (.selects RX4 yX4_findOrAddConstant yX4_findOrAddConstant : Cond) ∈ AW := List.mem_filter.mpr ⟨List.mem_of_getElem? (i := 271) (by decide +kernel), rfl⟩
theorem mw_410 : (.code yX6_ofSettledChoice cX6_ofSettledChoice 4 (some .int) : Cond) ∈ AW := List.mem_filter.mpr ⟨List.mem_of_getElem? (i := 410) (by decide +kernel), rfl⟩
theorem mw_407 : (.methodLink RX6 96 yX6_ofSettledChoice : Cond) ∈ AW := List.mem_filter.mpr ⟨List.mem_of_getElem? (i := 407) (by decide +kernel), rfl⟩
theorem mw_409 : (.instanceMethod yX6_ofSettledChoice : Cond) ∈ AW := List.mem_filter.mpr ⟨List.mem_of_getElem? (i := 409) (by decide +kernel), rfl⟩
theorem mw_6 : (.selects RX6 yX6_ofSettledChoice yX6_ofSettledChoice : Cond) ∈ AW := List.mem_filter.mpr ⟨List.mem_of_getElem? (i := 6) (by decide +kernel), rfl⟩
theorem gX6_66 : GoodIn AW (wsV RX6 66 RX4 yX4_findOrAddConstant wsX4_findOrAddConstant) := aw_V mw_395 mw_270 mw_271 mw_41 mw_272
theorem gX6_96 : GoodIn AW (wsV RX6 96 RX6 yX6_ofSettledChoice wsX6_ofSettledChoice) := aw_V mw_407 mw_409 mw_6 mw_43 mw_410
theorem dX6_ofSameOperands_0 : decode cX6_ofSameOperands 0 = .ok (.iload_n 1, 1) := by decide +kernel
theorem dX6_ofSameOperands_1 : decode cX6_ofSameOperands 1 = .ok (.bipush 16, 2) := by decide +kernel
theorem dX6_ofSameOperands_3 : decode cX6_ofSameOperands 3 = .ok (.if_icmp .ne 12, 3) := by decide +kernel
theorem dX6_ofSameOperands_6 : decode cX6_ofSameOperands 6 = .ok (.aload_n 0, 1) := by decide +kernel
theorem dX6_ofSameOperands_7 : decode cX6_ofSameOperands 7 = .ok (.iload_n 2, 1) := by decide +kernel
theorem dX6_ofSameOperands_8 : decode cX6_ofSameOperands 8 = .ok (.iload_n 3, 1) := by decide +kernel
theorem dX6_ofSameOperands_9 : decode cX6_ofSameOperands 9 = .ok (.iload 4, 2) := by decide +kernel
theorem dX6_ofSameOperands_11 : decode cX6_ofSameOperands 11 = .ok (.invokevirtual 96, 3) := by decide +kernel
theorem dX6_ofSameOperands_14 : decode cX6_ofSameOperands 14 = .ok (.ireturn, 1) := by decide +kernel
theorem dX6_ofSameOperands_15 : decode cX6_ofSameOperands 15 = .ok (.iload_n 2, 1) := by decide +kernel
theorem dX6_ofSameOperands_16 : decode cX6_ofSameOperands 16 = .ok (.iload_n 3, 1) := by decide +kernel
theorem dX6_ofSameOperands_17 : decode cX6_ofSameOperands 17 = .ok (.if_icmp .eq 6, 3) := by decide +kernel
theorem dX6_ofSameOperands_20 : decode cX6_ofSameOperands 20 = .ok (.bipush (-3), 2) := by decide +kernel
theorem dX6_ofSameOperands_22 : decode cX6_ofSameOperands 22 = .ok (.ireturn, 1) := by decide +kernel
theorem dX6_ofSameOperands_23 : decode cX6_ofSameOperands 23 = .ok (.iload_n 1, 1) := by decide +kernel
theorem dX6_ofSameOperands_24 : decode cX6_ofSameOperands 24 = .ok (.tableswitch 111 2 15 #[72, 72, 74, 111, 74, 111, 111, 111, 111, 111, 111, 91, 101, 101], 72) := by decide +kernel
theorem dX6_ofSameOperands_96 : decode cX6_ofSameOperands 96 = .ok (.iload_n 2, 1) := by decide +kernel
theorem dX6_ofSameOperands_97 : decode cX6_ofSameOperands 97 = .ok (.ireturn, 1) := by decide +kernel
theorem dX6_ofSameOperands_98 : decode cX6_ofSameOperands 98 = .ok (.aload_n 0, 1) := by decide +kernel
theorem dX6_ofSameOperands_99 : decode cX6_ofSameOperands 99 = .ok (.getfield 9, 3) := by decide +kernel
theorem dX6_ofSameOperands_102 : decode cX6_ofSameOperands 102 = .ok (.aload_n 0, 1) := by decide +kernel
theorem dX6_ofSameOperands_103 : decode cX6_ofSameOperands 103 = .ok (.getfield 9, 3) := by decide +kernel
theorem dX6_ofSameOperands_106 : decode cX6_ofSameOperands 106 = .ok (.iload_n 2, 1) := by decide +kernel
theorem dX6_ofSameOperands_107 : decode cX6_ofSameOperands 107 = .ok (.invokevirtual 25, 3) := by decide +kernel
theorem dX6_ofSameOperands_110 : decode cX6_ofSameOperands 110 = .ok (.lconst 0, 1) := by decide +kernel
theorem dX6_ofSameOperands_111 : decode cX6_ofSameOperands 111 = .ok (.invokevirtual 66, 3) := by decide +kernel
theorem dX6_ofSameOperands_114 : decode cX6_ofSameOperands 114 = .ok (.ireturn, 1) := by decide +kernel
theorem dX6_ofSameOperands_115 : decode cX6_ofSameOperands 115 = .ok (.aload_n 0, 1) := by decide +kernel
theorem dX6_ofSameOperands_116 : decode cX6_ofSameOperands 116 = .ok (.getfield 9, 3) := by decide +kernel
theorem dX6_ofSameOperands_119 : decode cX6_ofSameOperands 119 = .ok (.iconst 1, 1) := by decide +kernel
theorem dX6_ofSameOperands_120 : decode cX6_ofSameOperands 120 = .ok (.lconst 1, 1) := by decide +kernel
theorem dX6_ofSameOperands_121 : decode cX6_ofSameOperands 121 = .ok (.invokevirtual 66, 3) := by decide +kernel
theorem dX6_ofSameOperands_124 : decode cX6_ofSameOperands 124 = .ok (.ireturn, 1) := by decide +kernel
theorem dX6_ofSameOperands_125 : decode cX6_ofSameOperands 125 = .ok (.aload_n 0, 1) := by decide +kernel
theorem dX6_ofSameOperands_126 : decode cX6_ofSameOperands 126 = .ok (.getfield 9, 3) := by decide +kernel
theorem dX6_ofSameOperands_129 : decode cX6_ofSameOperands 129 = .ok (.iconst 1, 1) := by decide +kernel
theorem dX6_ofSameOperands_130 : decode cX6_ofSameOperands 130 = .ok (.lconst 0, 1) := by decide +kernel
theorem dX6_ofSameOperands_131 : decode cX6_ofSameOperands 131 = .ok (.invokevirtual 66, 3) := by decide +kernel
theorem dX6_ofSameOperands_134 : decode cX6_ofSameOperands 134 = .ok (.ireturn, 1) := by decide +kernel
theorem dX6_ofSameOperands_135 : decode cX6_ofSameOperands 135 = .ok (.bipush (-3), 2) := by decide +kernel
theorem dX6_ofSameOperands_137 : decode cX6_ofSameOperands 137 = .ok (.ireturn, 1) := by decide +kernel
def fx_Maker_ofSameOperands (st : XS) (o : Int32) (a1 : Int32) (b1 : Int32) (c1 : Int32) : Int32 × XS := 
  if o = (16 : Int32) then (fx_Maker_ofSettledChoice st a1 b1 c1, st)
  else 
    if a1 = b1 then 
      if o = (2 : Int32) then (a1, st)
      else 
        if o = (3 : Int32) then (a1, st)
        else 
          if o = (4 : Int32) then (((fx_Terms_findOrAddConstant st (fx_Terms_widthOf st a1) (0 : Int64)).1), ((fx_Terms_findOrAddConstant st (fx_Terms_widthOf st a1) (0 : Int64)).2))
          else 
            if o = (6 : Int32) then (((fx_Terms_findOrAddConstant st (fx_Terms_widthOf st a1) (0 : Int64)).1), ((fx_Terms_findOrAddConstant st (fx_Terms_widthOf st a1) (0 : Int64)).2))
            else 
              if o = (13 : Int32) then (((fx_Terms_findOrAddConstant st (1 : Int32) (1 : Int64)).1), ((fx_Terms_findOrAddConstant st (1 : Int32) (1 : Int64)).2))
              else 
                if o = (14 : Int32) then (((fx_Terms_findOrAddConstant st (1 : Int32) (0 : Int64)).1), ((fx_Terms_findOrAddConstant st (1 : Int32) (0 : Int64)).2))
                else 
                  if o = (15 : Int32) then (((fx_Terms_findOrAddConstant st (1 : Int32) (0 : Int64)).1), ((fx_Terms_findOrAddConstant st (1 : Int32) (0 : Int64)).2))
                  else ((-3 : Int32), st)
    else ((-3 : Int32), st)
theorem ff_Maker_ofSameOperands (st : XS) (o : Int32) (a1 : Int32) (b1 : Int32) (c1 : Int32) : XF [6] [3, 4] [1] st (fx_Maker_ofSameOperands st o a1 b1 c1).2 := by
  rw [fx_Maker_ofSameOperands]
  exact (wl_ite (P := fun (q : Int32 × XS) => XF [6] [3, 4] [1] _ (q.2)) XF.rf (wl_ite (P := fun (q : Int32 × XS) => XF [6] [3, 4] [1] _ (q.2)) (wl_ite (P := fun (q : Int32 × XS) => XF [6] [3, 4] [1] _ (q.2)) XF.rf (wl_ite (P := fun (q : Int32 × XS) => XF [6] [3, 4] [1] _ (q.2)) XF.rf (wl_ite (P := fun (q : Int32 × XS) => XF [6] [3, 4] [1] _ (q.2)) (XF.tr XF.rf (XF.mono (ff_Terms_findOrAddConstant _ _ _) (by decide) (by decide) (by decide))) (wl_ite (P := fun (q : Int32 × XS) => XF [6] [3, 4] [1] _ (q.2)) (XF.tr XF.rf (XF.mono (ff_Terms_findOrAddConstant _ _ _) (by decide) (by decide) (by decide))) (wl_ite (P := fun (q : Int32 × XS) => XF [6] [3, 4] [1] _ (q.2)) (XF.tr XF.rf (XF.mono (ff_Terms_findOrAddConstant _ _ _) (by decide) (by decide) (by decide))) (wl_ite (P := fun (q : Int32 × XS) => XF [6] [3, 4] [1] _ (q.2)) (XF.tr XF.rf (XF.mono (ff_Terms_findOrAddConstant _ _ _) (by decide) (by decide) (by decide))) (wl_ite (P := fun (q : Int32 × XS) => XF [6] [3, 4] [1] _ (q.2)) (XF.tr XF.rf (XF.mono (ff_Terms_findOrAddConstant _ _ _) (by decide) (by decide) (by decide))) XF.rf))))))) XF.rf))
set_option maxHeartbeats 4000000 in
set_option maxRecDepth 100000 in
theorem kx_Maker_ofSameOperands (l : Launch) (dC : Nat → ClassId) (dI : Nat → Nat → Nat) (a : Nat → Nat) (k : Nat → ClassId) (st : XS) (o : Int32) (a1 : Int32) (b1 : Int32) (c1 : Int32) (sz : Nat) (N : Nat) (hN : gI st 6 = nI N) (h64 : N ≤ 64) (hA : vp_in a1 64) : Met l yX6_ofSameOperands wsX6_ofSameOperands ({ frames := 3, cells := 0, slots := 0, locals := 65 }) (va_Pc [.ref (a 16), .int o, .int a1, .int b1, .int c1] (wl_pre (dC, dI) vwCl (xt k) (xw a k) st sz)) (va_Qi (fun r9 u9 => (r9, u9) = fx_Maker_ofSameOperands st o a1 b1 c1) (wl_at (dC, dI) vwCl (xt k) (xw a k) (va_A (xw a k st) sz)) (va_A (xw a k st) sz)) 0 0 (va_A (xw a k st) sz) := by
  refine Met.ofW (cc := cX6_ofSameOperands) (maxL := 5) (ret := (some .int)) (by decide) rfl ?_
  intro p e s m args below meth c s₁ B hml hv
  obtain ⟨rfl, hsz, hP, hK, hD0⟩ := hv
  have hx := B.exec
  have hb := B.bytes
  have hr := B.returns
  have hta := aw_hts (atoms_spec (ws := wsX6_ofSameOperands) B.pre)
  have hown : s.vm.findClass RX6 = some m.cls := findClass_of_methodNamed B.named
  have hlocks := B.notSynchronized
  have hf9 := hta _ mw_149
  subst hsz
  have hD := hD0.self (sz := s.heap.size)
  generalize hAe : va_A (xw a k st) s.heap.size = A at hD ⊢
  have hAz : ∀ q : Nat, s.heap.size ≤ q → A q := fun q h => by rw [← hAe]; exact Or.inr h
  have hS : va_S A s.heap s.heap [] := va_S.rf
  have hl := lv_entry ([.ref (a 16), .int o, .int a1, .int b1, .int c1]) (n := 5) (Nat.le_of_ble_eq_true rfl)
  rw [lg_entry_eq]
  generalize (lg_sl ([.ref (a 16), .int o, .int a1, .int b1, .int c1]) ++ List.replicate (5 - (lg_sl ([.ref (a 16), .int o, .int a1, .int b1, .int c1])).length) Slot.unset).toArray = ls at hl ⊢
  have hl : lv_has ls 5 [(0, .ref (a 16)), (1, .int o), (2, .int a1), (3, .int b1), (4, .int c1)] := hl
  generalize hR : fx_Maker_ofSameOperands st o a1 b1 c1 = R
  rw [fx_Maker_ofSameOperands] at hR
  refine lv_iload_n hx hb dX6_ofSameOperands_0 rfl (lv_at hl 1 rfl) ?_
  refine lv_bipush (v := (16 : Int32)) hx hb dX6_ofSameOperands_1 (by decide) ?_
  refine lv_icmp_ne (tgt := 15) hx hb dX6_ofSameOperands_3 (by decide) (fun c3 => ?_) (fun c3 => ?_)
  · skip
    rw [if_neg c3] at hR
    refine lv_iload_n hx hb dX6_ofSameOperands_15 rfl (lv_at hl 2 rfl) ?_
    refine lv_iload_n hx hb dX6_ofSameOperands_16 rfl (lv_at hl 3 rfl) ?_
    refine lv_icmp_eq (tgt := 23) hx hb dX6_ofSameOperands_17 (by decide) (fun c17 => ?_) (fun c17 => ?_)
    · skip
      rw [if_pos c17] at hR
      refine lv_iload_n hx hb dX6_ofSameOperands_23 rfl (lv_at hl 1 rfl) ?_
      by_cases c24_2 : o = (2 : Int32)
      · skip
        rw [if_pos c24_2] at hR
        refine lv_tableIn (tgt := 96) hx hb dX6_ofSameOperands_24 (by rw [c24_2]; decide) (by rw [c24_2]; decide) (by rw [c24_2] <;> rfl) (by decide) ?_
        refine lv_iload_n hx hb dX6_ofSameOperands_96 rfl (lv_at hl 2 rfl) ?_
        exact W.iret (v := a1) hx hb hr (fun t ht hW => ⟨⟨_, _, rfl, hR, by rw [ht]; exact hP, va_K.moved hW.alike hK, hD⟩, hS.F ht⟩) hS.2.2 dX6_ofSameOperands_97
      · skip
        rw [if_neg c24_2] at hR
        by_cases c24_3 : o = (3 : Int32)
        · skip
          rw [if_pos c24_3] at hR
          refine lv_tableIn (tgt := 96) hx hb dX6_ofSameOperands_24 (by rw [c24_3]; decide) (by rw [c24_3]; decide) (by rw [c24_3] <;> rfl) (by decide) ?_
          refine lv_iload_n hx hb dX6_ofSameOperands_96 rfl (lv_at hl 2 rfl) ?_
          exact W.iret (v := a1) hx hb hr (fun t ht hW => ⟨⟨_, _, rfl, hR, by rw [ht]; exact hP, va_K.moved hW.alike hK, hD⟩, hS.F ht⟩) hS.2.2 dX6_ofSameOperands_97
        · skip
          rw [if_neg c24_3] at hR
          by_cases c24_4 : o = (4 : Int32)
          · skip
            rw [if_pos c24_4] at hR
            refine lv_tableIn (tgt := 98) hx hb dX6_ofSameOperands_24 (by rw [c24_4]; decide) (by rw [c24_4]; decide) (by rw [c24_4] <;> rfl) (by decide) ?_
            refine lv_aload_n hx hb dX6_ofSameOperands_98 rfl (lv_at hl 0 rfl) ?_
            refine va_get (D := (dC, dI)) (ci := 4) (v := .ref (a 7)) (C := RX6) (T := TX6) (N := 2) hx hb hta inX6 hown hK hP 16 (xr_16 a k st) rfl 0 (by decide) hf9 (fun _ h9 => h9) rfl dX6_ofSameOperands_99 ?_
            refine lv_aload_n hx hb dX6_ofSameOperands_102 rfl (lv_at hl 0 rfl) ?_
            refine va_get (D := (dC, dI)) (ci := 4) (v := .ref (a 7)) (C := RX6) (T := TX6) (N := 2) hx hb hta inX6 hown hK hP 16 (xr_16 a k st) rfl 0 (by decide) hf9 (fun _ h9 => h9) rfl dX6_ofSameOperands_103 ?_
            refine lv_iload_n hx hb dX6_ofSameOperands_106 rfl (lv_at hl 2 rfl) ?_
            refine wl_ci (va_runV (As := [.int a1]) (rest := [.ref (a 7)]) ⟨hx, hb, hml, hown, hta⟩ (kx_Terms_widthOf l dC dI a k st a1 hA) (cwV 1 hta gX6_25 rfl rfl rfl (by decide +kernel) ⟨Nat.le_of_ble_eq_true rfl, Nat.le_of_ble_eq_true rfl⟩) (wl_pR (C := RX4) (ci := 2) (q0 := 7) hK hP rfl (xr_7 a k st)) rfl rfl hl.1 rfl (lv_room (Nat.le_of_ble_eq_true rfl)) dX6_ofSameOperands_107 ⟨Nat.zero_le _, Nat.zero_le _⟩) ?_
            refine lv_lconst (v := (0 : Int64)) hx hb dX6_ofSameOperands_110 (by decide) ?_
            refine wl_mi (va_runV (As := [.int (fx_Terms_widthOf st a1), .long (0 : Int64)]) (rest := []) ⟨hx, hb, hml, hown, hta⟩ (kx_Terms_findOrAddConstant l dC dI a k st (fx_Terms_widthOf st a1) (0 : Int64) _ N hN h64) (cwV 2 hta gX6_66 rfl rfl rfl (by decide +kernel) ⟨Nat.le_of_ble_eq_true rfl, Nat.le_of_ble_eq_true rfl⟩) (wl_pM (C := RX4) (ci := 2) (q0 := 7) hK hP hD rfl (xr_7 a k st)) rfl rfl hl.1 rfl (lv_room (Nat.le_of_ble_eq_true rfl)) dX6_ofSameOperands_111 ⟨Nat.zero_le _, Nat.zero_le _⟩) hP hD hS hAz (fun r111 u111 H locs hw111 hP hD hS => ?_)
            have v111 : (fx_Terms_findOrAddConstant st (fx_Terms_widthOf st a1) (0 : Int64)).1 = r111 := congrArg Prod.fst hw111.symm
            have w111 : (fx_Terms_findOrAddConstant st (fx_Terms_widthOf st a1) (0 : Int64)).2 = u111 := congrArg Prod.snd hw111.symm
            have hf111 : XF [6] [3, 4] [1] st u111 := by rw [← w111]; exact ff_Terms_findOrAddConstant st (fx_Terms_widthOf st a1) (0 : Int64)
            try rw [v111] at hR
            try rw [w111] at hR
            exact W.iret (v := r111) hx hb hr (fun t ht hW => ⟨⟨_, _, rfl, hR, by rw [ht]; exact hP, va_K.moved hW.alike hK, hD⟩, hS.F ht⟩) hS.2.2 dX6_ofSameOperands_114
          · skip
            rw [if_neg c24_4] at hR
            by_cases c24_6 : o = (6 : Int32)
            · skip
              rw [if_pos c24_6] at hR
              refine lv_tableIn (tgt := 98) hx hb dX6_ofSameOperands_24 (by rw [c24_6]; decide) (by rw [c24_6]; decide) (by rw [c24_6] <;> rfl) (by decide) ?_
              refine lv_aload_n hx hb dX6_ofSameOperands_98 rfl (lv_at hl 0 rfl) ?_
              refine va_get (D := (dC, dI)) (ci := 4) (v := .ref (a 7)) (C := RX6) (T := TX6) (N := 2) hx hb hta inX6 hown hK hP 16 (xr_16 a k st) rfl 0 (by decide) hf9 (fun _ h9 => h9) rfl dX6_ofSameOperands_99 ?_
              refine lv_aload_n hx hb dX6_ofSameOperands_102 rfl (lv_at hl 0 rfl) ?_
              refine va_get (D := (dC, dI)) (ci := 4) (v := .ref (a 7)) (C := RX6) (T := TX6) (N := 2) hx hb hta inX6 hown hK hP 16 (xr_16 a k st) rfl 0 (by decide) hf9 (fun _ h9 => h9) rfl dX6_ofSameOperands_103 ?_
              refine lv_iload_n hx hb dX6_ofSameOperands_106 rfl (lv_at hl 2 rfl) ?_
              refine wl_ci (va_runV (As := [.int a1]) (rest := [.ref (a 7)]) ⟨hx, hb, hml, hown, hta⟩ (kx_Terms_widthOf l dC dI a k st a1 hA) (cwV 1 hta gX6_25 rfl rfl rfl (by decide +kernel) ⟨Nat.le_of_ble_eq_true rfl, Nat.le_of_ble_eq_true rfl⟩) (wl_pR (C := RX4) (ci := 2) (q0 := 7) hK hP rfl (xr_7 a k st)) rfl rfl hl.1 rfl (lv_room (Nat.le_of_ble_eq_true rfl)) dX6_ofSameOperands_107 ⟨Nat.zero_le _, Nat.zero_le _⟩) ?_
              refine lv_lconst (v := (0 : Int64)) hx hb dX6_ofSameOperands_110 (by decide) ?_
              refine wl_mi (va_runV (As := [.int (fx_Terms_widthOf st a1), .long (0 : Int64)]) (rest := []) ⟨hx, hb, hml, hown, hta⟩ (kx_Terms_findOrAddConstant l dC dI a k st (fx_Terms_widthOf st a1) (0 : Int64) _ N hN h64) (cwV 2 hta gX6_66 rfl rfl rfl (by decide +kernel) ⟨Nat.le_of_ble_eq_true rfl, Nat.le_of_ble_eq_true rfl⟩) (wl_pM (C := RX4) (ci := 2) (q0 := 7) hK hP hD rfl (xr_7 a k st)) rfl rfl hl.1 rfl (lv_room (Nat.le_of_ble_eq_true rfl)) dX6_ofSameOperands_111 ⟨Nat.zero_le _, Nat.zero_le _⟩) hP hD hS hAz (fun r111 u111 H locs hw111 hP hD hS => ?_)
              have v111 : (fx_Terms_findOrAddConstant st (fx_Terms_widthOf st a1) (0 : Int64)).1 = r111 := congrArg Prod.fst hw111.symm
              have w111 : (fx_Terms_findOrAddConstant st (fx_Terms_widthOf st a1) (0 : Int64)).2 = u111 := congrArg Prod.snd hw111.symm
              have hf111 : XF [6] [3, 4] [1] st u111 := by rw [← w111]; exact ff_Terms_findOrAddConstant st (fx_Terms_widthOf st a1) (0 : Int64)
              try rw [v111] at hR
              try rw [w111] at hR
              exact W.iret (v := r111) hx hb hr (fun t ht hW => ⟨⟨_, _, rfl, hR, by rw [ht]; exact hP, va_K.moved hW.alike hK, hD⟩, hS.F ht⟩) hS.2.2 dX6_ofSameOperands_114
            · skip
              rw [if_neg c24_6] at hR
              by_cases c24_13 : o = (13 : Int32)
              · skip
                rw [if_pos c24_13] at hR
                refine lv_tableIn (tgt := 115) hx hb dX6_ofSameOperands_24 (by rw [c24_13]; decide) (by rw [c24_13]; decide) (by rw [c24_13] <;> rfl) (by decide) ?_
                refine lv_aload_n hx hb dX6_ofSameOperands_115 rfl (lv_at hl 0 rfl) ?_
                refine va_get (D := (dC, dI)) (ci := 4) (v := .ref (a 7)) (C := RX6) (T := TX6) (N := 2) hx hb hta inX6 hown hK hP 16 (xr_16 a k st) rfl 0 (by decide) hf9 (fun _ h9 => h9) rfl dX6_ofSameOperands_116 ?_
                refine lv_iconst (v := (1 : Int32)) hx hb dX6_ofSameOperands_119 (by decide) ?_
                refine lv_lconst (v := (1 : Int64)) hx hb dX6_ofSameOperands_120 (by decide) ?_
                refine wl_mi (va_runV (As := [.int (1 : Int32), .long (1 : Int64)]) (rest := []) ⟨hx, hb, hml, hown, hta⟩ (kx_Terms_findOrAddConstant l dC dI a k st (1 : Int32) (1 : Int64) _ N hN h64) (cwV 2 hta gX6_66 rfl rfl rfl (by decide +kernel) ⟨Nat.le_of_ble_eq_true rfl, Nat.le_of_ble_eq_true rfl⟩) (wl_pM (C := RX4) (ci := 2) (q0 := 7) hK hP hD rfl (xr_7 a k st)) rfl rfl hl.1 rfl (lv_room (Nat.le_of_ble_eq_true rfl)) dX6_ofSameOperands_121 ⟨Nat.zero_le _, Nat.zero_le _⟩) hP hD hS hAz (fun r121 u121 H locs hw121 hP hD hS => ?_)
                have v121 : (fx_Terms_findOrAddConstant st (1 : Int32) (1 : Int64)).1 = r121 := congrArg Prod.fst hw121.symm
                have w121 : (fx_Terms_findOrAddConstant st (1 : Int32) (1 : Int64)).2 = u121 := congrArg Prod.snd hw121.symm
                have hf121 : XF [6] [3, 4] [1] st u121 := by rw [← w121]; exact ff_Terms_findOrAddConstant st (1 : Int32) (1 : Int64)
                try rw [v121] at hR
                try rw [w121] at hR
                exact W.iret (v := r121) hx hb hr (fun t ht hW => ⟨⟨_, _, rfl, hR, by rw [ht]; exact hP, va_K.moved hW.alike hK, hD⟩, hS.F ht⟩) hS.2.2 dX6_ofSameOperands_124
              · skip
                rw [if_neg c24_13] at hR
                by_cases c24_14 : o = (14 : Int32)
                · skip
                  rw [if_pos c24_14] at hR
                  refine lv_tableIn (tgt := 125) hx hb dX6_ofSameOperands_24 (by rw [c24_14]; decide) (by rw [c24_14]; decide) (by rw [c24_14] <;> rfl) (by decide) ?_
                  refine lv_aload_n hx hb dX6_ofSameOperands_125 rfl (lv_at hl 0 rfl) ?_
                  refine va_get (D := (dC, dI)) (ci := 4) (v := .ref (a 7)) (C := RX6) (T := TX6) (N := 2) hx hb hta inX6 hown hK hP 16 (xr_16 a k st) rfl 0 (by decide) hf9 (fun _ h9 => h9) rfl dX6_ofSameOperands_126 ?_
                  refine lv_iconst (v := (1 : Int32)) hx hb dX6_ofSameOperands_129 (by decide) ?_
                  refine lv_lconst (v := (0 : Int64)) hx hb dX6_ofSameOperands_130 (by decide) ?_
                  refine wl_mi (va_runV (As := [.int (1 : Int32), .long (0 : Int64)]) (rest := []) ⟨hx, hb, hml, hown, hta⟩ (kx_Terms_findOrAddConstant l dC dI a k st (1 : Int32) (0 : Int64) _ N hN h64) (cwV 2 hta gX6_66 rfl rfl rfl (by decide +kernel) ⟨Nat.le_of_ble_eq_true rfl, Nat.le_of_ble_eq_true rfl⟩) (wl_pM (C := RX4) (ci := 2) (q0 := 7) hK hP hD rfl (xr_7 a k st)) rfl rfl hl.1 rfl (lv_room (Nat.le_of_ble_eq_true rfl)) dX6_ofSameOperands_131 ⟨Nat.zero_le _, Nat.zero_le _⟩) hP hD hS hAz (fun r131 u131 H locs hw131 hP hD hS => ?_)
                  have v131 : (fx_Terms_findOrAddConstant st (1 : Int32) (0 : Int64)).1 = r131 := congrArg Prod.fst hw131.symm
                  have w131 : (fx_Terms_findOrAddConstant st (1 : Int32) (0 : Int64)).2 = u131 := congrArg Prod.snd hw131.symm
                  have hf131 : XF [6] [3, 4] [1] st u131 := by rw [← w131]; exact ff_Terms_findOrAddConstant st (1 : Int32) (0 : Int64)
                  try rw [v131] at hR
                  try rw [w131] at hR
                  exact W.iret (v := r131) hx hb hr (fun t ht hW => ⟨⟨_, _, rfl, hR, by rw [ht]; exact hP, va_K.moved hW.alike hK, hD⟩, hS.F ht⟩) hS.2.2 dX6_ofSameOperands_134
                · skip
                  rw [if_neg c24_14] at hR
                  by_cases c24_15 : o = (15 : Int32)
                  · skip
                    rw [if_pos c24_15] at hR
                    refine lv_tableIn (tgt := 125) hx hb dX6_ofSameOperands_24 (by rw [c24_15]; decide) (by rw [c24_15]; decide) (by rw [c24_15] <;> rfl) (by decide) ?_
                    refine lv_aload_n hx hb dX6_ofSameOperands_125 rfl (lv_at hl 0 rfl) ?_
                    refine va_get (D := (dC, dI)) (ci := 4) (v := .ref (a 7)) (C := RX6) (T := TX6) (N := 2) hx hb hta inX6 hown hK hP 16 (xr_16 a k st) rfl 0 (by decide) hf9 (fun _ h9 => h9) rfl dX6_ofSameOperands_126 ?_
                    refine lv_iconst (v := (1 : Int32)) hx hb dX6_ofSameOperands_129 (by decide) ?_
                    refine lv_lconst (v := (0 : Int64)) hx hb dX6_ofSameOperands_130 (by decide) ?_
                    refine wl_mi (va_runV (As := [.int (1 : Int32), .long (0 : Int64)]) (rest := []) ⟨hx, hb, hml, hown, hta⟩ (kx_Terms_findOrAddConstant l dC dI a k st (1 : Int32) (0 : Int64) _ N hN h64) (cwV 2 hta gX6_66 rfl rfl rfl (by decide +kernel) ⟨Nat.le_of_ble_eq_true rfl, Nat.le_of_ble_eq_true rfl⟩) (wl_pM (C := RX4) (ci := 2) (q0 := 7) hK hP hD rfl (xr_7 a k st)) rfl rfl hl.1 rfl (lv_room (Nat.le_of_ble_eq_true rfl)) dX6_ofSameOperands_131 ⟨Nat.zero_le _, Nat.zero_le _⟩) hP hD hS hAz (fun r131 u131 H locs hw131 hP hD hS => ?_)
                    have v131 : (fx_Terms_findOrAddConstant st (1 : Int32) (0 : Int64)).1 = r131 := congrArg Prod.fst hw131.symm
                    have w131 : (fx_Terms_findOrAddConstant st (1 : Int32) (0 : Int64)).2 = u131 := congrArg Prod.snd hw131.symm
                    have hf131 : XF [6] [3, 4] [1] st u131 := by rw [← w131]; exact ff_Terms_findOrAddConstant st (1 : Int32) (0 : Int64)
                    try rw [v131] at hR
                    try rw [w131] at hR
                    exact W.iret (v := r131) hx hb hr (fun t ht hW => ⟨⟨_, _, rfl, hR, by rw [ht]; exact hP, va_K.moved hW.alike hK, hD⟩, hS.F ht⟩) hS.2.2 dX6_ofSameOperands_134
                  · skip
                    rw [if_neg c24_15] at hR
                    have t24_2 := lv_neT (a := 2) c24_2 (by decide)
                    have t24_3 := lv_neT (a := 3) c24_3 (by decide)
                    have t24_4 := lv_neT (a := 4) c24_4 (by decide)
                    have t24_6 := lv_neT (a := 6) c24_6 (by decide)
                    have t24_13 := lv_neT (a := 13) c24_13 (by decide)
                    have t24_14 := lv_neT (a := 14) c24_14 (by decide)
                    have t24_15 := lv_neT (a := 15) c24_15 (by decide)
                    refine wl_tabD (tgt := 135) (ks := [2, 3, 4, 6, 13, 14, 15]) hx hb dX6_ofSameOperands_24 (by decide) (by decide +kernel) (by intro k hk; simp only [List.mem_cons, List.not_mem_nil, or_false] at hk; rcases hk with rfl | rfl | rfl | rfl | rfl | rfl | rfl <;> assumption) (by decide) ?_
                    refine lv_bipush (v := (-3 : Int32)) hx hb dX6_ofSameOperands_135 (by decide) ?_
                    exact W.iret (v := (-3 : Int32)) hx hb hr (fun t ht hW => ⟨⟨_, _, rfl, hR, by rw [ht]; exact hP, va_K.moved hW.alike hK, hD⟩, hS.F ht⟩) hS.2.2 dX6_ofSameOperands_137
    · skip
      rw [if_neg c17] at hR
      refine lv_bipush (v := (-3 : Int32)) hx hb dX6_ofSameOperands_20 (by decide) ?_
      exact W.iret (v := (-3 : Int32)) hx hb hr (fun t ht hW => ⟨⟨_, _, rfl, hR, by rw [ht]; exact hP, va_K.moved hW.alike hK, hD⟩, hS.F ht⟩) hS.2.2 dX6_ofSameOperands_22
  · skip
    rw [if_pos c3] at hR
    refine lv_aload_n hx hb dX6_ofSameOperands_6 rfl (lv_at hl 0 rfl) ?_
    refine lv_iload_n hx hb dX6_ofSameOperands_7 rfl (lv_at hl 2 rfl) ?_
    refine lv_iload_n hx hb dX6_ofSameOperands_8 rfl (lv_at hl 3 rfl) ?_
    refine lv_iload hx hb dX6_ofSameOperands_9 (lv_at hl 4 rfl) ?_
    refine wl_ci (va_runV (As := [.int a1, .int b1, .int c1]) (rest := []) ⟨hx, hb, hml, hown, hta⟩ (kx_Maker_ofSettledChoice l dC dI a k st a1 b1 c1 hA) (cwV 3 hta gX6_96 rfl rfl rfl (by decide +kernel) ⟨Nat.le_of_ble_eq_true rfl, Nat.le_of_ble_eq_true rfl⟩) (wl_pR (C := RX6) (ci := 4) (q0 := 16) hK hP rfl (xr_16 a k st)) rfl rfl hl.1 rfl (lv_room (Nat.le_of_ble_eq_true rfl)) dX6_ofSameOperands_11 ⟨Nat.zero_le _, Nat.zero_le _⟩) ?_
    exact W.iret (v := fx_Maker_ofSettledChoice st a1 b1 c1) hx hb hr (fun t ht hW => ⟨⟨_, _, rfl, hR, by rw [ht]; exact hP, va_K.moved hW.alike hK, hD⟩, hS.F ht⟩) hS.2.2 dX6_ofSameOperands_14

theorem wl_soN {st : XS} {N : Nat} {o a1 b1 c1 : Int32} (hN : gI st 6 = nI N) (h64 : N ≤ 64) : ∃ N2 : Nat, gI (fx_Maker_ofSameOperands st o a1 b1 c1).2 6 = nI N2 ∧ N2 ≤ 64 := by
  have ret : ∀ r : Int32, ∃ N2 : Nat, gI ((r, st) : Int32 × XS).2 6 = nI N2 ∧ N2 ≤ 64 := fun r => ⟨N, hN, h64⟩
  have foc : ∀ (w : Int32) (x : Int64), ∃ N2 : Nat, gI (((fx_Terms_findOrAddConstant st w x).1, (fx_Terms_findOrAddConstant st w x).2) : Int32 × XS).2 6 = nI N2 ∧ N2 ≤ 64 := fun w x => wl_focN w x hN h64
  rw [fx_Maker_ofSameOperands]
  (repeat' split) <;> first | exact ret _ | exact foc _ _
theorem wl_in0 : vp_in (0 : Int32) 64 := wl_in (j := 0) (by decide) (by decide)
theorem wl_in02 : vp_in (0 : Int32) 2 := wl_in (j := 0) (by decide) (by decide)
theorem wl_nl {x y : Int32} (h : ¬ x < y) : y ≤ x := Int32.not_lt.mp h
theorem wl_ln {x y : Int32} (h : y ≤ x) : ¬ x < y := Int32.not_lt.mpr h
theorem wl_hv2 {st : XS} {o a b c : Int32} {P : Prop} (hV9 : o = 8 ∨ o = 9 → ¬ fx_Terms_isConstant st b = 0 → P) (c46 : ¬ fx_Maker_areConstants st (fx_Op_namedTerms o) a b c = 0) (h : o = 8 ∨ o = 9) : P := by
  refine hV9 h (fun hb => c46 ?_)
  rw [fx_Maker_areConstants]
  have h2 : ¬ fx_Op_namedTerms o < (2 : Int32) := by rcases h with h | h <;> (rw [h]; decide)
  by_cases c8 : fx_Terms_isConstant st a = (0 : Int32)
  · rw [if_pos c8]
  · rw [if_neg c8, if_neg h2, if_pos hb]
theorem wl_chp {o : Int32} (h : ¬ fx_Op_changesPlaces o = 0) (h0 : ¬ o < 0) (h20 : ¬ (20 : Int32) < o) : ¬ fx_Op_namedTerms o < (2 : Int32) := by
  have key : ∀ k, k < 21 → ¬ fx_Op_changesPlaces (nI k) = 0 → ¬ fx_Op_namedTerms (nI k) < (2 : Int32) := by decide +kernel
  obtain ⟨k, hk, rfl⟩ := nI_of2 (x := o) (M := 20) (n := 20) (by decide) h0 (Int32.not_lt.mp h20)
  exact key k (by omega) h
theorem wl_bz {o : Int32} (h : o = 2 ∨ o = 3 ∨ o = 4 ∨ o = 5 ∨ o = 6 ∨ o = 7 ∨ o = 10 ∨ o = 11 ∨ o = 12) : ¬ fx_Op_namedTerms o < (2 : Int32) := by
  rcases h with h | h | h | h | h | h | h | h | h <;> (rw [h]; decide)
theorem wl_nb2 {o : Int32} (h0 : ¬ o < 0) (h20 : ¬ (20 : Int32) < o) (h : ¬ (o = 0 ∨ o = 1 ∨ o = 17 ∨ o = 18 ∨ o = 19 ∨ o = 20)) : ¬ fx_Op_namedTerms o < (2 : Int32) := by
  have key : ∀ k, k < 21 → ¬ (nI k = 0 ∨ nI k = 1 ∨ nI k = 17 ∨ nI k = 18 ∨ nI k = 19 ∨ nI k = 20) → ¬ fx_Op_namedTerms (nI k) < (2 : Int32) := by decide +kernel
  obtain ⟨k, hk, rfl⟩ := nI_of2 (x := o) (M := 20) (n := 20) (by decide) h0 (Int32.not_lt.mp h20)
  exact key k (by omega) h

theorem dX6_ofZero_0 : decode cX6_ofZero 0 = .ok (.iload_n 1, 1) := by decide +kernel
theorem dX6_ofZero_1 : decode cX6_ofZero 1 = .ok (.tableswitch 139 2 12 #[90, 59, 59, 59, 121, 90, 139, 139, 121, 121, 121], 59) := by decide +kernel
theorem dX6_ofZero_60 : decode cX6_ofZero 60 = .ok (.aload_n 0, 1) := by decide +kernel
theorem dX6_ofZero_61 : decode cX6_ofZero 61 = .ok (.getfield 9, 3) := by decide +kernel
theorem dX6_ofZero_64 : decode cX6_ofZero 64 = .ok (.iload_n 2, 1) := by decide +kernel
theorem dX6_ofZero_65 : decode cX6_ofZero 65 = .ok (.invokevirtual 99, 3) := by decide +kernel
theorem dX6_ofZero_68 : decode cX6_ofZero 68 = .ok (.ifCond .eq 5, 3) := by decide +kernel
theorem dX6_ofZero_71 : decode cX6_ofZero 71 = .ok (.iload_n 3, 1) := by decide +kernel
theorem dX6_ofZero_72 : decode cX6_ofZero 72 = .ok (.ireturn, 1) := by decide +kernel
theorem dX6_ofZero_73 : decode cX6_ofZero 73 = .ok (.aload_n 0, 1) := by decide +kernel
theorem dX6_ofZero_74 : decode cX6_ofZero 74 = .ok (.getfield 9, 3) := by decide +kernel
theorem dX6_ofZero_77 : decode cX6_ofZero 77 = .ok (.iload_n 3, 1) := by decide +kernel
theorem dX6_ofZero_78 : decode cX6_ofZero 78 = .ok (.invokevirtual 99, 3) := by decide +kernel
theorem dX6_ofZero_81 : decode cX6_ofZero 81 = .ok (.ifCond .eq 7, 3) := by decide +kernel
theorem dX6_ofZero_84 : decode cX6_ofZero 84 = .ok (.iload_n 2, 1) := by decide +kernel
theorem dX6_ofZero_85 : decode cX6_ofZero 85 = .ok (.goto 5, 3) := by decide +kernel
theorem dX6_ofZero_88 : decode cX6_ofZero 88 = .ok (.bipush (-3), 2) := by decide +kernel
theorem dX6_ofZero_90 : decode cX6_ofZero 90 = .ok (.ireturn, 1) := by decide +kernel
theorem dX6_ofZero_91 : decode cX6_ofZero 91 = .ok (.aload_n 0, 1) := by decide +kernel
theorem dX6_ofZero_92 : decode cX6_ofZero 92 = .ok (.getfield 9, 3) := by decide +kernel
theorem dX6_ofZero_95 : decode cX6_ofZero 95 = .ok (.iload_n 2, 1) := by decide +kernel
theorem dX6_ofZero_96 : decode cX6_ofZero 96 = .ok (.invokevirtual 99, 3) := by decide +kernel
theorem dX6_ofZero_99 : decode cX6_ofZero 99 = .ok (.ifCond .eq 5, 3) := by decide +kernel
theorem dX6_ofZero_102 : decode cX6_ofZero 102 = .ok (.iload_n 2, 1) := by decide +kernel
theorem dX6_ofZero_103 : decode cX6_ofZero 103 = .ok (.ireturn, 1) := by decide +kernel
theorem dX6_ofZero_104 : decode cX6_ofZero 104 = .ok (.aload_n 0, 1) := by decide +kernel
theorem dX6_ofZero_105 : decode cX6_ofZero 105 = .ok (.getfield 9, 3) := by decide +kernel
theorem dX6_ofZero_108 : decode cX6_ofZero 108 = .ok (.iload_n 3, 1) := by decide +kernel
theorem dX6_ofZero_109 : decode cX6_ofZero 109 = .ok (.invokevirtual 99, 3) := by decide +kernel
theorem dX6_ofZero_112 : decode cX6_ofZero 112 = .ok (.ifCond .eq 7, 3) := by decide +kernel
theorem dX6_ofZero_115 : decode cX6_ofZero 115 = .ok (.iload_n 3, 1) := by decide +kernel
theorem dX6_ofZero_116 : decode cX6_ofZero 116 = .ok (.goto 5, 3) := by decide +kernel
theorem dX6_ofZero_119 : decode cX6_ofZero 119 = .ok (.bipush (-3), 2) := by decide +kernel
theorem dX6_ofZero_121 : decode cX6_ofZero 121 = .ok (.ireturn, 1) := by decide +kernel
theorem dX6_ofZero_122 : decode cX6_ofZero 122 = .ok (.aload_n 0, 1) := by decide +kernel
theorem dX6_ofZero_123 : decode cX6_ofZero 123 = .ok (.getfield 9, 3) := by decide +kernel
theorem dX6_ofZero_126 : decode cX6_ofZero 126 = .ok (.iload_n 3, 1) := by decide +kernel
theorem dX6_ofZero_127 : decode cX6_ofZero 127 = .ok (.invokevirtual 99, 3) := by decide +kernel
theorem dX6_ofZero_130 : decode cX6_ofZero 130 = .ok (.ifCond .eq 7, 3) := by decide +kernel
theorem dX6_ofZero_133 : decode cX6_ofZero 133 = .ok (.iload_n 2, 1) := by decide +kernel
theorem dX6_ofZero_134 : decode cX6_ofZero 134 = .ok (.goto 5, 3) := by decide +kernel
theorem dX6_ofZero_137 : decode cX6_ofZero 137 = .ok (.bipush (-3), 2) := by decide +kernel
theorem dX6_ofZero_139 : decode cX6_ofZero 139 = .ok (.ireturn, 1) := by decide +kernel
theorem dX6_ofZero_140 : decode cX6_ofZero 140 = .ok (.bipush (-3), 2) := by decide +kernel
theorem dX6_ofZero_142 : decode cX6_ofZero 142 = .ok (.ireturn, 1) := by decide +kernel
def fx_Maker_ofZero (st : XS) (o : Int32) (a1 : Int32) (b1 : Int32) : Int32 := 
  if o = (2 : Int32) then 
    if fx_Terms_isZero st a1 = (0 : Int32) then 
      if fx_Terms_isZero st b1 = (0 : Int32) then (-3 : Int32)
      else b1
    else a1
  else 
    if o = (3 : Int32) then 
      if fx_Terms_isZero st a1 = (0 : Int32) then 
        if fx_Terms_isZero st b1 = (0 : Int32) then (-3 : Int32)
        else a1
      else b1
    else 
      if o = (4 : Int32) then 
        if fx_Terms_isZero st a1 = (0 : Int32) then 
          if fx_Terms_isZero st b1 = (0 : Int32) then (-3 : Int32)
          else a1
        else b1
      else 
        if o = (5 : Int32) then 
          if fx_Terms_isZero st a1 = (0 : Int32) then 
            if fx_Terms_isZero st b1 = (0 : Int32) then (-3 : Int32)
            else a1
          else b1
        else 
          if o = (6 : Int32) then 
            if fx_Terms_isZero st b1 = (0 : Int32) then (-3 : Int32)
            else a1
          else 
            if o = (7 : Int32) then 
              if fx_Terms_isZero st a1 = (0 : Int32) then 
                if fx_Terms_isZero st b1 = (0 : Int32) then (-3 : Int32)
                else b1
              else a1
            else 
              if o = (10 : Int32) then 
                if fx_Terms_isZero st b1 = (0 : Int32) then (-3 : Int32)
                else a1
              else 
                if o = (11 : Int32) then 
                  if fx_Terms_isZero st b1 = (0 : Int32) then (-3 : Int32)
                  else a1
                else 
                  if o = (12 : Int32) then 
                    if fx_Terms_isZero st b1 = (0 : Int32) then (-3 : Int32)
                    else a1
                  else (-3 : Int32)
set_option maxHeartbeats 4000000 in
set_option maxRecDepth 100000 in
theorem kx_Maker_ofZero (l : Launch) (dC : Nat → ClassId) (dI : Nat → Nat → Nat) (a : Nat → Nat) (k : Nat → ClassId) (st : XS) (o : Int32) (a1 : Int32) (b1 : Int32) (hA : vp_in a1 64) (hBz : (o = 2 ∨ o = 3 ∨ o = 4 ∨ o = 5 ∨ o = 6 ∨ o = 7 ∨ o = 10 ∨ o = 11 ∨ o = 12) → vp_in b1 64) : Met l yX6_ofZero wsX6_ofZero ({ frames := 2, cells := 0, slots := 0, locals := 42 }) (va_Pc [.ref (a 16), .int o, .int a1, .int b1] (wl_prR (dC, dI) vwCl (xt k) (xw a k st))) (vp_Si (fun r9 => r9 = fx_Maker_ofZero st o a1 b1)) 0 0 (fun _ => False) := by
  refine Met.ofW (cc := cX6_ofZero) (maxL := 4) (ret := (some .int)) (by decide) rfl ?_
  intro p e s m args below meth c s₁ B hml hv
  obtain ⟨rfl, hP, hK⟩ := hv
  have hx := B.exec
  have hb := B.bytes
  have hr := B.returns
  have hta := aw_hts (atoms_spec (ws := wsX6_ofZero) B.pre)
  have hown : s.vm.findClass RX6 = some m.cls := findClass_of_methodNamed B.named
  have hlocks := B.notSynchronized
  have hf9 := hta _ mw_149
  have hl := lv_entry ([.ref (a 16), .int o, .int a1, .int b1]) (n := 4) (Nat.le_of_ble_eq_true rfl)
  rw [lg_entry_eq]
  generalize (lg_sl ([.ref (a 16), .int o, .int a1, .int b1]) ++ List.replicate (4 - (lg_sl ([.ref (a 16), .int o, .int a1, .int b1])).length) Slot.unset).toArray = ls at hl ⊢
  have hl : lv_has ls 4 [(0, .ref (a 16)), (1, .int o), (2, .int a1), (3, .int b1)] := hl
  generalize hR : fx_Maker_ofZero st o a1 b1 = R
  rw [fx_Maker_ofZero] at hR
  refine lv_iload_n hx hb dX6_ofZero_0 rfl (lv_at hl 1 rfl) ?_
  by_cases c1_2 : o = (2 : Int32)
  · skip
    rw [if_pos c1_2] at hR
    refine lv_tableIn (tgt := 91) hx hb dX6_ofZero_1 (by rw [c1_2]; decide) (by rw [c1_2]; decide) (by rw [c1_2] <;> rfl) (by decide) ?_
    refine lv_aload_n hx hb dX6_ofZero_91 rfl (lv_at hl 0 rfl) ?_
    refine va_get (D := (dC, dI)) (ci := 4) (v := .ref (a 7)) (C := RX6) (T := TX6) (N := 2) hx hb hta inX6 hown hK hP 16 (xr_16 a k st) rfl 0 (by decide) hf9 (fun _ h9 => h9) rfl dX6_ofZero_92 ?_
    refine lv_iload_n hx hb dX6_ofZero_95 rfl (lv_at hl 2 rfl) ?_
    refine wl_ci (va_runV (As := [.int a1]) (rest := []) ⟨hx, hb, hml, hown, hta⟩ (kx_Terms_isZero l dC dI a k st a1 hA) (cwV 1 hta gX6_99 rfl rfl rfl (by decide +kernel) ⟨Nat.le_of_ble_eq_true rfl, Nat.le_of_ble_eq_true rfl⟩) (wl_pR (C := RX4) (ci := 2) (q0 := 7) hK hP rfl (xr_7 a k st)) rfl rfl hl.1 rfl (lv_room (Nat.le_of_ble_eq_true rfl)) dX6_ofZero_96 ⟨Nat.zero_le _, Nat.zero_le _⟩) ?_
    refine lv_if_eq (tgt := 104) hx hb dX6_ofZero_99 (by decide) (fun c99 => ?_) (fun c99 => ?_)
    · skip
      rw [if_pos c99] at hR
      refine lv_aload_n hx hb dX6_ofZero_104 rfl (lv_at hl 0 rfl) ?_
      refine va_get (D := (dC, dI)) (ci := 4) (v := .ref (a 7)) (C := RX6) (T := TX6) (N := 2) hx hb hta inX6 hown hK hP 16 (xr_16 a k st) rfl 0 (by decide) hf9 (fun _ h9 => h9) rfl dX6_ofZero_105 ?_
      refine lv_iload_n hx hb dX6_ofZero_108 rfl (lv_at hl 3 rfl) ?_
      refine wl_ci (va_runV (As := [.int b1]) (rest := []) ⟨hx, hb, hml, hown, hta⟩ (kx_Terms_isZero l dC dI a k st b1 (hBz (by first | (rw [c1_2]; decide) | (rw [c1_7]; decide)))) (cwV 1 hta gX6_99 rfl rfl rfl (by decide +kernel) ⟨Nat.le_of_ble_eq_true rfl, Nat.le_of_ble_eq_true rfl⟩) (wl_pR (C := RX4) (ci := 2) (q0 := 7) hK hP rfl (xr_7 a k st)) rfl rfl hl.1 rfl (lv_room (Nat.le_of_ble_eq_true rfl)) dX6_ofZero_109 ⟨Nat.zero_le _, Nat.zero_le _⟩) ?_
      refine lv_if_eq (tgt := 119) hx hb dX6_ofZero_112 (by decide) (fun c112 => ?_) (fun c112 => ?_)
      · skip
        rw [if_pos c112] at hR
        refine lv_bipush (v := (-3 : Int32)) hx hb dX6_ofZero_119 (by decide) ?_
        exact W.iret (v := (-3 : Int32)) hx hb hr (fun t ht hW => ⟨_, rfl, hR, ht⟩) (fun q h => by cases h) dX6_ofZero_121
      · skip
        rw [if_neg c112] at hR
        refine lv_iload_n hx hb dX6_ofZero_115 rfl (lv_at hl 3 rfl) ?_
        refine lv_goto (tgt := 121) hx hb dX6_ofZero_116 (by decide) ?_
        exact W.iret (v := b1) hx hb hr (fun t ht hW => ⟨_, rfl, hR, ht⟩) (fun q h => by cases h) dX6_ofZero_121
    · skip
      rw [if_neg c99] at hR
      refine lv_iload_n hx hb dX6_ofZero_102 rfl (lv_at hl 2 rfl) ?_
      exact W.iret (v := a1) hx hb hr (fun t ht hW => ⟨_, rfl, hR, ht⟩) (fun q h => by cases h) dX6_ofZero_103
  · skip
    rw [if_neg c1_2] at hR
    by_cases c1_3 : o = (3 : Int32)
    · skip
      rw [if_pos c1_3] at hR
      refine lv_tableIn (tgt := 60) hx hb dX6_ofZero_1 (by rw [c1_3]; decide) (by rw [c1_3]; decide) (by rw [c1_3] <;> rfl) (by decide) ?_
      refine lv_aload_n hx hb dX6_ofZero_60 rfl (lv_at hl 0 rfl) ?_
      refine va_get (D := (dC, dI)) (ci := 4) (v := .ref (a 7)) (C := RX6) (T := TX6) (N := 2) hx hb hta inX6 hown hK hP 16 (xr_16 a k st) rfl 0 (by decide) hf9 (fun _ h9 => h9) rfl dX6_ofZero_61 ?_
      refine lv_iload_n hx hb dX6_ofZero_64 rfl (lv_at hl 2 rfl) ?_
      refine wl_ci (va_runV (As := [.int a1]) (rest := []) ⟨hx, hb, hml, hown, hta⟩ (kx_Terms_isZero l dC dI a k st a1 hA) (cwV 1 hta gX6_99 rfl rfl rfl (by decide +kernel) ⟨Nat.le_of_ble_eq_true rfl, Nat.le_of_ble_eq_true rfl⟩) (wl_pR (C := RX4) (ci := 2) (q0 := 7) hK hP rfl (xr_7 a k st)) rfl rfl hl.1 rfl (lv_room (Nat.le_of_ble_eq_true rfl)) dX6_ofZero_65 ⟨Nat.zero_le _, Nat.zero_le _⟩) ?_
      refine lv_if_eq (tgt := 73) hx hb dX6_ofZero_68 (by decide) (fun c68 => ?_) (fun c68 => ?_)
      · skip
        rw [if_pos c68] at hR
        refine lv_aload_n hx hb dX6_ofZero_73 rfl (lv_at hl 0 rfl) ?_
        refine va_get (D := (dC, dI)) (ci := 4) (v := .ref (a 7)) (C := RX6) (T := TX6) (N := 2) hx hb hta inX6 hown hK hP 16 (xr_16 a k st) rfl 0 (by decide) hf9 (fun _ h9 => h9) rfl dX6_ofZero_74 ?_
        refine lv_iload_n hx hb dX6_ofZero_77 rfl (lv_at hl 3 rfl) ?_
        refine wl_ci (va_runV (As := [.int b1]) (rest := []) ⟨hx, hb, hml, hown, hta⟩ (kx_Terms_isZero l dC dI a k st b1 (hBz (by first | (rw [c1_3]; decide) | (rw [c1_4]; decide) | (rw [c1_5]; decide)))) (cwV 1 hta gX6_99 rfl rfl rfl (by decide +kernel) ⟨Nat.le_of_ble_eq_true rfl, Nat.le_of_ble_eq_true rfl⟩) (wl_pR (C := RX4) (ci := 2) (q0 := 7) hK hP rfl (xr_7 a k st)) rfl rfl hl.1 rfl (lv_room (Nat.le_of_ble_eq_true rfl)) dX6_ofZero_78 ⟨Nat.zero_le _, Nat.zero_le _⟩) ?_
        refine lv_if_eq (tgt := 88) hx hb dX6_ofZero_81 (by decide) (fun c81 => ?_) (fun c81 => ?_)
        · skip
          rw [if_pos c81] at hR
          refine lv_bipush (v := (-3 : Int32)) hx hb dX6_ofZero_88 (by decide) ?_
          exact W.iret (v := (-3 : Int32)) hx hb hr (fun t ht hW => ⟨_, rfl, hR, ht⟩) (fun q h => by cases h) dX6_ofZero_90
        · skip
          rw [if_neg c81] at hR
          refine lv_iload_n hx hb dX6_ofZero_84 rfl (lv_at hl 2 rfl) ?_
          refine lv_goto (tgt := 90) hx hb dX6_ofZero_85 (by decide) ?_
          exact W.iret (v := a1) hx hb hr (fun t ht hW => ⟨_, rfl, hR, ht⟩) (fun q h => by cases h) dX6_ofZero_90
      · skip
        rw [if_neg c68] at hR
        refine lv_iload_n hx hb dX6_ofZero_71 rfl (lv_at hl 3 rfl) ?_
        exact W.iret (v := b1) hx hb hr (fun t ht hW => ⟨_, rfl, hR, ht⟩) (fun q h => by cases h) dX6_ofZero_72
    · skip
      rw [if_neg c1_3] at hR
      by_cases c1_4 : o = (4 : Int32)
      · skip
        rw [if_pos c1_4] at hR
        refine lv_tableIn (tgt := 60) hx hb dX6_ofZero_1 (by rw [c1_4]; decide) (by rw [c1_4]; decide) (by rw [c1_4] <;> rfl) (by decide) ?_
        refine lv_aload_n hx hb dX6_ofZero_60 rfl (lv_at hl 0 rfl) ?_
        refine va_get (D := (dC, dI)) (ci := 4) (v := .ref (a 7)) (C := RX6) (T := TX6) (N := 2) hx hb hta inX6 hown hK hP 16 (xr_16 a k st) rfl 0 (by decide) hf9 (fun _ h9 => h9) rfl dX6_ofZero_61 ?_
        refine lv_iload_n hx hb dX6_ofZero_64 rfl (lv_at hl 2 rfl) ?_
        refine wl_ci (va_runV (As := [.int a1]) (rest := []) ⟨hx, hb, hml, hown, hta⟩ (kx_Terms_isZero l dC dI a k st a1 hA) (cwV 1 hta gX6_99 rfl rfl rfl (by decide +kernel) ⟨Nat.le_of_ble_eq_true rfl, Nat.le_of_ble_eq_true rfl⟩) (wl_pR (C := RX4) (ci := 2) (q0 := 7) hK hP rfl (xr_7 a k st)) rfl rfl hl.1 rfl (lv_room (Nat.le_of_ble_eq_true rfl)) dX6_ofZero_65 ⟨Nat.zero_le _, Nat.zero_le _⟩) ?_
        refine lv_if_eq (tgt := 73) hx hb dX6_ofZero_68 (by decide) (fun c68 => ?_) (fun c68 => ?_)
        · skip
          rw [if_pos c68] at hR
          refine lv_aload_n hx hb dX6_ofZero_73 rfl (lv_at hl 0 rfl) ?_
          refine va_get (D := (dC, dI)) (ci := 4) (v := .ref (a 7)) (C := RX6) (T := TX6) (N := 2) hx hb hta inX6 hown hK hP 16 (xr_16 a k st) rfl 0 (by decide) hf9 (fun _ h9 => h9) rfl dX6_ofZero_74 ?_
          refine lv_iload_n hx hb dX6_ofZero_77 rfl (lv_at hl 3 rfl) ?_
          refine wl_ci (va_runV (As := [.int b1]) (rest := []) ⟨hx, hb, hml, hown, hta⟩ (kx_Terms_isZero l dC dI a k st b1 (hBz (by first | (rw [c1_3]; decide) | (rw [c1_4]; decide) | (rw [c1_5]; decide)))) (cwV 1 hta gX6_99 rfl rfl rfl (by decide +kernel) ⟨Nat.le_of_ble_eq_true rfl, Nat.le_of_ble_eq_true rfl⟩) (wl_pR (C := RX4) (ci := 2) (q0 := 7) hK hP rfl (xr_7 a k st)) rfl rfl hl.1 rfl (lv_room (Nat.le_of_ble_eq_true rfl)) dX6_ofZero_78 ⟨Nat.zero_le _, Nat.zero_le _⟩) ?_
          refine lv_if_eq (tgt := 88) hx hb dX6_ofZero_81 (by decide) (fun c81 => ?_) (fun c81 => ?_)
          · skip
            rw [if_pos c81] at hR
            refine lv_bipush (v := (-3 : Int32)) hx hb dX6_ofZero_88 (by decide) ?_
            exact W.iret (v := (-3 : Int32)) hx hb hr (fun t ht hW => ⟨_, rfl, hR, ht⟩) (fun q h => by cases h) dX6_ofZero_90
          · skip
            rw [if_neg c81] at hR
            refine lv_iload_n hx hb dX6_ofZero_84 rfl (lv_at hl 2 rfl) ?_
            refine lv_goto (tgt := 90) hx hb dX6_ofZero_85 (by decide) ?_
            exact W.iret (v := a1) hx hb hr (fun t ht hW => ⟨_, rfl, hR, ht⟩) (fun q h => by cases h) dX6_ofZero_90
        · skip
          rw [if_neg c68] at hR
          refine lv_iload_n hx hb dX6_ofZero_71 rfl (lv_at hl 3 rfl) ?_
          exact W.iret (v := b1) hx hb hr (fun t ht hW => ⟨_, rfl, hR, ht⟩) (fun q h => by cases h) dX6_ofZero_72
      · skip
        rw [if_neg c1_4] at hR
        by_cases c1_5 : o = (5 : Int32)
        · skip
          rw [if_pos c1_5] at hR
          refine lv_tableIn (tgt := 60) hx hb dX6_ofZero_1 (by rw [c1_5]; decide) (by rw [c1_5]; decide) (by rw [c1_5] <;> rfl) (by decide) ?_
          refine lv_aload_n hx hb dX6_ofZero_60 rfl (lv_at hl 0 rfl) ?_
          refine va_get (D := (dC, dI)) (ci := 4) (v := .ref (a 7)) (C := RX6) (T := TX6) (N := 2) hx hb hta inX6 hown hK hP 16 (xr_16 a k st) rfl 0 (by decide) hf9 (fun _ h9 => h9) rfl dX6_ofZero_61 ?_
          refine lv_iload_n hx hb dX6_ofZero_64 rfl (lv_at hl 2 rfl) ?_
          refine wl_ci (va_runV (As := [.int a1]) (rest := []) ⟨hx, hb, hml, hown, hta⟩ (kx_Terms_isZero l dC dI a k st a1 hA) (cwV 1 hta gX6_99 rfl rfl rfl (by decide +kernel) ⟨Nat.le_of_ble_eq_true rfl, Nat.le_of_ble_eq_true rfl⟩) (wl_pR (C := RX4) (ci := 2) (q0 := 7) hK hP rfl (xr_7 a k st)) rfl rfl hl.1 rfl (lv_room (Nat.le_of_ble_eq_true rfl)) dX6_ofZero_65 ⟨Nat.zero_le _, Nat.zero_le _⟩) ?_
          refine lv_if_eq (tgt := 73) hx hb dX6_ofZero_68 (by decide) (fun c68 => ?_) (fun c68 => ?_)
          · skip
            rw [if_pos c68] at hR
            refine lv_aload_n hx hb dX6_ofZero_73 rfl (lv_at hl 0 rfl) ?_
            refine va_get (D := (dC, dI)) (ci := 4) (v := .ref (a 7)) (C := RX6) (T := TX6) (N := 2) hx hb hta inX6 hown hK hP 16 (xr_16 a k st) rfl 0 (by decide) hf9 (fun _ h9 => h9) rfl dX6_ofZero_74 ?_
            refine lv_iload_n hx hb dX6_ofZero_77 rfl (lv_at hl 3 rfl) ?_
            refine wl_ci (va_runV (As := [.int b1]) (rest := []) ⟨hx, hb, hml, hown, hta⟩ (kx_Terms_isZero l dC dI a k st b1 (hBz (by first | (rw [c1_3]; decide) | (rw [c1_4]; decide) | (rw [c1_5]; decide)))) (cwV 1 hta gX6_99 rfl rfl rfl (by decide +kernel) ⟨Nat.le_of_ble_eq_true rfl, Nat.le_of_ble_eq_true rfl⟩) (wl_pR (C := RX4) (ci := 2) (q0 := 7) hK hP rfl (xr_7 a k st)) rfl rfl hl.1 rfl (lv_room (Nat.le_of_ble_eq_true rfl)) dX6_ofZero_78 ⟨Nat.zero_le _, Nat.zero_le _⟩) ?_
            refine lv_if_eq (tgt := 88) hx hb dX6_ofZero_81 (by decide) (fun c81 => ?_) (fun c81 => ?_)
            · skip
              rw [if_pos c81] at hR
              refine lv_bipush (v := (-3 : Int32)) hx hb dX6_ofZero_88 (by decide) ?_
              exact W.iret (v := (-3 : Int32)) hx hb hr (fun t ht hW => ⟨_, rfl, hR, ht⟩) (fun q h => by cases h) dX6_ofZero_90
            · skip
              rw [if_neg c81] at hR
              refine lv_iload_n hx hb dX6_ofZero_84 rfl (lv_at hl 2 rfl) ?_
              refine lv_goto (tgt := 90) hx hb dX6_ofZero_85 (by decide) ?_
              exact W.iret (v := a1) hx hb hr (fun t ht hW => ⟨_, rfl, hR, ht⟩) (fun q h => by cases h) dX6_ofZero_90
          · skip
            rw [if_neg c68] at hR
            refine lv_iload_n hx hb dX6_ofZero_71 rfl (lv_at hl 3 rfl) ?_
            exact W.iret (v := b1) hx hb hr (fun t ht hW => ⟨_, rfl, hR, ht⟩) (fun q h => by cases h) dX6_ofZero_72
        · skip
          rw [if_neg c1_5] at hR
          by_cases c1_6 : o = (6 : Int32)
          · skip
            rw [if_pos c1_6] at hR
            refine lv_tableIn (tgt := 122) hx hb dX6_ofZero_1 (by rw [c1_6]; decide) (by rw [c1_6]; decide) (by rw [c1_6] <;> rfl) (by decide) ?_
            refine lv_aload_n hx hb dX6_ofZero_122 rfl (lv_at hl 0 rfl) ?_
            refine va_get (D := (dC, dI)) (ci := 4) (v := .ref (a 7)) (C := RX6) (T := TX6) (N := 2) hx hb hta inX6 hown hK hP 16 (xr_16 a k st) rfl 0 (by decide) hf9 (fun _ h9 => h9) rfl dX6_ofZero_123 ?_
            refine lv_iload_n hx hb dX6_ofZero_126 rfl (lv_at hl 3 rfl) ?_
            refine wl_ci (va_runV (As := [.int b1]) (rest := []) ⟨hx, hb, hml, hown, hta⟩ (kx_Terms_isZero l dC dI a k st b1 (hBz (by first | (rw [c1_6]; decide) | (rw [c1_10]; decide) | (rw [c1_11]; decide) | (rw [c1_12]; decide)))) (cwV 1 hta gX6_99 rfl rfl rfl (by decide +kernel) ⟨Nat.le_of_ble_eq_true rfl, Nat.le_of_ble_eq_true rfl⟩) (wl_pR (C := RX4) (ci := 2) (q0 := 7) hK hP rfl (xr_7 a k st)) rfl rfl hl.1 rfl (lv_room (Nat.le_of_ble_eq_true rfl)) dX6_ofZero_127 ⟨Nat.zero_le _, Nat.zero_le _⟩) ?_
            refine lv_if_eq (tgt := 137) hx hb dX6_ofZero_130 (by decide) (fun c130 => ?_) (fun c130 => ?_)
            · skip
              rw [if_pos c130] at hR
              refine lv_bipush (v := (-3 : Int32)) hx hb dX6_ofZero_137 (by decide) ?_
              exact W.iret (v := (-3 : Int32)) hx hb hr (fun t ht hW => ⟨_, rfl, hR, ht⟩) (fun q h => by cases h) dX6_ofZero_139
            · skip
              rw [if_neg c130] at hR
              refine lv_iload_n hx hb dX6_ofZero_133 rfl (lv_at hl 2 rfl) ?_
              refine lv_goto (tgt := 139) hx hb dX6_ofZero_134 (by decide) ?_
              exact W.iret (v := a1) hx hb hr (fun t ht hW => ⟨_, rfl, hR, ht⟩) (fun q h => by cases h) dX6_ofZero_139
          · skip
            rw [if_neg c1_6] at hR
            by_cases c1_7 : o = (7 : Int32)
            · skip
              rw [if_pos c1_7] at hR
              refine lv_tableIn (tgt := 91) hx hb dX6_ofZero_1 (by rw [c1_7]; decide) (by rw [c1_7]; decide) (by rw [c1_7] <;> rfl) (by decide) ?_
              refine lv_aload_n hx hb dX6_ofZero_91 rfl (lv_at hl 0 rfl) ?_
              refine va_get (D := (dC, dI)) (ci := 4) (v := .ref (a 7)) (C := RX6) (T := TX6) (N := 2) hx hb hta inX6 hown hK hP 16 (xr_16 a k st) rfl 0 (by decide) hf9 (fun _ h9 => h9) rfl dX6_ofZero_92 ?_
              refine lv_iload_n hx hb dX6_ofZero_95 rfl (lv_at hl 2 rfl) ?_
              refine wl_ci (va_runV (As := [.int a1]) (rest := []) ⟨hx, hb, hml, hown, hta⟩ (kx_Terms_isZero l dC dI a k st a1 hA) (cwV 1 hta gX6_99 rfl rfl rfl (by decide +kernel) ⟨Nat.le_of_ble_eq_true rfl, Nat.le_of_ble_eq_true rfl⟩) (wl_pR (C := RX4) (ci := 2) (q0 := 7) hK hP rfl (xr_7 a k st)) rfl rfl hl.1 rfl (lv_room (Nat.le_of_ble_eq_true rfl)) dX6_ofZero_96 ⟨Nat.zero_le _, Nat.zero_le _⟩) ?_
              refine lv_if_eq (tgt := 104) hx hb dX6_ofZero_99 (by decide) (fun c99 => ?_) (fun c99 => ?_)
              · skip
                rw [if_pos c99] at hR
                refine lv_aload_n hx hb dX6_ofZero_104 rfl (lv_at hl 0 rfl) ?_
                refine va_get (D := (dC, dI)) (ci := 4) (v := .ref (a 7)) (C := RX6) (T := TX6) (N := 2) hx hb hta inX6 hown hK hP 16 (xr_16 a k st) rfl 0 (by decide) hf9 (fun _ h9 => h9) rfl dX6_ofZero_105 ?_
                refine lv_iload_n hx hb dX6_ofZero_108 rfl (lv_at hl 3 rfl) ?_
                refine wl_ci (va_runV (As := [.int b1]) (rest := []) ⟨hx, hb, hml, hown, hta⟩ (kx_Terms_isZero l dC dI a k st b1 (hBz (by first | (rw [c1_2]; decide) | (rw [c1_7]; decide)))) (cwV 1 hta gX6_99 rfl rfl rfl (by decide +kernel) ⟨Nat.le_of_ble_eq_true rfl, Nat.le_of_ble_eq_true rfl⟩) (wl_pR (C := RX4) (ci := 2) (q0 := 7) hK hP rfl (xr_7 a k st)) rfl rfl hl.1 rfl (lv_room (Nat.le_of_ble_eq_true rfl)) dX6_ofZero_109 ⟨Nat.zero_le _, Nat.zero_le _⟩) ?_
                refine lv_if_eq (tgt := 119) hx hb dX6_ofZero_112 (by decide) (fun c112 => ?_) (fun c112 => ?_)
                · skip
                  rw [if_pos c112] at hR
                  refine lv_bipush (v := (-3 : Int32)) hx hb dX6_ofZero_119 (by decide) ?_
                  exact W.iret (v := (-3 : Int32)) hx hb hr (fun t ht hW => ⟨_, rfl, hR, ht⟩) (fun q h => by cases h) dX6_ofZero_121
                · skip
                  rw [if_neg c112] at hR
                  refine lv_iload_n hx hb dX6_ofZero_115 rfl (lv_at hl 3 rfl) ?_
                  refine lv_goto (tgt := 121) hx hb dX6_ofZero_116 (by decide) ?_
                  exact W.iret (v := b1) hx hb hr (fun t ht hW => ⟨_, rfl, hR, ht⟩) (fun q h => by cases h) dX6_ofZero_121
              · skip
                rw [if_neg c99] at hR
                refine lv_iload_n hx hb dX6_ofZero_102 rfl (lv_at hl 2 rfl) ?_
                exact W.iret (v := a1) hx hb hr (fun t ht hW => ⟨_, rfl, hR, ht⟩) (fun q h => by cases h) dX6_ofZero_103
            · skip
              rw [if_neg c1_7] at hR
              by_cases c1_10 : o = (10 : Int32)
              · skip
                rw [if_pos c1_10] at hR
                refine lv_tableIn (tgt := 122) hx hb dX6_ofZero_1 (by rw [c1_10]; decide) (by rw [c1_10]; decide) (by rw [c1_10] <;> rfl) (by decide) ?_
                refine lv_aload_n hx hb dX6_ofZero_122 rfl (lv_at hl 0 rfl) ?_
                refine va_get (D := (dC, dI)) (ci := 4) (v := .ref (a 7)) (C := RX6) (T := TX6) (N := 2) hx hb hta inX6 hown hK hP 16 (xr_16 a k st) rfl 0 (by decide) hf9 (fun _ h9 => h9) rfl dX6_ofZero_123 ?_
                refine lv_iload_n hx hb dX6_ofZero_126 rfl (lv_at hl 3 rfl) ?_
                refine wl_ci (va_runV (As := [.int b1]) (rest := []) ⟨hx, hb, hml, hown, hta⟩ (kx_Terms_isZero l dC dI a k st b1 (hBz (by first | (rw [c1_6]; decide) | (rw [c1_10]; decide) | (rw [c1_11]; decide) | (rw [c1_12]; decide)))) (cwV 1 hta gX6_99 rfl rfl rfl (by decide +kernel) ⟨Nat.le_of_ble_eq_true rfl, Nat.le_of_ble_eq_true rfl⟩) (wl_pR (C := RX4) (ci := 2) (q0 := 7) hK hP rfl (xr_7 a k st)) rfl rfl hl.1 rfl (lv_room (Nat.le_of_ble_eq_true rfl)) dX6_ofZero_127 ⟨Nat.zero_le _, Nat.zero_le _⟩) ?_
                refine lv_if_eq (tgt := 137) hx hb dX6_ofZero_130 (by decide) (fun c130 => ?_) (fun c130 => ?_)
                · skip
                  rw [if_pos c130] at hR
                  refine lv_bipush (v := (-3 : Int32)) hx hb dX6_ofZero_137 (by decide) ?_
                  exact W.iret (v := (-3 : Int32)) hx hb hr (fun t ht hW => ⟨_, rfl, hR, ht⟩) (fun q h => by cases h) dX6_ofZero_139
                · skip
                  rw [if_neg c130] at hR
                  refine lv_iload_n hx hb dX6_ofZero_133 rfl (lv_at hl 2 rfl) ?_
                  refine lv_goto (tgt := 139) hx hb dX6_ofZero_134 (by decide) ?_
                  exact W.iret (v := a1) hx hb hr (fun t ht hW => ⟨_, rfl, hR, ht⟩) (fun q h => by cases h) dX6_ofZero_139
              · skip
                rw [if_neg c1_10] at hR
                by_cases c1_11 : o = (11 : Int32)
                · skip
                  rw [if_pos c1_11] at hR
                  refine lv_tableIn (tgt := 122) hx hb dX6_ofZero_1 (by rw [c1_11]; decide) (by rw [c1_11]; decide) (by rw [c1_11] <;> rfl) (by decide) ?_
                  refine lv_aload_n hx hb dX6_ofZero_122 rfl (lv_at hl 0 rfl) ?_
                  refine va_get (D := (dC, dI)) (ci := 4) (v := .ref (a 7)) (C := RX6) (T := TX6) (N := 2) hx hb hta inX6 hown hK hP 16 (xr_16 a k st) rfl 0 (by decide) hf9 (fun _ h9 => h9) rfl dX6_ofZero_123 ?_
                  refine lv_iload_n hx hb dX6_ofZero_126 rfl (lv_at hl 3 rfl) ?_
                  refine wl_ci (va_runV (As := [.int b1]) (rest := []) ⟨hx, hb, hml, hown, hta⟩ (kx_Terms_isZero l dC dI a k st b1 (hBz (by first | (rw [c1_6]; decide) | (rw [c1_10]; decide) | (rw [c1_11]; decide) | (rw [c1_12]; decide)))) (cwV 1 hta gX6_99 rfl rfl rfl (by decide +kernel) ⟨Nat.le_of_ble_eq_true rfl, Nat.le_of_ble_eq_true rfl⟩) (wl_pR (C := RX4) (ci := 2) (q0 := 7) hK hP rfl (xr_7 a k st)) rfl rfl hl.1 rfl (lv_room (Nat.le_of_ble_eq_true rfl)) dX6_ofZero_127 ⟨Nat.zero_le _, Nat.zero_le _⟩) ?_
                  refine lv_if_eq (tgt := 137) hx hb dX6_ofZero_130 (by decide) (fun c130 => ?_) (fun c130 => ?_)
                  · skip
                    rw [if_pos c130] at hR
                    refine lv_bipush (v := (-3 : Int32)) hx hb dX6_ofZero_137 (by decide) ?_
                    exact W.iret (v := (-3 : Int32)) hx hb hr (fun t ht hW => ⟨_, rfl, hR, ht⟩) (fun q h => by cases h) dX6_ofZero_139
                  · skip
                    rw [if_neg c130] at hR
                    refine lv_iload_n hx hb dX6_ofZero_133 rfl (lv_at hl 2 rfl) ?_
                    refine lv_goto (tgt := 139) hx hb dX6_ofZero_134 (by decide) ?_
                    exact W.iret (v := a1) hx hb hr (fun t ht hW => ⟨_, rfl, hR, ht⟩) (fun q h => by cases h) dX6_ofZero_139
                · skip
                  rw [if_neg c1_11] at hR
                  by_cases c1_12 : o = (12 : Int32)
                  · skip
                    rw [if_pos c1_12] at hR
                    refine lv_tableIn (tgt := 122) hx hb dX6_ofZero_1 (by rw [c1_12]; decide) (by rw [c1_12]; decide) (by rw [c1_12] <;> rfl) (by decide) ?_
                    refine lv_aload_n hx hb dX6_ofZero_122 rfl (lv_at hl 0 rfl) ?_
                    refine va_get (D := (dC, dI)) (ci := 4) (v := .ref (a 7)) (C := RX6) (T := TX6) (N := 2) hx hb hta inX6 hown hK hP 16 (xr_16 a k st) rfl 0 (by decide) hf9 (fun _ h9 => h9) rfl dX6_ofZero_123 ?_
                    refine lv_iload_n hx hb dX6_ofZero_126 rfl (lv_at hl 3 rfl) ?_
                    refine wl_ci (va_runV (As := [.int b1]) (rest := []) ⟨hx, hb, hml, hown, hta⟩ (kx_Terms_isZero l dC dI a k st b1 (hBz (by first | (rw [c1_6]; decide) | (rw [c1_10]; decide) | (rw [c1_11]; decide) | (rw [c1_12]; decide)))) (cwV 1 hta gX6_99 rfl rfl rfl (by decide +kernel) ⟨Nat.le_of_ble_eq_true rfl, Nat.le_of_ble_eq_true rfl⟩) (wl_pR (C := RX4) (ci := 2) (q0 := 7) hK hP rfl (xr_7 a k st)) rfl rfl hl.1 rfl (lv_room (Nat.le_of_ble_eq_true rfl)) dX6_ofZero_127 ⟨Nat.zero_le _, Nat.zero_le _⟩) ?_
                    refine lv_if_eq (tgt := 137) hx hb dX6_ofZero_130 (by decide) (fun c130 => ?_) (fun c130 => ?_)
                    · skip
                      rw [if_pos c130] at hR
                      refine lv_bipush (v := (-3 : Int32)) hx hb dX6_ofZero_137 (by decide) ?_
                      exact W.iret (v := (-3 : Int32)) hx hb hr (fun t ht hW => ⟨_, rfl, hR, ht⟩) (fun q h => by cases h) dX6_ofZero_139
                    · skip
                      rw [if_neg c130] at hR
                      refine lv_iload_n hx hb dX6_ofZero_133 rfl (lv_at hl 2 rfl) ?_
                      refine lv_goto (tgt := 139) hx hb dX6_ofZero_134 (by decide) ?_
                      exact W.iret (v := a1) hx hb hr (fun t ht hW => ⟨_, rfl, hR, ht⟩) (fun q h => by cases h) dX6_ofZero_139
                  · skip
                    rw [if_neg c1_12] at hR
                    have t1_2 := lv_neT (a := 2) c1_2 (by decide)
                    have t1_3 := lv_neT (a := 3) c1_3 (by decide)
                    have t1_4 := lv_neT (a := 4) c1_4 (by decide)
                    have t1_5 := lv_neT (a := 5) c1_5 (by decide)
                    have t1_6 := lv_neT (a := 6) c1_6 (by decide)
                    have t1_7 := lv_neT (a := 7) c1_7 (by decide)
                    have t1_10 := lv_neT (a := 10) c1_10 (by decide)
                    have t1_11 := lv_neT (a := 11) c1_11 (by decide)
                    have t1_12 := lv_neT (a := 12) c1_12 (by decide)
                    refine wl_tabD (tgt := 140) (ks := [2, 3, 4, 5, 6, 7, 10, 11, 12]) hx hb dX6_ofZero_1 (by decide) (by decide +kernel) (by intro k hk; simp only [List.mem_cons, List.not_mem_nil, or_false] at hk; rcases hk with rfl | rfl | rfl | rfl | rfl | rfl | rfl | rfl | rfl <;> assumption) (by decide) ?_
                    refine lv_bipush (v := (-3 : Int32)) hx hb dX6_ofZero_140 (by decide) ?_
                    exact W.iret (v := (-3 : Int32)) hx hb hr (fun t ht hW => ⟨_, rfl, hR, ht⟩) (fun q h => by cases h) dX6_ofZero_142

theorem mw_423 : (.methodLink RX6 102 yX4_operationOf : Cond) ∈ AW := List.mem_filter.mpr ⟨List.mem_of_getElem? (i := 423) (by decide +kernel), rfl⟩
theorem mw_427 : (.methodLink RX6 105 yX4_operandOf : Cond) ∈ AW := List.mem_filter.mpr ⟨List.mem_of_getElem? (i := 427) (by decide +kernel), rfl⟩
theorem gX6_102 : GoodIn AW (wsV RX6 102 RX4 yX4_operationOf wsX4_operationOf) := aw_V mw_423 mw_424 mw_425 mw_41 mw_426
theorem gX6_105 : GoodIn AW (wsV RX6 105 RX4 yX4_operandOf wsX4_operandOf) := aw_V mw_427 mw_428 mw_429 mw_41 mw_430
theorem dX6_ofUndoing_0 : decode cX6_ofUndoing 0 = .ok (.iload_n 1, 1) := by decide +kernel
theorem dX6_ofUndoing_1 : decode cX6_ofUndoing 1 = .ok (.iconst 1, 1) := by decide +kernel
theorem dX6_ofUndoing_2 : decode cX6_ofUndoing 2 = .ok (.if_icmp .gt 19, 3) := by decide +kernel
theorem dX6_ofUndoing_5 : decode cX6_ofUndoing 5 = .ok (.aload_n 0, 1) := by decide +kernel
theorem dX6_ofUndoing_6 : decode cX6_ofUndoing 6 = .ok (.getfield 9, 3) := by decide +kernel
theorem dX6_ofUndoing_9 : decode cX6_ofUndoing 9 = .ok (.iload_n 2, 1) := by decide +kernel
theorem dX6_ofUndoing_10 : decode cX6_ofUndoing 10 = .ok (.invokevirtual 102, 3) := by decide +kernel
theorem dX6_ofUndoing_13 : decode cX6_ofUndoing 13 = .ok (.iload_n 1, 1) := by decide +kernel
theorem dX6_ofUndoing_14 : decode cX6_ofUndoing 14 = .ok (.if_icmp .ne 7, 3) := by decide +kernel
theorem dX6_ofUndoing_17 : decode cX6_ofUndoing 17 = .ok (.iconst 1, 1) := by decide +kernel
theorem dX6_ofUndoing_18 : decode cX6_ofUndoing 18 = .ok (.goto 4, 3) := by decide +kernel
theorem dX6_ofUndoing_21 : decode cX6_ofUndoing 21 = .ok (.iconst 0, 1) := by decide +kernel
theorem dX6_ofUndoing_22 : decode cX6_ofUndoing 22 = .ok (.istore_n 3, 1) := by decide +kernel
theorem dX6_ofUndoing_23 : decode cX6_ofUndoing 23 = .ok (.iload_n 3, 1) := by decide +kernel
theorem dX6_ofUndoing_24 : decode cX6_ofUndoing 24 = .ok (.ifCond .eq 15, 3) := by decide +kernel
theorem dX6_ofUndoing_27 : decode cX6_ofUndoing 27 = .ok (.aload_n 0, 1) := by decide +kernel
theorem dX6_ofUndoing_28 : decode cX6_ofUndoing 28 = .ok (.getfield 9, 3) := by decide +kernel
theorem dX6_ofUndoing_31 : decode cX6_ofUndoing 31 = .ok (.iload_n 2, 1) := by decide +kernel
theorem dX6_ofUndoing_32 : decode cX6_ofUndoing 32 = .ok (.iconst 0, 1) := by decide +kernel
theorem dX6_ofUndoing_33 : decode cX6_ofUndoing 33 = .ok (.invokevirtual 105, 3) := by decide +kernel
theorem dX6_ofUndoing_36 : decode cX6_ofUndoing 36 = .ok (.goto 5, 3) := by decide +kernel
theorem dX6_ofUndoing_39 : decode cX6_ofUndoing 39 = .ok (.bipush (-3), 2) := by decide +kernel
theorem dX6_ofUndoing_41 : decode cX6_ofUndoing 41 = .ok (.ireturn, 1) := by decide +kernel
def fx_Maker_ofUndoing (st : XS) (o : Int32) (a1 : Int32) : Int32 := 
  if (1 : Int32) < o then (-3 : Int32)
  else 
    if fx_Terms_operationOf st a1 = o then fx_Terms_operandOf st a1 (0 : Int32)
    else (-3 : Int32)
set_option maxHeartbeats 4000000 in
set_option maxRecDepth 100000 in
theorem kx_Maker_ofUndoing (l : Launch) (dC : Nat → ClassId) (dI : Nat → Nat → Nat) (a : Nat → Nat) (k : Nat → ClassId) (st : XS) (o : Int32) (a1 : Int32) (hA : vp_in a1 64) : Met l yX6_ofUndoing wsX6_ofUndoing ({ frames := 1, cells := 0, slots := 0, locals := 22 }) (va_Pc [.ref (a 16), .int o, .int a1] (wl_prR (dC, dI) vwCl (xt k) (xw a k st))) (vp_Si (fun r9 => r9 = fx_Maker_ofUndoing st o a1)) 0 0 (fun _ => False) := by
  refine Met.ofW (cc := cX6_ofUndoing) (maxL := 4) (ret := (some .int)) (by decide) rfl ?_
  intro p e s m args below meth c s₁ B hml hv
  obtain ⟨rfl, hP, hK⟩ := hv
  have hx := B.exec
  have hb := B.bytes
  have hr := B.returns
  have hta := aw_hts (atoms_spec (ws := wsX6_ofUndoing) B.pre)
  have hown : s.vm.findClass RX6 = some m.cls := findClass_of_methodNamed B.named
  have hlocks := B.notSynchronized
  have hf9 := hta _ mw_149
  have hl := lv_entry ([.ref (a 16), .int o, .int a1]) (n := 4) (Nat.le_of_ble_eq_true rfl)
  rw [lg_entry_eq]
  generalize (lg_sl ([.ref (a 16), .int o, .int a1]) ++ List.replicate (4 - (lg_sl ([.ref (a 16), .int o, .int a1])).length) Slot.unset).toArray = ls at hl ⊢
  have hl : lv_has ls 4 [(0, .ref (a 16)), (1, .int o), (2, .int a1)] := hl
  generalize hR : fx_Maker_ofUndoing st o a1 = R
  rw [fx_Maker_ofUndoing] at hR
  refine lv_iload_n hx hb dX6_ofUndoing_0 rfl (lv_at hl 1 rfl) ?_
  refine lv_iconst (v := (1 : Int32)) hx hb dX6_ofUndoing_1 (by decide) ?_
  refine lv_icmp_gt (tgt := 21) hx hb dX6_ofUndoing_2 (by decide) (fun c2 => ?_) (fun c2 => ?_)
  · skip
    rw [if_pos c2] at hR
    refine lv_iconst (v := (0 : Int32)) hx hb dX6_ofUndoing_21 (by decide) ?_
    refine lv_istore_n (lv' := [(3, .int (0 : Int32)), (0, .ref (a 16)), (1, .int o), (2, .int a1)]) hx hb dX6_ofUndoing_22 rfl hl (by decide) rfl (fun ls hl => ?_)
    refine lv_iload_n hx hb dX6_ofUndoing_23 rfl (lv_at hl 0 rfl) ?_
    refine lv_if_eq (tgt := 39) hx hb dX6_ofUndoing_24 (by decide) (fun c24 => ?_) (fun c24 => ?_)
    · skip
      refine lv_bipush (v := (-3 : Int32)) hx hb dX6_ofUndoing_39 (by decide) ?_
      exact W.iret (v := (-3 : Int32)) hx hb hr (fun t ht hW => ⟨_, rfl, hR, ht⟩) (fun q h => by cases h) dX6_ofUndoing_41
    · skip
      exact absurd c24 (by decide)
  · skip
    rw [if_neg c2] at hR
    refine lv_aload_n hx hb dX6_ofUndoing_5 rfl (lv_at hl 0 rfl) ?_
    refine va_get (D := (dC, dI)) (ci := 4) (v := .ref (a 7)) (C := RX6) (T := TX6) (N := 2) hx hb hta inX6 hown hK hP 16 (xr_16 a k st) rfl 0 (by decide) hf9 (fun _ h9 => h9) rfl dX6_ofUndoing_6 ?_
    refine lv_iload_n hx hb dX6_ofUndoing_9 rfl (lv_at hl 2 rfl) ?_
    refine wl_ci (va_runV (As := [.int a1]) (rest := []) ⟨hx, hb, hml, hown, hta⟩ (kx_Terms_operationOf l dC dI a k st a1 hA) (cwV 1 hta gX6_102 rfl rfl rfl (by decide +kernel) ⟨Nat.le_of_ble_eq_true rfl, Nat.le_of_ble_eq_true rfl⟩) (wl_pR (C := RX4) (ci := 2) (q0 := 7) hK hP rfl (xr_7 a k st)) rfl rfl hl.1 rfl (lv_room (Nat.le_of_ble_eq_true rfl)) dX6_ofUndoing_10 ⟨Nat.zero_le _, Nat.zero_le _⟩) ?_
    refine lv_iload_n hx hb dX6_ofUndoing_13 rfl (lv_at hl 1 rfl) ?_
    refine lv_icmp_ne (tgt := 21) hx hb dX6_ofUndoing_14 (by decide) (fun c14 => ?_) (fun c14 => ?_)
    · skip
      rw [if_neg c14] at hR
      refine lv_iconst (v := (0 : Int32)) hx hb dX6_ofUndoing_21 (by decide) ?_
      refine lv_istore_n (lv' := [(3, .int (0 : Int32)), (0, .ref (a 16)), (1, .int o), (2, .int a1)]) hx hb dX6_ofUndoing_22 rfl hl (by decide) rfl (fun ls hl => ?_)
      refine lv_iload_n hx hb dX6_ofUndoing_23 rfl (lv_at hl 0 rfl) ?_
      refine lv_if_eq (tgt := 39) hx hb dX6_ofUndoing_24 (by decide) (fun c24 => ?_) (fun c24 => ?_)
      · skip
        refine lv_bipush (v := (-3 : Int32)) hx hb dX6_ofUndoing_39 (by decide) ?_
        exact W.iret (v := (-3 : Int32)) hx hb hr (fun t ht hW => ⟨_, rfl, hR, ht⟩) (fun q h => by cases h) dX6_ofUndoing_41
      · skip
        exact absurd c24 (by decide)
    · skip
      rw [if_pos c14] at hR
      refine lv_iconst (v := (1 : Int32)) hx hb dX6_ofUndoing_17 (by decide) ?_
      refine lv_goto (tgt := 22) hx hb dX6_ofUndoing_18 (by decide) ?_
      refine lv_istore_n (lv' := [(3, .int (1 : Int32)), (0, .ref (a 16)), (1, .int o), (2, .int a1)]) hx hb dX6_ofUndoing_22 rfl hl (by decide) rfl (fun ls hl => ?_)
      refine lv_iload_n hx hb dX6_ofUndoing_23 rfl (lv_at hl 0 rfl) ?_
      refine lv_if_eq (tgt := 39) hx hb dX6_ofUndoing_24 (by decide) (fun c24 => ?_) (fun c24 => ?_)
      · skip
        exact absurd c24 (by decide)
      · skip
        refine lv_aload_n hx hb dX6_ofUndoing_27 rfl (lv_at hl 1 rfl) ?_
        refine va_get (D := (dC, dI)) (ci := 4) (v := .ref (a 7)) (C := RX6) (T := TX6) (N := 2) hx hb hta inX6 hown hK hP 16 (xr_16 a k st) rfl 0 (by decide) hf9 (fun _ h9 => h9) rfl dX6_ofUndoing_28 ?_
        refine lv_iload_n hx hb dX6_ofUndoing_31 rfl (lv_at hl 3 rfl) ?_
        refine lv_iconst (v := (0 : Int32)) hx hb dX6_ofUndoing_32 (by decide) ?_
        refine wl_ci (va_runV (As := [.int a1, .int (0 : Int32)]) (rest := []) ⟨hx, hb, hml, hown, hta⟩ (kx_Terms_operandOf l dC dI a k st a1 (0 : Int32) (wl_i3v hA)) (cwV 2 hta gX6_105 rfl rfl rfl (by decide +kernel) ⟨Nat.le_of_ble_eq_true rfl, Nat.le_of_ble_eq_true rfl⟩) (wl_pR (C := RX4) (ci := 2) (q0 := 7) hK hP rfl (xr_7 a k st)) rfl rfl hl.1 rfl (lv_room (Nat.le_of_ble_eq_true rfl)) dX6_ofUndoing_33 ⟨Nat.zero_le _, Nat.zero_le _⟩) ?_
        refine lv_goto (tgt := 41) hx hb dX6_ofUndoing_36 (by decide) ?_
        exact W.iret (v := fx_Terms_operandOf st a1 (0 : Int32)) hx hb hr (fun t ht hW => ⟨_, rfl, hR, ht⟩) (fun q h => by cases h) dX6_ofUndoing_41

theorem mw_406 : (.code yX6_ofSameOperands cX6_ofSameOperands 5 (some .int) : Cond) ∈ AW := List.mem_filter.mpr ⟨List.mem_of_getElem? (i := 406) (by decide +kernel), rfl⟩
theorem mw_403 : (.methodLink RX6 77 yX6_ofSameOperands : Cond) ∈ AW := List.mem_filter.mpr ⟨List.mem_of_getElem? (i := 403) (by decide +kernel), rfl⟩
theorem mw_405 : (.instanceMethod yX6_ofSameOperands : Cond) ∈ AW := List.mem_filter.mpr ⟨List.mem_of_getElem? (i := 405) (by decide +kernel), rfl⟩
theorem mw_5 : (.selects RX6 yX6_ofSameOperands yX6_ofSameOperands : Cond) ∈ AW := List.mem_filter.mpr ⟨List.mem_of_getElem? (i := 5) (by decide +kernel), rfl⟩
theorem mw_418 : (.code yX6_ofZero cX6_ofZero 4 (some .int) : Cond) ∈ AW := List.mem_filter.mpr ⟨List.mem_of_getElem? (i := 418) (by decide +kernel), rfl⟩
theorem mw_415 : (.methodLink RX6 80 yX6_ofZero : Cond) ∈ AW := List.mem_filter.mpr ⟨List.mem_of_getElem? (i := 415) (by decide +kernel), rfl⟩
theorem mw_417 : (.instanceMethod yX6_ofZero : Cond) ∈ AW := List.mem_filter.mpr ⟨List.mem_of_getElem? (i := 417) (by decide +kernel), rfl⟩
theorem mw_7 : (.selects RX6 yX6_ofZero yX6_ofZero : Cond) ∈ AW := List.mem_filter.mpr ⟨List.mem_of_getElem? (i := 7) (by decide +kernel), rfl⟩
theorem mw_422 : (.code yX6_ofUndoing cX6_ofUndoing 4 (some .int) : Cond) ∈ AW := List.mem_filter.mpr ⟨List.mem_of_getElem? (i := 422) (by decide +kernel), rfl⟩
theorem mw_419 : (.methodLink RX6 83 yX6_ofUndoing : Cond) ∈ AW := List.mem_filter.mpr ⟨List.mem_of_getElem? (i := 419) (by decide +kernel), rfl⟩
theorem mw_421 : (.instanceMethod yX6_ofUndoing : Cond) ∈ AW := List.mem_filter.mpr ⟨List.mem_of_getElem? (i := 421) (by decide +kernel), rfl⟩
theorem mw_8 : (.selects RX6 yX6_ofUndoing yX6_ofUndoing : Cond) ∈ AW := List.mem_filter.mpr ⟨List.mem_of_getElem? (i := 8) (by decide +kernel), rfl⟩
theorem mw_434 : (.code yX4_find cX4_find 6 (some .int) : Cond) ∈ AW := List.mem_filter.mpr ⟨List.mem_of_getElem? (i := 434) (by decide +kernel), rfl⟩
theorem mw_431 : (.methodLink RX6 87 yX4_find : Cond) ∈ AW := List.mem_filter.mpr ⟨List.mem_of_getElem? (i := 431) (by decide +kernel), rfl⟩
theorem mw_432 : (.instanceMethod yX4_find : Cond) ∈ AW := List.mem_filter.mpr ⟨List.mem_of_getElem? (i := 432) (by decide +kernel), rfl⟩
theorem mw_433 : (.selects RX4 yX4_find yX4_find : Cond) ∈ AW := List.mem_filter.mpr ⟨List.mem_of_getElem? (i := 433) (by decide +kernel), rfl⟩
theorem mw_439 : (.code yX4_add cX4_add 8 (some .int) : Cond) ∈ AW := List.mem_filter.mpr ⟨List.mem_of_getElem? (i := 439) (by decide +kernel), rfl⟩
theorem mw_436 : (.methodLink RX6 90 yX4_add : Cond) ∈ AW := List.mem_filter.mpr ⟨List.mem_of_getElem? (i := 436) (by decide +kernel), rfl⟩
theorem mw_437 : (.instanceMethod yX4_add : Cond) ∈ AW := List.mem_filter.mpr ⟨List.mem_of_getElem? (i := 437) (by decide +kernel), rfl⟩
theorem mw_438 : (.selects RX4 yX4_add yX4_add : Cond) ∈ AW := List.mem_filter.mpr ⟨List.mem_of_getElem? (i := 438) (by decide +kernel), rfl⟩
theorem gX6_77 : GoodIn AW (wsV RX6 77 RX6 yX6_ofSameOperands wsX6_ofSameOperands) := aw_V mw_403 mw_405 mw_5 mw_43 mw_406
theorem gX6_80 : GoodIn AW (wsV RX6 80 RX6 yX6_ofZero wsX6_ofZero) := aw_V mw_415 mw_417 mw_7 mw_43 mw_418
theorem gX6_83 : GoodIn AW (wsV RX6 83 RX6 yX6_ofUndoing wsX6_ofUndoing) := aw_V mw_419 mw_421 mw_8 mw_43 mw_422
theorem gX6_87 : GoodIn AW (wsV RX6 87 RX4 yX4_find wsX4_find) := aw_V mw_431 mw_432 mw_433 mw_41 mw_434
theorem gX6_90 : GoodIn AW (wsV RX6 90 RX4 yX4_add wsX4_add) := aw_V mw_436 mw_437 mw_438 mw_41 mw_439
theorem dX6_makeInPlace_0 : decode cX6_makeInPlace 0 = .ok (.aload_n 0, 1) := by decide +kernel
theorem dX6_makeInPlace_1 : decode cX6_makeInPlace 1 = .ok (.iload_n 1, 1) := by decide +kernel
theorem dX6_makeInPlace_2 : decode cX6_makeInPlace 2 = .ok (.iload_n 2, 1) := by decide +kernel
theorem dX6_makeInPlace_3 : decode cX6_makeInPlace 3 = .ok (.iload_n 3, 1) := by decide +kernel
theorem dX6_makeInPlace_4 : decode cX6_makeInPlace 4 = .ok (.iload 4, 2) := by decide +kernel
theorem dX6_makeInPlace_6 : decode cX6_makeInPlace 6 = .ok (.invokevirtual 77, 3) := by decide +kernel
theorem dX6_makeInPlace_9 : decode cX6_makeInPlace 9 = .ok (.istore 5, 2) := by decide +kernel
theorem dX6_makeInPlace_11 : decode cX6_makeInPlace 11 = .ok (.iload 5, 2) := by decide +kernel
theorem dX6_makeInPlace_13 : decode cX6_makeInPlace 13 = .ok (.bipush (-3), 2) := by decide +kernel
theorem dX6_makeInPlace_15 : decode cX6_makeInPlace 15 = .ok (.if_icmp .ne 12, 3) := by decide +kernel
theorem dX6_makeInPlace_18 : decode cX6_makeInPlace 18 = .ok (.aload_n 0, 1) := by decide +kernel
theorem dX6_makeInPlace_19 : decode cX6_makeInPlace 19 = .ok (.iload_n 1, 1) := by decide +kernel
theorem dX6_makeInPlace_20 : decode cX6_makeInPlace 20 = .ok (.iload_n 2, 1) := by decide +kernel
theorem dX6_makeInPlace_21 : decode cX6_makeInPlace 21 = .ok (.iload_n 3, 1) := by decide +kernel
theorem dX6_makeInPlace_22 : decode cX6_makeInPlace 22 = .ok (.invokevirtual 80, 3) := by decide +kernel
theorem dX6_makeInPlace_25 : decode cX6_makeInPlace 25 = .ok (.istore 5, 2) := by decide +kernel
theorem dX6_makeInPlace_27 : decode cX6_makeInPlace 27 = .ok (.iload 5, 2) := by decide +kernel
theorem dX6_makeInPlace_29 : decode cX6_makeInPlace 29 = .ok (.bipush (-3), 2) := by decide +kernel
theorem dX6_makeInPlace_31 : decode cX6_makeInPlace 31 = .ok (.if_icmp .ne 11, 3) := by decide +kernel
theorem dX6_makeInPlace_34 : decode cX6_makeInPlace 34 = .ok (.aload_n 0, 1) := by decide +kernel
theorem dX6_makeInPlace_35 : decode cX6_makeInPlace 35 = .ok (.iload_n 1, 1) := by decide +kernel
theorem dX6_makeInPlace_36 : decode cX6_makeInPlace 36 = .ok (.iload_n 2, 1) := by decide +kernel
theorem dX6_makeInPlace_37 : decode cX6_makeInPlace 37 = .ok (.invokevirtual 83, 3) := by decide +kernel
theorem dX6_makeInPlace_40 : decode cX6_makeInPlace 40 = .ok (.istore 5, 2) := by decide +kernel
theorem dX6_makeInPlace_42 : decode cX6_makeInPlace 42 = .ok (.iload 5, 2) := by decide +kernel
theorem dX6_makeInPlace_44 : decode cX6_makeInPlace 44 = .ok (.bipush (-3), 2) := by decide +kernel
theorem dX6_makeInPlace_46 : decode cX6_makeInPlace 46 = .ok (.if_icmp .ne 17, 3) := by decide +kernel
theorem dX6_makeInPlace_49 : decode cX6_makeInPlace 49 = .ok (.aload_n 0, 1) := by decide +kernel
theorem dX6_makeInPlace_50 : decode cX6_makeInPlace 50 = .ok (.getfield 9, 3) := by decide +kernel
theorem dX6_makeInPlace_53 : decode cX6_makeInPlace 53 = .ok (.iload_n 1, 1) := by decide +kernel
theorem dX6_makeInPlace_54 : decode cX6_makeInPlace 54 = .ok (.iload_n 2, 1) := by decide +kernel
theorem dX6_makeInPlace_55 : decode cX6_makeInPlace 55 = .ok (.iload_n 3, 1) := by decide +kernel
theorem dX6_makeInPlace_56 : decode cX6_makeInPlace 56 = .ok (.iload 4, 2) := by decide +kernel
theorem dX6_makeInPlace_58 : decode cX6_makeInPlace 58 = .ok (.invokevirtual 87, 3) := by decide +kernel
theorem dX6_makeInPlace_61 : decode cX6_makeInPlace 61 = .ok (.istore 5, 2) := by decide +kernel
theorem dX6_makeInPlace_63 : decode cX6_makeInPlace 63 = .ok (.iload 5, 2) := by decide +kernel
theorem dX6_makeInPlace_65 : decode cX6_makeInPlace 65 = .ok (.bipush (-3), 2) := by decide +kernel
theorem dX6_makeInPlace_67 : decode cX6_makeInPlace 67 = .ok (.if_icmp .ne 18, 3) := by decide +kernel
theorem dX6_makeInPlace_70 : decode cX6_makeInPlace 70 = .ok (.aload_n 0, 1) := by decide +kernel
theorem dX6_makeInPlace_71 : decode cX6_makeInPlace 71 = .ok (.getfield 9, 3) := by decide +kernel
theorem dX6_makeInPlace_74 : decode cX6_makeInPlace 74 = .ok (.iload_n 1, 1) := by decide +kernel
theorem dX6_makeInPlace_75 : decode cX6_makeInPlace 75 = .ok (.iload_n 2, 1) := by decide +kernel
theorem dX6_makeInPlace_76 : decode cX6_makeInPlace 76 = .ok (.iload_n 3, 1) := by decide +kernel
theorem dX6_makeInPlace_77 : decode cX6_makeInPlace 77 = .ok (.iload 4, 2) := by decide +kernel
theorem dX6_makeInPlace_79 : decode cX6_makeInPlace 79 = .ok (.invokevirtual 90, 3) := by decide +kernel
theorem dX6_makeInPlace_82 : decode cX6_makeInPlace 82 = .ok (.goto 5, 3) := by decide +kernel
theorem dX6_makeInPlace_85 : decode cX6_makeInPlace 85 = .ok (.iload 5, 2) := by decide +kernel
theorem dX6_makeInPlace_87 : decode cX6_makeInPlace 87 = .ok (.ireturn, 1) := by decide +kernel
def fx_Maker_makeInPlace (st : XS) (o : Int32) (a1 : Int32) (b1 : Int32) (c1 : Int32) : Int32 × XS := 
  if ((fx_Maker_ofSameOperands st o a1 b1 c1).1) = (-3 : Int32) then 
    if fx_Maker_ofZero (((fx_Maker_ofSameOperands st o a1 b1 c1).2)) o a1 b1 = (-3 : Int32) then 
      if fx_Maker_ofUndoing (((fx_Maker_ofSameOperands st o a1 b1 c1).2)) o a1 = (-3 : Int32) then 
        if fx_Terms_find (((fx_Maker_ofSameOperands st o a1 b1 c1).2)) o a1 b1 c1 = (-3 : Int32) then (((fx_Terms_add (((fx_Maker_ofSameOperands st o a1 b1 c1).2)) o a1 b1 c1).1), ((fx_Terms_add (((fx_Maker_ofSameOperands st o a1 b1 c1).2)) o a1 b1 c1).2))
        else (fx_Terms_find (((fx_Maker_ofSameOperands st o a1 b1 c1).2)) o a1 b1 c1, ((fx_Maker_ofSameOperands st o a1 b1 c1).2))
      else (fx_Maker_ofUndoing (((fx_Maker_ofSameOperands st o a1 b1 c1).2)) o a1, ((fx_Maker_ofSameOperands st o a1 b1 c1).2))
    else (fx_Maker_ofZero (((fx_Maker_ofSameOperands st o a1 b1 c1).2)) o a1 b1, ((fx_Maker_ofSameOperands st o a1 b1 c1).2))
  else (((fx_Maker_ofSameOperands st o a1 b1 c1).1), ((fx_Maker_ofSameOperands st o a1 b1 c1).2))
theorem ff_Maker_makeInPlace (st : XS) (o : Int32) (a1 : Int32) (b1 : Int32) (c1 : Int32) : XF [6, 7] [3, 4, 5, 6] [1] st (fx_Maker_makeInPlace st o a1 b1 c1).2 := by
  rw [fx_Maker_makeInPlace]
  exact (wl_ite (P := fun (q : Int32 × XS) => XF [6, 7] [3, 4, 5, 6] [1] _ (q.2)) (wl_ite (P := fun (q : Int32 × XS) => XF [6, 7] [3, 4, 5, 6] [1] _ (q.2)) (wl_ite (P := fun (q : Int32 × XS) => XF [6, 7] [3, 4, 5, 6] [1] _ (q.2)) (wl_ite (P := fun (q : Int32 × XS) => XF [6, 7] [3, 4, 5, 6] [1] _ (q.2)) (XF.tr (XF.tr XF.rf (XF.mono (ff_Maker_ofSameOperands _ _ _ _ _) (by decide) (by decide) (by decide))) (XF.mono (ff_Terms_add _ _ _ _ _) (by decide) (by decide) (by decide))) (XF.tr XF.rf (XF.mono (ff_Maker_ofSameOperands _ _ _ _ _) (by decide) (by decide) (by decide)))) (XF.tr XF.rf (XF.mono (ff_Maker_ofSameOperands _ _ _ _ _) (by decide) (by decide) (by decide)))) (XF.tr XF.rf (XF.mono (ff_Maker_ofSameOperands _ _ _ _ _) (by decide) (by decide) (by decide)))) (XF.tr XF.rf (XF.mono (ff_Maker_ofSameOperands _ _ _ _ _) (by decide) (by decide) (by decide))))
set_option maxHeartbeats 4000000 in
set_option maxRecDepth 100000 in
theorem kx_Maker_makeInPlace (l : Launch) (dC : Nat → ClassId) (dI : Nat → Nat → Nat) (a : Nat → Nat) (k : Nat → ClassId) (st : XS) (o : Int32) (a1 : Int32) (b1 : Int32) (c1 : Int32) (sz : Nat) (N : Nat) (hN : gI st 6 = nI N) (h64 : N ≤ 64) (hA : vp_in a1 64) (hBz : (o = 2 ∨ o = 3 ∨ o = 4 ∨ o = 5 ∨ o = 6 ∨ o = 7 ∨ o = 10 ∨ o = 11 ∨ o = 12) → vp_in b1 64) (hB : (2 : Int32) ≤ fx_Op_namedTerms o → vp_in b1 64) (hC : (3 : Int32) ≤ fx_Op_namedTerms o → vp_in c1 64) : Met l yX6_makeInPlace wsX6_makeInPlace ({ frames := 4, cells := 0, slots := 0, locals := 91 }) (va_Pc [.ref (a 16), .int o, .int a1, .int b1, .int c1] (wl_pre (dC, dI) vwCl (xt k) (xw a k) st sz)) (va_Qi (fun r9 u9 => (r9, u9) = fx_Maker_makeInPlace st o a1 b1 c1) (wl_at (dC, dI) vwCl (xt k) (xw a k) (va_A (xw a k st) sz)) (va_A (xw a k st) sz)) 0 0 (va_A (xw a k st) sz) := by
  refine Met.ofW (cc := cX6_makeInPlace) (maxL := 6) (ret := (some .int)) (by decide) rfl ?_
  intro p e s m args below meth c s₁ B hml hv
  obtain ⟨rfl, hsz, hP, hK, hD0⟩ := hv
  have hx := B.exec
  have hb := B.bytes
  have hr := B.returns
  have hta := aw_hts (atoms_spec (ws := wsX6_makeInPlace) B.pre)
  have hown : s.vm.findClass RX6 = some m.cls := findClass_of_methodNamed B.named
  have hlocks := B.notSynchronized
  have hf9 := hta _ mw_149
  subst hsz
  have hD := hD0.self (sz := s.heap.size)
  generalize hAe : va_A (xw a k st) s.heap.size = A at hD ⊢
  have hAz : ∀ q : Nat, s.heap.size ≤ q → A q := fun q h => by rw [← hAe]; exact Or.inr h
  have hS : va_S A s.heap s.heap [] := va_S.rf
  have hl := lv_entry ([.ref (a 16), .int o, .int a1, .int b1, .int c1]) (n := 6) (Nat.le_of_ble_eq_true rfl)
  rw [lg_entry_eq]
  generalize (lg_sl ([.ref (a 16), .int o, .int a1, .int b1, .int c1]) ++ List.replicate (6 - (lg_sl ([.ref (a 16), .int o, .int a1, .int b1, .int c1])).length) Slot.unset).toArray = ls at hl ⊢
  have hl : lv_has ls 6 [(0, .ref (a 16)), (1, .int o), (2, .int a1), (3, .int b1), (4, .int c1)] := hl
  generalize hR : fx_Maker_makeInPlace st o a1 b1 c1 = R
  rw [fx_Maker_makeInPlace] at hR
  refine lv_aload_n hx hb dX6_makeInPlace_0 rfl (lv_at hl 0 rfl) ?_
  refine lv_iload_n hx hb dX6_makeInPlace_1 rfl (lv_at hl 1 rfl) ?_
  refine lv_iload_n hx hb dX6_makeInPlace_2 rfl (lv_at hl 2 rfl) ?_
  refine lv_iload_n hx hb dX6_makeInPlace_3 rfl (lv_at hl 3 rfl) ?_
  refine lv_iload hx hb dX6_makeInPlace_4 (lv_at hl 4 rfl) ?_
  refine wl_mi (va_runV (As := [.int o, .int a1, .int b1, .int c1]) (rest := []) ⟨hx, hb, hml, hown, hta⟩ (kx_Maker_ofSameOperands l dC dI a k st o a1 b1 c1 _ N hN h64 hA) (cwV 4 hta gX6_77 rfl rfl rfl (by decide +kernel) ⟨Nat.le_of_ble_eq_true rfl, Nat.le_of_ble_eq_true rfl⟩) (wl_pM (C := RX6) (ci := 4) (q0 := 16) hK hP hD rfl (xr_16 a k st)) rfl rfl hl.1 rfl (lv_room (Nat.le_of_ble_eq_true rfl)) dX6_makeInPlace_6 ⟨Nat.zero_le _, Nat.zero_le _⟩) hP hD hS hAz (fun r6 u6 H locs hw6 hP hD hS => ?_)
  have v6 : (fx_Maker_ofSameOperands st o a1 b1 c1).1 = r6 := congrArg Prod.fst hw6.symm
  have w6 : (fx_Maker_ofSameOperands st o a1 b1 c1).2 = u6 := congrArg Prod.snd hw6.symm
  have hf6 : XF [6] [3, 4] [1] st u6 := by rw [← w6]; exact ff_Maker_ofSameOperands st o a1 b1 c1
  try rw [v6] at hR
  try rw [w6] at hR
  obtain ⟨N2, hN2, hN264⟩ := wl_soN (o := o) (a1 := a1) (b1 := b1) (c1 := c1) hN h64
  rw [w6] at hN2
  refine lv_istore (lv' := [(5, .int (r6)), (0, .ref (a 16)), (1, .int o), (2, .int a1), (3, .int b1), (4, .int c1)]) hx hb dX6_makeInPlace_9 hl (by decide) rfl (fun ls hl => ?_)
  refine lv_iload hx hb dX6_makeInPlace_11 (lv_at hl 0 rfl) ?_
  refine lv_bipush (v := (-3 : Int32)) hx hb dX6_makeInPlace_13 (by decide) ?_
  refine lv_icmp_ne (tgt := 27) hx hb dX6_makeInPlace_15 (by decide) (fun c15 => ?_) (fun c15 => ?_)
  · skip
    rw [if_neg c15] at hR
    refine lv_iload hx hb dX6_makeInPlace_27 (lv_at hl 0 rfl) ?_
    refine lv_bipush (v := (-3 : Int32)) hx hb dX6_makeInPlace_29 (by decide) ?_
    refine lv_icmp_ne (tgt := 42) hx hb dX6_makeInPlace_31 (by decide) (fun c31 => ?_) (fun c31 => ?_)
    · skip
      refine lv_iload hx hb dX6_makeInPlace_42 (lv_at hl 0 rfl) ?_
      refine lv_bipush (v := (-3 : Int32)) hx hb dX6_makeInPlace_44 (by decide) ?_
      refine lv_icmp_ne (tgt := 63) hx hb dX6_makeInPlace_46 (by decide) (fun c46 => ?_) (fun c46 => ?_)
      · skip
        refine lv_iload hx hb dX6_makeInPlace_63 (lv_at hl 0 rfl) ?_
        refine lv_bipush (v := (-3 : Int32)) hx hb dX6_makeInPlace_65 (by decide) ?_
        refine lv_icmp_ne (tgt := 85) hx hb dX6_makeInPlace_67 (by decide) (fun c67 => ?_) (fun c67 => ?_)
        · skip
          refine lv_iload hx hb dX6_makeInPlace_85 (lv_at hl 0 rfl) ?_
          exact W.iret (v := r6) hx hb hr (fun t ht hW => ⟨⟨_, _, rfl, hR, by rw [ht]; exact hP, va_K.moved hW.alike hK, hD⟩, hS.F ht⟩) hS.2.2 dX6_makeInPlace_87
        · skip
          exact absurd c67 c15
      · skip
        exact absurd c46 c15
    · skip
      exact absurd c31 c15
  · skip
    rw [if_pos c15] at hR
    refine lv_aload_n hx hb dX6_makeInPlace_18 rfl (lv_at hl 1 rfl) ?_
    refine lv_iload_n hx hb dX6_makeInPlace_19 rfl (lv_at hl 2 rfl) ?_
    refine lv_iload_n hx hb dX6_makeInPlace_20 rfl (lv_at hl 3 rfl) ?_
    refine lv_iload_n hx hb dX6_makeInPlace_21 rfl (lv_at hl 4 rfl) ?_
    refine wl_ci (va_runV (As := [.int o, .int a1, .int b1]) (rest := []) ⟨hx, hb, hml, hown, hta⟩ (kx_Maker_ofZero l dC dI a k (u6) o a1 b1 hA hBz) (cwV 3 hta gX6_80 rfl rfl rfl (by decide +kernel) ⟨Nat.le_of_ble_eq_true rfl, Nat.le_of_ble_eq_true rfl⟩) (wl_pR (C := RX6) (ci := 4) (q0 := 16) hK hP rfl (xr_16 a k (u6))) rfl rfl hl.1 rfl (lv_room (Nat.le_of_ble_eq_true rfl)) dX6_makeInPlace_22 ⟨Nat.zero_le _, Nat.zero_le _⟩) ?_
    refine lv_istore (lv' := [(5, .int (fx_Maker_ofZero (u6) o a1 b1)), (0, .ref (a 16)), (1, .int o), (2, .int a1), (3, .int b1), (4, .int c1)]) hx hb dX6_makeInPlace_25 hl (by decide) rfl (fun ls hl => ?_)
    refine lv_iload hx hb dX6_makeInPlace_27 (lv_at hl 0 rfl) ?_
    refine lv_bipush (v := (-3 : Int32)) hx hb dX6_makeInPlace_29 (by decide) ?_
    refine lv_icmp_ne (tgt := 42) hx hb dX6_makeInPlace_31 (by decide) (fun c31 => ?_) (fun c31 => ?_)
    · skip
      rw [if_neg c31] at hR
      refine lv_iload hx hb dX6_makeInPlace_42 (lv_at hl 0 rfl) ?_
      refine lv_bipush (v := (-3 : Int32)) hx hb dX6_makeInPlace_44 (by decide) ?_
      refine lv_icmp_ne (tgt := 63) hx hb dX6_makeInPlace_46 (by decide) (fun c46 => ?_) (fun c46 => ?_)
      · skip
        refine lv_iload hx hb dX6_makeInPlace_63 (lv_at hl 0 rfl) ?_
        refine lv_bipush (v := (-3 : Int32)) hx hb dX6_makeInPlace_65 (by decide) ?_
        refine lv_icmp_ne (tgt := 85) hx hb dX6_makeInPlace_67 (by decide) (fun c67 => ?_) (fun c67 => ?_)
        · skip
          refine lv_iload hx hb dX6_makeInPlace_85 (lv_at hl 0 rfl) ?_
          exact W.iret (v := fx_Maker_ofZero (u6) o a1 b1) hx hb hr (fun t ht hW => ⟨⟨_, _, rfl, hR, by rw [ht]; exact hP, va_K.moved hW.alike hK, hD⟩, hS.F ht⟩) hS.2.2 dX6_makeInPlace_87
        · skip
          exact absurd c67 c31
      · skip
        exact absurd c46 c31
    · skip
      rw [if_pos c31] at hR
      refine lv_aload_n hx hb dX6_makeInPlace_34 rfl (lv_at hl 1 rfl) ?_
      refine lv_iload_n hx hb dX6_makeInPlace_35 rfl (lv_at hl 2 rfl) ?_
      refine lv_iload_n hx hb dX6_makeInPlace_36 rfl (lv_at hl 3 rfl) ?_
      refine wl_ci (va_runV (As := [.int o, .int a1]) (rest := []) ⟨hx, hb, hml, hown, hta⟩ (kx_Maker_ofUndoing l dC dI a k (u6) o a1 hA) (cwV 2 hta gX6_83 rfl rfl rfl (by decide +kernel) ⟨Nat.le_of_ble_eq_true rfl, Nat.le_of_ble_eq_true rfl⟩) (wl_pR (C := RX6) (ci := 4) (q0 := 16) hK hP rfl (xr_16 a k (u6))) rfl rfl hl.1 rfl (lv_room (Nat.le_of_ble_eq_true rfl)) dX6_makeInPlace_37 ⟨Nat.zero_le _, Nat.zero_le _⟩) ?_
      refine lv_istore (lv' := [(5, .int (fx_Maker_ofUndoing (u6) o a1)), (0, .ref (a 16)), (1, .int o), (2, .int a1), (3, .int b1), (4, .int c1)]) hx hb dX6_makeInPlace_40 hl (by decide) rfl (fun ls hl => ?_)
      refine lv_iload hx hb dX6_makeInPlace_42 (lv_at hl 0 rfl) ?_
      refine lv_bipush (v := (-3 : Int32)) hx hb dX6_makeInPlace_44 (by decide) ?_
      refine lv_icmp_ne (tgt := 63) hx hb dX6_makeInPlace_46 (by decide) (fun c46 => ?_) (fun c46 => ?_)
      · skip
        rw [if_neg c46] at hR
        refine lv_iload hx hb dX6_makeInPlace_63 (lv_at hl 0 rfl) ?_
        refine lv_bipush (v := (-3 : Int32)) hx hb dX6_makeInPlace_65 (by decide) ?_
        refine lv_icmp_ne (tgt := 85) hx hb dX6_makeInPlace_67 (by decide) (fun c67 => ?_) (fun c67 => ?_)
        · skip
          refine lv_iload hx hb dX6_makeInPlace_85 (lv_at hl 0 rfl) ?_
          exact W.iret (v := fx_Maker_ofUndoing (u6) o a1) hx hb hr (fun t ht hW => ⟨⟨_, _, rfl, hR, by rw [ht]; exact hP, va_K.moved hW.alike hK, hD⟩, hS.F ht⟩) hS.2.2 dX6_makeInPlace_87
        · skip
          exact absurd c67 c46
      · skip
        rw [if_pos c46] at hR
        refine lv_aload_n hx hb dX6_makeInPlace_49 rfl (lv_at hl 1 rfl) ?_
        refine va_get (D := (dC, dI)) (ci := 4) (v := .ref (a 7)) (C := RX6) (T := TX6) (N := 2) hx hb hta inX6 hown hK hP 16 (xr_16 a k (u6)) rfl 0 (by decide) hf9 (fun _ h9 => h9) rfl dX6_makeInPlace_50 ?_
        refine lv_iload_n hx hb dX6_makeInPlace_53 rfl (lv_at hl 2 rfl) ?_
        refine lv_iload_n hx hb dX6_makeInPlace_54 rfl (lv_at hl 3 rfl) ?_
        refine lv_iload_n hx hb dX6_makeInPlace_55 rfl (lv_at hl 4 rfl) ?_
        refine lv_iload hx hb dX6_makeInPlace_56 (lv_at hl 5 rfl) ?_
        refine wl_ci (va_runV (As := [.int o, .int a1, .int b1, .int c1]) (rest := []) ⟨hx, hb, hml, hown, hta⟩ (kx_Terms_find l dC dI a k (u6) o a1 b1 c1 N2 hN2 hN264) (cwV 4 hta gX6_87 rfl rfl rfl (by decide +kernel) ⟨Nat.le_of_ble_eq_true rfl, Nat.le_of_ble_eq_true rfl⟩) (wl_pR (C := RX4) (ci := 2) (q0 := 7) hK hP rfl (xr_7 a k (u6))) rfl rfl hl.1 rfl (lv_room (Nat.le_of_ble_eq_true rfl)) dX6_makeInPlace_58 ⟨Nat.zero_le _, Nat.zero_le _⟩) ?_
        refine lv_istore (lv' := [(5, .int (fx_Terms_find (u6) o a1 b1 c1)), (0, .ref (a 16)), (1, .int o), (2, .int a1), (3, .int b1), (4, .int c1)]) hx hb dX6_makeInPlace_61 hl (by decide) rfl (fun ls hl => ?_)
        refine lv_iload hx hb dX6_makeInPlace_63 (lv_at hl 0 rfl) ?_
        refine lv_bipush (v := (-3 : Int32)) hx hb dX6_makeInPlace_65 (by decide) ?_
        refine lv_icmp_ne (tgt := 85) hx hb dX6_makeInPlace_67 (by decide) (fun c67 => ?_) (fun c67 => ?_)
        · skip
          rw [if_neg c67] at hR
          refine lv_iload hx hb dX6_makeInPlace_85 (lv_at hl 0 rfl) ?_
          exact W.iret (v := fx_Terms_find (u6) o a1 b1 c1) hx hb hr (fun t ht hW => ⟨⟨_, _, rfl, hR, by rw [ht]; exact hP, va_K.moved hW.alike hK, hD⟩, hS.F ht⟩) hS.2.2 dX6_makeInPlace_87
        · skip
          rw [if_pos c67] at hR
          refine lv_aload_n hx hb dX6_makeInPlace_70 rfl (lv_at hl 1 rfl) ?_
          refine va_get (D := (dC, dI)) (ci := 4) (v := .ref (a 7)) (C := RX6) (T := TX6) (N := 2) hx hb hta inX6 hown hK hP 16 (xr_16 a k (u6)) rfl 0 (by decide) hf9 (fun _ h9 => h9) rfl dX6_makeInPlace_71 ?_
          refine lv_iload_n hx hb dX6_makeInPlace_74 rfl (lv_at hl 2 rfl) ?_
          refine lv_iload_n hx hb dX6_makeInPlace_75 rfl (lv_at hl 3 rfl) ?_
          refine lv_iload_n hx hb dX6_makeInPlace_76 rfl (lv_at hl 4 rfl) ?_
          refine lv_iload hx hb dX6_makeInPlace_77 (lv_at hl 5 rfl) ?_
          refine wl_mi (va_runV (As := [.int o, .int a1, .int b1, .int c1]) (rest := []) ⟨hx, hb, hml, hown, hta⟩ (kx_Terms_add l dC dI a k (u6) o a1 b1 c1 _ N2 hN2 hN264 hA hB hC) (cwV 4 hta gX6_90 rfl rfl rfl (by decide +kernel) ⟨Nat.le_of_ble_eq_true rfl, Nat.le_of_ble_eq_true rfl⟩) (wl_pM (C := RX4) (ci := 2) (q0 := 7) hK hP hD rfl (xr_7 a k (u6))) rfl rfl hl.1 rfl (lv_room (Nat.le_of_ble_eq_true rfl)) dX6_makeInPlace_79 ⟨Nat.zero_le _, Nat.zero_le _⟩) hP hD hS hAz (fun r79 u79 H locs hw79 hP hD hS => ?_)
          have v79 : (fx_Terms_add (u6) o a1 b1 c1).1 = r79 := congrArg Prod.fst hw79.symm
          have w79 : (fx_Terms_add (u6) o a1 b1 c1).2 = u79 := congrArg Prod.snd hw79.symm
          have hf79 : XF [6, 7] [3, 4, 5, 6] [] (u6) u79 := by rw [← w79]; exact ff_Terms_add (u6) o a1 b1 c1
          try rw [v79] at hR
          try rw [w79] at hR
          refine lv_goto (tgt := 87) hx hb dX6_makeInPlace_82 (by decide) ?_
          exact W.iret (v := r79) hx hb hr (fun t ht hW => ⟨⟨_, _, rfl, hR, by rw [ht]; exact hP, va_K.moved hW.alike hK, hD⟩, hS.F ht⟩) hS.2.2 dX6_makeInPlace_87

theorem mw_337 : (.methodLink RX6 46 yX1_named : Cond) ∈ AW := List.mem_filter.mpr ⟨List.mem_of_getElem? (i := 337) (by decide +kernel), rfl⟩
theorem mw_340 : (.methodLink RX6 49 yX1_namedTerms : Cond) ∈ AW := List.mem_filter.mpr ⟨List.mem_of_getElem? (i := 340) (by decide +kernel), rfl⟩
theorem mw_347 : (.code yX6_areConstants cX6_areConstants 5 (some .boolean) : Cond) ∈ AW := List.mem_filter.mpr ⟨List.mem_of_getElem? (i := 347) (by decide +kernel), rfl⟩
theorem mw_344 : (.methodLink RX6 52 yX6_areConstants : Cond) ∈ AW := List.mem_filter.mpr ⟨List.mem_of_getElem? (i := 344) (by decide +kernel), rfl⟩
theorem mw_346 : (.instanceMethod yX6_areConstants : Cond) ∈ AW := List.mem_filter.mpr ⟨List.mem_of_getElem? (i := 346) (by decide +kernel), rfl⟩
theorem mw_2 : (.selects RX6 yX6_areConstants yX6_areConstants : Cond) ∈ AW := List.mem_filter.mpr ⟨List.mem_of_getElem? (i := 2) (by decide +kernel), rfl⟩
theorem mw_398 : (.code yX1_changesPlaces cX1_changesPlaces 1 (some .boolean) : Cond) ∈ AW := List.mem_filter.mpr ⟨List.mem_of_getElem? (i := 398) (by decide +kernel), rfl⟩
theorem mw_396 : (.methodLink RX6 70 yX1_changesPlaces : Cond) ∈ AW := List.mem_filter.mpr ⟨List.mem_of_getElem? (i := 396) (by decide +kernel), rfl⟩
theorem mw_397 : (.static yX1_changesPlaces : Cond) ∈ AW := List.mem_filter.mpr ⟨List.mem_of_getElem? (i := 397) (by decide +kernel), rfl⟩
theorem mw_402 : (.code yX6_makeInPlace cX6_makeInPlace 6 (some .int) : Cond) ∈ AW := List.mem_filter.mpr ⟨List.mem_of_getElem? (i := 402) (by decide +kernel), rfl⟩
theorem mw_399 : (.methodLink RX6 73 yX6_makeInPlace : Cond) ∈ AW := List.mem_filter.mpr ⟨List.mem_of_getElem? (i := 399) (by decide +kernel), rfl⟩
theorem mw_401 : (.instanceMethod yX6_makeInPlace : Cond) ∈ AW := List.mem_filter.mpr ⟨List.mem_of_getElem? (i := 401) (by decide +kernel), rfl⟩
theorem mw_4 : (.selects RX6 yX6_makeInPlace yX6_makeInPlace : Cond) ∈ AW := List.mem_filter.mpr ⟨List.mem_of_getElem? (i := 4) (by decide +kernel), rfl⟩
theorem mw_349 : (.methodLink RX6 56 yX4_widthOfResult : Cond) ∈ AW := List.mem_filter.mpr ⟨List.mem_of_getElem? (i := 349) (by decide +kernel), rfl⟩
theorem mw_150 : (.fieldLink RX6 15 RX6 "evaluator" "LPathSolver$Evaluator;" : Cond) ∈ AW := List.mem_filter.mpr ⟨List.mem_of_getElem? (i := 150) (by decide +kernel), rfl⟩
theorem mw_356 : (.code yX5_applyToConstants cX5_applyToConstants 5 (some .long) : Cond) ∈ AW := List.mem_filter.mpr ⟨List.mem_of_getElem? (i := 356) (by decide +kernel), rfl⟩
theorem mw_353 : (.methodLink RX6 60 yX5_applyToConstants : Cond) ∈ AW := List.mem_filter.mpr ⟨List.mem_of_getElem? (i := 353) (by decide +kernel), rfl⟩
theorem mw_354 : (.instanceMethod yX5_applyToConstants : Cond) ∈ AW := List.mem_filter.mpr ⟨List.mem_of_getElem? (i := 354) (by decide +kernel), rfl⟩
theorem mw_355 : (.selects RX5 yX5_applyToConstants yX5_applyToConstants : Cond) ∈ AW := List.mem_filter.mpr ⟨List.mem_of_getElem? (i := 355) (by decide +kernel), rfl⟩
theorem gX6_46 : GoodIn AW (va_wsS RX6 46 yX1_named wsX1_named) := aw_S mw_337 mw_338 mw_48 mw_339
theorem gX6_49 : GoodIn AW (va_wsS RX6 49 yX1_namedTerms wsX1_namedTerms) := aw_S mw_340 mw_341 mw_48 mw_342
theorem gX6_52 : GoodIn AW (wsV RX6 52 RX6 yX6_areConstants wsX6_areConstants) := aw_V mw_344 mw_346 mw_2 mw_43 mw_347
theorem gX6_70 : GoodIn AW (va_wsS RX6 70 yX1_changesPlaces wsX1_changesPlaces) := aw_S mw_396 mw_397 mw_48 mw_398
theorem gX6_73 : GoodIn AW (wsV RX6 73 RX6 yX6_makeInPlace wsX6_makeInPlace) := aw_V mw_399 mw_401 mw_4 mw_43 mw_402
theorem gX6_56 : GoodIn AW (wsV RX6 56 RX4 yX4_widthOfResult wsX4_widthOfResult) := aw_V mw_349 mw_350 mw_351 mw_41 mw_352
theorem gX6_60 : GoodIn AW (wsV RX6 60 RX5 yX5_applyToConstants wsX5_applyToConstants) := aw_V mw_353 mw_354 mw_355 mw_42 mw_356
theorem dX6_make_0 : decode cX6_make 0 = .ok (.iload_n 1, 1) := by decide +kernel
theorem dX6_make_1 : decode cX6_make 1 = .ok (.invokestatic 46, 3) := by decide +kernel
theorem dX6_make_4 : decode cX6_make 4 = .ok (.istore 5, 2) := by decide +kernel
theorem dX6_make_6 : decode cX6_make 6 = .ok (.iload 5, 2) := by decide +kernel
theorem dX6_make_8 : decode cX6_make 8 = .ok (.iconst 1, 1) := by decide +kernel
theorem dX6_make_9 : decode cX6_make 9 = .ok (.if_icmp .le 7, 3) := by decide +kernel
theorem dX6_make_12 : decode cX6_make 12 = .ok (.iload_n 3, 1) := by decide +kernel
theorem dX6_make_13 : decode cX6_make 13 = .ok (.goto 4, 3) := by decide +kernel
theorem dX6_make_16 : decode cX6_make 16 = .ok (.iconst 0, 1) := by decide +kernel
theorem dX6_make_17 : decode cX6_make 17 = .ok (.istore 6, 2) := by decide +kernel
theorem dX6_make_19 : decode cX6_make 19 = .ok (.iload 5, 2) := by decide +kernel
theorem dX6_make_21 : decode cX6_make 21 = .ok (.iconst 2, 1) := by decide +kernel
theorem dX6_make_22 : decode cX6_make 22 = .ok (.if_icmp .le 8, 3) := by decide +kernel
theorem dX6_make_25 : decode cX6_make 25 = .ok (.iload 4, 2) := by decide +kernel
theorem dX6_make_27 : decode cX6_make 27 = .ok (.goto 4, 3) := by decide +kernel
theorem dX6_make_30 : decode cX6_make 30 = .ok (.iconst 0, 1) := by decide +kernel
theorem dX6_make_31 : decode cX6_make 31 = .ok (.istore 7, 2) := by decide +kernel
theorem dX6_make_33 : decode cX6_make 33 = .ok (.aload_n 0, 1) := by decide +kernel
theorem dX6_make_34 : decode cX6_make 34 = .ok (.iload_n 1, 1) := by decide +kernel
theorem dX6_make_35 : decode cX6_make 35 = .ok (.invokestatic 49, 3) := by decide +kernel
theorem dX6_make_38 : decode cX6_make 38 = .ok (.iload_n 2, 1) := by decide +kernel
theorem dX6_make_39 : decode cX6_make 39 = .ok (.iload 6, 2) := by decide +kernel
theorem dX6_make_41 : decode cX6_make 41 = .ok (.iload 7, 2) := by decide +kernel
theorem dX6_make_43 : decode cX6_make 43 = .ok (.invokevirtual 52, 3) := by decide +kernel
theorem dX6_make_46 : decode cX6_make 46 = .ok (.ifCond .eq 35, 3) := by decide +kernel
theorem dX6_make_49 : decode cX6_make 49 = .ok (.aload_n 0, 1) := by decide +kernel
theorem dX6_make_50 : decode cX6_make 50 = .ok (.getfield 9, 3) := by decide +kernel
theorem dX6_make_53 : decode cX6_make 53 = .ok (.aload_n 0, 1) := by decide +kernel
theorem dX6_make_54 : decode cX6_make 54 = .ok (.getfield 9, 3) := by decide +kernel
theorem dX6_make_57 : decode cX6_make 57 = .ok (.iload_n 1, 1) := by decide +kernel
theorem dX6_make_58 : decode cX6_make 58 = .ok (.iload_n 2, 1) := by decide +kernel
theorem dX6_make_59 : decode cX6_make 59 = .ok (.iload 6, 2) := by decide +kernel
theorem dX6_make_61 : decode cX6_make 61 = .ok (.invokevirtual 56, 3) := by decide +kernel
theorem dX6_make_64 : decode cX6_make 64 = .ok (.aload_n 0, 1) := by decide +kernel
theorem dX6_make_65 : decode cX6_make 65 = .ok (.getfield 15, 3) := by decide +kernel
theorem dX6_make_68 : decode cX6_make 68 = .ok (.iload_n 1, 1) := by decide +kernel
theorem dX6_make_69 : decode cX6_make 69 = .ok (.iload_n 2, 1) := by decide +kernel
theorem dX6_make_70 : decode cX6_make 70 = .ok (.iload 6, 2) := by decide +kernel
theorem dX6_make_72 : decode cX6_make 72 = .ok (.iload 7, 2) := by decide +kernel
theorem dX6_make_74 : decode cX6_make 74 = .ok (.invokevirtual 60, 3) := by decide +kernel
theorem dX6_make_77 : decode cX6_make 77 = .ok (.invokevirtual 66, 3) := by decide +kernel
theorem dX6_make_80 : decode cX6_make 80 = .ok (.ireturn, 1) := by decide +kernel
theorem dX6_make_81 : decode cX6_make 81 = .ok (.iload_n 1, 1) := by decide +kernel
theorem dX6_make_82 : decode cX6_make 82 = .ok (.invokestatic 70, 3) := by decide +kernel
theorem dX6_make_85 : decode cX6_make 85 = .ok (.ifCond .eq 20, 3) := by decide +kernel
theorem dX6_make_88 : decode cX6_make 88 = .ok (.iload_n 2, 1) := by decide +kernel
theorem dX6_make_89 : decode cX6_make 89 = .ok (.iload 6, 2) := by decide +kernel
theorem dX6_make_91 : decode cX6_make 91 = .ok (.if_icmp .le 14, 3) := by decide +kernel
theorem dX6_make_94 : decode cX6_make 94 = .ok (.aload_n 0, 1) := by decide +kernel
theorem dX6_make_95 : decode cX6_make 95 = .ok (.iload_n 1, 1) := by decide +kernel
theorem dX6_make_96 : decode cX6_make 96 = .ok (.iload 6, 2) := by decide +kernel
theorem dX6_make_98 : decode cX6_make 98 = .ok (.iload_n 2, 1) := by decide +kernel
theorem dX6_make_99 : decode cX6_make 99 = .ok (.iload 7, 2) := by decide +kernel
theorem dX6_make_101 : decode cX6_make 101 = .ok (.invokevirtual 73, 3) := by decide +kernel
theorem dX6_make_104 : decode cX6_make 104 = .ok (.ireturn, 1) := by decide +kernel
theorem dX6_make_105 : decode cX6_make 105 = .ok (.aload_n 0, 1) := by decide +kernel
theorem dX6_make_106 : decode cX6_make 106 = .ok (.iload_n 1, 1) := by decide +kernel
theorem dX6_make_107 : decode cX6_make 107 = .ok (.iload_n 2, 1) := by decide +kernel
theorem dX6_make_108 : decode cX6_make 108 = .ok (.iload 6, 2) := by decide +kernel
theorem dX6_make_110 : decode cX6_make 110 = .ok (.iload 7, 2) := by decide +kernel
theorem dX6_make_112 : decode cX6_make 112 = .ok (.invokevirtual 73, 3) := by decide +kernel
theorem dX6_make_115 : decode cX6_make 115 = .ok (.ireturn, 1) := by decide +kernel
def fx_Maker_make (st : XS) (o : Int32) (a1 : Int32) (b1 : Int32) (c1 : Int32) : Int32 × XS := 
  if fx_Op_named o ≤ (1 : Int32) then 
    if fx_Op_named o ≤ (2 : Int32) then 
      if fx_Maker_areConstants st (fx_Op_namedTerms o) a1 (0 : Int32) (0 : Int32) = (0 : Int32) then 
        if fx_Op_changesPlaces o = (0 : Int32) then (((fx_Maker_makeInPlace st o a1 (0 : Int32) (0 : Int32)).1), ((fx_Maker_makeInPlace st o a1 (0 : Int32) (0 : Int32)).2))
        else 
          if a1 ≤ (0 : Int32) then (((fx_Maker_makeInPlace st o a1 (0 : Int32) (0 : Int32)).1), ((fx_Maker_makeInPlace st o a1 (0 : Int32) (0 : Int32)).2))
          else (((fx_Maker_makeInPlace st o (0 : Int32) a1 (0 : Int32)).1), ((fx_Maker_makeInPlace st o (0 : Int32) a1 (0 : Int32)).2))
      else (((fx_Terms_findOrAddConstant st (fx_Terms_widthOfResult st o a1 (0 : Int32)) (fx_Eval_applyToConstants st o a1 (0 : Int32) (0 : Int32))).1), ((fx_Terms_findOrAddConstant st (fx_Terms_widthOfResult st o a1 (0 : Int32)) (fx_Eval_applyToConstants st o a1 (0 : Int32) (0 : Int32))).2))
    else 
      if fx_Maker_areConstants st (fx_Op_namedTerms o) a1 (0 : Int32) c1 = (0 : Int32) then 
        if fx_Op_changesPlaces o = (0 : Int32) then (((fx_Maker_makeInPlace st o a1 (0 : Int32) c1).1), ((fx_Maker_makeInPlace st o a1 (0 : Int32) c1).2))
        else 
          if a1 ≤ (0 : Int32) then (((fx_Maker_makeInPlace st o a1 (0 : Int32) c1).1), ((fx_Maker_makeInPlace st o a1 (0 : Int32) c1).2))
          else (((fx_Maker_makeInPlace st o (0 : Int32) a1 c1).1), ((fx_Maker_makeInPlace st o (0 : Int32) a1 c1).2))
      else (((fx_Terms_findOrAddConstant st (fx_Terms_widthOfResult st o a1 (0 : Int32)) (fx_Eval_applyToConstants st o a1 (0 : Int32) c1)).1), ((fx_Terms_findOrAddConstant st (fx_Terms_widthOfResult st o a1 (0 : Int32)) (fx_Eval_applyToConstants st o a1 (0 : Int32) c1)).2))
  else 
    if fx_Op_named o ≤ (2 : Int32) then 
      if fx_Maker_areConstants st (fx_Op_namedTerms o) a1 b1 (0 : Int32) = (0 : Int32) then 
        if fx_Op_changesPlaces o = (0 : Int32) then (((fx_Maker_makeInPlace st o a1 b1 (0 : Int32)).1), ((fx_Maker_makeInPlace st o a1 b1 (0 : Int32)).2))
        else 
          if a1 ≤ b1 then (((fx_Maker_makeInPlace st o a1 b1 (0 : Int32)).1), ((fx_Maker_makeInPlace st o a1 b1 (0 : Int32)).2))
          else (((fx_Maker_makeInPlace st o b1 a1 (0 : Int32)).1), ((fx_Maker_makeInPlace st o b1 a1 (0 : Int32)).2))
      else (((fx_Terms_findOrAddConstant st (fx_Terms_widthOfResult st o a1 b1) (fx_Eval_applyToConstants st o a1 b1 (0 : Int32))).1), ((fx_Terms_findOrAddConstant st (fx_Terms_widthOfResult st o a1 b1) (fx_Eval_applyToConstants st o a1 b1 (0 : Int32))).2))
    else 
      if fx_Maker_areConstants st (fx_Op_namedTerms o) a1 b1 c1 = (0 : Int32) then 
        if fx_Op_changesPlaces o = (0 : Int32) then (((fx_Maker_makeInPlace st o a1 b1 c1).1), ((fx_Maker_makeInPlace st o a1 b1 c1).2))
        else 
          if a1 ≤ b1 then (((fx_Maker_makeInPlace st o a1 b1 c1).1), ((fx_Maker_makeInPlace st o a1 b1 c1).2))
          else (((fx_Maker_makeInPlace st o b1 a1 c1).1), ((fx_Maker_makeInPlace st o b1 a1 c1).2))
      else (((fx_Terms_findOrAddConstant st (fx_Terms_widthOfResult st o a1 b1) (fx_Eval_applyToConstants st o a1 b1 c1)).1), ((fx_Terms_findOrAddConstant st (fx_Terms_widthOfResult st o a1 b1) (fx_Eval_applyToConstants st o a1 b1 c1)).2))
theorem ff_Maker_make (st : XS) (o : Int32) (a1 : Int32) (b1 : Int32) (c1 : Int32) : XF [6, 7] [3, 4, 5, 6] [1] st (fx_Maker_make st o a1 b1 c1).2 := by
  rw [fx_Maker_make]
  exact (wl_ite (P := fun (q : Int32 × XS) => XF [6, 7] [3, 4, 5, 6] [1] _ (q.2)) (wl_ite (P := fun (q : Int32 × XS) => XF [6, 7] [3, 4, 5, 6] [1] _ (q.2)) (wl_ite (P := fun (q : Int32 × XS) => XF [6, 7] [3, 4, 5, 6] [1] _ (q.2)) (wl_ite (P := fun (q : Int32 × XS) => XF [6, 7] [3, 4, 5, 6] [1] _ (q.2)) (XF.tr XF.rf (XF.mono (ff_Maker_makeInPlace _ _ _ _ _) (by decide) (by decide) (by decide))) (wl_ite (P := fun (q : Int32 × XS) => XF [6, 7] [3, 4, 5, 6] [1] _ (q.2)) (XF.tr XF.rf (XF.mono (ff_Maker_makeInPlace _ _ _ _ _) (by decide) (by decide) (by decide))) (XF.tr XF.rf (XF.mono (ff_Maker_makeInPlace _ _ _ _ _) (by decide) (by decide) (by decide))))) (XF.tr XF.rf (XF.mono (ff_Terms_findOrAddConstant _ _ _) (by decide) (by decide) (by decide)))) (wl_ite (P := fun (q : Int32 × XS) => XF [6, 7] [3, 4, 5, 6] [1] _ (q.2)) (wl_ite (P := fun (q : Int32 × XS) => XF [6, 7] [3, 4, 5, 6] [1] _ (q.2)) (XF.tr XF.rf (XF.mono (ff_Maker_makeInPlace _ _ _ _ _) (by decide) (by decide) (by decide))) (wl_ite (P := fun (q : Int32 × XS) => XF [6, 7] [3, 4, 5, 6] [1] _ (q.2)) (XF.tr XF.rf (XF.mono (ff_Maker_makeInPlace _ _ _ _ _) (by decide) (by decide) (by decide))) (XF.tr XF.rf (XF.mono (ff_Maker_makeInPlace _ _ _ _ _) (by decide) (by decide) (by decide))))) (XF.tr XF.rf (XF.mono (ff_Terms_findOrAddConstant _ _ _) (by decide) (by decide) (by decide))))) (wl_ite (P := fun (q : Int32 × XS) => XF [6, 7] [3, 4, 5, 6] [1] _ (q.2)) (wl_ite (P := fun (q : Int32 × XS) => XF [6, 7] [3, 4, 5, 6] [1] _ (q.2)) (wl_ite (P := fun (q : Int32 × XS) => XF [6, 7] [3, 4, 5, 6] [1] _ (q.2)) (XF.tr XF.rf (XF.mono (ff_Maker_makeInPlace _ _ _ _ _) (by decide) (by decide) (by decide))) (wl_ite (P := fun (q : Int32 × XS) => XF [6, 7] [3, 4, 5, 6] [1] _ (q.2)) (XF.tr XF.rf (XF.mono (ff_Maker_makeInPlace _ _ _ _ _) (by decide) (by decide) (by decide))) (XF.tr XF.rf (XF.mono (ff_Maker_makeInPlace _ _ _ _ _) (by decide) (by decide) (by decide))))) (XF.tr XF.rf (XF.mono (ff_Terms_findOrAddConstant _ _ _) (by decide) (by decide) (by decide)))) (wl_ite (P := fun (q : Int32 × XS) => XF [6, 7] [3, 4, 5, 6] [1] _ (q.2)) (wl_ite (P := fun (q : Int32 × XS) => XF [6, 7] [3, 4, 5, 6] [1] _ (q.2)) (XF.tr XF.rf (XF.mono (ff_Maker_makeInPlace _ _ _ _ _) (by decide) (by decide) (by decide))) (wl_ite (P := fun (q : Int32 × XS) => XF [6, 7] [3, 4, 5, 6] [1] _ (q.2)) (XF.tr XF.rf (XF.mono (ff_Maker_makeInPlace _ _ _ _ _) (by decide) (by decide) (by decide))) (XF.tr XF.rf (XF.mono (ff_Maker_makeInPlace _ _ _ _ _) (by decide) (by decide) (by decide))))) (XF.tr XF.rf (XF.mono (ff_Terms_findOrAddConstant _ _ _) (by decide) (by decide) (by decide))))))
set_option maxHeartbeats 4000000 in
set_option maxRecDepth 100000 in
theorem kx_Maker_make (l : Launch) (dC : Nat → ClassId) (dI : Nat → Nat → Nat) (a : Nat → Nat) (k : Nat → ClassId) (st : XS) (o : Int32) (a1 : Int32) (b1 : Int32) (c1 : Int32) (sz : Nat) (N : Nat) (hN : gI st 6 = nI N) (h64 : N ≤ 64) (hO0 : ¬ o < 0) (hO20 : ¬ (20 : Int32) < o) (hA : vp_in a1 64) (hB : (2 : Int32) ≤ fx_Op_namedTerms o → vp_in b1 64) (hC : (3 : Int32) ≤ fx_Op_namedTerms o → vp_in c1 64) (hT : o = 20 → vp_in b1 2) (hV : o = 8 ∨ o = 9 → ¬ fx_Terms_isConstant st b1 = 0 → ¬ fL st 1 b1.toNatClampNeg = 0 → ¬ fx_Width_readPlain (fx_Terms_widthOf st a1) (fL st 1 b1.toNatClampNeg) = 0) : Met l yX6_make wsX6_make ({ frames := 5, cells := 0, slots := 0, locals := 116 }) (va_Pc [.ref (a 16), .int o, .int a1, .int b1, .int c1] (wl_pre (dC, dI) vwCl (xt k) (xw a k) st sz)) (va_Qi (fun r9 u9 => (r9, u9) = fx_Maker_make st o a1 b1 c1) (wl_at (dC, dI) vwCl (xt k) (xw a k) (va_A (xw a k st) sz)) (va_A (xw a k st) sz)) 0 0 (va_A (xw a k st) sz) := by
  refine Met.ofW (cc := cX6_make) (maxL := 8) (ret := (some .int)) (by decide) rfl ?_
  intro p e s m args below meth c s₁ B hml hv
  obtain ⟨rfl, hsz, hP, hK, hD0⟩ := hv
  have hx := B.exec
  have hb := B.bytes
  have hr := B.returns
  have hta := aw_hts (atoms_spec (ws := wsX6_make) B.pre)
  have hown : s.vm.findClass RX6 = some m.cls := findClass_of_methodNamed B.named
  have hlocks := B.notSynchronized
  have hf9 := hta _ mw_149
  have hf15 := hta _ mw_150
  subst hsz
  have hD := hD0.self (sz := s.heap.size)
  generalize hAe : va_A (xw a k st) s.heap.size = A at hD ⊢
  have hAz : ∀ q : Nat, s.heap.size ≤ q → A q := fun q h => by rw [← hAe]; exact Or.inr h
  have hS : va_S A s.heap s.heap [] := va_S.rf
  have hl := lv_entry ([.ref (a 16), .int o, .int a1, .int b1, .int c1]) (n := 8) (Nat.le_of_ble_eq_true rfl)
  rw [lg_entry_eq]
  generalize (lg_sl ([.ref (a 16), .int o, .int a1, .int b1, .int c1]) ++ List.replicate (8 - (lg_sl ([.ref (a 16), .int o, .int a1, .int b1, .int c1])).length) Slot.unset).toArray = ls at hl ⊢
  have hl : lv_has ls 8 [(0, .ref (a 16)), (1, .int o), (2, .int a1), (3, .int b1), (4, .int c1)] := hl
  generalize hR : fx_Maker_make st o a1 b1 c1 = R
  rw [fx_Maker_make] at hR
  refine lv_iload_n hx hb dX6_make_0 rfl (lv_at hl 1 rfl) ?_
  refine wl_ci (va_runS (As := [.int o]) (rest := []) ⟨hx, hb, hml, hown, hta⟩ (kx_Op_named l o) (va_cwS 1 hta gX6_46 rfl rfl rfl (by decide +kernel) ⟨Nat.le_of_ble_eq_true rfl, Nat.le_of_ble_eq_true rfl⟩) preEq rfl rfl hl.1 rfl (lv_room (Nat.le_of_ble_eq_true rfl)) dX6_make_1 ⟨Nat.zero_le _, Nat.zero_le _⟩) ?_
  refine lv_istore (lv' := [(5, .int (fx_Op_named o)), (0, .ref (a 16)), (1, .int o), (2, .int a1), (3, .int b1), (4, .int c1)]) hx hb dX6_make_4 hl (by decide) rfl (fun ls hl => ?_)
  refine lv_iload hx hb dX6_make_6 (lv_at hl 0 rfl) ?_
  refine lv_iconst (v := (1 : Int32)) hx hb dX6_make_8 (by decide) ?_
  refine lv_icmp_le (tgt := 16) hx hb dX6_make_9 (by decide) (fun c9 => ?_) (fun c9 => ?_)
  · skip
    rw [if_pos c9] at hR
    have hB2 : ¬ fx_Op_namedTerms o < (2 : Int32) → vp_in (0 : Int32) 64 := fun _ => wl_in0
    have hT2 : o = 20 → vp_in (0 : Int32) 2 := fun _ => wl_in02
    have hV9 : o = 8 ∨ o = 9 → ¬ fx_Terms_isConstant st (0 : Int32) = 0 → (¬ fL st 1 (0 : Int32).toNatClampNeg = 0 → ¬ fx_Width_readPlain (fx_Terms_widthOf st a1) (fL st 1 (0 : Int32).toNatClampNeg) = 0) := fun h => absurd c9 (by rcases h with h | h <;> (rw [h]; decide))
    refine lv_iconst (v := (0 : Int32)) hx hb dX6_make_16 (by decide) ?_
    refine lv_istore (lv' := [(6, .int (0 : Int32)), (5, .int (fx_Op_named o)), (0, .ref (a 16)), (1, .int o), (2, .int a1), (3, .int b1), (4, .int c1)]) hx hb dX6_make_17 hl (by decide) rfl (fun ls hl => ?_)
    refine lv_iload hx hb dX6_make_19 (lv_at hl 1 rfl) ?_
    refine lv_iconst (v := (2 : Int32)) hx hb dX6_make_21 (by decide) ?_
    refine lv_icmp_le (tgt := 30) hx hb dX6_make_22 (by decide) (fun c22 => ?_) (fun c22 => ?_)
    · skip
      rw [if_pos c22] at hR
      have hC2 : ¬ fx_Op_namedTerms o < (3 : Int32) → vp_in (0 : Int32) 64 := fun _ => wl_in0
      refine lv_iconst (v := (0 : Int32)) hx hb dX6_make_30 (by decide) ?_
      refine lv_istore (lv' := [(7, .int (0 : Int32)), (6, .int (0 : Int32)), (5, .int (fx_Op_named o)), (0, .ref (a 16)), (1, .int o), (2, .int a1), (3, .int b1), (4, .int c1)]) hx hb dX6_make_31 hl (by decide) rfl (fun ls hl => ?_)
      refine lv_aload_n hx hb dX6_make_33 rfl (lv_at hl 3 rfl) ?_
      refine lv_iload_n hx hb dX6_make_34 rfl (lv_at hl 4 rfl) ?_
      refine wl_ci (va_runS (As := [.int o]) (rest := [.ref (a 16)]) ⟨hx, hb, hml, hown, hta⟩ (kx_Op_namedTerms l o) (va_cwS 1 hta gX6_49 rfl rfl rfl (by decide +kernel) ⟨Nat.le_of_ble_eq_true rfl, Nat.le_of_ble_eq_true rfl⟩) preEq rfl rfl hl.1 rfl (lv_room (Nat.le_of_ble_eq_true rfl)) dX6_make_35 ⟨Nat.zero_le _, Nat.zero_le _⟩) ?_
      refine lv_iload_n hx hb dX6_make_38 rfl (lv_at hl 5 rfl) ?_
      refine lv_iload hx hb dX6_make_39 (lv_at hl 1 rfl) ?_
      refine lv_iload hx hb dX6_make_41 (lv_at hl 0 rfl) ?_
      refine wl_ci (va_runV (As := [.int (fx_Op_namedTerms o), .int a1, .int (0 : Int32), .int (0 : Int32)]) (rest := []) ⟨hx, hb, hml, hown, hta⟩ (kx_Maker_areConstants l dC dI a k st (fx_Op_namedTerms o) a1 (0 : Int32) (0 : Int32) hA hB2 hC2) (cwV 4 hta gX6_52 rfl rfl rfl (by decide +kernel) ⟨Nat.le_of_ble_eq_true rfl, Nat.le_of_ble_eq_true rfl⟩) (wl_pR (C := RX6) (ci := 4) (q0 := 16) hK hP rfl (xr_16 a k st)) rfl rfl hl.1 rfl (lv_room (Nat.le_of_ble_eq_true rfl)) dX6_make_43 ⟨Nat.zero_le _, Nat.zero_le _⟩) ?_
      refine lv_if_eq (tgt := 81) hx hb dX6_make_46 (by decide) (fun c46 => ?_) (fun c46 => ?_)
      · skip
        rw [if_pos c46] at hR
        refine lv_iload_n hx hb dX6_make_81 rfl (lv_at hl 4 rfl) ?_
        refine wl_ci (va_runS (As := [.int o]) (rest := []) ⟨hx, hb, hml, hown, hta⟩ (kx_Op_changesPlaces l o) (va_cwS 1 hta gX6_70 rfl rfl rfl (by decide +kernel) ⟨Nat.le_of_ble_eq_true rfl, Nat.le_of_ble_eq_true rfl⟩) preEq rfl rfl hl.1 rfl (lv_room (Nat.le_of_ble_eq_true rfl)) dX6_make_82 ⟨Nat.zero_le _, Nat.zero_le _⟩) ?_
        refine lv_if_eq (tgt := 105) hx hb dX6_make_85 (by decide) (fun c85 => ?_) (fun c85 => ?_)
        · skip
          rw [if_pos c85] at hR
          refine lv_aload_n hx hb dX6_make_105 rfl (lv_at hl 3 rfl) ?_
          refine lv_iload_n hx hb dX6_make_106 rfl (lv_at hl 4 rfl) ?_
          refine lv_iload_n hx hb dX6_make_107 rfl (lv_at hl 5 rfl) ?_
          refine lv_iload hx hb dX6_make_108 (lv_at hl 1 rfl) ?_
          refine lv_iload hx hb dX6_make_110 (lv_at hl 0 rfl) ?_
          refine wl_mi (va_runV (As := [.int o, .int a1, .int (0 : Int32), .int (0 : Int32)]) (rest := []) ⟨hx, hb, hml, hown, hta⟩ (kx_Maker_makeInPlace l dC dI a k st o a1 (0 : Int32) (0 : Int32) _ N hN h64 hA (fun h => hB2 (wl_bz h)) (fun h => hB2 (wl_ln h)) (fun h => hC2 (wl_ln h))) (cwV 4 hta gX6_73 rfl rfl rfl (by decide +kernel) ⟨Nat.le_of_ble_eq_true rfl, Nat.le_of_ble_eq_true rfl⟩) (wl_pM (C := RX6) (ci := 4) (q0 := 16) hK hP hD rfl (xr_16 a k st)) rfl rfl hl.1 rfl (lv_room (Nat.le_of_ble_eq_true rfl)) dX6_make_112 ⟨Nat.zero_le _, Nat.zero_le _⟩) hP hD hS hAz (fun r112 u112 H locs hw112 hP hD hS => ?_)
          have v112 : (fx_Maker_makeInPlace st o a1 (0 : Int32) (0 : Int32)).1 = r112 := congrArg Prod.fst hw112.symm
          have w112 : (fx_Maker_makeInPlace st o a1 (0 : Int32) (0 : Int32)).2 = u112 := congrArg Prod.snd hw112.symm
          have hf112 : XF [6, 7] [3, 4, 5, 6] [1] st u112 := by rw [← w112]; exact ff_Maker_makeInPlace st o a1 (0 : Int32) (0 : Int32)
          try rw [v112] at hR
          try rw [w112] at hR
          exact W.iret (v := r112) hx hb hr (fun t ht hW => ⟨⟨_, _, rfl, hR, by rw [ht]; exact hP, va_K.moved hW.alike hK, hD⟩, hS.F ht⟩) hS.2.2 dX6_make_115
        · skip
          rw [if_neg c85] at hR
          refine lv_iload_n hx hb dX6_make_88 rfl (lv_at hl 5 rfl) ?_
          refine lv_iload hx hb dX6_make_89 (lv_at hl 1 rfl) ?_
          refine lv_icmp_le (tgt := 105) hx hb dX6_make_91 (by decide) (fun c91 => ?_) (fun c91 => ?_)
          · skip
            rw [if_pos c91] at hR
            refine lv_aload_n hx hb dX6_make_105 rfl (lv_at hl 3 rfl) ?_
            refine lv_iload_n hx hb dX6_make_106 rfl (lv_at hl 4 rfl) ?_
            refine lv_iload_n hx hb dX6_make_107 rfl (lv_at hl 5 rfl) ?_
            refine lv_iload hx hb dX6_make_108 (lv_at hl 1 rfl) ?_
            refine lv_iload hx hb dX6_make_110 (lv_at hl 0 rfl) ?_
            refine wl_mi (va_runV (As := [.int o, .int a1, .int (0 : Int32), .int (0 : Int32)]) (rest := []) ⟨hx, hb, hml, hown, hta⟩ (kx_Maker_makeInPlace l dC dI a k st o a1 (0 : Int32) (0 : Int32) _ N hN h64 hA (fun h => hB2 (wl_bz h)) (fun h => hB2 (wl_ln h)) (fun h => hC2 (wl_ln h))) (cwV 4 hta gX6_73 rfl rfl rfl (by decide +kernel) ⟨Nat.le_of_ble_eq_true rfl, Nat.le_of_ble_eq_true rfl⟩) (wl_pM (C := RX6) (ci := 4) (q0 := 16) hK hP hD rfl (xr_16 a k st)) rfl rfl hl.1 rfl (lv_room (Nat.le_of_ble_eq_true rfl)) dX6_make_112 ⟨Nat.zero_le _, Nat.zero_le _⟩) hP hD hS hAz (fun r112 u112 H locs hw112 hP hD hS => ?_)
            have v112 : (fx_Maker_makeInPlace st o a1 (0 : Int32) (0 : Int32)).1 = r112 := congrArg Prod.fst hw112.symm
            have w112 : (fx_Maker_makeInPlace st o a1 (0 : Int32) (0 : Int32)).2 = u112 := congrArg Prod.snd hw112.symm
            have hf112 : XF [6, 7] [3, 4, 5, 6] [1] st u112 := by rw [← w112]; exact ff_Maker_makeInPlace st o a1 (0 : Int32) (0 : Int32)
            try rw [v112] at hR
            try rw [w112] at hR
            exact W.iret (v := r112) hx hb hr (fun t ht hW => ⟨⟨_, _, rfl, hR, by rw [ht]; exact hP, va_K.moved hW.alike hK, hD⟩, hS.F ht⟩) hS.2.2 dX6_make_115
          · skip
            rw [if_neg c91] at hR
            refine lv_aload_n hx hb dX6_make_94 rfl (lv_at hl 3 rfl) ?_
            refine lv_iload_n hx hb dX6_make_95 rfl (lv_at hl 4 rfl) ?_
            refine lv_iload hx hb dX6_make_96 (lv_at hl 1 rfl) ?_
            refine lv_iload_n hx hb dX6_make_98 rfl (lv_at hl 5 rfl) ?_
            refine lv_iload hx hb dX6_make_99 (lv_at hl 0 rfl) ?_
            refine wl_mi (va_runV (As := [.int o, .int (0 : Int32), .int a1, .int (0 : Int32)]) (rest := []) ⟨hx, hb, hml, hown, hta⟩ (kx_Maker_makeInPlace l dC dI a k st o (0 : Int32) a1 (0 : Int32) _ N hN h64 (hB2 (wl_chp c85 hO0 hO20)) (fun _ => hA) (fun _ => hA) (fun h => hC2 (wl_ln h))) (cwV 4 hta gX6_73 rfl rfl rfl (by decide +kernel) ⟨Nat.le_of_ble_eq_true rfl, Nat.le_of_ble_eq_true rfl⟩) (wl_pM (C := RX6) (ci := 4) (q0 := 16) hK hP hD rfl (xr_16 a k st)) rfl rfl hl.1 rfl (lv_room (Nat.le_of_ble_eq_true rfl)) dX6_make_101 ⟨Nat.zero_le _, Nat.zero_le _⟩) hP hD hS hAz (fun r101 u101 H locs hw101 hP hD hS => ?_)
            have v101 : (fx_Maker_makeInPlace st o (0 : Int32) a1 (0 : Int32)).1 = r101 := congrArg Prod.fst hw101.symm
            have w101 : (fx_Maker_makeInPlace st o (0 : Int32) a1 (0 : Int32)).2 = u101 := congrArg Prod.snd hw101.symm
            have hf101 : XF [6, 7] [3, 4, 5, 6] [1] st u101 := by rw [← w101]; exact ff_Maker_makeInPlace st o (0 : Int32) a1 (0 : Int32)
            try rw [v101] at hR
            try rw [w101] at hR
            exact W.iret (v := r101) hx hb hr (fun t ht hW => ⟨⟨_, _, rfl, hR, by rw [ht]; exact hP, va_K.moved hW.alike hK, hD⟩, hS.F ht⟩) hS.2.2 dX6_make_104
      · skip
        rw [if_neg c46] at hR
        refine lv_aload_n hx hb dX6_make_49 rfl (lv_at hl 3 rfl) ?_
        refine va_get (D := (dC, dI)) (ci := 4) (v := .ref (a 7)) (C := RX6) (T := TX6) (N := 2) hx hb hta inX6 hown hK hP 16 (xr_16 a k st) rfl 0 (by decide) hf9 (fun _ h9 => h9) rfl dX6_make_50 ?_
        refine lv_aload_n hx hb dX6_make_53 rfl (lv_at hl 3 rfl) ?_
        refine va_get (D := (dC, dI)) (ci := 4) (v := .ref (a 7)) (C := RX6) (T := TX6) (N := 2) hx hb hta inX6 hown hK hP 16 (xr_16 a k st) rfl 0 (by decide) hf9 (fun _ h9 => h9) rfl dX6_make_54 ?_
        refine lv_iload_n hx hb dX6_make_57 rfl (lv_at hl 4 rfl) ?_
        refine lv_iload_n hx hb dX6_make_58 rfl (lv_at hl 5 rfl) ?_
        refine lv_iload hx hb dX6_make_59 (lv_at hl 1 rfl) ?_
        refine wl_ci (va_runV (As := [.int o, .int a1, .int (0 : Int32)]) (rest := [.ref (a 7)]) ⟨hx, hb, hml, hown, hta⟩ (kx_Terms_widthOfResult l dC dI a k st o a1 (0 : Int32) hA (fun h => hB2 (by rw [h]; decide))) (cwV 3 hta gX6_56 rfl rfl rfl (by decide +kernel) ⟨Nat.le_of_ble_eq_true rfl, Nat.le_of_ble_eq_true rfl⟩) (wl_pR (C := RX4) (ci := 2) (q0 := 7) hK hP rfl (xr_7 a k st)) rfl rfl hl.1 rfl (lv_room (Nat.le_of_ble_eq_true rfl)) dX6_make_61 ⟨Nat.zero_le _, Nat.zero_le _⟩) ?_
        refine lv_aload_n hx hb dX6_make_64 rfl (lv_at hl 3 rfl) ?_
        refine va_get (D := (dC, dI)) (ci := 4) (v := .ref (a 13)) (C := RX6) (T := TX6) (N := 2) hx hb hta inX6 hown hK hP 16 (xr_16 a k st) rfl 1 (by decide) hf15 (fun _ h9 => h9) rfl dX6_make_65 ?_
        refine lv_iload_n hx hb dX6_make_68 rfl (lv_at hl 4 rfl) ?_
        refine lv_iload_n hx hb dX6_make_69 rfl (lv_at hl 5 rfl) ?_
        refine lv_iload hx hb dX6_make_70 (lv_at hl 1 rfl) ?_
        refine lv_iload hx hb dX6_make_72 (lv_at hl 0 rfl) ?_
        refine wl_cl (va_runV (As := [.int o, .int a1, .int (0 : Int32), .int (0 : Int32)]) (rest := [.int (fx_Terms_widthOfResult st o a1 (0 : Int32)), .ref (a 7)]) ⟨hx, hb, hml, hown, hta⟩ (kx_Eval_applyToConstants l dC dI a k st o a1 (0 : Int32) (0 : Int32) hA (fun h => hB2 (wl_nb2 hO0 hO20 h)) (fun h => hC2 (by rw [h]; decide)) hT2 (wl_hv2 hV9 c46)) (cwV 4 hta gX6_60 rfl rfl rfl (by decide +kernel) ⟨Nat.le_of_ble_eq_true rfl, Nat.le_of_ble_eq_true rfl⟩) (wl_pR (C := RX5) (ci := 3) (q0 := 13) hK hP rfl (xr_13 a k st)) rfl rfl hl.1 rfl (lv_room (Nat.le_of_ble_eq_true rfl)) dX6_make_74 ⟨Nat.zero_le _, Nat.zero_le _⟩) ?_
        refine wl_mi (va_runV (As := [.int (fx_Terms_widthOfResult st o a1 (0 : Int32)), .long (fx_Eval_applyToConstants st o a1 (0 : Int32) (0 : Int32))]) (rest := []) ⟨hx, hb, hml, hown, hta⟩ (kx_Terms_findOrAddConstant l dC dI a k st (fx_Terms_widthOfResult st o a1 (0 : Int32)) (fx_Eval_applyToConstants st o a1 (0 : Int32) (0 : Int32)) _ N hN h64) (cwV 2 hta gX6_66 rfl rfl rfl (by decide +kernel) ⟨Nat.le_of_ble_eq_true rfl, Nat.le_of_ble_eq_true rfl⟩) (wl_pM (C := RX4) (ci := 2) (q0 := 7) hK hP hD rfl (xr_7 a k st)) rfl rfl hl.1 rfl (lv_room (Nat.le_of_ble_eq_true rfl)) dX6_make_77 ⟨Nat.zero_le _, Nat.zero_le _⟩) hP hD hS hAz (fun r77 u77 H locs hw77 hP hD hS => ?_)
        have v77 : (fx_Terms_findOrAddConstant st (fx_Terms_widthOfResult st o a1 (0 : Int32)) (fx_Eval_applyToConstants st o a1 (0 : Int32) (0 : Int32))).1 = r77 := congrArg Prod.fst hw77.symm
        have w77 : (fx_Terms_findOrAddConstant st (fx_Terms_widthOfResult st o a1 (0 : Int32)) (fx_Eval_applyToConstants st o a1 (0 : Int32) (0 : Int32))).2 = u77 := congrArg Prod.snd hw77.symm
        have hf77 : XF [6] [3, 4] [1] st u77 := by rw [← w77]; exact ff_Terms_findOrAddConstant st (fx_Terms_widthOfResult st o a1 (0 : Int32)) (fx_Eval_applyToConstants st o a1 (0 : Int32) (0 : Int32))
        try rw [v77] at hR
        try rw [w77] at hR
        exact W.iret (v := r77) hx hb hr (fun t ht hW => ⟨⟨_, _, rfl, hR, by rw [ht]; exact hP, va_K.moved hW.alike hK, hD⟩, hS.F ht⟩) hS.2.2 dX6_make_80
    · skip
      rw [if_neg c22] at hR
      have hC2 : ¬ fx_Op_namedTerms o < (3 : Int32) → vp_in c1 64 := fun h => hC (wl_nl h)
      refine lv_iload hx hb dX6_make_25 (lv_at hl 6 rfl) ?_
      refine lv_goto (tgt := 31) hx hb dX6_make_27 (by decide) ?_
      refine lv_istore (lv' := [(7, .int c1), (6, .int (0 : Int32)), (5, .int (fx_Op_named o)), (0, .ref (a 16)), (1, .int o), (2, .int a1), (3, .int b1), (4, .int c1)]) hx hb dX6_make_31 hl (by decide) rfl (fun ls hl => ?_)
      refine lv_aload_n hx hb dX6_make_33 rfl (lv_at hl 3 rfl) ?_
      refine lv_iload_n hx hb dX6_make_34 rfl (lv_at hl 4 rfl) ?_
      refine wl_ci (va_runS (As := [.int o]) (rest := [.ref (a 16)]) ⟨hx, hb, hml, hown, hta⟩ (kx_Op_namedTerms l o) (va_cwS 1 hta gX6_49 rfl rfl rfl (by decide +kernel) ⟨Nat.le_of_ble_eq_true rfl, Nat.le_of_ble_eq_true rfl⟩) preEq rfl rfl hl.1 rfl (lv_room (Nat.le_of_ble_eq_true rfl)) dX6_make_35 ⟨Nat.zero_le _, Nat.zero_le _⟩) ?_
      refine lv_iload_n hx hb dX6_make_38 rfl (lv_at hl 5 rfl) ?_
      refine lv_iload hx hb dX6_make_39 (lv_at hl 1 rfl) ?_
      refine lv_iload hx hb dX6_make_41 (lv_at hl 0 rfl) ?_
      refine wl_ci (va_runV (As := [.int (fx_Op_namedTerms o), .int a1, .int (0 : Int32), .int c1]) (rest := []) ⟨hx, hb, hml, hown, hta⟩ (kx_Maker_areConstants l dC dI a k st (fx_Op_namedTerms o) a1 (0 : Int32) c1 hA hB2 hC2) (cwV 4 hta gX6_52 rfl rfl rfl (by decide +kernel) ⟨Nat.le_of_ble_eq_true rfl, Nat.le_of_ble_eq_true rfl⟩) (wl_pR (C := RX6) (ci := 4) (q0 := 16) hK hP rfl (xr_16 a k st)) rfl rfl hl.1 rfl (lv_room (Nat.le_of_ble_eq_true rfl)) dX6_make_43 ⟨Nat.zero_le _, Nat.zero_le _⟩) ?_
      refine lv_if_eq (tgt := 81) hx hb dX6_make_46 (by decide) (fun c46 => ?_) (fun c46 => ?_)
      · skip
        rw [if_pos c46] at hR
        refine lv_iload_n hx hb dX6_make_81 rfl (lv_at hl 4 rfl) ?_
        refine wl_ci (va_runS (As := [.int o]) (rest := []) ⟨hx, hb, hml, hown, hta⟩ (kx_Op_changesPlaces l o) (va_cwS 1 hta gX6_70 rfl rfl rfl (by decide +kernel) ⟨Nat.le_of_ble_eq_true rfl, Nat.le_of_ble_eq_true rfl⟩) preEq rfl rfl hl.1 rfl (lv_room (Nat.le_of_ble_eq_true rfl)) dX6_make_82 ⟨Nat.zero_le _, Nat.zero_le _⟩) ?_
        refine lv_if_eq (tgt := 105) hx hb dX6_make_85 (by decide) (fun c85 => ?_) (fun c85 => ?_)
        · skip
          rw [if_pos c85] at hR
          refine lv_aload_n hx hb dX6_make_105 rfl (lv_at hl 3 rfl) ?_
          refine lv_iload_n hx hb dX6_make_106 rfl (lv_at hl 4 rfl) ?_
          refine lv_iload_n hx hb dX6_make_107 rfl (lv_at hl 5 rfl) ?_
          refine lv_iload hx hb dX6_make_108 (lv_at hl 1 rfl) ?_
          refine lv_iload hx hb dX6_make_110 (lv_at hl 0 rfl) ?_
          refine wl_mi (va_runV (As := [.int o, .int a1, .int (0 : Int32), .int c1]) (rest := []) ⟨hx, hb, hml, hown, hta⟩ (kx_Maker_makeInPlace l dC dI a k st o a1 (0 : Int32) c1 _ N hN h64 hA (fun h => hB2 (wl_bz h)) (fun h => hB2 (wl_ln h)) (fun h => hC2 (wl_ln h))) (cwV 4 hta gX6_73 rfl rfl rfl (by decide +kernel) ⟨Nat.le_of_ble_eq_true rfl, Nat.le_of_ble_eq_true rfl⟩) (wl_pM (C := RX6) (ci := 4) (q0 := 16) hK hP hD rfl (xr_16 a k st)) rfl rfl hl.1 rfl (lv_room (Nat.le_of_ble_eq_true rfl)) dX6_make_112 ⟨Nat.zero_le _, Nat.zero_le _⟩) hP hD hS hAz (fun r112 u112 H locs hw112 hP hD hS => ?_)
          have v112 : (fx_Maker_makeInPlace st o a1 (0 : Int32) c1).1 = r112 := congrArg Prod.fst hw112.symm
          have w112 : (fx_Maker_makeInPlace st o a1 (0 : Int32) c1).2 = u112 := congrArg Prod.snd hw112.symm
          have hf112 : XF [6, 7] [3, 4, 5, 6] [1] st u112 := by rw [← w112]; exact ff_Maker_makeInPlace st o a1 (0 : Int32) c1
          try rw [v112] at hR
          try rw [w112] at hR
          exact W.iret (v := r112) hx hb hr (fun t ht hW => ⟨⟨_, _, rfl, hR, by rw [ht]; exact hP, va_K.moved hW.alike hK, hD⟩, hS.F ht⟩) hS.2.2 dX6_make_115
        · skip
          rw [if_neg c85] at hR
          refine lv_iload_n hx hb dX6_make_88 rfl (lv_at hl 5 rfl) ?_
          refine lv_iload hx hb dX6_make_89 (lv_at hl 1 rfl) ?_
          refine lv_icmp_le (tgt := 105) hx hb dX6_make_91 (by decide) (fun c91 => ?_) (fun c91 => ?_)
          · skip
            rw [if_pos c91] at hR
            refine lv_aload_n hx hb dX6_make_105 rfl (lv_at hl 3 rfl) ?_
            refine lv_iload_n hx hb dX6_make_106 rfl (lv_at hl 4 rfl) ?_
            refine lv_iload_n hx hb dX6_make_107 rfl (lv_at hl 5 rfl) ?_
            refine lv_iload hx hb dX6_make_108 (lv_at hl 1 rfl) ?_
            refine lv_iload hx hb dX6_make_110 (lv_at hl 0 rfl) ?_
            refine wl_mi (va_runV (As := [.int o, .int a1, .int (0 : Int32), .int c1]) (rest := []) ⟨hx, hb, hml, hown, hta⟩ (kx_Maker_makeInPlace l dC dI a k st o a1 (0 : Int32) c1 _ N hN h64 hA (fun h => hB2 (wl_bz h)) (fun h => hB2 (wl_ln h)) (fun h => hC2 (wl_ln h))) (cwV 4 hta gX6_73 rfl rfl rfl (by decide +kernel) ⟨Nat.le_of_ble_eq_true rfl, Nat.le_of_ble_eq_true rfl⟩) (wl_pM (C := RX6) (ci := 4) (q0 := 16) hK hP hD rfl (xr_16 a k st)) rfl rfl hl.1 rfl (lv_room (Nat.le_of_ble_eq_true rfl)) dX6_make_112 ⟨Nat.zero_le _, Nat.zero_le _⟩) hP hD hS hAz (fun r112 u112 H locs hw112 hP hD hS => ?_)
            have v112 : (fx_Maker_makeInPlace st o a1 (0 : Int32) c1).1 = r112 := congrArg Prod.fst hw112.symm
            have w112 : (fx_Maker_makeInPlace st o a1 (0 : Int32) c1).2 = u112 := congrArg Prod.snd hw112.symm
            have hf112 : XF [6, 7] [3, 4, 5, 6] [1] st u112 := by rw [← w112]; exact ff_Maker_makeInPlace st o a1 (0 : Int32) c1
            try rw [v112] at hR
            try rw [w112] at hR
            exact W.iret (v := r112) hx hb hr (fun t ht hW => ⟨⟨_, _, rfl, hR, by rw [ht]; exact hP, va_K.moved hW.alike hK, hD⟩, hS.F ht⟩) hS.2.2 dX6_make_115
          · skip
            rw [if_neg c91] at hR
            refine lv_aload_n hx hb dX6_make_94 rfl (lv_at hl 3 rfl) ?_
            refine lv_iload_n hx hb dX6_make_95 rfl (lv_at hl 4 rfl) ?_
            refine lv_iload hx hb dX6_make_96 (lv_at hl 1 rfl) ?_
            refine lv_iload_n hx hb dX6_make_98 rfl (lv_at hl 5 rfl) ?_
            refine lv_iload hx hb dX6_make_99 (lv_at hl 0 rfl) ?_
            refine wl_mi (va_runV (As := [.int o, .int (0 : Int32), .int a1, .int c1]) (rest := []) ⟨hx, hb, hml, hown, hta⟩ (kx_Maker_makeInPlace l dC dI a k st o (0 : Int32) a1 c1 _ N hN h64 (hB2 (wl_chp c85 hO0 hO20)) (fun _ => hA) (fun _ => hA) (fun h => hC2 (wl_ln h))) (cwV 4 hta gX6_73 rfl rfl rfl (by decide +kernel) ⟨Nat.le_of_ble_eq_true rfl, Nat.le_of_ble_eq_true rfl⟩) (wl_pM (C := RX6) (ci := 4) (q0 := 16) hK hP hD rfl (xr_16 a k st)) rfl rfl hl.1 rfl (lv_room (Nat.le_of_ble_eq_true rfl)) dX6_make_101 ⟨Nat.zero_le _, Nat.zero_le _⟩) hP hD hS hAz (fun r101 u101 H locs hw101 hP hD hS => ?_)
            have v101 : (fx_Maker_makeInPlace st o (0 : Int32) a1 c1).1 = r101 := congrArg Prod.fst hw101.symm
            have w101 : (fx_Maker_makeInPlace st o (0 : Int32) a1 c1).2 = u101 := congrArg Prod.snd hw101.symm
            have hf101 : XF [6, 7] [3, 4, 5, 6] [1] st u101 := by rw [← w101]; exact ff_Maker_makeInPlace st o (0 : Int32) a1 c1
            try rw [v101] at hR
            try rw [w101] at hR
            exact W.iret (v := r101) hx hb hr (fun t ht hW => ⟨⟨_, _, rfl, hR, by rw [ht]; exact hP, va_K.moved hW.alike hK, hD⟩, hS.F ht⟩) hS.2.2 dX6_make_104
      · skip
        rw [if_neg c46] at hR
        refine lv_aload_n hx hb dX6_make_49 rfl (lv_at hl 3 rfl) ?_
        refine va_get (D := (dC, dI)) (ci := 4) (v := .ref (a 7)) (C := RX6) (T := TX6) (N := 2) hx hb hta inX6 hown hK hP 16 (xr_16 a k st) rfl 0 (by decide) hf9 (fun _ h9 => h9) rfl dX6_make_50 ?_
        refine lv_aload_n hx hb dX6_make_53 rfl (lv_at hl 3 rfl) ?_
        refine va_get (D := (dC, dI)) (ci := 4) (v := .ref (a 7)) (C := RX6) (T := TX6) (N := 2) hx hb hta inX6 hown hK hP 16 (xr_16 a k st) rfl 0 (by decide) hf9 (fun _ h9 => h9) rfl dX6_make_54 ?_
        refine lv_iload_n hx hb dX6_make_57 rfl (lv_at hl 4 rfl) ?_
        refine lv_iload_n hx hb dX6_make_58 rfl (lv_at hl 5 rfl) ?_
        refine lv_iload hx hb dX6_make_59 (lv_at hl 1 rfl) ?_
        refine wl_ci (va_runV (As := [.int o, .int a1, .int (0 : Int32)]) (rest := [.ref (a 7)]) ⟨hx, hb, hml, hown, hta⟩ (kx_Terms_widthOfResult l dC dI a k st o a1 (0 : Int32) hA (fun h => hB2 (by rw [h]; decide))) (cwV 3 hta gX6_56 rfl rfl rfl (by decide +kernel) ⟨Nat.le_of_ble_eq_true rfl, Nat.le_of_ble_eq_true rfl⟩) (wl_pR (C := RX4) (ci := 2) (q0 := 7) hK hP rfl (xr_7 a k st)) rfl rfl hl.1 rfl (lv_room (Nat.le_of_ble_eq_true rfl)) dX6_make_61 ⟨Nat.zero_le _, Nat.zero_le _⟩) ?_
        refine lv_aload_n hx hb dX6_make_64 rfl (lv_at hl 3 rfl) ?_
        refine va_get (D := (dC, dI)) (ci := 4) (v := .ref (a 13)) (C := RX6) (T := TX6) (N := 2) hx hb hta inX6 hown hK hP 16 (xr_16 a k st) rfl 1 (by decide) hf15 (fun _ h9 => h9) rfl dX6_make_65 ?_
        refine lv_iload_n hx hb dX6_make_68 rfl (lv_at hl 4 rfl) ?_
        refine lv_iload_n hx hb dX6_make_69 rfl (lv_at hl 5 rfl) ?_
        refine lv_iload hx hb dX6_make_70 (lv_at hl 1 rfl) ?_
        refine lv_iload hx hb dX6_make_72 (lv_at hl 0 rfl) ?_
        refine wl_cl (va_runV (As := [.int o, .int a1, .int (0 : Int32), .int c1]) (rest := [.int (fx_Terms_widthOfResult st o a1 (0 : Int32)), .ref (a 7)]) ⟨hx, hb, hml, hown, hta⟩ (kx_Eval_applyToConstants l dC dI a k st o a1 (0 : Int32) c1 hA (fun h => hB2 (wl_nb2 hO0 hO20 h)) (fun h => hC2 (by rw [h]; decide)) hT2 (wl_hv2 hV9 c46)) (cwV 4 hta gX6_60 rfl rfl rfl (by decide +kernel) ⟨Nat.le_of_ble_eq_true rfl, Nat.le_of_ble_eq_true rfl⟩) (wl_pR (C := RX5) (ci := 3) (q0 := 13) hK hP rfl (xr_13 a k st)) rfl rfl hl.1 rfl (lv_room (Nat.le_of_ble_eq_true rfl)) dX6_make_74 ⟨Nat.zero_le _, Nat.zero_le _⟩) ?_
        refine wl_mi (va_runV (As := [.int (fx_Terms_widthOfResult st o a1 (0 : Int32)), .long (fx_Eval_applyToConstants st o a1 (0 : Int32) c1)]) (rest := []) ⟨hx, hb, hml, hown, hta⟩ (kx_Terms_findOrAddConstant l dC dI a k st (fx_Terms_widthOfResult st o a1 (0 : Int32)) (fx_Eval_applyToConstants st o a1 (0 : Int32) c1) _ N hN h64) (cwV 2 hta gX6_66 rfl rfl rfl (by decide +kernel) ⟨Nat.le_of_ble_eq_true rfl, Nat.le_of_ble_eq_true rfl⟩) (wl_pM (C := RX4) (ci := 2) (q0 := 7) hK hP hD rfl (xr_7 a k st)) rfl rfl hl.1 rfl (lv_room (Nat.le_of_ble_eq_true rfl)) dX6_make_77 ⟨Nat.zero_le _, Nat.zero_le _⟩) hP hD hS hAz (fun r77 u77 H locs hw77 hP hD hS => ?_)
        have v77 : (fx_Terms_findOrAddConstant st (fx_Terms_widthOfResult st o a1 (0 : Int32)) (fx_Eval_applyToConstants st o a1 (0 : Int32) c1)).1 = r77 := congrArg Prod.fst hw77.symm
        have w77 : (fx_Terms_findOrAddConstant st (fx_Terms_widthOfResult st o a1 (0 : Int32)) (fx_Eval_applyToConstants st o a1 (0 : Int32) c1)).2 = u77 := congrArg Prod.snd hw77.symm
        have hf77 : XF [6] [3, 4] [1] st u77 := by rw [← w77]; exact ff_Terms_findOrAddConstant st (fx_Terms_widthOfResult st o a1 (0 : Int32)) (fx_Eval_applyToConstants st o a1 (0 : Int32) c1)
        try rw [v77] at hR
        try rw [w77] at hR
        exact W.iret (v := r77) hx hb hr (fun t ht hW => ⟨⟨_, _, rfl, hR, by rw [ht]; exact hP, va_K.moved hW.alike hK, hD⟩, hS.F ht⟩) hS.2.2 dX6_make_80
  · skip
    rw [if_neg c9] at hR
    have hB2 : ¬ fx_Op_namedTerms o < (2 : Int32) → vp_in b1 64 := fun h => hB (wl_nl h)
    have hT2 := hT
    have hV9 := hV
    refine lv_iload_n hx hb dX6_make_12 rfl (lv_at hl 4 rfl) ?_
    refine lv_goto (tgt := 17) hx hb dX6_make_13 (by decide) ?_
    refine lv_istore (lv' := [(6, .int b1), (5, .int (fx_Op_named o)), (0, .ref (a 16)), (1, .int o), (2, .int a1), (3, .int b1), (4, .int c1)]) hx hb dX6_make_17 hl (by decide) rfl (fun ls hl => ?_)
    refine lv_iload hx hb dX6_make_19 (lv_at hl 1 rfl) ?_
    refine lv_iconst (v := (2 : Int32)) hx hb dX6_make_21 (by decide) ?_
    refine lv_icmp_le (tgt := 30) hx hb dX6_make_22 (by decide) (fun c22 => ?_) (fun c22 => ?_)
    · skip
      rw [if_pos c22] at hR
      have hC2 : ¬ fx_Op_namedTerms o < (3 : Int32) → vp_in (0 : Int32) 64 := fun _ => wl_in0
      refine lv_iconst (v := (0 : Int32)) hx hb dX6_make_30 (by decide) ?_
      refine lv_istore (lv' := [(7, .int (0 : Int32)), (6, .int b1), (5, .int (fx_Op_named o)), (0, .ref (a 16)), (1, .int o), (2, .int a1), (3, .int b1), (4, .int c1)]) hx hb dX6_make_31 hl (by decide) rfl (fun ls hl => ?_)
      refine lv_aload_n hx hb dX6_make_33 rfl (lv_at hl 3 rfl) ?_
      refine lv_iload_n hx hb dX6_make_34 rfl (lv_at hl 4 rfl) ?_
      refine wl_ci (va_runS (As := [.int o]) (rest := [.ref (a 16)]) ⟨hx, hb, hml, hown, hta⟩ (kx_Op_namedTerms l o) (va_cwS 1 hta gX6_49 rfl rfl rfl (by decide +kernel) ⟨Nat.le_of_ble_eq_true rfl, Nat.le_of_ble_eq_true rfl⟩) preEq rfl rfl hl.1 rfl (lv_room (Nat.le_of_ble_eq_true rfl)) dX6_make_35 ⟨Nat.zero_le _, Nat.zero_le _⟩) ?_
      refine lv_iload_n hx hb dX6_make_38 rfl (lv_at hl 5 rfl) ?_
      refine lv_iload hx hb dX6_make_39 (lv_at hl 1 rfl) ?_
      refine lv_iload hx hb dX6_make_41 (lv_at hl 0 rfl) ?_
      refine wl_ci (va_runV (As := [.int (fx_Op_namedTerms o), .int a1, .int b1, .int (0 : Int32)]) (rest := []) ⟨hx, hb, hml, hown, hta⟩ (kx_Maker_areConstants l dC dI a k st (fx_Op_namedTerms o) a1 b1 (0 : Int32) hA hB2 hC2) (cwV 4 hta gX6_52 rfl rfl rfl (by decide +kernel) ⟨Nat.le_of_ble_eq_true rfl, Nat.le_of_ble_eq_true rfl⟩) (wl_pR (C := RX6) (ci := 4) (q0 := 16) hK hP rfl (xr_16 a k st)) rfl rfl hl.1 rfl (lv_room (Nat.le_of_ble_eq_true rfl)) dX6_make_43 ⟨Nat.zero_le _, Nat.zero_le _⟩) ?_
      refine lv_if_eq (tgt := 81) hx hb dX6_make_46 (by decide) (fun c46 => ?_) (fun c46 => ?_)
      · skip
        rw [if_pos c46] at hR
        refine lv_iload_n hx hb dX6_make_81 rfl (lv_at hl 4 rfl) ?_
        refine wl_ci (va_runS (As := [.int o]) (rest := []) ⟨hx, hb, hml, hown, hta⟩ (kx_Op_changesPlaces l o) (va_cwS 1 hta gX6_70 rfl rfl rfl (by decide +kernel) ⟨Nat.le_of_ble_eq_true rfl, Nat.le_of_ble_eq_true rfl⟩) preEq rfl rfl hl.1 rfl (lv_room (Nat.le_of_ble_eq_true rfl)) dX6_make_82 ⟨Nat.zero_le _, Nat.zero_le _⟩) ?_
        refine lv_if_eq (tgt := 105) hx hb dX6_make_85 (by decide) (fun c85 => ?_) (fun c85 => ?_)
        · skip
          rw [if_pos c85] at hR
          refine lv_aload_n hx hb dX6_make_105 rfl (lv_at hl 3 rfl) ?_
          refine lv_iload_n hx hb dX6_make_106 rfl (lv_at hl 4 rfl) ?_
          refine lv_iload_n hx hb dX6_make_107 rfl (lv_at hl 5 rfl) ?_
          refine lv_iload hx hb dX6_make_108 (lv_at hl 1 rfl) ?_
          refine lv_iload hx hb dX6_make_110 (lv_at hl 0 rfl) ?_
          refine wl_mi (va_runV (As := [.int o, .int a1, .int b1, .int (0 : Int32)]) (rest := []) ⟨hx, hb, hml, hown, hta⟩ (kx_Maker_makeInPlace l dC dI a k st o a1 b1 (0 : Int32) _ N hN h64 hA (fun h => hB2 (wl_bz h)) (fun h => hB2 (wl_ln h)) (fun h => hC2 (wl_ln h))) (cwV 4 hta gX6_73 rfl rfl rfl (by decide +kernel) ⟨Nat.le_of_ble_eq_true rfl, Nat.le_of_ble_eq_true rfl⟩) (wl_pM (C := RX6) (ci := 4) (q0 := 16) hK hP hD rfl (xr_16 a k st)) rfl rfl hl.1 rfl (lv_room (Nat.le_of_ble_eq_true rfl)) dX6_make_112 ⟨Nat.zero_le _, Nat.zero_le _⟩) hP hD hS hAz (fun r112 u112 H locs hw112 hP hD hS => ?_)
          have v112 : (fx_Maker_makeInPlace st o a1 b1 (0 : Int32)).1 = r112 := congrArg Prod.fst hw112.symm
          have w112 : (fx_Maker_makeInPlace st o a1 b1 (0 : Int32)).2 = u112 := congrArg Prod.snd hw112.symm
          have hf112 : XF [6, 7] [3, 4, 5, 6] [1] st u112 := by rw [← w112]; exact ff_Maker_makeInPlace st o a1 b1 (0 : Int32)
          try rw [v112] at hR
          try rw [w112] at hR
          exact W.iret (v := r112) hx hb hr (fun t ht hW => ⟨⟨_, _, rfl, hR, by rw [ht]; exact hP, va_K.moved hW.alike hK, hD⟩, hS.F ht⟩) hS.2.2 dX6_make_115
        · skip
          rw [if_neg c85] at hR
          refine lv_iload_n hx hb dX6_make_88 rfl (lv_at hl 5 rfl) ?_
          refine lv_iload hx hb dX6_make_89 (lv_at hl 1 rfl) ?_
          refine lv_icmp_le (tgt := 105) hx hb dX6_make_91 (by decide) (fun c91 => ?_) (fun c91 => ?_)
          · skip
            rw [if_pos c91] at hR
            refine lv_aload_n hx hb dX6_make_105 rfl (lv_at hl 3 rfl) ?_
            refine lv_iload_n hx hb dX6_make_106 rfl (lv_at hl 4 rfl) ?_
            refine lv_iload_n hx hb dX6_make_107 rfl (lv_at hl 5 rfl) ?_
            refine lv_iload hx hb dX6_make_108 (lv_at hl 1 rfl) ?_
            refine lv_iload hx hb dX6_make_110 (lv_at hl 0 rfl) ?_
            refine wl_mi (va_runV (As := [.int o, .int a1, .int b1, .int (0 : Int32)]) (rest := []) ⟨hx, hb, hml, hown, hta⟩ (kx_Maker_makeInPlace l dC dI a k st o a1 b1 (0 : Int32) _ N hN h64 hA (fun h => hB2 (wl_bz h)) (fun h => hB2 (wl_ln h)) (fun h => hC2 (wl_ln h))) (cwV 4 hta gX6_73 rfl rfl rfl (by decide +kernel) ⟨Nat.le_of_ble_eq_true rfl, Nat.le_of_ble_eq_true rfl⟩) (wl_pM (C := RX6) (ci := 4) (q0 := 16) hK hP hD rfl (xr_16 a k st)) rfl rfl hl.1 rfl (lv_room (Nat.le_of_ble_eq_true rfl)) dX6_make_112 ⟨Nat.zero_le _, Nat.zero_le _⟩) hP hD hS hAz (fun r112 u112 H locs hw112 hP hD hS => ?_)
            have v112 : (fx_Maker_makeInPlace st o a1 b1 (0 : Int32)).1 = r112 := congrArg Prod.fst hw112.symm
            have w112 : (fx_Maker_makeInPlace st o a1 b1 (0 : Int32)).2 = u112 := congrArg Prod.snd hw112.symm
            have hf112 : XF [6, 7] [3, 4, 5, 6] [1] st u112 := by rw [← w112]; exact ff_Maker_makeInPlace st o a1 b1 (0 : Int32)
            try rw [v112] at hR
            try rw [w112] at hR
            exact W.iret (v := r112) hx hb hr (fun t ht hW => ⟨⟨_, _, rfl, hR, by rw [ht]; exact hP, va_K.moved hW.alike hK, hD⟩, hS.F ht⟩) hS.2.2 dX6_make_115
          · skip
            rw [if_neg c91] at hR
            refine lv_aload_n hx hb dX6_make_94 rfl (lv_at hl 3 rfl) ?_
            refine lv_iload_n hx hb dX6_make_95 rfl (lv_at hl 4 rfl) ?_
            refine lv_iload hx hb dX6_make_96 (lv_at hl 1 rfl) ?_
            refine lv_iload_n hx hb dX6_make_98 rfl (lv_at hl 5 rfl) ?_
            refine lv_iload hx hb dX6_make_99 (lv_at hl 0 rfl) ?_
            refine wl_mi (va_runV (As := [.int o, .int b1, .int a1, .int (0 : Int32)]) (rest := []) ⟨hx, hb, hml, hown, hta⟩ (kx_Maker_makeInPlace l dC dI a k st o b1 a1 (0 : Int32) _ N hN h64 (hB2 (wl_chp c85 hO0 hO20)) (fun _ => hA) (fun _ => hA) (fun h => hC2 (wl_ln h))) (cwV 4 hta gX6_73 rfl rfl rfl (by decide +kernel) ⟨Nat.le_of_ble_eq_true rfl, Nat.le_of_ble_eq_true rfl⟩) (wl_pM (C := RX6) (ci := 4) (q0 := 16) hK hP hD rfl (xr_16 a k st)) rfl rfl hl.1 rfl (lv_room (Nat.le_of_ble_eq_true rfl)) dX6_make_101 ⟨Nat.zero_le _, Nat.zero_le _⟩) hP hD hS hAz (fun r101 u101 H locs hw101 hP hD hS => ?_)
            have v101 : (fx_Maker_makeInPlace st o b1 a1 (0 : Int32)).1 = r101 := congrArg Prod.fst hw101.symm
            have w101 : (fx_Maker_makeInPlace st o b1 a1 (0 : Int32)).2 = u101 := congrArg Prod.snd hw101.symm
            have hf101 : XF [6, 7] [3, 4, 5, 6] [1] st u101 := by rw [← w101]; exact ff_Maker_makeInPlace st o b1 a1 (0 : Int32)
            try rw [v101] at hR
            try rw [w101] at hR
            exact W.iret (v := r101) hx hb hr (fun t ht hW => ⟨⟨_, _, rfl, hR, by rw [ht]; exact hP, va_K.moved hW.alike hK, hD⟩, hS.F ht⟩) hS.2.2 dX6_make_104
      · skip
        rw [if_neg c46] at hR
        refine lv_aload_n hx hb dX6_make_49 rfl (lv_at hl 3 rfl) ?_
        refine va_get (D := (dC, dI)) (ci := 4) (v := .ref (a 7)) (C := RX6) (T := TX6) (N := 2) hx hb hta inX6 hown hK hP 16 (xr_16 a k st) rfl 0 (by decide) hf9 (fun _ h9 => h9) rfl dX6_make_50 ?_
        refine lv_aload_n hx hb dX6_make_53 rfl (lv_at hl 3 rfl) ?_
        refine va_get (D := (dC, dI)) (ci := 4) (v := .ref (a 7)) (C := RX6) (T := TX6) (N := 2) hx hb hta inX6 hown hK hP 16 (xr_16 a k st) rfl 0 (by decide) hf9 (fun _ h9 => h9) rfl dX6_make_54 ?_
        refine lv_iload_n hx hb dX6_make_57 rfl (lv_at hl 4 rfl) ?_
        refine lv_iload_n hx hb dX6_make_58 rfl (lv_at hl 5 rfl) ?_
        refine lv_iload hx hb dX6_make_59 (lv_at hl 1 rfl) ?_
        refine wl_ci (va_runV (As := [.int o, .int a1, .int b1]) (rest := [.ref (a 7)]) ⟨hx, hb, hml, hown, hta⟩ (kx_Terms_widthOfResult l dC dI a k st o a1 b1 hA (fun h => hB2 (by rw [h]; decide))) (cwV 3 hta gX6_56 rfl rfl rfl (by decide +kernel) ⟨Nat.le_of_ble_eq_true rfl, Nat.le_of_ble_eq_true rfl⟩) (wl_pR (C := RX4) (ci := 2) (q0 := 7) hK hP rfl (xr_7 a k st)) rfl rfl hl.1 rfl (lv_room (Nat.le_of_ble_eq_true rfl)) dX6_make_61 ⟨Nat.zero_le _, Nat.zero_le _⟩) ?_
        refine lv_aload_n hx hb dX6_make_64 rfl (lv_at hl 3 rfl) ?_
        refine va_get (D := (dC, dI)) (ci := 4) (v := .ref (a 13)) (C := RX6) (T := TX6) (N := 2) hx hb hta inX6 hown hK hP 16 (xr_16 a k st) rfl 1 (by decide) hf15 (fun _ h9 => h9) rfl dX6_make_65 ?_
        refine lv_iload_n hx hb dX6_make_68 rfl (lv_at hl 4 rfl) ?_
        refine lv_iload_n hx hb dX6_make_69 rfl (lv_at hl 5 rfl) ?_
        refine lv_iload hx hb dX6_make_70 (lv_at hl 1 rfl) ?_
        refine lv_iload hx hb dX6_make_72 (lv_at hl 0 rfl) ?_
        refine wl_cl (va_runV (As := [.int o, .int a1, .int b1, .int (0 : Int32)]) (rest := [.int (fx_Terms_widthOfResult st o a1 b1), .ref (a 7)]) ⟨hx, hb, hml, hown, hta⟩ (kx_Eval_applyToConstants l dC dI a k st o a1 b1 (0 : Int32) hA (fun h => hB2 (wl_nb2 hO0 hO20 h)) (fun h => hC2 (by rw [h]; decide)) hT2 (wl_hv2 hV9 c46)) (cwV 4 hta gX6_60 rfl rfl rfl (by decide +kernel) ⟨Nat.le_of_ble_eq_true rfl, Nat.le_of_ble_eq_true rfl⟩) (wl_pR (C := RX5) (ci := 3) (q0 := 13) hK hP rfl (xr_13 a k st)) rfl rfl hl.1 rfl (lv_room (Nat.le_of_ble_eq_true rfl)) dX6_make_74 ⟨Nat.zero_le _, Nat.zero_le _⟩) ?_
        refine wl_mi (va_runV (As := [.int (fx_Terms_widthOfResult st o a1 b1), .long (fx_Eval_applyToConstants st o a1 b1 (0 : Int32))]) (rest := []) ⟨hx, hb, hml, hown, hta⟩ (kx_Terms_findOrAddConstant l dC dI a k st (fx_Terms_widthOfResult st o a1 b1) (fx_Eval_applyToConstants st o a1 b1 (0 : Int32)) _ N hN h64) (cwV 2 hta gX6_66 rfl rfl rfl (by decide +kernel) ⟨Nat.le_of_ble_eq_true rfl, Nat.le_of_ble_eq_true rfl⟩) (wl_pM (C := RX4) (ci := 2) (q0 := 7) hK hP hD rfl (xr_7 a k st)) rfl rfl hl.1 rfl (lv_room (Nat.le_of_ble_eq_true rfl)) dX6_make_77 ⟨Nat.zero_le _, Nat.zero_le _⟩) hP hD hS hAz (fun r77 u77 H locs hw77 hP hD hS => ?_)
        have v77 : (fx_Terms_findOrAddConstant st (fx_Terms_widthOfResult st o a1 b1) (fx_Eval_applyToConstants st o a1 b1 (0 : Int32))).1 = r77 := congrArg Prod.fst hw77.symm
        have w77 : (fx_Terms_findOrAddConstant st (fx_Terms_widthOfResult st o a1 b1) (fx_Eval_applyToConstants st o a1 b1 (0 : Int32))).2 = u77 := congrArg Prod.snd hw77.symm
        have hf77 : XF [6] [3, 4] [1] st u77 := by rw [← w77]; exact ff_Terms_findOrAddConstant st (fx_Terms_widthOfResult st o a1 b1) (fx_Eval_applyToConstants st o a1 b1 (0 : Int32))
        try rw [v77] at hR
        try rw [w77] at hR
        exact W.iret (v := r77) hx hb hr (fun t ht hW => ⟨⟨_, _, rfl, hR, by rw [ht]; exact hP, va_K.moved hW.alike hK, hD⟩, hS.F ht⟩) hS.2.2 dX6_make_80
    · skip
      rw [if_neg c22] at hR
      have hC2 : ¬ fx_Op_namedTerms o < (3 : Int32) → vp_in c1 64 := fun h => hC (wl_nl h)
      refine lv_iload hx hb dX6_make_25 (lv_at hl 6 rfl) ?_
      refine lv_goto (tgt := 31) hx hb dX6_make_27 (by decide) ?_
      refine lv_istore (lv' := [(7, .int c1), (6, .int b1), (5, .int (fx_Op_named o)), (0, .ref (a 16)), (1, .int o), (2, .int a1), (3, .int b1), (4, .int c1)]) hx hb dX6_make_31 hl (by decide) rfl (fun ls hl => ?_)
      refine lv_aload_n hx hb dX6_make_33 rfl (lv_at hl 3 rfl) ?_
      refine lv_iload_n hx hb dX6_make_34 rfl (lv_at hl 4 rfl) ?_
      refine wl_ci (va_runS (As := [.int o]) (rest := [.ref (a 16)]) ⟨hx, hb, hml, hown, hta⟩ (kx_Op_namedTerms l o) (va_cwS 1 hta gX6_49 rfl rfl rfl (by decide +kernel) ⟨Nat.le_of_ble_eq_true rfl, Nat.le_of_ble_eq_true rfl⟩) preEq rfl rfl hl.1 rfl (lv_room (Nat.le_of_ble_eq_true rfl)) dX6_make_35 ⟨Nat.zero_le _, Nat.zero_le _⟩) ?_
      refine lv_iload_n hx hb dX6_make_38 rfl (lv_at hl 5 rfl) ?_
      refine lv_iload hx hb dX6_make_39 (lv_at hl 1 rfl) ?_
      refine lv_iload hx hb dX6_make_41 (lv_at hl 0 rfl) ?_
      refine wl_ci (va_runV (As := [.int (fx_Op_namedTerms o), .int a1, .int b1, .int c1]) (rest := []) ⟨hx, hb, hml, hown, hta⟩ (kx_Maker_areConstants l dC dI a k st (fx_Op_namedTerms o) a1 b1 c1 hA hB2 hC2) (cwV 4 hta gX6_52 rfl rfl rfl (by decide +kernel) ⟨Nat.le_of_ble_eq_true rfl, Nat.le_of_ble_eq_true rfl⟩) (wl_pR (C := RX6) (ci := 4) (q0 := 16) hK hP rfl (xr_16 a k st)) rfl rfl hl.1 rfl (lv_room (Nat.le_of_ble_eq_true rfl)) dX6_make_43 ⟨Nat.zero_le _, Nat.zero_le _⟩) ?_
      refine lv_if_eq (tgt := 81) hx hb dX6_make_46 (by decide) (fun c46 => ?_) (fun c46 => ?_)
      · skip
        rw [if_pos c46] at hR
        refine lv_iload_n hx hb dX6_make_81 rfl (lv_at hl 4 rfl) ?_
        refine wl_ci (va_runS (As := [.int o]) (rest := []) ⟨hx, hb, hml, hown, hta⟩ (kx_Op_changesPlaces l o) (va_cwS 1 hta gX6_70 rfl rfl rfl (by decide +kernel) ⟨Nat.le_of_ble_eq_true rfl, Nat.le_of_ble_eq_true rfl⟩) preEq rfl rfl hl.1 rfl (lv_room (Nat.le_of_ble_eq_true rfl)) dX6_make_82 ⟨Nat.zero_le _, Nat.zero_le _⟩) ?_
        refine lv_if_eq (tgt := 105) hx hb dX6_make_85 (by decide) (fun c85 => ?_) (fun c85 => ?_)
        · skip
          rw [if_pos c85] at hR
          refine lv_aload_n hx hb dX6_make_105 rfl (lv_at hl 3 rfl) ?_
          refine lv_iload_n hx hb dX6_make_106 rfl (lv_at hl 4 rfl) ?_
          refine lv_iload_n hx hb dX6_make_107 rfl (lv_at hl 5 rfl) ?_
          refine lv_iload hx hb dX6_make_108 (lv_at hl 1 rfl) ?_
          refine lv_iload hx hb dX6_make_110 (lv_at hl 0 rfl) ?_
          refine wl_mi (va_runV (As := [.int o, .int a1, .int b1, .int c1]) (rest := []) ⟨hx, hb, hml, hown, hta⟩ (kx_Maker_makeInPlace l dC dI a k st o a1 b1 c1 _ N hN h64 hA (fun h => hB2 (wl_bz h)) (fun h => hB2 (wl_ln h)) (fun h => hC2 (wl_ln h))) (cwV 4 hta gX6_73 rfl rfl rfl (by decide +kernel) ⟨Nat.le_of_ble_eq_true rfl, Nat.le_of_ble_eq_true rfl⟩) (wl_pM (C := RX6) (ci := 4) (q0 := 16) hK hP hD rfl (xr_16 a k st)) rfl rfl hl.1 rfl (lv_room (Nat.le_of_ble_eq_true rfl)) dX6_make_112 ⟨Nat.zero_le _, Nat.zero_le _⟩) hP hD hS hAz (fun r112 u112 H locs hw112 hP hD hS => ?_)
          have v112 : (fx_Maker_makeInPlace st o a1 b1 c1).1 = r112 := congrArg Prod.fst hw112.symm
          have w112 : (fx_Maker_makeInPlace st o a1 b1 c1).2 = u112 := congrArg Prod.snd hw112.symm
          have hf112 : XF [6, 7] [3, 4, 5, 6] [1] st u112 := by rw [← w112]; exact ff_Maker_makeInPlace st o a1 b1 c1
          try rw [v112] at hR
          try rw [w112] at hR
          exact W.iret (v := r112) hx hb hr (fun t ht hW => ⟨⟨_, _, rfl, hR, by rw [ht]; exact hP, va_K.moved hW.alike hK, hD⟩, hS.F ht⟩) hS.2.2 dX6_make_115
        · skip
          rw [if_neg c85] at hR
          refine lv_iload_n hx hb dX6_make_88 rfl (lv_at hl 5 rfl) ?_
          refine lv_iload hx hb dX6_make_89 (lv_at hl 1 rfl) ?_
          refine lv_icmp_le (tgt := 105) hx hb dX6_make_91 (by decide) (fun c91 => ?_) (fun c91 => ?_)
          · skip
            rw [if_pos c91] at hR
            refine lv_aload_n hx hb dX6_make_105 rfl (lv_at hl 3 rfl) ?_
            refine lv_iload_n hx hb dX6_make_106 rfl (lv_at hl 4 rfl) ?_
            refine lv_iload_n hx hb dX6_make_107 rfl (lv_at hl 5 rfl) ?_
            refine lv_iload hx hb dX6_make_108 (lv_at hl 1 rfl) ?_
            refine lv_iload hx hb dX6_make_110 (lv_at hl 0 rfl) ?_
            refine wl_mi (va_runV (As := [.int o, .int a1, .int b1, .int c1]) (rest := []) ⟨hx, hb, hml, hown, hta⟩ (kx_Maker_makeInPlace l dC dI a k st o a1 b1 c1 _ N hN h64 hA (fun h => hB2 (wl_bz h)) (fun h => hB2 (wl_ln h)) (fun h => hC2 (wl_ln h))) (cwV 4 hta gX6_73 rfl rfl rfl (by decide +kernel) ⟨Nat.le_of_ble_eq_true rfl, Nat.le_of_ble_eq_true rfl⟩) (wl_pM (C := RX6) (ci := 4) (q0 := 16) hK hP hD rfl (xr_16 a k st)) rfl rfl hl.1 rfl (lv_room (Nat.le_of_ble_eq_true rfl)) dX6_make_112 ⟨Nat.zero_le _, Nat.zero_le _⟩) hP hD hS hAz (fun r112 u112 H locs hw112 hP hD hS => ?_)
            have v112 : (fx_Maker_makeInPlace st o a1 b1 c1).1 = r112 := congrArg Prod.fst hw112.symm
            have w112 : (fx_Maker_makeInPlace st o a1 b1 c1).2 = u112 := congrArg Prod.snd hw112.symm
            have hf112 : XF [6, 7] [3, 4, 5, 6] [1] st u112 := by rw [← w112]; exact ff_Maker_makeInPlace st o a1 b1 c1
            try rw [v112] at hR
            try rw [w112] at hR
            exact W.iret (v := r112) hx hb hr (fun t ht hW => ⟨⟨_, _, rfl, hR, by rw [ht]; exact hP, va_K.moved hW.alike hK, hD⟩, hS.F ht⟩) hS.2.2 dX6_make_115
          · skip
            rw [if_neg c91] at hR
            refine lv_aload_n hx hb dX6_make_94 rfl (lv_at hl 3 rfl) ?_
            refine lv_iload_n hx hb dX6_make_95 rfl (lv_at hl 4 rfl) ?_
            refine lv_iload hx hb dX6_make_96 (lv_at hl 1 rfl) ?_
            refine lv_iload_n hx hb dX6_make_98 rfl (lv_at hl 5 rfl) ?_
            refine lv_iload hx hb dX6_make_99 (lv_at hl 0 rfl) ?_
            refine wl_mi (va_runV (As := [.int o, .int b1, .int a1, .int c1]) (rest := []) ⟨hx, hb, hml, hown, hta⟩ (kx_Maker_makeInPlace l dC dI a k st o b1 a1 c1 _ N hN h64 (hB2 (wl_chp c85 hO0 hO20)) (fun _ => hA) (fun _ => hA) (fun h => hC2 (wl_ln h))) (cwV 4 hta gX6_73 rfl rfl rfl (by decide +kernel) ⟨Nat.le_of_ble_eq_true rfl, Nat.le_of_ble_eq_true rfl⟩) (wl_pM (C := RX6) (ci := 4) (q0 := 16) hK hP hD rfl (xr_16 a k st)) rfl rfl hl.1 rfl (lv_room (Nat.le_of_ble_eq_true rfl)) dX6_make_101 ⟨Nat.zero_le _, Nat.zero_le _⟩) hP hD hS hAz (fun r101 u101 H locs hw101 hP hD hS => ?_)
            have v101 : (fx_Maker_makeInPlace st o b1 a1 c1).1 = r101 := congrArg Prod.fst hw101.symm
            have w101 : (fx_Maker_makeInPlace st o b1 a1 c1).2 = u101 := congrArg Prod.snd hw101.symm
            have hf101 : XF [6, 7] [3, 4, 5, 6] [1] st u101 := by rw [← w101]; exact ff_Maker_makeInPlace st o b1 a1 c1
            try rw [v101] at hR
            try rw [w101] at hR
            exact W.iret (v := r101) hx hb hr (fun t ht hW => ⟨⟨_, _, rfl, hR, by rw [ht]; exact hP, va_K.moved hW.alike hK, hD⟩, hS.F ht⟩) hS.2.2 dX6_make_104
      · skip
        rw [if_neg c46] at hR
        refine lv_aload_n hx hb dX6_make_49 rfl (lv_at hl 3 rfl) ?_
        refine va_get (D := (dC, dI)) (ci := 4) (v := .ref (a 7)) (C := RX6) (T := TX6) (N := 2) hx hb hta inX6 hown hK hP 16 (xr_16 a k st) rfl 0 (by decide) hf9 (fun _ h9 => h9) rfl dX6_make_50 ?_
        refine lv_aload_n hx hb dX6_make_53 rfl (lv_at hl 3 rfl) ?_
        refine va_get (D := (dC, dI)) (ci := 4) (v := .ref (a 7)) (C := RX6) (T := TX6) (N := 2) hx hb hta inX6 hown hK hP 16 (xr_16 a k st) rfl 0 (by decide) hf9 (fun _ h9 => h9) rfl dX6_make_54 ?_
        refine lv_iload_n hx hb dX6_make_57 rfl (lv_at hl 4 rfl) ?_
        refine lv_iload_n hx hb dX6_make_58 rfl (lv_at hl 5 rfl) ?_
        refine lv_iload hx hb dX6_make_59 (lv_at hl 1 rfl) ?_
        refine wl_ci (va_runV (As := [.int o, .int a1, .int b1]) (rest := [.ref (a 7)]) ⟨hx, hb, hml, hown, hta⟩ (kx_Terms_widthOfResult l dC dI a k st o a1 b1 hA (fun h => hB2 (by rw [h]; decide))) (cwV 3 hta gX6_56 rfl rfl rfl (by decide +kernel) ⟨Nat.le_of_ble_eq_true rfl, Nat.le_of_ble_eq_true rfl⟩) (wl_pR (C := RX4) (ci := 2) (q0 := 7) hK hP rfl (xr_7 a k st)) rfl rfl hl.1 rfl (lv_room (Nat.le_of_ble_eq_true rfl)) dX6_make_61 ⟨Nat.zero_le _, Nat.zero_le _⟩) ?_
        refine lv_aload_n hx hb dX6_make_64 rfl (lv_at hl 3 rfl) ?_
        refine va_get (D := (dC, dI)) (ci := 4) (v := .ref (a 13)) (C := RX6) (T := TX6) (N := 2) hx hb hta inX6 hown hK hP 16 (xr_16 a k st) rfl 1 (by decide) hf15 (fun _ h9 => h9) rfl dX6_make_65 ?_
        refine lv_iload_n hx hb dX6_make_68 rfl (lv_at hl 4 rfl) ?_
        refine lv_iload_n hx hb dX6_make_69 rfl (lv_at hl 5 rfl) ?_
        refine lv_iload hx hb dX6_make_70 (lv_at hl 1 rfl) ?_
        refine lv_iload hx hb dX6_make_72 (lv_at hl 0 rfl) ?_
        refine wl_cl (va_runV (As := [.int o, .int a1, .int b1, .int c1]) (rest := [.int (fx_Terms_widthOfResult st o a1 b1), .ref (a 7)]) ⟨hx, hb, hml, hown, hta⟩ (kx_Eval_applyToConstants l dC dI a k st o a1 b1 c1 hA (fun h => hB2 (wl_nb2 hO0 hO20 h)) (fun h => hC2 (by rw [h]; decide)) hT2 (wl_hv2 hV9 c46)) (cwV 4 hta gX6_60 rfl rfl rfl (by decide +kernel) ⟨Nat.le_of_ble_eq_true rfl, Nat.le_of_ble_eq_true rfl⟩) (wl_pR (C := RX5) (ci := 3) (q0 := 13) hK hP rfl (xr_13 a k st)) rfl rfl hl.1 rfl (lv_room (Nat.le_of_ble_eq_true rfl)) dX6_make_74 ⟨Nat.zero_le _, Nat.zero_le _⟩) ?_
        refine wl_mi (va_runV (As := [.int (fx_Terms_widthOfResult st o a1 b1), .long (fx_Eval_applyToConstants st o a1 b1 c1)]) (rest := []) ⟨hx, hb, hml, hown, hta⟩ (kx_Terms_findOrAddConstant l dC dI a k st (fx_Terms_widthOfResult st o a1 b1) (fx_Eval_applyToConstants st o a1 b1 c1) _ N hN h64) (cwV 2 hta gX6_66 rfl rfl rfl (by decide +kernel) ⟨Nat.le_of_ble_eq_true rfl, Nat.le_of_ble_eq_true rfl⟩) (wl_pM (C := RX4) (ci := 2) (q0 := 7) hK hP hD rfl (xr_7 a k st)) rfl rfl hl.1 rfl (lv_room (Nat.le_of_ble_eq_true rfl)) dX6_make_77 ⟨Nat.zero_le _, Nat.zero_le _⟩) hP hD hS hAz (fun r77 u77 H locs hw77 hP hD hS => ?_)
        have v77 : (fx_Terms_findOrAddConstant st (fx_Terms_widthOfResult st o a1 b1) (fx_Eval_applyToConstants st o a1 b1 c1)).1 = r77 := congrArg Prod.fst hw77.symm
        have w77 : (fx_Terms_findOrAddConstant st (fx_Terms_widthOfResult st o a1 b1) (fx_Eval_applyToConstants st o a1 b1 c1)).2 = u77 := congrArg Prod.snd hw77.symm
        have hf77 : XF [6] [3, 4] [1] st u77 := by rw [← w77]; exact ff_Terms_findOrAddConstant st (fx_Terms_widthOfResult st o a1 b1) (fx_Eval_applyToConstants st o a1 b1 c1)
        try rw [v77] at hR
        try rw [w77] at hR
        exact W.iret (v := r77) hx hb hr (fun t ht hW => ⟨⟨_, _, rfl, hR, by rw [ht]; exact hP, va_K.moved hW.alike hK, hD⟩, hS.F ht⟩) hS.2.2 dX6_make_80
end
