def lw_okq (q : MethodName × Nat) : Prop := (q.1.cls ≠ "java/lang/invoke/MethodHandle" ∧ q.1.cls ≠ "java/lang/invoke/VarHandle") ∧ Cond.instantiable q.1.cls q.2 ∈ tables_1 ∧ Cond.privateMethod q.1 ∈ tables_1 ∧ Cond.instanceMethod q.1 ∈ tables_1
theorem lw_p0 : lw_okq (⟨"PathSolver$Terms", "addPlain", "(II)I"⟩, 7) := ⟨⟨by decide +kernel, by decide +kernel⟩, List.mem_of_getElem? (i := 57) (by decide +kernel), List.mem_of_getElem? (i := 222) (by decide +kernel), List.mem_of_getElem? (i := 223) (by decide +kernel)⟩
theorem lw_p1 : lw_okq (⟨"PathSolver$Maker", "areAlike", "(II)Z"⟩, 2) := ⟨⟨by decide +kernel, by decide +kernel⟩, List.mem_of_getElem? (i := 107) (by decide +kernel), List.mem_of_getElem? (i := 288) (by decide +kernel), List.mem_of_getElem? (i := 289) (by decide +kernel)⟩
theorem lw_p2 : lw_okq (⟨"PathSolver$Maker", "areConstants", "(IIII)Z"⟩, 2) := ⟨⟨by decide +kernel, by decide +kernel⟩, List.mem_of_getElem? (i := 107) (by decide +kernel), List.mem_of_getElem? (i := 308) (by decide +kernel), List.mem_of_getElem? (i := 309) (by decide +kernel)⟩
theorem lw_p3 : lw_okq (⟨"PathSolver$Evaluator", "apply", "(IIII[J)J"⟩, 5) := ⟨⟨by decide +kernel, by decide +kernel⟩, List.mem_of_getElem? (i := 85) (by decide +kernel), List.mem_of_getElem? (i := 325) (by decide +kernel), List.mem_of_getElem? (i := 326) (by decide +kernel)⟩
theorem lw_p4 : lw_okq (⟨"PathSolver$Maker", "makeInPlace", "(IIII)I"⟩, 2) := ⟨⟨by decide +kernel, by decide +kernel⟩, List.mem_of_getElem? (i := 107) (by decide +kernel), List.mem_of_getElem? (i := 363) (by decide +kernel), List.mem_of_getElem? (i := 364) (by decide +kernel)⟩
theorem lw_p5 : lw_okq (⟨"PathSolver$Maker", "ofSameOperands", "(IIII)I"⟩, 2) := ⟨⟨by decide +kernel, by decide +kernel⟩, List.mem_of_getElem? (i := 107) (by decide +kernel), List.mem_of_getElem? (i := 367) (by decide +kernel), List.mem_of_getElem? (i := 368) (by decide +kernel)⟩
theorem lw_p6 : lw_okq (⟨"PathSolver$Maker", "ofSettledChoice", "(III)I"⟩, 2) := ⟨⟨by decide +kernel, by decide +kernel⟩, List.mem_of_getElem? (i := 107) (by decide +kernel), List.mem_of_getElem? (i := 371) (by decide +kernel), List.mem_of_getElem? (i := 372) (by decide +kernel)⟩
theorem lw_p7 : lw_okq (⟨"PathSolver$Maker", "ofZero", "(III)I"⟩, 2) := ⟨⟨by decide +kernel, by decide +kernel⟩, List.mem_of_getElem? (i := 107) (by decide +kernel), List.mem_of_getElem? (i := 379) (by decide +kernel), List.mem_of_getElem? (i := 380) (by decide +kernel)⟩
theorem lw_p8 : lw_okq (⟨"PathSolver$Maker", "ofUndoing", "(II)I"⟩, 2) := ⟨⟨by decide +kernel, by decide +kernel⟩, List.mem_of_getElem? (i := 107) (by decide +kernel), List.mem_of_getElem? (i := 383) (by decide +kernel), List.mem_of_getElem? (i := 384) (by decide +kernel)⟩
theorem lw_p9 : lw_okq (⟨"PathSolver$Terms", "noteTablesRead", "(I)V"⟩, 7) := ⟨⟨by decide +kernel, by decide +kernel⟩, List.mem_of_getElem? (i := 57) (by decide +kernel), List.mem_of_getElem? (i := 408) (by decide +kernel), List.mem_of_getElem? (i := 409) (by decide +kernel)⟩
theorem lw_p10 : lw_okq (⟨"PathSolver$TruthRows", "ask", "([II)V"⟩, 7) := ⟨⟨by decide +kernel, by decide +kernel⟩, List.mem_of_getElem? (i := 120) (by decide +kernel), List.mem_of_getElem? (i := 451) (by decide +kernel), List.mem_of_getElem? (i := 452) (by decide +kernel)⟩
theorem lw_p11 : lw_okq (⟨"PathSolver$TruthRows", "clearRow", "(I)V"⟩, 7) := ⟨⟨by decide +kernel, by decide +kernel⟩, List.mem_of_getElem? (i := 120) (by decide +kernel), List.mem_of_getElem? (i := 459) (by decide +kernel), List.mem_of_getElem? (i := 460) (by decide +kernel)⟩
theorem lw_p12 : lw_okq (⟨"PathSolver$TruthRows", "noteAsked", "(II)V"⟩, 7) := ⟨⟨by decide +kernel, by decide +kernel⟩, List.mem_of_getElem? (i := 120) (by decide +kernel), List.mem_of_getElem? (i := 489) (by decide +kernel), List.mem_of_getElem? (i := 490) (by decide +kernel)⟩
theorem lw_p13 : lw_okq (⟨"PathSolver$TruthRows", "setBits", "(III)V"⟩, 7) := ⟨⟨by decide +kernel, by decide +kernel⟩, List.mem_of_getElem? (i := 120) (by decide +kernel), List.mem_of_getElem? (i := 497) (by decide +kernel), List.mem_of_getElem? (i := 498) (by decide +kernel)⟩
theorem lw_p14 : lw_okq (⟨"PathSolver$Path", "holdingBefore", "(II)J"⟩, 3) := ⟨⟨by decide +kernel, by decide +kernel⟩, List.mem_of_getElem? (i := 148) (by decide +kernel), List.mem_of_getElem? (i := 501) (by decide +kernel), List.mem_of_getElem? (i := 502) (by decide +kernel)⟩
theorem lw_p15 : lw_okq (⟨"PathSolver", "settle", "(I)Z"⟩, 11) := ⟨⟨by decide +kernel, by decide +kernel⟩, List.mem_of_getElem? (i := 14) (by decide +kernel), List.mem_of_getElem? (i := 513) (by decide +kernel), List.mem_of_getElem? (i := 514) (by decide +kernel)⟩
def lw_privs_1 : List (MethodName × Nat) := [(⟨"PathSolver$Terms", "addPlain", "(II)I"⟩, 7), (⟨"PathSolver$Maker", "areAlike", "(II)Z"⟩, 2), (⟨"PathSolver$Maker", "areConstants", "(IIII)Z"⟩, 2), (⟨"PathSolver$Evaluator", "apply", "(IIII[J)J"⟩, 5), (⟨"PathSolver$Maker", "makeInPlace", "(IIII)I"⟩, 2), (⟨"PathSolver$Maker", "ofSameOperands", "(IIII)I"⟩, 2), (⟨"PathSolver$Maker", "ofSettledChoice", "(III)I"⟩, 2), (⟨"PathSolver$Maker", "ofZero", "(III)I"⟩, 2), (⟨"PathSolver$Maker", "ofUndoing", "(II)I"⟩, 2), (⟨"PathSolver$Terms", "noteTablesRead", "(I)V"⟩, 7), (⟨"PathSolver$TruthRows", "ask", "([II)V"⟩, 7), (⟨"PathSolver$TruthRows", "clearRow", "(I)V"⟩, 7), (⟨"PathSolver$TruthRows", "noteAsked", "(II)V"⟩, 7), (⟨"PathSolver$TruthRows", "setBits", "(III)V"⟩, 7), (⟨"PathSolver$Path", "holdingBefore", "(II)J"⟩, 3), (⟨"PathSolver", "settle", "(I)Z"⟩, 11)]
theorem lw_r1 : ∀ q ∈ lw_privs_1, lw_okq q := List.forall_mem_cons.mpr ⟨lw_p0, List.forall_mem_cons.mpr ⟨lw_p1, List.forall_mem_cons.mpr ⟨lw_p2, List.forall_mem_cons.mpr ⟨lw_p3, List.forall_mem_cons.mpr ⟨lw_p4, List.forall_mem_cons.mpr ⟨lw_p5, List.forall_mem_cons.mpr ⟨lw_p6, List.forall_mem_cons.mpr ⟨lw_p7, List.forall_mem_cons.mpr ⟨lw_p8, List.forall_mem_cons.mpr ⟨lw_p9, List.forall_mem_cons.mpr ⟨lw_p10, List.forall_mem_cons.mpr ⟨lw_p11, List.forall_mem_cons.mpr ⟨lw_p12, List.forall_mem_cons.mpr ⟨lw_p13, List.forall_mem_cons.mpr ⟨lw_p14, List.forall_mem_cons.mpr ⟨lw_p15, fun _ h => absurd h List.not_mem_nil⟩⟩⟩⟩⟩⟩⟩⟩⟩⟩⟩⟩⟩⟩⟩⟩
theorem lw_p16 : lw_okq (⟨"PathSolverModel", "fresh", "(IIIII)I"⟩, 21) := ⟨⟨by decide +kernel, by decide +kernel⟩, List.mem_of_getElem? (i := 591) (by decide +kernel), List.mem_of_getElem? (i := 665) (by decide +kernel), List.mem_of_getElem? (i := 666) (by decide +kernel)⟩
theorem lw_p17 : lw_okq (⟨"PathSolverModel", "isWidth", "(I)Z"⟩, 21) := ⟨⟨by decide +kernel, by decide +kernel⟩, List.mem_of_getElem? (i := 591) (by decide +kernel), List.mem_of_getElem? (i := 673) (by decide +kernel), List.mem_of_getElem? (i := 674) (by decide +kernel)⟩
theorem lw_p18 : lw_okq (⟨"PathSolverModel", "constantOf", "(IJ)I"⟩, 21) := ⟨⟨by decide +kernel, by decide +kernel⟩, List.mem_of_getElem? (i := 591) (by decide +kernel), List.mem_of_getElem? (i := 677) (by decide +kernel), List.mem_of_getElem? (i := 678) (by decide +kernel)⟩
theorem lw_p19 : lw_okq (⟨"PathSolverModel", "cut", "(JI)J"⟩, 21) := ⟨⟨by decide +kernel, by decide +kernel⟩, List.mem_of_getElem? (i := 591) (by decide +kernel), List.mem_of_getElem? (i := 681) (by decide +kernel), List.mem_of_getElem? (i := 682) (by decide +kernel)⟩
theorem lw_p20 : lw_okq (⟨"PathSolverModel", "fits", "(IIII)Z"⟩, 21) := ⟨⟨by decide +kernel, by decide +kernel⟩, List.mem_of_getElem? (i := 591) (by decide +kernel), List.mem_of_getElem? (i := 693) (by decide +kernel), List.mem_of_getElem? (i := 694) (by decide +kernel)⟩
theorem lw_p21 : lw_okq (⟨"PathSolverModel", "none", "(I)Z"⟩, 21) := ⟨⟨by decide +kernel, by decide +kernel⟩, List.mem_of_getElem? (i := 591) (by decide +kernel), List.mem_of_getElem? (i := 697) (by decide +kernel), List.mem_of_getElem? (i := 698) (by decide +kernel)⟩
theorem lw_p22 : lw_okq (⟨"PathSolverModel", "isConst", "(I)Z"⟩, 21) := ⟨⟨by decide +kernel, by decide +kernel⟩, List.mem_of_getElem? (i := 591) (by decide +kernel), List.mem_of_getElem? (i := 701) (by decide +kernel), List.mem_of_getElem? (i := 702) (by decide +kernel)⟩
theorem lw_p23 : lw_okq (⟨"PathSolverModel", "widthOf", "(III)I"⟩, 21) := ⟨⟨by decide +kernel, by decide +kernel⟩, List.mem_of_getElem? (i := 591) (by decide +kernel), List.mem_of_getElem? (i := 705) (by decide +kernel), List.mem_of_getElem? (i := 706) (by decide +kernel)⟩
theorem lw_p24 : lw_okq (⟨"PathSolverModel", "result", "(IIII)J"⟩, 21) := ⟨⟨by decide +kernel, by decide +kernel⟩, List.mem_of_getElem? (i := 591) (by decide +kernel), List.mem_of_getElem? (i := 709) (by decide +kernel), List.mem_of_getElem? (i := 710) (by decide +kernel)⟩
theorem lw_p25 : lw_okq (⟨"PathSolverModel", "sign", "(JI)J"⟩, 21) := ⟨⟨by decide +kernel, by decide +kernel⟩, List.mem_of_getElem? (i := 591) (by decide +kernel), List.mem_of_getElem? (i := 713) (by decide +kernel), List.mem_of_getElem? (i := 714) (by decide +kernel)⟩
theorem lw_p26 : lw_okq (⟨"PathSolverModel", "plain", "(IJJI)J"⟩, 21) := ⟨⟨by decide +kernel, by decide +kernel⟩, List.mem_of_getElem? (i := 591) (by decide +kernel), List.mem_of_getElem? (i := 718) (by decide +kernel), List.mem_of_getElem? (i := 719) (by decide +kernel)⟩
theorem lw_p27 : lw_okq (⟨"PathSolverModel", "less", "(JJ)J"⟩, 21) := ⟨⟨by decide +kernel, by decide +kernel⟩, List.mem_of_getElem? (i := 591) (by decide +kernel), List.mem_of_getElem? (i := 724) (by decide +kernel), List.mem_of_getElem? (i := 725) (by decide +kernel)⟩
theorem lw_p28 : lw_okq (⟨"PathSolverModel", "shifted", "(IJJI)J"⟩, 21) := ⟨⟨by decide +kernel, by decide +kernel⟩, List.mem_of_getElem? (i := 591) (by decide +kernel), List.mem_of_getElem? (i := 729) (by decide +kernel), List.mem_of_getElem? (i := 730) (by decide +kernel)⟩
theorem lw_p29 : lw_okq (⟨"PathSolverModel", "simple", "(IIII)I"⟩, 21) := ⟨⟨by decide +kernel, by decide +kernel⟩, List.mem_of_getElem? (i := 591) (by decide +kernel), List.mem_of_getElem? (i := 733) (by decide +kernel), List.mem_of_getElem? (i := 734) (by decide +kernel)⟩
theorem lw_p30 : lw_okq (⟨"PathSolverModel", "shorter", "(IIII)I"⟩, 21) := ⟨⟨by decide +kernel, by decide +kernel⟩, List.mem_of_getElem? (i := 591) (by decide +kernel), List.mem_of_getElem? (i := 737) (by decide +kernel), List.mem_of_getElem? (i := 738) (by decide +kernel)⟩
theorem lw_p31 : lw_okq (⟨"PathSolverModel", "isZero", "(I)Z"⟩, 21) := ⟨⟨by decide +kernel, by decide +kernel⟩, List.mem_of_getElem? (i := 591) (by decide +kernel), List.mem_of_getElem? (i := 741) (by decide +kernel), List.mem_of_getElem? (i := 742) (by decide +kernel)⟩
def lw_privs_2 : List (MethodName × Nat) := [(⟨"PathSolverModel", "fresh", "(IIIII)I"⟩, 21), (⟨"PathSolverModel", "isWidth", "(I)Z"⟩, 21), (⟨"PathSolverModel", "constantOf", "(IJ)I"⟩, 21), (⟨"PathSolverModel", "cut", "(JI)J"⟩, 21), (⟨"PathSolverModel", "fits", "(IIII)Z"⟩, 21), (⟨"PathSolverModel", "none", "(I)Z"⟩, 21), (⟨"PathSolverModel", "isConst", "(I)Z"⟩, 21), (⟨"PathSolverModel", "widthOf", "(III)I"⟩, 21), (⟨"PathSolverModel", "result", "(IIII)J"⟩, 21), (⟨"PathSolverModel", "sign", "(JI)J"⟩, 21), (⟨"PathSolverModel", "plain", "(IJJI)J"⟩, 21), (⟨"PathSolverModel", "less", "(JJ)J"⟩, 21), (⟨"PathSolverModel", "shifted", "(IJJI)J"⟩, 21), (⟨"PathSolverModel", "simple", "(IIII)I"⟩, 21), (⟨"PathSolverModel", "shorter", "(IIII)I"⟩, 21), (⟨"PathSolverModel", "isZero", "(I)Z"⟩, 21)]
theorem lw_r2 : ∀ q ∈ lw_privs_2, lw_okq q := List.forall_mem_cons.mpr ⟨lw_p16, List.forall_mem_cons.mpr ⟨lw_p17, List.forall_mem_cons.mpr ⟨lw_p18, List.forall_mem_cons.mpr ⟨lw_p19, List.forall_mem_cons.mpr ⟨lw_p20, List.forall_mem_cons.mpr ⟨lw_p21, List.forall_mem_cons.mpr ⟨lw_p22, List.forall_mem_cons.mpr ⟨lw_p23, List.forall_mem_cons.mpr ⟨lw_p24, List.forall_mem_cons.mpr ⟨lw_p25, List.forall_mem_cons.mpr ⟨lw_p26, List.forall_mem_cons.mpr ⟨lw_p27, List.forall_mem_cons.mpr ⟨lw_p28, List.forall_mem_cons.mpr ⟨lw_p29, List.forall_mem_cons.mpr ⟨lw_p30, List.forall_mem_cons.mpr ⟨lw_p31, fun _ h => absurd h List.not_mem_nil⟩⟩⟩⟩⟩⟩⟩⟩⟩⟩⟩⟩⟩⟩⟩⟩
theorem lw_p32 : lw_okq (⟨"PathSolverModel", "cost", "(II)I"⟩, 21) := ⟨⟨by decide +kernel, by decide +kernel⟩, List.mem_of_getElem? (i := 591) (by decide +kernel), List.mem_of_getElem? (i := 745) (by decide +kernel), List.mem_of_getElem? (i := 746) (by decide +kernel)⟩
theorem lw_p33 : lw_okq (⟨"PathSolverModel", "solve", "(IZ)Z"⟩, 21) := ⟨⟨by decide +kernel, by decide +kernel⟩, List.mem_of_getElem? (i := 591) (by decide +kernel), List.mem_of_getElem? (i := 761) (by decide +kernel), List.mem_of_getElem? (i := 762) (by decide +kernel)⟩
theorem lw_p34 : lw_okq (⟨"PathSolverModel", "work", "()V"⟩, 21) := ⟨⟨by decide +kernel, by decide +kernel⟩, List.mem_of_getElem? (i := 591) (by decide +kernel), List.mem_of_getElem? (i := 765) (by decide +kernel), List.mem_of_getElem? (i := 766) (by decide +kernel)⟩
theorem lw_p35 : lw_okq (⟨"PathSolverModel", "answer", "(Z)I"⟩, 21) := ⟨⟨by decide +kernel, by decide +kernel⟩, List.mem_of_getElem? (i := 591) (by decide +kernel), List.mem_of_getElem? (i := 769) (by decide +kernel), List.mem_of_getElem? (i := 770) (by decide +kernel)⟩
theorem lw_p36 : lw_okq (⟨"PathSolverModel", "takeModel", "()V"⟩, 21) := ⟨⟨by decide +kernel, by decide +kernel⟩, List.mem_of_getElem? (i := 591) (by decide +kernel), List.mem_of_getElem? (i := 791) (by decide +kernel), List.mem_of_getElem? (i := 792) (by decide +kernel)⟩
def lw_privs_3 : List (MethodName × Nat) := [(⟨"PathSolverModel", "cost", "(II)I"⟩, 21), (⟨"PathSolverModel", "solve", "(IZ)Z"⟩, 21), (⟨"PathSolverModel", "work", "()V"⟩, 21), (⟨"PathSolverModel", "answer", "(Z)I"⟩, 21), (⟨"PathSolverModel", "takeModel", "()V"⟩, 21)]
theorem lw_r3 : ∀ q ∈ lw_privs_3, lw_okq q := List.forall_mem_cons.mpr ⟨lw_p32, List.forall_mem_cons.mpr ⟨lw_p33, List.forall_mem_cons.mpr ⟨lw_p34, List.forall_mem_cons.mpr ⟨lw_p35, List.forall_mem_cons.mpr ⟨lw_p36, fun _ h => absurd h List.not_mem_nil⟩⟩⟩⟩⟩
def lw_privs : List (MethodName × Nat) := lw_privs_1 ++ (lw_privs_2 ++ (lw_privs_3))
def lw_tbl : List Cond := k2_sels lw_privs ++ tables_1
theorem lw_privs_ok : ∀ q ∈ lw_privs, lw_okq q := by
  show ∀ q ∈ lw_privs_1 ++ (lw_privs_2 ++ (lw_privs_3)), lw_okq q
  exact List.forall_mem_append.mpr ⟨lw_r1, List.forall_mem_append.mpr ⟨lw_r2, lw_r3⟩⟩

def AW : List Cond := lw_tbl.filter goodWord
def RX0 : String := "PathSolver$Width"
def RX1 : String := "PathSolver$Operation"
def RX2 : String := "PathSolver$Variables"
def TX2 : u_T := fun k => match k with
  | 0 => ("PathSolver$Variables", "bits", "[I", true)
  | 1 => ("PathSolver$Variables", "lowest", "[I", true)
  | 2 => ("PathSolver$Variables", "signed", "[Z", true)
  | 3 => ("PathSolver$Variables", "size", "I", false)
  | _ => ("PathSolver$Variables", "bitsTogether", "I", false)
def tyX2 : Nat → FieldType := fun k => match k with
  | 0 => .array .int
  | 1 => .array .int
  | 2 => .array .boolean
  | 3 => .int
  | _ => .int
abbrev wsX20 : List Cond := u_ws RX2 TX2 5
theorem nmX2 : ∀ a, a < 5 → ∀ b, b < 5 → a ≠ b → (TX2 a).2.1 ≠ (TX2 b).2.1 := by decide +kernel
theorem tyX2_ok : ∀ k, k < 5 → parseFieldDescriptor (TX2 k).2.2.1 = some (tyX2 k) := by decide +kernel
theorem inX2 : ∀ w ∈ wsX20, w ∈ AW := by decide +kernel
def RX3 : String := "PathSolver$Tables"
def TX3 : u_T := fun k => match k with
  | _ => ("PathSolver$Tables", "entries", "[J", true)
def tyX3 : Nat → FieldType := fun k => match k with
  | _ => .array .long
abbrev wsX30 : List Cond := u_ws RX3 TX3 1
theorem nmX3 : ∀ a, a < 1 → ∀ b, b < 1 → a ≠ b → (TX3 a).2.1 ≠ (TX3 b).2.1 := by decide +kernel
theorem tyX3_ok : ∀ k, k < 1 → parseFieldDescriptor (TX3 k).2.2.1 = some (tyX3 k) := by decide +kernel
theorem inX3 : ∀ w ∈ wsX30, w ∈ AW := by decide +kernel
def RX4 : String := "PathSolver$Terms"
def TX4 : u_T := fun k => match k with
  | 0 => ("PathSolver$Terms", "operations", "[I", true)
  | 1 => ("PathSolver$Terms", "widths", "[I", true)
  | 2 => ("PathSolver$Terms", "operands", "[I", true)
  | 3 => ("PathSolver$Terms", "tablesRead", "[I", true)
  | 4 => ("PathSolver$Terms", "constants", "[J", true)
  | 5 => ("PathSolver$Terms", "size", "I", false)
  | _ => ("PathSolver$Terms", "totalCost", "I", false)
def tyX4 : Nat → FieldType := fun k => match k with
  | 0 => .array .int
  | 1 => .array .int
  | 2 => .array .int
  | 3 => .array .int
  | 4 => .array .long
  | 5 => .int
  | _ => .int
abbrev wsX40 : List Cond := u_ws RX4 TX4 7
theorem nmX4 : ∀ a, a < 7 → ∀ b, b < 7 → a ≠ b → (TX4 a).2.1 ≠ (TX4 b).2.1 := by decide +kernel
theorem tyX4_ok : ∀ k, k < 7 → parseFieldDescriptor (TX4 k).2.2.1 = some (tyX4 k) := by decide +kernel
theorem inX4 : ∀ w ∈ wsX40, w ∈ AW := by decide +kernel
def RX5 : String := "PathSolver$Evaluator"
def TX5 : u_T := fun k => match k with
  | 0 => ("PathSolver$Evaluator", "terms", "LPathSolver$Terms;", true)
  | 1 => ("PathSolver$Evaluator", "variables", "LPathSolver$Variables;", true)
  | 2 => ("PathSolver$Evaluator", "tables", "LPathSolver$Tables;", true)
  | 3 => ("PathSolver$Evaluator", "results", "[J", true)
  | _ => ("PathSolver$Evaluator", "needed", "[Z", true)
def tyX5 : Nat → FieldType := fun k => match k with
  | 0 => .object "PathSolver$Terms"
  | 1 => .object "PathSolver$Variables"
  | 2 => .object "PathSolver$Tables"
  | 3 => .array .long
  | _ => .array .boolean
abbrev wsX50 : List Cond := u_ws RX5 TX5 5
theorem nmX5 : ∀ a, a < 5 → ∀ b, b < 5 → a ≠ b → (TX5 a).2.1 ≠ (TX5 b).2.1 := by decide +kernel
theorem tyX5_ok : ∀ k, k < 5 → parseFieldDescriptor (TX5 k).2.2.1 = some (tyX5 k) := by decide +kernel
theorem inX5 : ∀ w ∈ wsX50, w ∈ AW := by decide +kernel
def RX6 : String := "PathSolver$Maker"
def TX6 : u_T := fun k => match k with
  | 0 => ("PathSolver$Maker", "terms", "LPathSolver$Terms;", true)
  | _ => ("PathSolver$Maker", "evaluator", "LPathSolver$Evaluator;", true)
def tyX6 : Nat → FieldType := fun k => match k with
  | 0 => .object "PathSolver$Terms"
  | _ => .object "PathSolver$Evaluator"
abbrev wsX60 : List Cond := u_ws RX6 TX6 2
theorem nmX6 : ∀ a, a < 2 → ∀ b, b < 2 → a ≠ b → (TX6 a).2.1 ≠ (TX6 b).2.1 := by decide +kernel
theorem tyX6_ok : ∀ k, k < 2 → parseFieldDescriptor (TX6 k).2.2.1 = some (tyX6 k) := by decide +kernel
theorem inX6 : ∀ w ∈ wsX60, w ∈ AW := by decide +kernel
def RX7 : String := "PathSolver$TruthRows"
def TX7 : u_T := fun k => match k with
  | 0 => ("PathSolver$TruthRows", "terms", "LPathSolver$Terms;", true)
  | 1 => ("PathSolver$TruthRows", "variables", "LPathSolver$Variables;", true)
  | 2 => ("PathSolver$TruthRows", "evaluator", "LPathSolver$Evaluator;", true)
  | 3 => ("PathSolver$TruthRows", "rows", "[J", true)
  | 4 => ("PathSolver$TruthRows", "known", "[Z", true)
  | 5 => ("PathSolver$TruthRows", "asked", "[I", true)
  | _ => ("PathSolver$TruthRows", "askedSize", "I", false)
def tyX7 : Nat → FieldType := fun k => match k with
  | 0 => .object "PathSolver$Terms"
  | 1 => .object "PathSolver$Variables"
  | 2 => .object "PathSolver$Evaluator"
  | 3 => .array .long
  | 4 => .array .boolean
  | 5 => .array .int
  | _ => .int
abbrev wsX70 : List Cond := u_ws RX7 TX7 7
theorem nmX7 : ∀ a, a < 7 → ∀ b, b < 7 → a ≠ b → (TX7 a).2.1 ≠ (TX7 b).2.1 := by decide +kernel
theorem tyX7_ok : ∀ k, k < 7 → parseFieldDescriptor (TX7 k).2.2.1 = some (tyX7 k) := by decide +kernel
theorem inX7 : ∀ w ∈ wsX70, w ∈ AW := by decide +kernel
def RX8 : String := "PathSolver$Path"
def TX8 : u_T := fun k => match k with
  | 0 => ("PathSolver$Path", "rows", "LPathSolver$TruthRows;", true)
  | 1 => ("PathSolver$Path", "conditions", "[I", true)
  | _ => ("PathSolver$Path", "length", "I", false)
def tyX8 : Nat → FieldType := fun k => match k with
  | 0 => .object "PathSolver$TruthRows"
  | 1 => .array .int
  | _ => .int
abbrev wsX80 : List Cond := u_ws RX8 TX8 3
theorem nmX8 : ∀ a, a < 3 → ∀ b, b < 3 → a ≠ b → (TX8 a).2.1 ≠ (TX8 b).2.1 := by decide +kernel
theorem tyX8_ok : ∀ k, k < 3 → parseFieldDescriptor (TX8 k).2.2.1 = some (tyX8 k) := by decide +kernel
theorem inX8 : ∀ w ∈ wsX80, w ∈ AW := by decide +kernel
def RX9 : String := "PathSolver"
def TX9 : u_T := fun k => match k with
  | 0 => ("PathSolver", "variables", "LPathSolver$Variables;", true)
  | 1 => ("PathSolver", "tables", "LPathSolver$Tables;", true)
  | 2 => ("PathSolver", "terms", "LPathSolver$Terms;", true)
  | 3 => ("PathSolver", "evaluator", "LPathSolver$Evaluator;", true)
  | 4 => ("PathSolver", "maker", "LPathSolver$Maker;", true)
  | 5 => ("PathSolver", "rows", "LPathSolver$TruthRows;", true)
  | 6 => ("PathSolver", "path", "LPathSolver$Path;", true)
  | 7 => ("PathSolver", "modelAssignment", "I", false)
  | 8 => ("PathSolver", "modelVariables", "I", false)
  | 9 => ("PathSolver", "feasibleChecks", "I", false)
  | _ => ("PathSolver", "otherChecks", "I", false)
def tyX9 : Nat → FieldType := fun k => match k with
  | 0 => .object "PathSolver$Variables"
  | 1 => .object "PathSolver$Tables"
  | 2 => .object "PathSolver$Terms"
  | 3 => .object "PathSolver$Evaluator"
  | 4 => .object "PathSolver$Maker"
  | 5 => .object "PathSolver$TruthRows"
  | 6 => .object "PathSolver$Path"
  | 7 => .int
  | 8 => .int
  | 9 => .int
  | _ => .int
abbrev wsX90 : List Cond := u_ws RX9 TX9 11
theorem nmX9 : ∀ a, a < 11 → ∀ b, b < 11 → a ≠ b → (TX9 a).2.1 ≠ (TX9 b).2.1 := by decide +kernel
theorem tyX9_ok : ∀ k, k < 11 → parseFieldDescriptor (TX9 k).2.2.1 = some (tyX9 k) := by decide +kernel
theorem inX9 : ∀ w ∈ wsX90, w ∈ AW := by decide +kernel
def RX10 : String := "PathSolverModel"
def TX10 : u_T := fun k => match k with
  | 0 => ("PathSolverModel", "terms", "I", false)
  | 1 => ("PathSolverModel", "costs", "I", false)
  | 2 => ("PathSolverModel", "variables", "I", false)
  | 3 => ("PathSolverModel", "path", "I", false)
  | 4 => ("PathSolverModel", "yes", "I", false)
  | 5 => ("PathSolverModel", "no", "I", false)
  | 6 => ("PathSolverModel", "modelled", "I", false)
  | 7 => ("PathSolverModel", "op", "[I", true)
  | 8 => ("PathSolverModel", "a", "[I", true)
  | 9 => ("PathSolverModel", "b", "[I", true)
  | 10 => ("PathSolverModel", "c", "[I", true)
  | 11 => ("PathSolverModel", "wide", "[I", true)
  | 12 => ("PathSolverModel", "fixed", "[J", true)
  | 13 => ("PathSolverModel", "now", "[J", true)
  | 14 => ("PathSolverModel", "bits", "[I", true)
  | 15 => ("PathSolverModel", "termOf", "[I", true)
  | 16 => ("PathSolverModel", "value", "[I", true)
  | 17 => ("PathSolverModel", "model", "[I", true)
  | 18 => ("PathSolverModel", "signed", "[Z", true)
  | 19 => ("PathSolverModel", "table", "[I", true)
  | _ => ("PathSolverModel", "row", "[I", true)
def tyX10 : Nat → FieldType := fun k => match k with
  | 0 => .int
  | 1 => .int
  | 2 => .int
  | 3 => .int
  | 4 => .int
  | 5 => .int
  | 6 => .int
  | 7 => .array .int
  | 8 => .array .int
  | 9 => .array .int
  | 10 => .array .int
  | 11 => .array .int
  | 12 => .array .long
  | 13 => .array .long
  | 14 => .array .int
  | 15 => .array .int
  | 16 => .array .int
  | 17 => .array .int
  | 18 => .array .boolean
  | 19 => .array .int
  | _ => .array .int
abbrev wsX100 : List Cond := u_ws RX10 TX10 21
theorem nmX10 : ∀ a, a < 21 → ∀ b, b < 21 → a ≠ b → (TX10 a).2.1 ≠ (TX10 b).2.1 := by decide +kernel
theorem tyX10_ok : ∀ k, k < 21 → parseFieldDescriptor (TX10 k).2.2.1 = some (tyX10 k) := by decide +kernel
theorem inX10 : ∀ w ∈ wsX100, w ∈ AW := by decide +kernel
def RL : String := "PathSolverLaw"
abbrev cX9_init : ByteArray := prog_1_method_1_code
def yX9_init : MethodName := ⟨RX9, "<init>", "()V"⟩
def wsX9_init : List Cond := .code yX9_init cX9_init 1 none :: AW
abbrev cX2_init : ByteArray := prog_9_method_1_code
def yX2_init : MethodName := ⟨RX2, "<init>", "()V"⟩
def wsX2_init : List Cond := .code yX2_init cX2_init 1 none :: AW
abbrev cX3_init : ByteArray := prog_6_method_1_code
def yX3_init : MethodName := ⟨RX3, "<init>", "()V"⟩
def wsX3_init : List Cond := .code yX3_init cX3_init 1 none :: AW
abbrev cX4_init : ByteArray := prog_7_method_1_code
def yX4_init : MethodName := ⟨RX4, "<init>", "()V"⟩
def wsX4_init : List Cond := .code yX4_init cX4_init 1 none :: AW
abbrev cX5_init : ByteArray := prog_2_method_1_code
def yX5_init : MethodName := ⟨RX5, "<init>", "(LPathSolver$Terms;LPathSolver$Variables;LPathSolver$Tables;)V"⟩
def wsX5_init : List Cond := .code yX5_init cX5_init 4 none :: AW
abbrev cX6_init : ByteArray := prog_3_method_1_code
def yX6_init : MethodName := ⟨RX6, "<init>", "(LPathSolver$Terms;LPathSolver$Evaluator;)V"⟩
def wsX6_init : List Cond := .code yX6_init cX6_init 3 none :: AW
abbrev cX7_init : ByteArray := prog_8_method_1_code
def yX7_init : MethodName := ⟨RX7, "<init>", "(LPathSolver$Terms;LPathSolver$Variables;LPathSolver$Evaluator;)V"⟩
def wsX7_init : List Cond := .code yX7_init cX7_init 4 none :: AW
abbrev cX8_init : ByteArray := prog_5_method_1_code
def yX8_init : MethodName := ⟨RX8, "<init>", "(LPathSolver$TruthRows;)V"⟩
def wsX8_init : List Cond := .code yX8_init cX8_init 2 none :: AW
abbrev cX9_variable : ByteArray := prog_1_method_2_code
def yX9_variable : MethodName := ⟨RX9, "variable", "(IZ)I"⟩
def wsX9_variable : List Cond := .code yX9_variable cX9_variable 3 (some .int) :: AW
abbrev cX2_admits : ByteArray := prog_9_method_3_code
def yX2_admits : MethodName := ⟨RX2, "admits", "(I)Z"⟩
def wsX2_admits : List Cond := .code yX2_admits cX2_admits 2 (some .boolean) :: AW
abbrev cX4_isFull : ByteArray := prog_7_method_4_code
def yX4_isFull : MethodName := ⟨RX4, "isFull", "()Z"⟩
def wsX4_isFull : List Cond := .code yX4_isFull cX4_isFull 1 (some .boolean) :: AW
abbrev cX2_add : ByteArray := prog_9_method_4_code
def yX2_add : MethodName := ⟨RX2, "add", "(IZ)I"⟩
def wsX2_add : List Cond := .code yX2_add cX2_add 3 (some .int) :: AW
abbrev cX2_freeBits : ByteArray := prog_9_method_5_code
def yX2_freeBits : MethodName := ⟨RX2, "freeBits", "()I"⟩
def wsX2_freeBits : List Cond := .code yX2_freeBits cX2_freeBits 1 (some .int) :: AW
abbrev cX4_addVariable : ByteArray := prog_7_method_13_code
def yX4_addVariable : MethodName := ⟨RX4, "addVariable", "(I)I"⟩
def wsX4_addVariable : List Cond := .code yX4_addVariable cX4_addVariable 3 (some .int) :: AW
abbrev cX4_addPlain : ByteArray := prog_7_method_18_code
def yX4_addPlain : MethodName := ⟨RX4, "addPlain", "(II)I"⟩
def wsX4_addPlain : List Cond := .code yX4_addPlain cX4_addPlain 3 (some .int) :: AW
abbrev cX9_constant : ByteArray := prog_1_method_3_code
def yX9_constant : MethodName := ⟨RX9, "constant", "(IJ)I"⟩
def wsX9_constant : List Cond := .code yX9_constant cX9_constant 4 (some .int) :: AW
abbrev cX0_isOne : ByteArray := prog_10_method_2_code
def yX0_isOne : MethodName := ⟨RX0, "isOne", "(I)Z"⟩
def wsX0_isOne : List Cond := .code yX0_isOne cX0_isOne 1 (some .boolean) :: AW
abbrev cX4_findOrAddConstant : ByteArray := prog_7_method_14_code
def yX4_findOrAddConstant : MethodName := ⟨RX4, "findOrAddConstant", "(IJ)I"⟩
def wsX4_findOrAddConstant : List Cond := .code yX4_findOrAddConstant cX4_findOrAddConstant 7 (some .int) :: AW
abbrev cX0_readSigned : ByteArray := prog_10_method_3_code
def yX0_readSigned : MethodName := ⟨RX0, "readSigned", "(IJ)J"⟩
def wsX0_readSigned : List Cond := .code yX0_readSigned cX0_readSigned 4 (some .long) :: AW
abbrev cX4_isConstant : ByteArray := prog_7_method_9_code
def yX4_isConstant : MethodName := ⟨RX4, "isConstant", "(I)Z"⟩
def wsX4_isConstant : List Cond := .code yX4_isConstant cX4_isConstant 2 (some .boolean) :: AW
abbrev cX9_entry : ByteArray := prog_1_method_4_code
def yX9_entry : MethodName := ⟨RX9, "entry", "(III)I"⟩
def wsX9_entry : List Cond := .code yX9_entry cX9_entry 4 (some .int) :: AW
abbrev cX3_isTable : ByteArray := prog_6_method_2_code
def yX3_isTable : MethodName := ⟨RX3, "isTable", "(I)Z"⟩
def wsX3_isTable : List Cond := .code yX3_isTable cX3_isTable 1 (some .boolean) :: AW
abbrev cX3_isPlace : ByteArray := prog_6_method_3_code
def yX3_isPlace : MethodName := ⟨RX3, "isPlace", "(I)Z"⟩
def wsX3_isPlace : List Cond := .code yX3_isPlace cX3_isPlace 1 (some .boolean) :: AW
abbrev cX3_set : ByteArray := prog_6_method_4_code
def yX3_set : MethodName := ⟨RX3, "set", "(III)V"⟩
def wsX3_set : List Cond := .code yX3_set cX3_set 4 none :: AW
abbrev cX7_forgetReadersOf : ByteArray := prog_8_method_3_code
def yX7_forgetReadersOf : MethodName := ⟨RX7, "forgetReadersOf", "(I)V"⟩
def wsX7_forgetReadersOf : List Cond := .code yX7_forgetReadersOf cX7_forgetReadersOf 4 none :: AW
abbrev cX4_size : ByteArray := prog_7_method_2_code
def yX4_size : MethodName := ⟨RX4, "size", "()I"⟩
def wsX4_size : List Cond := .code yX4_size cX4_size 1 (some .int) :: AW
abbrev cX4_readsTable : ByteArray := prog_7_method_12_code
def yX4_readsTable : MethodName := ⟨RX4, "readsTable", "(II)Z"⟩
def wsX4_readsTable : List Cond := .code yX4_readsTable cX4_readsTable 3 (some .boolean) :: AW
abbrev cX9_term : ByteArray := prog_1_method_5_code
def yX9_term : MethodName := ⟨RX9, "term", "(IIII)I"⟩
def wsX9_term : List Cond := .code yX9_term cX9_term 5 (some .int) :: AW
abbrev cX6_accepts : ByteArray := prog_3_method_2_code
def yX6_accepts : MethodName := ⟨RX6, "accepts", "(IIII)Z"⟩
def wsX6_accepts : List Cond := .code yX6_accepts cX6_accepts 6 (some .boolean) :: AW
abbrev cX4_has : ByteArray := prog_7_method_5_code
def yX4_has : MethodName := ⟨RX4, "has", "(I)Z"⟩
def wsX4_has : List Cond := .code yX4_has cX4_has 2 (some .boolean) :: AW
abbrev cX4_widthOf : ByteArray := prog_7_method_6_code
def yX4_widthOf : MethodName := ⟨RX4, "widthOf", "(I)I"⟩
def wsX4_widthOf : List Cond := .code yX4_widthOf cX4_widthOf 2 (some .int) :: AW
abbrev cX6_areAlike : ByteArray := prog_3_method_5_code
def yX6_areAlike : MethodName := ⟨RX6, "areAlike", "(II)Z"⟩
def wsX6_areAlike : List Cond := .code yX6_areAlike cX6_areAlike 3 (some .boolean) :: AW
abbrev cX1_isThereFor : ByteArray := prog_4_method_5_code
def yX1_isThereFor : MethodName := ⟨RX1, "isThereFor", "(II)Z"⟩
def wsX1_isThereFor : List Cond := .code yX1_isThereFor cX1_isThereFor 2 (some .boolean) :: AW
abbrev cX6_make : ByteArray := prog_3_method_3_code
def yX6_make : MethodName := ⟨RX6, "make", "(IIII)I"⟩
def wsX6_make : List Cond := .code yX6_make cX6_make 8 (some .int) :: AW
abbrev cX1_named : ByteArray := prog_4_method_2_code
def yX1_named : MethodName := ⟨RX1, "named", "(I)I"⟩
def wsX1_named : List Cond := .code yX1_named cX1_named 1 (some .int) :: AW
abbrev cX1_namedTerms : ByteArray := prog_4_method_3_code
def yX1_namedTerms : MethodName := ⟨RX1, "namedTerms", "(I)I"⟩
def wsX1_namedTerms : List Cond := .code yX1_namedTerms cX1_namedTerms 1 (some .int) :: AW
abbrev cX6_areConstants : ByteArray := prog_3_method_6_code
def yX6_areConstants : MethodName := ⟨RX6, "areConstants", "(IIII)Z"⟩
def wsX6_areConstants : List Cond := .code yX6_areConstants cX6_areConstants 5 (some .boolean) :: AW
abbrev cX4_widthOfResult : ByteArray := prog_7_method_17_code
def yX4_widthOfResult : MethodName := ⟨RX4, "widthOfResult", "(III)I"⟩
def wsX4_widthOfResult : List Cond := .code yX4_widthOfResult cX4_widthOfResult 4 (some .int) :: AW
abbrev cX5_applyToConstants : ByteArray := prog_2_method_8_code
def yX5_applyToConstants : MethodName := ⟨RX5, "applyToConstants", "(IIII)J"⟩
def wsX5_applyToConstants : List Cond := .code yX5_applyToConstants cX5_applyToConstants 5 (some .long) :: AW
abbrev cX4_constants : ByteArray := prog_7_method_11_code
def yX4_constants : MethodName := ⟨RX4, "constants", "()[J"⟩
def wsX4_constants : List Cond := .code yX4_constants cX4_constants 1 (some (.array .long)) :: AW
abbrev cX5_apply : ByteArray := prog_2_method_9_code
def yX5_apply : MethodName := ⟨RX5, "apply", "(IIII[J)J"⟩
def wsX5_apply : List Cond := .code yX5_apply cX5_apply 7 (some .long) :: AW
abbrev cX1_ofOne : ByteArray := prog_4_method_7_code
def yX1_ofOne : MethodName := ⟨RX1, "ofOne", "(IIJ)J"⟩
def wsX1_ofOne : List Cond := .code yX1_ofOne cX1_ofOne 4 (some .long) :: AW
abbrev cX1_resized : ByteArray := prog_4_method_9_code
def yX1_resized : MethodName := ⟨RX1, "resized", "(IIIJ)J"⟩
def wsX1_resized : List Cond := .code yX1_resized cX1_resized 5 (some .long) :: AW
abbrev cX0_readPlain : ByteArray := prog_10_method_4_code
def yX0_readPlain : MethodName := ⟨RX0, "readPlain", "(IJ)J"⟩
def wsX0_readPlain : List Cond := .code yX0_readPlain cX0_readPlain 4 (some .long) :: AW
abbrev cX3_lookUp : ByteArray := prog_6_method_5_code
def yX3_lookUp : MethodName := ⟨RX3, "lookUp", "(IJ)J"⟩
def wsX3_lookUp : List Cond := .code yX3_lookUp cX3_lookUp 4 (some .long) :: AW
abbrev cX1_divided : ByteArray := prog_4_method_10_code
def yX1_divided : MethodName := ⟨RX1, "divided", "(IIJJ)J"⟩
def wsX1_divided : List Cond := .code yX1_divided cX1_divided 12 (some .long) :: AW
abbrev cX1_moved : ByteArray := prog_4_method_11_code
def yX1_moved : MethodName := ⟨RX1, "moved", "(IIJJ)J"⟩
def wsX1_moved : List Cond := .code yX1_moved cX1_moved 7 (some .long) :: AW
abbrev cX1_ofTwo : ByteArray := prog_4_method_8_code
def yX1_ofTwo : MethodName := ⟨RX1, "ofTwo", "(IIJJ)J"⟩
def wsX1_ofTwo : List Cond := .code yX1_ofTwo cX1_ofTwo 6 (some .long) :: AW
abbrev cX1_bit : ByteArray := prog_4_method_12_code
def yX1_bit : MethodName := ⟨RX1, "bit", "(Z)J"⟩
def wsX1_bit : List Cond := .code yX1_bit cX1_bit 1 (some .long) :: AW
abbrev cX1_changesPlaces : ByteArray := prog_4_method_4_code
def yX1_changesPlaces : MethodName := ⟨RX1, "changesPlaces", "(I)Z"⟩
def wsX1_changesPlaces : List Cond := .code yX1_changesPlaces cX1_changesPlaces 1 (some .boolean) :: AW
abbrev cX6_makeInPlace : ByteArray := prog_3_method_4_code
def yX6_makeInPlace : MethodName := ⟨RX6, "makeInPlace", "(IIII)I"⟩
def wsX6_makeInPlace : List Cond := .code yX6_makeInPlace cX6_makeInPlace 6 (some .int) :: AW
abbrev cX6_ofSameOperands : ByteArray := prog_3_method_7_code
def yX6_ofSameOperands : MethodName := ⟨RX6, "ofSameOperands", "(IIII)I"⟩
def wsX6_ofSameOperands : List Cond := .code yX6_ofSameOperands cX6_ofSameOperands 5 (some .int) :: AW
abbrev cX6_ofSettledChoice : ByteArray := prog_3_method_8_code
def yX6_ofSettledChoice : MethodName := ⟨RX6, "ofSettledChoice", "(III)I"⟩
def wsX6_ofSettledChoice : List Cond := .code yX6_ofSettledChoice cX6_ofSettledChoice 4 (some .int) :: AW
abbrev cX4_isZero : ByteArray := prog_7_method_10_code
def yX4_isZero : MethodName := ⟨RX4, "isZero", "(I)Z"⟩
def wsX4_isZero : List Cond := .code yX4_isZero cX4_isZero 2 (some .boolean) :: AW
abbrev cX6_ofZero : ByteArray := prog_3_method_9_code
def yX6_ofZero : MethodName := ⟨RX6, "ofZero", "(III)I"⟩
def wsX6_ofZero : List Cond := .code yX6_ofZero cX6_ofZero 4 (some .int) :: AW
abbrev cX6_ofUndoing : ByteArray := prog_3_method_10_code
def yX6_ofUndoing : MethodName := ⟨RX6, "ofUndoing", "(II)I"⟩
def wsX6_ofUndoing : List Cond := .code yX6_ofUndoing cX6_ofUndoing 4 (some .int) :: AW
abbrev cX4_operationOf : ByteArray := prog_7_method_7_code
def yX4_operationOf : MethodName := ⟨RX4, "operationOf", "(I)I"⟩
def wsX4_operationOf : List Cond := .code yX4_operationOf cX4_operationOf 2 (some .int) :: AW
abbrev cX4_operandOf : ByteArray := prog_7_method_8_code
def yX4_operandOf : MethodName := ⟨RX4, "operandOf", "(II)I"⟩
def wsX4_operandOf : List Cond := .code yX4_operandOf cX4_operandOf 3 (some .int) :: AW
abbrev cX4_find : ByteArray := prog_7_method_15_code
def yX4_find : MethodName := ⟨RX4, "find", "(IIII)I"⟩
def wsX4_find : List Cond := .code yX4_find cX4_find 6 (some .int) :: AW
abbrev cX4_add : ByteArray := prog_7_method_16_code
def yX4_add : MethodName := ⟨RX4, "add", "(IIII)I"⟩
def wsX4_add : List Cond := .code yX4_add cX4_add 8 (some .int) :: AW
abbrev cX1_costFor : ByteArray := prog_4_method_6_code
def yX1_costFor : MethodName := ⟨RX1, "costFor", "(II)I"⟩
def wsX1_costFor : List Cond := .code yX1_costFor cX1_costFor 2 (some .int) :: AW
abbrev cX4_noteTablesRead : ByteArray := prog_7_method_19_code
def yX4_noteTablesRead : MethodName := ⟨RX4, "noteTablesRead", "(I)V"⟩
def wsX4_noteTablesRead : List Cond := .code yX4_noteTablesRead cX4_noteTablesRead 5 none :: AW
abbrev cX9_take : ByteArray := prog_1_method_6_code
def yX9_take : MethodName := ⟨RX9, "take", "(I)I"⟩
def wsX9_take : List Cond := .code yX9_take cX9_take 2 (some .int) :: AW
abbrev cX8_isFull : ByteArray := prog_5_method_3_code
def yX8_isFull : MethodName := ⟨RX8, "isFull", "()Z"⟩
def wsX8_isFull : List Cond := .code yX8_isFull cX8_isFull 1 (some .boolean) :: AW
abbrev cX8_push : ByteArray := prog_5_method_5_code
def yX8_push : MethodName := ⟨RX8, "push", "(I)I"⟩
def wsX8_push : List Cond := .code yX8_push cX8_push 2 (some .int) :: AW
abbrev cX9_back : ByteArray := prog_1_method_7_code
def yX9_back : MethodName := ⟨RX9, "back", "()I"⟩
def wsX9_back : List Cond := .code yX9_back cX9_back 1 (some .int) :: AW
abbrev cX8_length : ByteArray := prog_5_method_2_code
def yX8_length : MethodName := ⟨RX8, "length", "()I"⟩
def wsX8_length : List Cond := .code yX8_length cX8_length 1 (some .int) :: AW
abbrev cX8_pop : ByteArray := prog_5_method_6_code
def yX8_pop : MethodName := ⟨RX8, "pop", "()I"⟩
def wsX8_pop : List Cond := .code yX8_pop cX8_pop 1 (some .int) :: AW
abbrev cX9_check : ByteArray := prog_1_method_8_code
def yX9_check : MethodName := ⟨RX9, "check", "()I"⟩
def wsX9_check : List Cond := .code yX9_check cX9_check 1 (some .int) :: AW
abbrev cX8_firstTaking : ByteArray := prog_5_method_7_code
def yX8_firstTaking : MethodName := ⟨RX8, "firstTaking", "()I"⟩
def wsX8_firstTaking : List Cond := .code yX8_firstTaking cX8_firstTaking 4 (some .int) :: AW
abbrev cX7_learn : ByteArray := prog_8_method_4_code
def yX7_learn : MethodName := ⟨RX7, "learn", "([II)V"⟩
def wsX7_learn : List Cond := .code yX7_learn cX7_learn 6 none :: AW
abbrev cX7_ask : ByteArray := prog_8_method_5_code
def yX7_ask : MethodName := ⟨RX7, "ask", "([II)V"⟩
def wsX7_ask : List Cond := .code yX7_ask cX7_ask 5 none :: AW
abbrev cX5_needNothing : ByteArray := prog_2_method_4_code
def yX5_needNothing : MethodName := ⟨RX5, "needNothing", "()V"⟩
def wsX5_needNothing : List Cond := .code yX5_needNothing cX5_needNothing 2 none :: AW
abbrev cX7_clearRow : ByteArray := prog_8_method_6_code
def yX7_clearRow : MethodName := ⟨RX7, "clearRow", "(I)V"⟩
def wsX7_clearRow : List Cond := .code yX7_clearRow cX7_clearRow 3 none :: AW
abbrev cX5_need : ByteArray := prog_2_method_5_code
def yX5_need : MethodName := ⟨RX5, "need", "(I)V"⟩
def wsX5_need : List Cond := .code yX5_need cX5_need 2 none :: AW
abbrev cX5_needOperands : ByteArray := prog_2_method_6_code
def yX5_needOperands : MethodName := ⟨RX5, "needOperands", "()V"⟩
def wsX5_needOperands : List Cond := .code yX5_needOperands cX5_needOperands 4 none :: AW
abbrev cX5_evaluateNeeded : ByteArray := prog_2_method_7_code
def yX5_evaluateNeeded : MethodName := ⟨RX5, "evaluateNeeded", "(I)V"⟩
def wsX5_evaluateNeeded : List Cond := .code yX5_evaluateNeeded cX5_evaluateNeeded 7 none :: AW
abbrev cX2_readAt : ByteArray := prog_9_method_7_code
def yX2_readAt : MethodName := ⟨RX2, "readAt", "(II)J"⟩
def wsX2_readAt : List Cond := .code yX2_readAt cX2_readAt 3 (some .long) :: AW
abbrev cX2_bitsAt : ByteArray := prog_9_method_6_code
def yX2_bitsAt : MethodName := ⟨RX2, "bitsAt", "(II)I"⟩
def wsX2_bitsAt : List Cond := .code yX2_bitsAt cX2_bitsAt 3 (some .int) :: AW
abbrev cX7_noteAsked : ByteArray := prog_8_method_7_code
def yX7_noteAsked : MethodName := ⟨RX7, "noteAsked", "(II)V"⟩
def wsX7_noteAsked : List Cond := .code yX7_noteAsked cX7_noteAsked 4 none :: AW
abbrev cX5_resultAt : ByteArray := prog_2_method_2_code
def yX5_resultAt : MethodName := ⟨RX5, "resultAt", "(I)J"⟩
def wsX5_resultAt : List Cond := .code yX5_resultAt cX5_resultAt 2 (some .long) :: AW
abbrev cX7_setBits : ByteArray := prog_8_method_8_code
def yX7_setBits : MethodName := ⟨RX7, "setBits", "(III)V"⟩
def wsX7_setBits : List Cond := .code yX7_setBits cX7_setBits 5 none :: AW
abbrev cX8_holdingBefore : ByteArray := prog_5_method_9_code
def yX8_holdingBefore : MethodName := ⟨RX8, "holdingBefore", "(II)J"⟩
def wsX8_holdingBefore : List Cond := .code yX8_holdingBefore cX8_holdingBefore 6 (some .long) :: AW
abbrev cX7_wordOf : ByteArray := prog_8_method_2_code
def yX7_wordOf : MethodName := ⟨RX7, "wordOf", "(II)J"⟩
def wsX7_wordOf : List Cond := .code yX7_wordOf cX7_wordOf 3 (some .long) :: AW
abbrev cX8_lowestBit : ByteArray := prog_5_method_10_code
def yX8_lowestBit : MethodName := ⟨RX8, "lowestBit", "(J)I"⟩
def wsX8_lowestBit : List Cond := .code yX8_lowestBit cX8_lowestBit 3 (some .int) :: AW
abbrev cX9_settle : ByteArray := prog_1_method_18_code
def yX9_settle : MethodName := ⟨RX9, "settle", "(I)Z"⟩
def wsX9_settle : List Cond := .code yX9_settle cX9_settle 2 (some .boolean) :: AW
abbrev cX2_size : ByteArray := prog_9_method_2_code
def yX2_size : MethodName := ⟨RX2, "size", "()I"⟩
def wsX2_size : List Cond := .code yX2_size cX2_size 1 (some .int) :: AW
abbrev cX9_flip : ByteArray := prog_1_method_9_code
def yX9_flip : MethodName := ⟨RX9, "flip", "(I)I"⟩
def wsX9_flip : List Cond := .code yX9_flip cX9_flip 2 (some .int) :: AW
abbrev cX8_firstLeavingAt : ByteArray := prog_5_method_8_code
def yX8_firstLeavingAt : MethodName := ⟨RX8, "firstLeavingAt", "(I)I"⟩
def wsX8_firstLeavingAt : List Cond := .code yX8_firstLeavingAt cX8_firstLeavingAt 5 (some .int) :: AW
abbrev cX9_search : ByteArray := prog_1_method_10_code
def yX9_search : MethodName := ⟨RX9, "search", "(I)I"⟩
def wsX9_search : List Cond := .code yX9_search cX9_search 4 (some .int) :: AW
abbrev cX9_model : ByteArray := prog_1_method_11_code
def yX9_model : MethodName := ⟨RX9, "model", "(I)I"⟩
def wsX9_model : List Cond := .code yX9_model cX9_model 2 (some .int) :: AW
abbrev cX9_value : ByteArray := prog_1_method_12_code
def yX9_value : MethodName := ⟨RX9, "value", "(I)J"⟩
def wsX9_value : List Cond := .code yX9_value cX9_value 2 (some .long) :: AW
abbrev cX5_needOnly : ByteArray := prog_2_method_3_code
def yX5_needOnly : MethodName := ⟨RX5, "needOnly", "(I)V"⟩
def wsX5_needOnly : List Cond := .code yX5_needOnly cX5_needOnly 2 none :: AW
abbrev cX9_follows : ByteArray := prog_1_method_13_code
def yX9_follows : MethodName := ⟨RX9, "follows", "()I"⟩
def wsX9_follows : List Cond := .code yX9_follows cX9_follows 3 (some .int) :: AW
abbrev cX8_conditionAt : ByteArray := prog_5_method_4_code
def yX8_conditionAt : MethodName := ⟨RX8, "conditionAt", "(I)I"⟩
def wsX8_conditionAt : List Cond := .code yX8_conditionAt cX8_conditionAt 2 (some .int) :: AW
abbrev cX9_width : ByteArray := prog_1_method_14_code
def yX9_width : MethodName := ⟨RX9, "width", "(I)I"⟩
def wsX9_width : List Cond := .code yX9_width cX9_width 2 (some .int) :: AW
abbrev cX9_operation : ByteArray := prog_1_method_15_code
def yX9_operation : MethodName := ⟨RX9, "operation", "(I)I"⟩
def wsX9_operation : List Cond := .code yX9_operation cX9_operation 2 (some .int) :: AW
abbrev cX9_operand : ByteArray := prog_1_method_16_code
def yX9_operand : MethodName := ⟨RX9, "operand", "(II)I"⟩
def wsX9_operand : List Cond := .code yX9_operand cX9_operand 3 (some .int) :: AW
abbrev cX9_count : ByteArray := prog_1_method_17_code
def yX9_count : MethodName := ⟨RX9, "count", "(I)I"⟩
def wsX9_count : List Cond := .code yX9_count cX9_count 2 (some .int) :: AW
abbrev cX4_totalCost : ByteArray := prog_7_method_3_code
def yX4_totalCost : MethodName := ⟨RX4, "totalCost", "()I"⟩
def wsX4_totalCost : List Cond := .code yX4_totalCost cX4_totalCost 1 (some .int) :: AW
abbrev cX10_init : ByteArray := prog_12_method_1_code
def yX10_init : MethodName := ⟨RX10, "<init>", "()V"⟩
def wsX10_init : List Cond := .code yX10_init cX10_init 1 none :: AW
abbrev cX10_variable : ByteArray := prog_12_method_7_code
def yX10_variable : MethodName := ⟨RX10, "variable", "(IZ)I"⟩
def wsX10_variable : List Cond := .code yX10_variable cX10_variable 5 (some .int) :: AW
abbrev cX10_fresh : ByteArray := prog_12_method_6_code
def yX10_fresh : MethodName := ⟨RX10, "fresh", "(IIIII)I"⟩
def wsX10_fresh : List Cond := .code yX10_fresh cX10_fresh 6 (some .int) :: AW
abbrev cX10_constant : ByteArray := prog_12_method_8_code
def yX10_constant : MethodName := ⟨RX10, "constant", "(IJ)I"⟩
def wsX10_constant : List Cond := .code yX10_constant cX10_constant 4 (some .int) :: AW
abbrev cX10_isWidth : ByteArray := prog_12_method_2_code
def yX10_isWidth : MethodName := ⟨RX10, "isWidth", "(I)Z"⟩
def wsX10_isWidth : List Cond := .code yX10_isWidth cX10_isWidth 2 (some .boolean) :: AW
abbrev cX10_constantOf : ByteArray := prog_12_method_9_code
def yX10_constantOf : MethodName := ⟨RX10, "constantOf", "(IJ)I"⟩
def wsX10_constantOf : List Cond := .code yX10_constantOf cX10_constantOf 5 (some .int) :: AW
abbrev cX10_cut : ByteArray := prog_12_method_3_code
def yX10_cut : MethodName := ⟨RX10, "cut", "(JI)J"⟩
def wsX10_cut : List Cond := .code yX10_cut cX10_cut 4 (some .long) :: AW
abbrev cX10_entry : ByteArray := prog_12_method_10_code
def yX10_entry : MethodName := ⟨RX10, "entry", "(III)I"⟩
def wsX10_entry : List Cond := .code yX10_entry cX10_entry 4 (some .int) :: AW
abbrev cX10_term : ByteArray := prog_12_method_20_code
def yX10_term : MethodName := ⟨RX10, "term", "(IIII)I"⟩
def wsX10_term : List Cond := .code yX10_term cX10_term 7 (some .int) :: AW
abbrev cX10_fits : ByteArray := prog_12_method_15_code
def yX10_fits : MethodName := ⟨RX10, "fits", "(IIII)Z"⟩
def wsX10_fits : List Cond := .code yX10_fits cX10_fits 6 (some .boolean) :: AW
abbrev cX10_none : ByteArray := prog_12_method_5_code
def yX10_none : MethodName := ⟨RX10, "none", "(I)Z"⟩
def wsX10_none : List Cond := .code yX10_none cX10_none 2 (some .boolean) :: AW
abbrev cX10_isConst : ByteArray := prog_12_method_16_code
def yX10_isConst : MethodName := ⟨RX10, "isConst", "(I)Z"⟩
def wsX10_isConst : List Cond := .code yX10_isConst cX10_isConst 2 (some .boolean) :: AW
abbrev cX10_widthOf : ByteArray := prog_12_method_18_code
def yX10_widthOf : MethodName := ⟨RX10, "widthOf", "(III)I"⟩
def wsX10_widthOf : List Cond := .code yX10_widthOf cX10_widthOf 4 (some .int) :: AW
abbrev cX10_result : ByteArray := prog_12_method_14_code
def yX10_result : MethodName := ⟨RX10, "result", "(IIII)J"⟩
def wsX10_result : List Cond := .code yX10_result cX10_result 5 (some .long) :: AW
abbrev cX10_sign : ByteArray := prog_12_method_4_code
def yX10_sign : MethodName := ⟨RX10, "sign", "(JI)J"⟩
def wsX10_sign : List Cond := .code yX10_sign cX10_sign 4 (some .long) :: AW
abbrev cX10_plain : ByteArray := prog_12_method_13_code
def yX10_plain : MethodName := ⟨RX10, "plain", "(IJJI)J"⟩
def wsX10_plain : List Cond := .code yX10_plain cX10_plain 7 (some .long) :: AW
abbrev cX10_less : ByteArray := prog_12_method_12_code
def yX10_less : MethodName := ⟨RX10, "less", "(JJ)J"⟩
def wsX10_less : List Cond := .code yX10_less cX10_less 5 (some .long) :: AW
abbrev cX10_shifted : ByteArray := prog_12_method_11_code
def yX10_shifted : MethodName := ⟨RX10, "shifted", "(IJJI)J"⟩
def wsX10_shifted : List Cond := .code yX10_shifted cX10_shifted 8 (some .long) :: AW
abbrev cX10_simple : ByteArray := prog_12_method_22_code
def yX10_simple : MethodName := ⟨RX10, "simple", "(IIII)I"⟩
def wsX10_simple : List Cond := .code yX10_simple cX10_simple 10 (some .int) :: AW
abbrev cX10_shorter : ByteArray := prog_12_method_21_code
def yX10_shorter : MethodName := ⟨RX10, "shorter", "(IIII)I"⟩
def wsX10_shorter : List Cond := .code yX10_shorter cX10_shorter 6 (some .int) :: AW
abbrev cX10_isZero : ByteArray := prog_12_method_17_code
def yX10_isZero : MethodName := ⟨RX10, "isZero", "(I)Z"⟩
def wsX10_isZero : List Cond := .code yX10_isZero cX10_isZero 2 (some .boolean) :: AW
abbrev cX10_cost : ByteArray := prog_12_method_19_code
def yX10_cost : MethodName := ⟨RX10, "cost", "(II)I"⟩
def wsX10_cost : List Cond := .code yX10_cost cX10_cost 3 (some .int) :: AW
abbrev cX10_take : ByteArray := prog_12_method_23_code
def yX10_take : MethodName := ⟨RX10, "take", "(I)I"⟩
def wsX10_take : List Cond := .code yX10_take cX10_take 2 (some .int) :: AW
abbrev cX10_back : ByteArray := prog_12_method_24_code
def yX10_back : MethodName := ⟨RX10, "back", "()I"⟩
def wsX10_back : List Cond := .code yX10_back cX10_back 1 (some .int) :: AW
abbrev cX10_check : ByteArray := prog_12_method_28_code
def yX10_check : MethodName := ⟨RX10, "check", "()I"⟩
def wsX10_check : List Cond := .code yX10_check cX10_check 1 (some .int) :: AW
abbrev cX10_solve : ByteArray := prog_12_method_26_code
def yX10_solve : MethodName := ⟨RX10, "solve", "(IZ)Z"⟩
def wsX10_solve : List Cond := .code yX10_solve cX10_solve 8 (some .boolean) :: AW
abbrev cX10_work : ByteArray := prog_12_method_25_code
def yX10_work : MethodName := ⟨RX10, "work", "()V"⟩
def wsX10_work : List Cond := .code yX10_work cX10_work 2 none :: AW
abbrev cX10_answer : ByteArray := prog_12_method_27_code
def yX10_answer : MethodName := ⟨RX10, "answer", "(Z)I"⟩
def wsX10_answer : List Cond := .code yX10_answer cX10_answer 3 (some .int) :: AW
abbrev cX10_flip : ByteArray := prog_12_method_29_code
def yX10_flip : MethodName := ⟨RX10, "flip", "(I)I"⟩
def wsX10_flip : List Cond := .code yX10_flip cX10_flip 2 (some .int) :: AW
abbrev cX10_search : ByteArray := prog_12_method_30_code
def yX10_search : MethodName := ⟨RX10, "search", "(I)I"⟩
def wsX10_search : List Cond := .code yX10_search cX10_search 4 (some .int) :: AW
abbrev cX10_model : ByteArray := prog_12_method_32_code
def yX10_model : MethodName := ⟨RX10, "model", "(I)I"⟩
def wsX10_model : List Cond := .code yX10_model cX10_model 2 (some .int) :: AW
abbrev cX10_value : ByteArray := prog_12_method_33_code
def yX10_value : MethodName := ⟨RX10, "value", "(I)J"⟩
def wsX10_value : List Cond := .code yX10_value cX10_value 2 (some .long) :: AW
abbrev cX10_takeModel : ByteArray := prog_12_method_31_code
def yX10_takeModel : MethodName := ⟨RX10, "takeModel", "()V"⟩
def wsX10_takeModel : List Cond := .code yX10_takeModel cX10_takeModel 2 none :: AW
abbrev cX10_follows : ByteArray := prog_12_method_34_code
def yX10_follows : MethodName := ⟨RX10, "follows", "()I"⟩
def wsX10_follows : List Cond := .code yX10_follows cX10_follows 2 (some .int) :: AW
abbrev cX10_width : ByteArray := prog_12_method_35_code
def yX10_width : MethodName := ⟨RX10, "width", "(I)I"⟩
def wsX10_width : List Cond := .code yX10_width cX10_width 2 (some .int) :: AW
abbrev cX10_operation : ByteArray := prog_12_method_36_code
def yX10_operation : MethodName := ⟨RX10, "operation", "(I)I"⟩
def wsX10_operation : List Cond := .code yX10_operation cX10_operation 2 (some .int) :: AW
abbrev cX10_operand : ByteArray := prog_12_method_37_code
def yX10_operand : MethodName := ⟨RX10, "operand", "(II)I"⟩
def wsX10_operand : List Cond := .code yX10_operand cX10_operand 4 (some .int) :: AW
abbrev cX10_count : ByteArray := prog_12_method_38_code
def yX10_count : MethodName := ⟨RX10, "count", "(I)I"⟩
def wsX10_count : List Cond := .code yX10_count cX10_count 2 (some .int) :: AW
abbrev vwCl : List vw_C := [(RX2, TX2, 5), (RX3, TX3, 1), (RX4, TX4, 7), (RX5, TX5, 5), (RX6, TX6, 2), (RX7, TX7, 7), (RX8, TX8, 3), (RX9, TX9, 11), (RX10, TX10, 21)]
theorem aw_in {w : Cond} (h : w ∈ AW) : w ∈ AW ∧ ((w.onTables && w.keeps) = true ∨ ∃ ty, w = .arrayClass ty) := ⟨h, good_of_word (List.mem_filter.mp h).2⟩
theorem aw_cons {cw : Cond} (h : cw ∈ AW) : ∀ w ∈ cw :: AW, w ∈ AW := fun w hw => (List.mem_cons.mp hw).elim (fun e => e ▸ h) (fun h => h)
theorem aw_V {own C : String} {idx : Nat} {y : MethodName} {cw : Cond} (h1 : .methodLink own idx y ∈ AW) (h2 : .instanceMethod y ∈ AW) (h3 : .selects C y y ∈ AW) (h4 : .initialized C ∈ AW) (h5 : cw ∈ AW) : GoodIn AW (wsV own idx C y (cw :: AW)) := by
  intro w hw
  refine aw_in ?_
  rcases List.mem_append.mp hw with h | h
  · simp only [List.mem_cons, List.not_mem_nil, or_false] at h
    rcases h with rfl | rfl | rfl | rfl <;> assumption
  · exact aw_cons h5 w h
theorem aw_S {own : String} {idx : Nat} {y : MethodName} {cw : Cond} (h1 : .methodLink own idx y ∈ AW) (h2 : .static y ∈ AW) (h3 : .initialized y.cls ∈ AW) (h5 : cw ∈ AW) : GoodIn AW (va_wsS own idx y (cw :: AW)) := by
  intro w hw
  refine aw_in ?_
  rcases List.mem_append.mp hw with h | h
  · simp only [List.mem_cons, List.not_mem_nil, or_false] at h
    rcases h with rfl | rfl | rfl <;> assumption
  · exact aw_cons h5 w h
theorem aw_law {args : Array Value} {s : State} (h : ∀ w ∈ lw_tbl, w.before args s = true) : ∀ w ∈ AW, w.before args s = true := fun w hw => h w (List.mem_filter.mp hw).1
theorem aw_I {cw : Cond} (h5 : cw ∈ AW) : GoodIn AW (cw :: AW) := fun w hw => aw_in (aw_cons h5 w hw)
theorem aw_hts {cw : Cond} {args : Array Value} {s : State} (h : ∀ w ∈ cw :: AW, w.before args s = true) : ∀ w ∈ AW, w.before args s = true := fun w hw => h w (List.mem_cons_of_mem _ hw)
