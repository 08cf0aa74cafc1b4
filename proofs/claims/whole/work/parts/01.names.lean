-- ===== PART A: goes FIRST, ahead of the names: the tables' words, and 'selects' of the private methods out of them =====
/-- a private method of a class that the tables say can be made, by its rows of tables_1 -/
def lw_okq (q : MethodName × Nat) : Prop := (q.1.cls ≠ "java/lang/invoke/MethodHandle" ∧ q.1.cls ≠ "java/lang/invoke/VarHandle") ∧ Cond.instantiable q.1.cls q.2 ∈ tables_1 ∧ Cond.privateMethod q.1 ∈ tables_1 ∧ Cond.instanceMethod q.1 ∈ tables_1
theorem lw_p0 : lw_okq (⟨"BlockCells$Rule", "join", "(II)V"⟩, 2) := ⟨⟨by decide +kernel, by decide +kernel⟩, List.mem_of_getElem? (i := 55) (by decide +kernel), List.mem_of_getElem? (i := 74) (by decide +kernel), List.mem_of_getElem? (i := 75) (by decide +kernel)⟩
theorem lw_p1 : lw_okq (⟨"BlockCells", "undoable", "()I"⟩, 9) := ⟨⟨by decide +kernel, by decide +kernel⟩, List.mem_of_getElem? (i := 14) (by decide +kernel), List.mem_of_getElem? (i := 354) (by decide +kernel), List.mem_of_getElem? (i := 355) (by decide +kernel)⟩
theorem lw_p2 : lw_okq (⟨"BlockCells", "thingsNow", "()LBlockCells$Things;"⟩, 9) := ⟨⟨by decide +kernel, by decide +kernel⟩, List.mem_of_getElem? (i := 14) (by decide +kernel), List.mem_of_getElem? (i := 358) (by decide +kernel), List.mem_of_getElem? (i := 359) (by decide +kernel)⟩
theorem lw_p3 : lw_okq (⟨"BlockCells$Things", "gather", "(II)V"⟩, 10) := ⟨⟨by decide +kernel, by decide +kernel⟩, List.mem_of_getElem? (i := 164) (by decide +kernel), List.mem_of_getElem? (i := 373) (by decide +kernel), List.mem_of_getElem? (i := 374) (by decide +kernel)⟩
theorem lw_p4 : lw_okq (⟨"BlockCells$Things", "join", "(II)V"⟩, 10) := ⟨⟨by decide +kernel, by decide +kernel⟩, List.mem_of_getElem? (i := 164) (by decide +kernel), List.mem_of_getElem? (i := 377) (by decide +kernel), List.mem_of_getElem? (i := 378) (by decide +kernel)⟩
theorem lw_p5 : lw_okq (⟨"BlockCells$Things", "joinNeighbours", "(I)V"⟩, 10) := ⟨⟨by decide +kernel, by decide +kernel⟩, List.mem_of_getElem? (i := 164) (by decide +kernel), List.mem_of_getElem? (i := 381) (by decide +kernel), List.mem_of_getElem? (i := 382) (by decide +kernel)⟩
theorem lw_p6 : lw_okq (⟨"BlockCells$Things", "nameShapes", "()V"⟩, 10) := ⟨⟨by decide +kernel, by decide +kernel⟩, List.mem_of_getElem? (i := 164) (by decide +kernel), List.mem_of_getElem? (i := 388) (by decide +kernel), List.mem_of_getElem? (i := 389) (by decide +kernel)⟩
theorem lw_p7 : lw_okq (⟨"BlockCells$Things", "areAlike", "(II)Z"⟩, 10) := ⟨⟨by decide +kernel, by decide +kernel⟩, List.mem_of_getElem? (i := 164) (by decide +kernel), List.mem_of_getElem? (i := 396) (by decide +kernel), List.mem_of_getElem? (i := 397) (by decide +kernel)⟩
theorem lw_p8 : lw_okq (⟨"BlockCells$Grid", "turnBlocks", "(LBlockCells$Rule;Z)V"⟩, 4) := ⟨⟨by decide +kernel, by decide +kernel⟩, List.mem_of_getElem? (i := 28) (by decide +kernel), List.mem_of_getElem? (i := 441) (by decide +kernel), List.mem_of_getElem? (i := 442) (by decide +kernel)⟩
theorem lw_p9 : lw_okq (⟨"BlockCells$Grid", "stateOf", "(II)I"⟩, 4) := ⟨⟨by decide +kernel, by decide +kernel⟩, List.mem_of_getElem? (i := 28) (by decide +kernel), List.mem_of_getElem? (i := 446) (by decide +kernel), List.mem_of_getElem? (i := 447) (by decide +kernel)⟩
theorem lw_p10 : lw_okq (⟨"BlockCells$Grid", "putState", "(III)V"⟩, 4) := ⟨⟨by decide +kernel, by decide +kernel⟩, List.mem_of_getElem? (i := 28) (by decide +kernel), List.mem_of_getElem? (i := 456) (by decide +kernel), List.mem_of_getElem? (i := 457) (by decide +kernel)⟩
theorem lw_p11 : lw_okq (⟨"BlockCells$Ahead", "isMoved", "(LBlockCells$Grid;)Z"⟩, 7) := ⟨⟨by decide +kernel, by decide +kernel⟩, List.mem_of_getElem? (i := 129) (by decide +kernel), List.mem_of_getElem? (i := 543) (by decide +kernel), List.mem_of_getElem? (i := 544) (by decide +kernel)⟩
theorem lw_p12 : lw_okq (⟨"BlockCells$Ahead", "keepIfUnlike", "()V"⟩, 7) := ⟨⟨by decide +kernel, by decide +kernel⟩, List.mem_of_getElem? (i := 129) (by decide +kernel), List.mem_of_getElem? (i := 556) (by decide +kernel), List.mem_of_getElem? (i := 557) (by decide +kernel)⟩
theorem lw_p13 : lw_okq (⟨"BlockCells$Ahead", "isKeptAs", "(I)Z"⟩, 7) := ⟨⟨by decide +kernel, by decide +kernel⟩, List.mem_of_getElem? (i := 129) (by decide +kernel), List.mem_of_getElem? (i := 560) (by decide +kernel), List.mem_of_getElem? (i := 561) (by decide +kernel)⟩
theorem lw_p14 : lw_okq (⟨"BlockCells", "readTape", "()I"⟩, 9) := ⟨⟨by decide +kernel, by decide +kernel⟩, List.mem_of_getElem? (i := 14) (by decide +kernel), List.mem_of_getElem? (i := 613) (by decide +kernel), List.mem_of_getElem? (i := 614) (by decide +kernel)⟩
theorem lw_p15 : lw_okq (⟨"BlockCells", "fillFromTape", "()V"⟩, 9) := ⟨⟨by decide +kernel, by decide +kernel⟩, List.mem_of_getElem? (i := 14) (by decide +kernel), List.mem_of_getElem? (i := 634) (by decide +kernel), List.mem_of_getElem? (i := 635) (by decide +kernel)⟩
def lw_privs_1 : List (MethodName × Nat) := [(⟨"BlockCells$Rule", "join", "(II)V"⟩, 2), (⟨"BlockCells", "undoable", "()I"⟩, 9), (⟨"BlockCells", "thingsNow", "()LBlockCells$Things;"⟩, 9), (⟨"BlockCells$Things", "gather", "(II)V"⟩, 10), (⟨"BlockCells$Things", "join", "(II)V"⟩, 10), (⟨"BlockCells$Things", "joinNeighbours", "(I)V"⟩, 10), (⟨"BlockCells$Things", "nameShapes", "()V"⟩, 10), (⟨"BlockCells$Things", "areAlike", "(II)Z"⟩, 10), (⟨"BlockCells$Grid", "turnBlocks", "(LBlockCells$Rule;Z)V"⟩, 4), (⟨"BlockCells$Grid", "stateOf", "(II)I"⟩, 4), (⟨"BlockCells$Grid", "putState", "(III)V"⟩, 4), (⟨"BlockCells$Ahead", "isMoved", "(LBlockCells$Grid;)Z"⟩, 7), (⟨"BlockCells$Ahead", "keepIfUnlike", "()V"⟩, 7), (⟨"BlockCells$Ahead", "isKeptAs", "(I)Z"⟩, 7), (⟨"BlockCells", "readTape", "()I"⟩, 9), (⟨"BlockCells", "fillFromTape", "()V"⟩, 9)]
theorem lw_r1 : ∀ q ∈ lw_privs_1, lw_okq q := List.forall_mem_cons.mpr ⟨lw_p0, List.forall_mem_cons.mpr ⟨lw_p1, List.forall_mem_cons.mpr ⟨lw_p2, List.forall_mem_cons.mpr ⟨lw_p3, List.forall_mem_cons.mpr ⟨lw_p4, List.forall_mem_cons.mpr ⟨lw_p5, List.forall_mem_cons.mpr ⟨lw_p6, List.forall_mem_cons.mpr ⟨lw_p7, List.forall_mem_cons.mpr ⟨lw_p8, List.forall_mem_cons.mpr ⟨lw_p9, List.forall_mem_cons.mpr ⟨lw_p10, List.forall_mem_cons.mpr ⟨lw_p11, List.forall_mem_cons.mpr ⟨lw_p12, List.forall_mem_cons.mpr ⟨lw_p13, List.forall_mem_cons.mpr ⟨lw_p14, List.forall_mem_cons.mpr ⟨lw_p15, fun _ h => absurd h List.not_mem_nil⟩⟩⟩⟩⟩⟩⟩⟩⟩⟩⟩⟩⟩⟩⟩⟩
theorem lw_p16 : lw_okq (⟨"BlockCells", "rowOf", "(I)LBlockCells$Row;"⟩, 9) := ⟨⟨by decide +kernel, by decide +kernel⟩, List.mem_of_getElem? (i := 14) (by decide +kernel), List.mem_of_getElem? (i := 655) (by decide +kernel), List.mem_of_getElem? (i := 656) (by decide +kernel)⟩
theorem lw_p17 : lw_okq (⟨"BlockCells", "canHappen", "(II)Z"⟩, 9) := ⟨⟨by decide +kernel, by decide +kernel⟩, List.mem_of_getElem? (i := 14) (by decide +kernel), List.mem_of_getElem? (i := 731) (by decide +kernel), List.mem_of_getElem? (i := 732) (by decide +kernel)⟩
theorem lw_p18 : lw_okq (⟨"BlockCells$Ahead", "happen", "(II)V"⟩, 7) := ⟨⟨by decide +kernel, by decide +kernel⟩, List.mem_of_getElem? (i := 129) (by decide +kernel), List.mem_of_getElem? (i := 748) (by decide +kernel), List.mem_of_getElem? (i := 749) (by decide +kernel)⟩
theorem lw_p19 : lw_okq (⟨"BlockCellsModel", "isCell", "(II)Z"⟩, 41) := ⟨⟨by decide +kernel, by decide +kernel⟩, List.mem_of_getElem? (i := 776) (by decide +kernel), List.mem_of_getElem? (i := 948) (by decide +kernel), List.mem_of_getElem? (i := 949) (by decide +kernel)⟩
theorem lw_p20 : lw_okq (⟨"BlockCellsModel", "countOf", "([I)I"⟩, 41) := ⟨⟨by decide +kernel, by decide +kernel⟩, List.mem_of_getElem? (i := 776) (by decide +kernel), List.mem_of_getElem? (i := 964) (by decide +kernel), List.mem_of_getElem? (i := 965) (by decide +kernel)⟩
theorem lw_p21 : lw_okq (⟨"BlockCellsModel", "changesNow", "()I"⟩, 41) := ⟨⟨by decide +kernel, by decide +kernel⟩, List.mem_of_getElem? (i := 776) (by decide +kernel), List.mem_of_getElem? (i := 968) (by decide +kernel), List.mem_of_getElem? (i := 969) (by decide +kernel)⟩
theorem lw_p22 : lw_okq (⟨"BlockCellsModel", "findThings", "([I)V"⟩, 41) := ⟨⟨by decide +kernel, by decide +kernel⟩, List.mem_of_getElem? (i := 776) (by decide +kernel), List.mem_of_getElem? (i := 972) (by decide +kernel), List.mem_of_getElem? (i := 973) (by decide +kernel)⟩
theorem lw_p23 : lw_okq (⟨"BlockCellsModel", "findThing", "([II)V"⟩, 41) := ⟨⟨by decide +kernel, by decide +kernel⟩, List.mem_of_getElem? (i := 776) (by decide +kernel), List.mem_of_getElem? (i := 976) (by decide +kernel), List.mem_of_getElem? (i := 977) (by decide +kernel)⟩
theorem lw_p24 : lw_okq (⟨"BlockCellsModel", "areAlike", "(II)Z"⟩, 41) := ⟨⟨by decide +kernel, by decide +kernel⟩, List.mem_of_getElem? (i := 776) (by decide +kernel), List.mem_of_getElem? (i := 980) (by decide +kernel), List.mem_of_getElem? (i := 981) (by decide +kernel)⟩
theorem lw_p25 : lw_okq (⟨"BlockCellsModel", "minds", "()V"⟩, 41) := ⟨⟨by decide +kernel, by decide +kernel⟩, List.mem_of_getElem? (i := 776) (by decide +kernel), List.mem_of_getElem? (i := 992) (by decide +kernel), List.mem_of_getElem? (i := 993) (by decide +kernel)⟩
theorem lw_p26 : lw_okq (⟨"BlockCellsModel", "goes", "(I)V"⟩, 41) := ⟨⟨by decide +kernel, by decide +kernel⟩, List.mem_of_getElem? (i := 776) (by decide +kernel), List.mem_of_getElem? (i := 999) (by decide +kernel), List.mem_of_getElem? (i := 1000) (by decide +kernel)⟩
theorem lw_p27 : lw_okq (⟨"BlockCellsModel", "blocks", "([II[I)V"⟩, 41) := ⟨⟨by decide +kernel, by decide +kernel⟩, List.mem_of_getElem? (i := 776) (by decide +kernel), List.mem_of_getElem? (i := 1003) (by decide +kernel), List.mem_of_getElem? (i := 1004) (by decide +kernel)⟩
theorem lw_p28 : lw_okq (⟨"BlockCellsModel", "blockAt", "([III)I"⟩, 41) := ⟨⟨by decide +kernel, by decide +kernel⟩, List.mem_of_getElem? (i := 776) (by decide +kernel), List.mem_of_getElem? (i := 1007) (by decide +kernel), List.mem_of_getElem? (i := 1008) (by decide +kernel)⟩
theorem lw_p29 : lw_okq (⟨"BlockCellsModel", "blockBecomes", "([IIII)V"⟩, 41) := ⟨⟨by decide +kernel, by decide +kernel⟩, List.mem_of_getElem? (i := 776) (by decide +kernel), List.mem_of_getElem? (i := 1011) (by decide +kernel), List.mem_of_getElem? (i := 1012) (by decide +kernel)⟩
theorem lw_p30 : lw_okq (⟨"BlockCellsModel", "isShifted", "(II)Z"⟩, 41) := ⟨⟨by decide +kernel, by decide +kernel⟩, List.mem_of_getElem? (i := 776) (by decide +kernel), List.mem_of_getElem? (i := 1052) (by decide +kernel), List.mem_of_getElem? (i := 1053) (by decide +kernel)⟩
theorem lw_p31 : lw_okq (⟨"BlockCellsModel", "shift", "()I"⟩, 41) := ⟨⟨by decide +kernel, by decide +kernel⟩, List.mem_of_getElem? (i := 776) (by decide +kernel), List.mem_of_getElem? (i := 1060) (by decide +kernel), List.mem_of_getElem? (i := 1061) (by decide +kernel)⟩
def lw_privs_2 : List (MethodName × Nat) := [(⟨"BlockCells", "rowOf", "(I)LBlockCells$Row;"⟩, 9), (⟨"BlockCells", "canHappen", "(II)Z"⟩, 9), (⟨"BlockCells$Ahead", "happen", "(II)V"⟩, 7), (⟨"BlockCellsModel", "isCell", "(II)Z"⟩, 41), (⟨"BlockCellsModel", "countOf", "([I)I"⟩, 41), (⟨"BlockCellsModel", "changesNow", "()I"⟩, 41), (⟨"BlockCellsModel", "findThings", "([I)V"⟩, 41), (⟨"BlockCellsModel", "findThing", "([II)V"⟩, 41), (⟨"BlockCellsModel", "areAlike", "(II)Z"⟩, 41), (⟨"BlockCellsModel", "minds", "()V"⟩, 41), (⟨"BlockCellsModel", "goes", "(I)V"⟩, 41), (⟨"BlockCellsModel", "blocks", "([II[I)V"⟩, 41), (⟨"BlockCellsModel", "blockAt", "([III)I"⟩, 41), (⟨"BlockCellsModel", "blockBecomes", "([IIII)V"⟩, 41), (⟨"BlockCellsModel", "isShifted", "(II)Z"⟩, 41), (⟨"BlockCellsModel", "shift", "()I"⟩, 41)]
theorem lw_r2 : ∀ q ∈ lw_privs_2, lw_okq q := List.forall_mem_cons.mpr ⟨lw_p16, List.forall_mem_cons.mpr ⟨lw_p17, List.forall_mem_cons.mpr ⟨lw_p18, List.forall_mem_cons.mpr ⟨lw_p19, List.forall_mem_cons.mpr ⟨lw_p20, List.forall_mem_cons.mpr ⟨lw_p21, List.forall_mem_cons.mpr ⟨lw_p22, List.forall_mem_cons.mpr ⟨lw_p23, List.forall_mem_cons.mpr ⟨lw_p24, List.forall_mem_cons.mpr ⟨lw_p25, List.forall_mem_cons.mpr ⟨lw_p26, List.forall_mem_cons.mpr ⟨lw_p27, List.forall_mem_cons.mpr ⟨lw_p28, List.forall_mem_cons.mpr ⟨lw_p29, List.forall_mem_cons.mpr ⟨lw_p30, List.forall_mem_cons.mpr ⟨lw_p31, fun _ h => absurd h List.not_mem_nil⟩⟩⟩⟩⟩⟩⟩⟩⟩⟩⟩⟩⟩⟩⟩⟩
theorem lw_p32 : lw_okq (⟨"BlockCellsModel", "isMet", "(I)Z"⟩, 41) := ⟨⟨by decide +kernel, by decide +kernel⟩, List.mem_of_getElem? (i := 776) (by decide +kernel), List.mem_of_getElem? (i := 1069) (by decide +kernel), List.mem_of_getElem? (i := 1070) (by decide +kernel)⟩
theorem lw_p33 : lw_okq (⟨"BlockCellsModel", "reads", "()I"⟩, 41) := ⟨⟨by decide +kernel, by decide +kernel⟩, List.mem_of_getElem? (i := 776) (by decide +kernel), List.mem_of_getElem? (i := 1097) (by decide +kernel), List.mem_of_getElem? (i := 1098) (by decide +kernel)⟩
theorem lw_p34 : lw_okq (⟨"BlockCellsModel", "isPlace", "(IJ)Z"⟩, 41) := ⟨⟨by decide +kernel, by decide +kernel⟩, List.mem_of_getElem? (i := 776) (by decide +kernel), List.mem_of_getElem? (i := 1121) (by decide +kernel), List.mem_of_getElem? (i := 1122) (by decide +kernel)⟩
theorem lw_p35 : lw_okq (⟨"BlockCellsModel", "isSo", "(I)Z"⟩, 41) := ⟨⟨by decide +kernel, by decide +kernel⟩, List.mem_of_getElem? (i := 776) (by decide +kernel), List.mem_of_getElem? (i := 1155) (by decide +kernel), List.mem_of_getElem? (i := 1156) (by decide +kernel)⟩
theorem lw_p36 : lw_okq (⟨"BlockCellsModel", "happens", "(II)V"⟩, 41) := ⟨⟨by decide +kernel, by decide +kernel⟩, List.mem_of_getElem? (i := 776) (by decide +kernel), List.mem_of_getElem? (i := 1168) (by decide +kernel), List.mem_of_getElem? (i := 1169) (by decide +kernel)⟩
theorem lw_p37 : lw_okq (⟨"BlockCellsModel", "carriesAll", "(Z)V"⟩, 41) := ⟨⟨by decide +kernel, by decide +kernel⟩, List.mem_of_getElem? (i := 776) (by decide +kernel), List.mem_of_getElem? (i := 1176) (by decide +kernel), List.mem_of_getElem? (i := 1177) (by decide +kernel)⟩
theorem lw_p38 : lw_okq (⟨"BlockCellsModel", "carries", "([IIIZ)I"⟩, 41) := ⟨⟨by decide +kernel, by decide +kernel⟩, List.mem_of_getElem? (i := 776) (by decide +kernel), List.mem_of_getElem? (i := 1180) (by decide +kernel), List.mem_of_getElem? (i := 1181) (by decide +kernel)⟩
def lw_privs_3 : List (MethodName × Nat) := [(⟨"BlockCellsModel", "isMet", "(I)Z"⟩, 41), (⟨"BlockCellsModel", "reads", "()I"⟩, 41), (⟨"BlockCellsModel", "isPlace", "(IJ)Z"⟩, 41), (⟨"BlockCellsModel", "isSo", "(I)Z"⟩, 41), (⟨"BlockCellsModel", "happens", "(II)V"⟩, 41), (⟨"BlockCellsModel", "carriesAll", "(Z)V"⟩, 41), (⟨"BlockCellsModel", "carries", "([IIIZ)I"⟩, 41)]
theorem lw_r3 : ∀ q ∈ lw_privs_3, lw_okq q := List.forall_mem_cons.mpr ⟨lw_p32, List.forall_mem_cons.mpr ⟨lw_p33, List.forall_mem_cons.mpr ⟨lw_p34, List.forall_mem_cons.mpr ⟨lw_p35, List.forall_mem_cons.mpr ⟨lw_p36, List.forall_mem_cons.mpr ⟨lw_p37, List.forall_mem_cons.mpr ⟨lw_p38, fun _ h => absurd h List.not_mem_nil⟩⟩⟩⟩⟩⟩⟩
def lw_privs : List (MethodName × Nat) := lw_privs_1 ++ (lw_privs_2 ++ (lw_privs_3))
def lw_tbl : List Cond := k2_sels lw_privs ++ tables_1
theorem lw_privs_ok : ∀ q ∈ lw_privs, lw_okq q := by
  show ∀ q ∈ lw_privs_1 ++ (lw_privs_2 ++ (lw_privs_3)), lw_okq q
  exact List.forall_mem_append.mpr ⟨lw_r1, List.forall_mem_append.mpr ⟨lw_r2, lw_r3⟩⟩
-- ===== names and fields (printed by program: claim/NAMES.whole.lean.txt) =====
def RX0 : String := "BlockCells$Ahead"
def TX0 : u_T := fun k => match k with
  | 0 => ("BlockCells$Ahead", "moveSteps", "I", false)
  | 1 => ("BlockCells$Ahead", "moveColumns", "I", false)
  | 2 => ("BlockCells$Ahead", "moveRows", "I", false)
  | 3 => ("BlockCells$Ahead", "grid", "LBlockCells$Grid;", true)
  | 4 => ("BlockCells$Ahead", "rule", "LBlockCells$Rule;", true)
  | 5 => ("BlockCells$Ahead", "unlikeRows", "[I", true)
  | _ => ("BlockCells$Ahead", "unlikes", "I", false)
def tyX0 : Nat → FieldType := fun k => match k with
  | 0 => .int
  | 1 => .int
  | 2 => .int
  | 3 => .object "BlockCells$Grid"
  | 4 => .object "BlockCells$Rule"
  | 5 => .array .int
  | _ => .int
abbrev wsX00 : List Cond := u_ws RX0 TX0 7
theorem nmX0 : ∀ a, a < 7 → ∀ b, b < 7 → a ≠ b → (TX0 a).2.1 ≠ (TX0 b).2.1 := by decide +kernel
theorem tyX0_ok : ∀ k, k < 7 → parseFieldDescriptor (TX0 k).2.2.1 = some (tyX0 k) := by decide +kernel
abbrev cX0_init : ByteArray := prog_2_method_1_code
def yX0_init : MethodName := ⟨RX0, "<init>", "()V"⟩
abbrev cX0_cellThen : ByteArray := prog_2_method_2_code
def yX0_cellThen : MethodName := ⟨RX0, "cellThen", "(LBlockCells$Grid;LBlockCells$Rule;II)I"⟩
abbrev cX0_stepsToSame : ByteArray := prog_2_method_3_code
def yX0_stepsToSame : MethodName := ⟨RX0, "stepsToSame", "(LBlockCells$Grid;LBlockCells$Rule;)I"⟩
abbrev cX0_findMove : ByteArray := prog_2_method_4_code
def yX0_findMove : MethodName := ⟨RX0, "findMove", "(LBlockCells$Grid;LBlockCells$Rule;)Z"⟩
abbrev cX0_isMoved : ByteArray := prog_2_method_5_code
def yX0_isMoved : MethodName := ⟨RX0, "isMoved", "(LBlockCells$Grid;)Z"⟩
abbrev cX0_unlikeGrids : ByteArray := prog_2_method_6_code
def yX0_unlikeGrids : MethodName := ⟨RX0, "unlikeGrids", "(LBlockCells$Grid;LBlockCells$Rule;I)I"⟩
abbrev cX0_keepIfUnlike : ByteArray := prog_2_method_7_code
def yX0_keepIfUnlike : MethodName := ⟨RX0, "keepIfUnlike", "()V"⟩
abbrev cX0_isKeptAs : ByteArray := prog_2_method_8_code
def yX0_isKeptAs : MethodName := ⟨RX0, "isKeptAs", "(I)Z"⟩
abbrev cX0_isSeenBy : ByteArray := prog_2_method_9_code
def yX0_isSeenBy : MethodName := ⟨RX0, "isSeenBy", "(ILBlockCells$Whole;)Z"⟩
abbrev cX0_behindEvents : ByteArray := prog_2_method_10_code
def yX0_behindEvents : MethodName := ⟨RX0, "behindEvents", "(LBlockCells$Whole;)LBlockCells$Grid;"⟩
abbrev cX0_happen : ByteArray := prog_2_method_11_code
def yX0_happen : MethodName := ⟨RX0, "happen", "(II)V"⟩
def RX1 : String := "BlockCells$Grid"
def TX1 : u_T := fun k => match k with
  | 0 => ("BlockCells$Grid", "width", "I", false)
  | 1 => ("BlockCells$Grid", "height", "I", false)
  | 2 => ("BlockCells$Grid", "time", "I", false)
  | _ => ("BlockCells$Grid", "bits", "[I", true)
def tyX1 : Nat → FieldType := fun k => match k with
  | 0 => .int
  | 1 => .int
  | 2 => .int
  | _ => .array .int
abbrev wsX10 : List Cond := u_ws RX1 TX1 4
theorem nmX1 : ∀ a, a < 4 → ∀ b, b < 4 → a ≠ b → (TX1 a).2.1 ≠ (TX1 b).2.1 := by decide +kernel
theorem tyX1_ok : ∀ k, k < 4 → parseFieldDescriptor (TX1 k).2.2.1 = some (tyX1 k) := by decide +kernel
abbrev cX1_init : ByteArray := prog_3_method_1_code
def yX1_init : MethodName := ⟨RX1, "<init>", "()V"⟩
abbrev cX1_has : ByteArray := prog_3_method_2_code
def yX1_has : MethodName := ⟨RX1, "has", "(II)Z"⟩
abbrev cX1_rowAt : ByteArray := prog_3_method_3_code
def yX1_rowAt : MethodName := ⟨RX1, "rowAt", "(I)I"⟩
abbrev cX1_putRow : ByteArray := prog_3_method_4_code
def yX1_putRow : MethodName := ⟨RX1, "putRow", "(II)V"⟩
abbrev cX1_cellAt : ByteArray := prog_3_method_5_code
def yX1_cellAt : MethodName := ⟨RX1, "cellAt", "(II)I"⟩
abbrev cX1_flip : ByteArray := prog_3_method_6_code
def yX1_flip : MethodName := ⟨RX1, "flip", "(II)V"⟩
abbrev cX1_phase : ByteArray := prog_3_method_7_code
def yX1_phase : MethodName := ⟨RX1, "phase", "()I"⟩
abbrev cX1_ones : ByteArray := prog_3_method_8_code
def yX1_ones : MethodName := ⟨RX1, "ones", "()I"⟩
abbrev cX1_weighed : ByteArray := prog_3_method_9_code
def yX1_weighed : MethodName := ⟨RX1, "weighed", "(IIII)I"⟩
abbrev cX1_becomeEmpty : ByteArray := prog_3_method_10_code
def yX1_becomeEmpty : MethodName := ⟨RX1, "becomeEmpty", "(II)V"⟩
abbrev cX1_copyOf : ByteArray := prog_3_method_11_code
def yX1_copyOf : MethodName := ⟨RX1, "copyOf", "(LBlockCells$Grid;)V"⟩
abbrev cX1_hasCellsOf : ByteArray := prog_3_method_12_code
def yX1_hasCellsOf : MethodName := ⟨RX1, "hasCellsOf", "(LBlockCells$Grid;)Z"⟩
abbrev cX1_isShifted : ByteArray := prog_3_method_13_code
def yX1_isShifted : MethodName := ⟨RX1, "isShifted", "(LBlockCells$Grid;II)Z"⟩
abbrev cX1_stateAround : ByteArray := prog_3_method_14_code
def yX1_stateAround : MethodName := ⟨RX1, "stateAround", "(II)I"⟩
abbrev cX1_stateOf : ByteArray := prog_3_method_15_code
def yX1_stateOf : MethodName := ⟨RX1, "stateOf", "(II)I"⟩
abbrev cX1_putState : ByteArray := prog_3_method_16_code
def yX1_putState : MethodName := ⟨RX1, "putState", "(III)V"⟩
abbrev cX1_pairOf : ByteArray := prog_3_method_17_code
def yX1_pairOf : MethodName := ⟨RX1, "pairOf", "(III)I"⟩
abbrev cX1_withPair : ByteArray := prog_3_method_18_code
def yX1_withPair : MethodName := ⟨RX1, "withPair", "(IIII)I"⟩
abbrev cX1_turnBlocks : ByteArray := prog_3_method_19_code
def yX1_turnBlocks : MethodName := ⟨RX1, "turnBlocks", "(LBlockCells$Rule;Z)V"⟩
abbrev cX1_go : ByteArray := prog_3_method_20_code
def yX1_go : MethodName := ⟨RX1, "go", "(ILBlockCells$Rule;)V"⟩
def RX2 : String := "BlockCells$Row"
def TX2 : u_T := fun k => match k with
  | 0 => ("BlockCells$Row", "many", "I", false)
  | _ => ("BlockCells$Row", "longs", "[J", true)
def tyX2 : Nat → FieldType := fun k => match k with
  | 0 => .int
  | _ => .array .long
abbrev wsX20 : List Cond := u_ws RX2 TX2 2
theorem nmX2 : ∀ a, a < 2 → ∀ b, b < 2 → a ≠ b → (TX2 a).2.1 ≠ (TX2 b).2.1 := by decide +kernel
theorem tyX2_ok : ∀ k, k < 2 → parseFieldDescriptor (TX2 k).2.2.1 = some (tyX2 k) := by decide +kernel
abbrev cX2_init : ByteArray := prog_4_method_1_code
def yX2_init : MethodName := ⟨RX2, "<init>", "()V"⟩
abbrev cX2_isNothing : ByteArray := prog_4_method_2_code
def yX2_isNothing : MethodName := ⟨RX2, "isNothing", "()Z"⟩
abbrev cX2_has : ByteArray := prog_4_method_3_code
def yX2_has : MethodName := ⟨RX2, "has", "(I)Z"⟩
abbrev cX2_longAt : ByteArray := prog_4_method_4_code
def yX2_longAt : MethodName := ⟨RX2, "longAt", "(I)J"⟩
abbrev cX2_write : ByteArray := prog_4_method_5_code
def yX2_write : MethodName := ⟨RX2, "write", "(IJ)V"⟩
abbrev cX2_becomeZeros : ByteArray := prog_4_method_6_code
def yX2_becomeZeros : MethodName := ⟨RX2, "becomeZeros", "(I)V"⟩
def RX3 : String := "BlockCells$Rule"
def TX3 : u_T := fun k => match k with
  | 0 => ("BlockCells$Rule", "nexts", "[I", true)
  | _ => ("BlockCells$Rule", "formers", "[I", true)
def tyX3 : Nat → FieldType := fun k => match k with
  | 0 => .array .int
  | _ => .array .int
abbrev wsX30 : List Cond := u_ws RX3 TX3 2
theorem nmX3 : ∀ a, a < 2 → ∀ b, b < 2 → a ≠ b → (TX3 a).2.1 ≠ (TX3 b).2.1 := by decide +kernel
theorem tyX3_ok : ∀ k, k < 2 → parseFieldDescriptor (TX3 k).2.2.1 = some (tyX3 k) := by decide +kernel
abbrev cX3_init : ByteArray := prog_5_method_1_code
def yX3_init : MethodName := ⟨RX3, "<init>", "()V"⟩
abbrev cX3_next : ByteArray := prog_5_method_2_code
def yX3_next : MethodName := ⟨RX3, "next", "(I)I"⟩
abbrev cX3_former : ByteArray := prog_5_method_3_code
def yX3_former : MethodName := ⟨RX3, "former", "(I)I"⟩
abbrev cX3_join : ByteArray := prog_5_method_4_code
def yX3_join : MethodName := ⟨RX3, "join", "(II)V"⟩
abbrev cX3_becomeWord : ByteArray := prog_5_method_5_code
def yX3_becomeWord : MethodName := ⟨RX3, "becomeWord", "(I)Z"⟩
abbrev cX3_exchange : ByteArray := prog_5_method_6_code
def yX3_exchange : MethodName := ⟨RX3, "exchange", "(II)V"⟩
abbrev cX3_copyOf : ByteArray := prog_5_method_7_code
def yX3_copyOf : MethodName := ⟨RX3, "copyOf", "(LBlockCells$Rule;)V"⟩
abbrev cX3_keepsSum : ByteArray := prog_5_method_8_code
def yX3_keepsSum : MethodName := ⟨RX3, "keepsSum", "(IIII)Z"⟩
abbrev cX3_weightOf : ByteArray := prog_5_method_9_code
def yX3_weightOf : MethodName := ⟨RX3, "weightOf", "(IIIII)I"⟩
abbrev cX3_byWord : ByteArray := prog_5_method_10_code
def yX3_byWord : MethodName := ⟨RX3, "byWord", "(II)I"⟩
abbrev cX3_byBall : ByteArray := prog_5_method_11_code
def yX3_byBall : MethodName := ⟨RX3, "byBall", "(I)I"⟩
def RX4 : String := "BlockCells$Table"
def TX4 : u_T := fun k => match k with
  | 0 => ("BlockCells$Table", "many", "I", false)
  | _ => ("BlockCells$Table", "numbers", "[I", true)
def tyX4 : Nat → FieldType := fun k => match k with
  | 0 => .int
  | _ => .array .int
abbrev wsX40 : List Cond := u_ws RX4 TX4 2
theorem nmX4 : ∀ a, a < 2 → ∀ b, b < 2 → a ≠ b → (TX4 a).2.1 ≠ (TX4 b).2.1 := by decide +kernel
theorem tyX4_ok : ∀ k, k < 2 → parseFieldDescriptor (TX4 k).2.2.1 = some (tyX4 k) := by decide +kernel
abbrev cX4_init : ByteArray := prog_6_method_1_code
def yX4_init : MethodName := ⟨RX4, "<init>", "(I)V"⟩
abbrev cX4_isFull : ByteArray := prog_6_method_2_code
def yX4_isFull : MethodName := ⟨RX4, "isFull", "()Z"⟩
abbrev cX4_add : ByteArray := prog_6_method_3_code
def yX4_add : MethodName := ⟨RX4, "add", "(III)V"⟩
abbrev cX4_first : ByteArray := prog_6_method_4_code
def yX4_first : MethodName := ⟨RX4, "first", "(I)I"⟩
abbrev cX4_second : ByteArray := prog_6_method_5_code
def yX4_second : MethodName := ⟨RX4, "second", "(I)I"⟩
abbrev cX4_third : ByteArray := prog_6_method_6_code
def yX4_third : MethodName := ⟨RX4, "third", "(I)I"⟩
abbrev cX4_dropLatest : ByteArray := prog_6_method_7_code
def yX4_dropLatest : MethodName := ⟨RX4, "dropLatest", "()V"⟩
abbrev cX4_dropEldest : ByteArray := prog_6_method_8_code
def yX4_dropEldest : MethodName := ⟨RX4, "dropEldest", "()V"⟩
abbrev cX4_empty : ByteArray := prog_6_method_9_code
def yX4_empty : MethodName := ⟨RX4, "empty", "()V"⟩
abbrev cX4_copyOf : ByteArray := prog_6_method_10_code
def yX4_copyOf : MethodName := ⟨RX4, "copyOf", "(LBlockCells$Table;)V"⟩
def RX5 : String := "BlockCells$Text"
def TX5 : u_T := fun k => match k with
  | 0 => ("BlockCells$Text", "many", "I", false)
  | _ => ("BlockCells$Text", "letters", "[I", true)
def tyX5 : Nat → FieldType := fun k => match k with
  | 0 => .int
  | _ => .array .int
abbrev wsX50 : List Cond := u_ws RX5 TX5 2
theorem nmX5 : ∀ a, a < 2 → ∀ b, b < 2 → a ≠ b → (TX5 a).2.1 ≠ (TX5 b).2.1 := by decide +kernel
theorem tyX5_ok : ∀ k, k < 2 → parseFieldDescriptor (TX5 k).2.2.1 = some (tyX5 k) := by decide +kernel
abbrev cX5_init : ByteArray := prog_7_method_1_code
def yX5_init : MethodName := ⟨RX5, "<init>", "(I)V"⟩
abbrev cX5_isFull : ByteArray := prog_7_method_2_code
def yX5_isFull : MethodName := ⟨RX5, "isFull", "()Z"⟩
abbrev cX5_add : ByteArray := prog_7_method_3_code
def yX5_add : MethodName := ⟨RX5, "add", "(I)V"⟩
abbrev cX5_byteAt : ByteArray := prog_7_method_4_code
def yX5_byteAt : MethodName := ⟨RX5, "byteAt", "(I)I"⟩
abbrev cX5_empty : ByteArray := prog_7_method_5_code
def yX5_empty : MethodName := ⟨RX5, "empty", "()V"⟩
abbrev cX5_faultPlace : ByteArray := prog_7_method_6_code
def yX5_faultPlace : MethodName := ⟨RX5, "faultPlace", "()I"⟩
abbrev cX5_firstRowLength : ByteArray := prog_7_method_7_code
def yX5_firstRowLength : MethodName := ⟨RX5, "firstRowLength", "()I"⟩
abbrev cX5_howManyRows : ByteArray := prog_7_method_8_code
def yX5_howManyRows : MethodName := ⟨RX5, "howManyRows", "()I"⟩
def RX6 : String := "BlockCells$Things"
def TX6 : u_T := fun k => match k with
  | 0 => ("BlockCells$Things", "many", "I", false)
  | 1 => ("BlockCells$Things", "shapes", "I", false)
  | 2 => ("BlockCells$Things", "width", "I", false)
  | 3 => ("BlockCells$Things", "height", "I", false)
  | 4 => ("BlockCells$Things", "things", "[I", true)
  | 5 => ("BlockCells$Things", "places", "[I", true)
  | 6 => ("BlockCells$Things", "placed", "I", false)
  | 7 => ("BlockCells$Things", "starts", "[I", true)
  | 8 => ("BlockCells$Things", "shapeOfThing", "[I", true)
  | _ => ("BlockCells$Things", "models", "[I", true)
def tyX6 : Nat → FieldType := fun k => match k with
  | 0 => .int
  | 1 => .int
  | 2 => .int
  | 3 => .int
  | 4 => .array .int
  | 5 => .array .int
  | 6 => .int
  | 7 => .array .int
  | 8 => .array .int
  | _ => .array .int
abbrev wsX60 : List Cond := u_ws RX6 TX6 10
theorem nmX6 : ∀ a, a < 10 → ∀ b, b < 10 → a ≠ b → (TX6 a).2.1 ≠ (TX6 b).2.1 := by decide +kernel
theorem tyX6_ok : ∀ k, k < 10 → parseFieldDescriptor (TX6 k).2.2.1 = some (tyX6 k) := by decide +kernel
abbrev cX6_init : ByteArray := prog_8_method_1_code
def yX6_init : MethodName := ⟨RX6, "<init>", "()V"⟩
abbrev cX6_cellsOf : ByteArray := prog_8_method_2_code
def yX6_cellsOf : MethodName := ⟨RX6, "cellsOf", "(I)I"⟩
abbrev cX6_firstCellOf : ByteArray := prog_8_method_3_code
def yX6_firstCellOf : MethodName := ⟨RX6, "firstCellOf", "(I)I"⟩
abbrev cX6_shapeOf : ByteArray := prog_8_method_4_code
def yX6_shapeOf : MethodName := ⟨RX6, "shapeOf", "(I)I"⟩
abbrev cX6_thingOn : ByteArray := prog_8_method_5_code
def yX6_thingOn : MethodName := ⟨RX6, "thingOn", "(II)I"⟩
abbrev cX6_modelOf : ByteArray := prog_8_method_6_code
def yX6_modelOf : MethodName := ⟨RX6, "modelOf", "(I)I"⟩
abbrev cX6_thingsLike : ByteArray := prog_8_method_7_code
def yX6_thingsLike : MethodName := ⟨RX6, "thingsLike", "(I)I"⟩
abbrev cX6_lookAt : ByteArray := prog_8_method_8_code
def yX6_lookAt : MethodName := ⟨RX6, "lookAt", "(LBlockCells$Grid;)V"⟩
abbrev cX6_gather : ByteArray := prog_8_method_9_code
def yX6_gather : MethodName := ⟨RX6, "gather", "(II)V"⟩
abbrev cX6_joinNeighbours : ByteArray := prog_8_method_10_code
def yX6_joinNeighbours : MethodName := ⟨RX6, "joinNeighbours", "(I)V"⟩
abbrev cX6_join : ByteArray := prog_8_method_11_code
def yX6_join : MethodName := ⟨RX6, "join", "(II)V"⟩
abbrev cX6_nameShapes : ByteArray := prog_8_method_12_code
def yX6_nameShapes : MethodName := ⟨RX6, "nameShapes", "()V"⟩
abbrev cX6_areAlike : ByteArray := prog_8_method_13_code
def yX6_areAlike : MethodName := ⟨RX6, "areAlike", "(II)Z"⟩
def RX7 : String := "BlockCells$Whole"
def TX7 : u_T := fun k => match k with
  | 0 => ("BlockCells$Whole", "grid", "LBlockCells$Grid;", true)
  | 1 => ("BlockCells$Whole", "rule", "LBlockCells$Rule;", true)
  | 2 => ("BlockCells$Whole", "seen", "LBlockCells$Table;", true)
  | _ => ("BlockCells$Whole", "events", "LBlockCells$Table;", true)
def tyX7 : Nat → FieldType := fun k => match k with
  | 0 => .object "BlockCells$Grid"
  | 1 => .object "BlockCells$Rule"
  | 2 => .object "BlockCells$Table"
  | _ => .object "BlockCells$Table"
abbrev wsX70 : List Cond := u_ws RX7 TX7 4
theorem nmX7 : ∀ a, a < 4 → ∀ b, b < 4 → a ≠ b → (TX7 a).2.1 ≠ (TX7 b).2.1 := by decide +kernel
theorem tyX7_ok : ∀ k, k < 4 → parseFieldDescriptor (TX7 k).2.2.1 = some (tyX7 k) := by decide +kernel
abbrev cX7_init : ByteArray := prog_9_method_1_code
def yX7_init : MethodName := ⟨RX7, "<init>", "()V"⟩
abbrev cX7_copyOf : ByteArray := prog_9_method_2_code
def yX7_copyOf : MethodName := ⟨RX7, "copyOf", "(LBlockCells$Whole;)V"⟩
def RX8 : String := "BlockCells"
def TX8 : u_T := fun k => match k with
  | 0 => ("BlockCells", "now", "LBlockCells$Whole;", true)
  | 1 => ("BlockCells", "taken", "LBlockCells$Whole;", true)
  | 2 => ("BlockCells", "isTaken", "Z", false)
  | 3 => ("BlockCells", "changes", "LBlockCells$Table;", true)
  | 4 => ("BlockCells", "ahead", "LBlockCells$Ahead;", true)
  | 5 => ("BlockCells", "things", "LBlockCells$Things;", true)
  | 6 => ("BlockCells", "tape", "LBlockCells$Text;", true)
  | 7 => ("BlockCells", "written", "LBlockCells$Text;", true)
  | _ => ("BlockCells", "rows", "[LBlockCells$Row;", true)
def tyX8 : Nat → FieldType := fun k => match k with
  | 0 => .object "BlockCells$Whole"
  | 1 => .object "BlockCells$Whole"
  | 2 => .boolean
  | 3 => .object "BlockCells$Table"
  | 4 => .object "BlockCells$Ahead"
  | 5 => .object "BlockCells$Things"
  | 6 => .object "BlockCells$Text"
  | 7 => .object "BlockCells$Text"
  | _ => .array (.object "BlockCells$Row")
abbrev wsX80 : List Cond := u_ws RX8 TX8 9
theorem nmX8 : ∀ a, a < 9 → ∀ b, b < 9 → a ≠ b → (TX8 a).2.1 ≠ (TX8 b).2.1 := by decide +kernel
theorem tyX8_ok : ∀ k, k < 9 → parseFieldDescriptor (TX8 k).2.2.1 = some (tyX8 k) := by decide +kernel
abbrev cX8_init : ByteArray := prog_1_method_1_code
def yX8_init : MethodName := ⟨RX8, "<init>", "()V"⟩
abbrev cX8_size : ByteArray := prog_1_method_2_code
def yX8_size : MethodName := ⟨RX8, "size", "(II)I"⟩
abbrev cX8_toggle : ByteArray := prog_1_method_3_code
def yX8_toggle : MethodName := ⟨RX8, "toggle", "(II)I"⟩
abbrev cX8_undo : ByteArray := prog_1_method_4_code
def yX8_undo : MethodName := ⟨RX8, "undo", "()I"⟩
abbrev cX8_cell : ByteArray := prog_1_method_5_code
def yX8_cell : MethodName := ⟨RX8, "cell", "(II)I"⟩
abbrev cX8_told : ByteArray := prog_1_method_6_code
def yX8_told : MethodName := ⟨RX8, "told", "(I)I"⟩
abbrev cX8_rule : ByteArray := prog_1_method_7_code
def yX8_rule : MethodName := ⟨RX8, "rule", "(I)I"⟩
abbrev cX8_change : ByteArray := prog_1_method_8_code
def yX8_change : MethodName := ⟨RX8, "change", "(II)I"⟩
abbrev cX8_becomes : ByteArray := prog_1_method_9_code
def yX8_becomes : MethodName := ⟨RX8, "becomes", "(IZ)I"⟩
abbrev cX8_steps : ByteArray := prog_1_method_10_code
def yX8_steps : MethodName := ⟨RX8, "steps", "(I)I"⟩
abbrev cX8_block : ByteArray := prog_1_method_11_code
def yX8_block : MethodName := ⟨RX8, "block", "(II)I"⟩
abbrev cX8_then : ByteArray := prog_1_method_12_code
def yX8_then : MethodName := ⟨RX8, "then", "(III)I"⟩
abbrev cX8_sum : ByteArray := prog_1_method_13_code
def yX8_sum : MethodName := ⟨RX8, "sum", "(IIII)I"⟩
abbrev cX8_kept : ByteArray := prog_1_method_14_code
def yX8_kept : MethodName := ⟨RX8, "kept", "(IIII)I"⟩
abbrev cX8_again : ByteArray := prog_1_method_15_code
def yX8_again : MethodName := ⟨RX8, "again", "()I"⟩
abbrev cX8_moved : ByteArray := prog_1_method_16_code
def yX8_moved : MethodName := ⟨RX8, "moved", "(I)I"⟩
abbrev cX8_unlike : ByteArray := prog_1_method_17_code
def yX8_unlike : MethodName := ⟨RX8, "unlike", "(I)I"⟩
abbrev cX8_thing : ByteArray := prog_1_method_18_code
def yX8_thing : MethodName := ⟨RX8, "thing", "(II)I"⟩
abbrev cX8_thingAt : ByteArray := prog_1_method_19_code
def yX8_thingAt : MethodName := ⟨RX8, "thingAt", "(II)I"⟩
abbrev cX8_shape : ByteArray := prog_1_method_20_code
def yX8_shape : MethodName := ⟨RX8, "shape", "(II)I"⟩
abbrev cX8_feed : ByteArray := prog_1_method_21_code
def yX8_feed : MethodName := ⟨RX8, "feed", "(I)I"⟩
abbrev cX8_read : ByteArray := prog_1_method_22_code
def yX8_read : MethodName := ⟨RX8, "read", "()I"⟩
abbrev cX8_spell : ByteArray := prog_1_method_23_code
def yX8_spell : MethodName := ⟨RX8, "spell", "()I"⟩
abbrev cX8_paper : ByteArray := prog_1_method_24_code
def yX8_paper : MethodName := ⟨RX8, "paper", "(I)I"⟩
abbrev cX8_list : ByteArray := prog_1_method_25_code
def yX8_list : MethodName := ⟨RX8, "list", "(II)I"⟩
abbrev cX8_set : ByteArray := prog_1_method_26_code
def yX8_set : MethodName := ⟨RX8, "set", "(IIJ)I"⟩
abbrev cX8_get : ByteArray := prog_1_method_27_code
def yX8_get : MethodName := ⟨RX8, "get", "(II)J"⟩
abbrev cX8_lay : ByteArray := prog_1_method_28_code
def yX8_lay : MethodName := ⟨RX8, "lay", "(II)I"⟩
abbrev cX8_load : ByteArray := prog_1_method_29_code
def yX8_load : MethodName := ⟨RX8, "load", "(II)I"⟩
abbrev cX8_judge : ByteArray := prog_1_method_30_code
def yX8_judge : MethodName := ⟨RX8, "judge", "(II)I"⟩
abbrev cX8_see : ByteArray := prog_1_method_31_code
def yX8_see : MethodName := ⟨RX8, "see", "(III)I"⟩
abbrev cX8_fits : ByteArray := prog_1_method_32_code
def yX8_fits : MethodName := ⟨RX8, "fits", "()I"⟩
abbrev cX8_event : ByteArray := prog_1_method_33_code
def yX8_event : MethodName := ⟨RX8, "event", "(II)I"⟩
abbrev cX8_after : ByteArray := prog_1_method_34_code
def yX8_after : MethodName := ⟨RX8, "after", "(I)I"⟩
abbrev cX8_image : ByteArray := prog_1_method_35_code
def yX8_image : MethodName := ⟨RX8, "image", "()I"⟩
abbrev cX8_back : ByteArray := prog_1_method_36_code
def yX8_back : MethodName := ⟨RX8, "back", "()I"⟩
abbrev cX8_count : ByteArray := prog_1_method_37_code
def yX8_count : MethodName := ⟨RX8, "count", "(I)I"⟩
abbrev cX8_isSide : ByteArray := prog_1_method_38_code
def yX8_isSide : MethodName := ⟨RX8, "isSide", "(I)Z"⟩
abbrev cX8_isState : ByteArray := prog_1_method_39_code
def yX8_isState : MethodName := ⟨RX8, "isState", "(I)Z"⟩
abbrev cX8_isWeight : ByteArray := prog_1_method_40_code
def yX8_isWeight : MethodName := ⟨RX8, "isWeight", "(I)Z"⟩
abbrev cX8_areWeights : ByteArray := prog_1_method_41_code
def yX8_areWeights : MethodName := ⟨RX8, "areWeights", "(IIII)Z"⟩
abbrev cX8_isAnyCell : ByteArray := prog_1_method_42_code
def yX8_isAnyCell : MethodName := ⟨RX8, "isAnyCell", "(I)Z"⟩
abbrev cX8_canHappen : ByteArray := prog_1_method_43_code
def yX8_canHappen : MethodName := ⟨RX8, "canHappen", "(II)Z"⟩
abbrev cX8_undoable : ByteArray := prog_1_method_44_code
def yX8_undoable : MethodName := ⟨RX8, "undoable", "()I"⟩
abbrev cX8_thingsNow : ByteArray := prog_1_method_45_code
def yX8_thingsNow : MethodName := ⟨RX8, "thingsNow", "()LBlockCells$Things;"⟩
abbrev cX8_rowOf : ByteArray := prog_1_method_46_code
def yX8_rowOf : MethodName := ⟨RX8, "rowOf", "(I)LBlockCells$Row;"⟩
abbrev cX8_readTape : ByteArray := prog_1_method_47_code
def yX8_readTape : MethodName := ⟨RX8, "readTape", "()I"⟩
abbrev cX8_fillFromTape : ByteArray := prog_1_method_48_code
def yX8_fillFromTape : MethodName := ⟨RX8, "fillFromTape", "()V"⟩
abbrev cX8_at : ByteArray := prog_1_method_49_code
def yX8_at : MethodName := ⟨RX8, "at", "([II)I"⟩
abbrev cX8_put : ByteArray := prog_1_method_50_code
def yX8_put : MethodName := ⟨RX8, "put", "([III)V"⟩
abbrev cX8_copy : ByteArray := prog_1_method_51_code
def yX8_copy : MethodName := ⟨RX8, "copy", "([I[I)V"⟩
abbrev cX8_closedRound : ByteArray := prog_1_method_52_code
def yX8_closedRound : MethodName := ⟨RX8, "closedRound", "(II)I"⟩
def RX9 : String := "BlockCellsModel"
def TX9 : u_T := fun k => match k with
  | 0 => ("BlockCellsModel", "wide", "I", false)
  | 1 => ("BlockCellsModel", "high", "I", false)
  | 2 => ("BlockCellsModel", "time", "I", false)
  | 3 => ("BlockCellsModel", "seen", "I", false)
  | 4 => ("BlockCellsModel", "events", "I", false)
  | 5 => ("BlockCellsModel", "cells", "[I", true)
  | 6 => ("BlockCellsModel", "rule", "[I", true)
  | 7 => ("BlockCellsModel", "back", "[I", true)
  | 8 => ("BlockCellsModel", "seenAt", "[I", true)
  | 9 => ("BlockCellsModel", "seenCell", "[I", true)
  | 10 => ("BlockCellsModel", "seenIs", "[I", true)
  | 11 => ("BlockCellsModel", "eventWhat", "[I", true)
  | 12 => ("BlockCellsModel", "eventBy", "[I", true)
  | 13 => ("BlockCellsModel", "mind", "[I", true)
  | 14 => ("BlockCellsModel", "mindRule", "[I", true)
  | 15 => ("BlockCellsModel", "mindBack", "[I", true)
  | 16 => ("BlockCellsModel", "mindTime", "I", false)
  | 17 => ("BlockCellsModel", "changedAt", "[I", true)
  | 18 => ("BlockCellsModel", "changedWhen", "[I", true)
  | 19 => ("BlockCellsModel", "changes", "I", false)
  | 20 => ("BlockCellsModel", "grids", "[I", true)
  | 21 => ("BlockCellsModel", "thingOf", "[I", true)
  | 22 => ("BlockCellsModel", "stack", "[I", true)
  | 23 => ("BlockCellsModel", "first", "[I", true)
  | 24 => ("BlockCellsModel", "many", "[I", true)
  | 25 => ("BlockCellsModel", "shapeOf", "[I", true)
  | 26 => ("BlockCellsModel", "shapeFirst", "[I", true)
  | 27 => ("BlockCellsModel", "shapeMany", "[I", true)
  | 28 => ("BlockCellsModel", "things", "I", false)
  | 29 => ("BlockCellsModel", "shapes", "I", false)
  | 30 => ("BlockCellsModel", "tape", "[I", true)
  | 31 => ("BlockCellsModel", "rows", "[I", true)
  | 32 => ("BlockCellsModel", "paper", "[I", true)
  | 33 => ("BlockCellsModel", "taped", "I", false)
  | 34 => ("BlockCellsModel", "papered", "I", false)
  | 35 => ("BlockCellsModel", "readWide", "I", false)
  | 36 => ("BlockCellsModel", "readHigh", "I", false)
  | 37 => ("BlockCellsModel", "sizes", "[I", true)
  | 38 => ("BlockCellsModel", "items", "[J", true)
  | 39 => ("BlockCellsModel", "kept", "[I", true)
  | _ => ("BlockCellsModel", "isKept", "Z", false)
def tyX9 : Nat → FieldType := fun k => match k with
  | 0 => .int
  | 1 => .int
  | 2 => .int
  | 3 => .int
  | 4 => .int
  | 5 => .array .int
  | 6 => .array .int
  | 7 => .array .int
  | 8 => .array .int
  | 9 => .array .int
  | 10 => .array .int
  | 11 => .array .int
  | 12 => .array .int
  | 13 => .array .int
  | 14 => .array .int
  | 15 => .array .int
  | 16 => .int
  | 17 => .array .int
  | 18 => .array .int
  | 19 => .int
  | 20 => .array .int
  | 21 => .array .int
  | 22 => .array .int
  | 23 => .array .int
  | 24 => .array .int
  | 25 => .array .int
  | 26 => .array .int
  | 27 => .array .int
  | 28 => .int
  | 29 => .int
  | 30 => .array .int
  | 31 => .array .int
  | 32 => .array .int
  | 33 => .int
  | 34 => .int
  | 35 => .int
  | 36 => .int
  | 37 => .array .int
  | 38 => .array .long
  | 39 => .array .int
  | _ => .boolean
abbrev wsX90 : List Cond := u_ws RX9 TX9 41
theorem nmX9 : ∀ a, a < 41 → ∀ b, b < 41 → a ≠ b → (TX9 a).2.1 ≠ (TX9 b).2.1 := by decide +kernel
theorem tyX9_ok : ∀ k, k < 41 → parseFieldDescriptor (TX9 k).2.2.1 = some (tyX9 k) := by decide +kernel
abbrev cX9_init : ByteArray := prog_11_method_1_code
def yX9_init : MethodName := ⟨RX9, "<init>", "()V"⟩
abbrev cX9_isIn : ByteArray := prog_11_method_2_code
def yX9_isIn : MethodName := ⟨RX9, "isIn", "(JJJ)Z"⟩
abbrev cX9_isCell : ByteArray := prog_11_method_3_code
def yX9_isCell : MethodName := ⟨RX9, "isCell", "(II)Z"⟩
abbrev cX9_copies : ByteArray := prog_11_method_4_code
def yX9_copies : MethodName := ⟨RX9, "copies", "([I[I)V"⟩
abbrev cX9_bits : ByteArray := prog_11_method_5_code
def yX9_bits : MethodName := ⟨RX9, "bits", "(I)I"⟩
abbrev cX9_ball : ByteArray := prog_11_method_6_code
def yX9_ball : MethodName := ⟨RX9, "ball", "(I)I"⟩
abbrev cX9_turned : ByteArray := prog_11_method_7_code
def yX9_turned : MethodName := ⟨RX9, "turned", "(I)I"⟩
abbrev cX9_ruleOf : ByteArray := prog_11_method_8_code
def yX9_ruleOf : MethodName := ⟨RX9, "ruleOf", "(I[I)V"⟩
abbrev cX9_rule : ByteArray := prog_11_method_9_code
def yX9_rule : MethodName := ⟨RX9, "rule", "(I)I"⟩
abbrev cX9_change : ByteArray := prog_11_method_10_code
def yX9_change : MethodName := ⟨RX9, "change", "(II)I"⟩
abbrev cX9_inverse : ByteArray := prog_11_method_11_code
def yX9_inverse : MethodName := ⟨RX9, "inverse", "([I[I)V"⟩
abbrev cX9_becomes : ByteArray := prog_11_method_12_code
def yX9_becomes : MethodName := ⟨RX9, "becomes", "(IZ)I"⟩
abbrev cX9_blockAt : ByteArray := prog_11_method_13_code
def yX9_blockAt : MethodName := ⟨RX9, "blockAt", "([III)I"⟩
abbrev cX9_with : ByteArray := prog_11_method_14_code
def yX9_with : MethodName := ⟨RX9, "with", "(III)I"⟩
abbrev cX9_blockBecomes : ByteArray := prog_11_method_15_code
def yX9_blockBecomes : MethodName := ⟨RX9, "blockBecomes", "([IIII)V"⟩
abbrev cX9_blocks : ByteArray := prog_11_method_16_code
def yX9_blocks : MethodName := ⟨RX9, "blocks", "([II[I)V"⟩
abbrev cX9_minds : ByteArray := prog_11_method_17_code
def yX9_minds : MethodName := ⟨RX9, "minds", "()V"⟩
abbrev cX9_goes : ByteArray := prog_11_method_18_code
def yX9_goes : MethodName := ⟨RX9, "goes", "(I)V"⟩
abbrev cX9_size : ByteArray := prog_11_method_19_code
def yX9_size : MethodName := ⟨RX9, "size", "(II)I"⟩
abbrev cX9_toggle : ByteArray := prog_11_method_20_code
def yX9_toggle : MethodName := ⟨RX9, "toggle", "(II)I"⟩
abbrev cX9_undo : ByteArray := prog_11_method_21_code
def yX9_undo : MethodName := ⟨RX9, "undo", "()I"⟩
abbrev cX9_cell : ByteArray := prog_11_method_22_code
def yX9_cell : MethodName := ⟨RX9, "cell", "(II)I"⟩
abbrev cX9_countOf : ByteArray := prog_11_method_23_code
def yX9_countOf : MethodName := ⟨RX9, "countOf", "([I)I"⟩
abbrev cX9_changesNow : ByteArray := prog_11_method_24_code
def yX9_changesNow : MethodName := ⟨RX9, "changesNow", "()I"⟩
abbrev cX9_told : ByteArray := prog_11_method_25_code
def yX9_told : MethodName := ⟨RX9, "told", "(I)I"⟩
abbrev cX9_steps : ByteArray := prog_11_method_26_code
def yX9_steps : MethodName := ⟨RX9, "steps", "(I)I"⟩
abbrev cX9_block : ByteArray := prog_11_method_27_code
def yX9_block : MethodName := ⟨RX9, "block", "(II)I"⟩
abbrev cX9_then : ByteArray := prog_11_method_28_code
def yX9_then : MethodName := ⟨RX9, "then", "(III)I"⟩
abbrev cX9_isWeight : ByteArray := prog_11_method_29_code
def yX9_isWeight : MethodName := ⟨RX9, "isWeight", "(I)Z"⟩
abbrev cX9_areWeights : ByteArray := prog_11_method_30_code
def yX9_areWeights : MethodName := ⟨RX9, "areWeights", "(IIII)Z"⟩
abbrev cX9_sum : ByteArray := prog_11_method_31_code
def yX9_sum : MethodName := ⟨RX9, "sum", "(IIII)I"⟩
abbrev cX9_stateSum : ByteArray := prog_11_method_32_code
def yX9_stateSum : MethodName := ⟨RX9, "stateSum", "(IIIII)I"⟩
abbrev cX9_kept : ByteArray := prog_11_method_33_code
def yX9_kept : MethodName := ⟨RX9, "kept", "(IIII)I"⟩
abbrev cX9_isShifted : ByteArray := prog_11_method_34_code
def yX9_isShifted : MethodName := ⟨RX9, "isShifted", "(II)Z"⟩
abbrev cX9_again : ByteArray := prog_11_method_35_code
def yX9_again : MethodName := ⟨RX9, "again", "()I"⟩
abbrev cX9_shift : ByteArray := prog_11_method_36_code
def yX9_shift : MethodName := ⟨RX9, "shift", "()I"⟩
abbrev cX9_moved : ByteArray := prog_11_method_37_code
def yX9_moved : MethodName := ⟨RX9, "moved", "(I)I"⟩
abbrev cX9_isMet : ByteArray := prog_11_method_38_code
def yX9_isMet : MethodName := ⟨RX9, "isMet", "(I)Z"⟩
abbrev cX9_unlike : ByteArray := prog_11_method_39_code
def yX9_unlike : MethodName := ⟨RX9, "unlike", "(I)I"⟩
abbrev cX9_findThing : ByteArray := prog_11_method_40_code
def yX9_findThing : MethodName := ⟨RX9, "findThing", "([II)V"⟩
abbrev cX9_areAlike : ByteArray := prog_11_method_41_code
def yX9_areAlike : MethodName := ⟨RX9, "areAlike", "(II)Z"⟩
abbrev cX9_findThings : ByteArray := prog_11_method_42_code
def yX9_findThings : MethodName := ⟨RX9, "findThings", "([I)V"⟩
abbrev cX9_told100 : ByteArray := prog_11_method_43_code
def yX9_told100 : MethodName := ⟨RX9, "told100", "(I)I"⟩
abbrev cX9_thing : ByteArray := prog_11_method_44_code
def yX9_thing : MethodName := ⟨RX9, "thing", "(II)I"⟩
abbrev cX9_thingAt : ByteArray := prog_11_method_45_code
def yX9_thingAt : MethodName := ⟨RX9, "thingAt", "(II)I"⟩
abbrev cX9_shape : ByteArray := prog_11_method_46_code
def yX9_shape : MethodName := ⟨RX9, "shape", "(II)I"⟩
abbrev cX9_feed : ByteArray := prog_11_method_47_code
def yX9_feed : MethodName := ⟨RX9, "feed", "(I)I"⟩
abbrev cX9_reads : ByteArray := prog_11_method_48_code
def yX9_reads : MethodName := ⟨RX9, "reads", "()I"⟩
abbrev cX9_read : ByteArray := prog_11_method_49_code
def yX9_read : MethodName := ⟨RX9, "read", "()I"⟩
abbrev cX9_spell : ByteArray := prog_11_method_50_code
def yX9_spell : MethodName := ⟨RX9, "spell", "()I"⟩
abbrev cX9_paper : ByteArray := prog_11_method_51_code
def yX9_paper : MethodName := ⟨RX9, "paper", "(I)I"⟩
abbrev cX9_isList : ByteArray := prog_11_method_52_code
def yX9_isList : MethodName := ⟨RX9, "isList", "(I)Z"⟩
abbrev cX9_list : ByteArray := prog_11_method_53_code
def yX9_list : MethodName := ⟨RX9, "list", "(II)I"⟩
abbrev cX9_isPlace : ByteArray := prog_11_method_54_code
def yX9_isPlace : MethodName := ⟨RX9, "isPlace", "(IJ)Z"⟩
abbrev cX9_set : ByteArray := prog_11_method_55_code
def yX9_set : MethodName := ⟨RX9, "set", "(IIJ)I"⟩
abbrev cX9_get : ByteArray := prog_11_method_56_code
def yX9_get : MethodName := ⟨RX9, "get", "(II)J"⟩
abbrev cX9_lay : ByteArray := prog_11_method_57_code
def yX9_lay : MethodName := ⟨RX9, "lay", "(II)I"⟩
abbrev cX9_load : ByteArray := prog_11_method_58_code
def yX9_load : MethodName := ⟨RX9, "load", "(II)I"⟩
abbrev cX9_judge : ByteArray := prog_11_method_59_code
def yX9_judge : MethodName := ⟨RX9, "judge", "(II)I"⟩
abbrev cX9_isTold : ByteArray := prog_11_method_60_code
def yX9_isTold : MethodName := ⟨RX9, "isTold", "(I)Z"⟩
abbrev cX9_see : ByteArray := prog_11_method_61_code
def yX9_see : MethodName := ⟨RX9, "see", "(III)I"⟩
abbrev cX9_isSo : ByteArray := prog_11_method_62_code
def yX9_isSo : MethodName := ⟨RX9, "isSo", "(I)Z"⟩
abbrev cX9_fits : ByteArray := prog_11_method_63_code
def yX9_fits : MethodName := ⟨RX9, "fits", "()I"⟩
abbrev cX9_event : ByteArray := prog_11_method_64_code
def yX9_event : MethodName := ⟨RX9, "event", "(II)I"⟩
abbrev cX9_happens : ByteArray := prog_11_method_65_code
def yX9_happens : MethodName := ⟨RX9, "happens", "(II)V"⟩
abbrev cX9_after : ByteArray := prog_11_method_66_code
def yX9_after : MethodName := ⟨RX9, "after", "(I)I"⟩
abbrev cX9_carries : ByteArray := prog_11_method_67_code
def yX9_carries : MethodName := ⟨RX9, "carries", "([IIIZ)I"⟩
abbrev cX9_carriesAll : ByteArray := prog_11_method_68_code
def yX9_carriesAll : MethodName := ⟨RX9, "carriesAll", "(Z)V"⟩
abbrev cX9_image : ByteArray := prog_11_method_69_code
def yX9_image : MethodName := ⟨RX9, "image", "()I"⟩
abbrev cX9_back : ByteArray := prog_11_method_70_code
def yX9_back : MethodName := ⟨RX9, "back", "()I"⟩
abbrev cX9_count : ByteArray := prog_11_method_71_code
def yX9_count : MethodName := ⟨RX9, "count", "(I)I"⟩
def RJ6 : String := "java/lang/Integer"
def TJ6 : u_T := fun k => match k with
  | _ => ("", "", "", false)
def tyJ6 : Nat → FieldType := fun k => match k with
  | _ => .int
abbrev wsJ60 : List Cond := u_ws RJ6 TJ6 0
theorem nmJ6 : ∀ a, a < 0 → ∀ b, b < 0 → a ≠ b → (TJ6 a).2.1 ≠ (TJ6 b).2.1 := by decide +kernel
theorem tyJ6_ok : ∀ k, k < 0 → parseFieldDescriptor (TJ6 k).2.2.1 = some (tyJ6 k) := by decide +kernel
abbrev cJ6_bitCount_0f7a4 : ByteArray := prog_12_method_49_code
def yJ6_bitCount_0f7a4 : MethodName := ⟨RJ6, "bitCount", "(I)I"⟩
def RJ9 : String := "java/lang/Math"
def TJ9 : u_T := fun k => match k with
  | _ => ("", "", "", false)
def tyJ9 : Nat → FieldType := fun k => match k with
  | _ => .int
abbrev wsJ90 : List Cond := u_ws RJ9 TJ9 0
theorem nmJ9 : ∀ a, a < 0 → ∀ b, b < 0 → a ≠ b → (TJ9 a).2.1 ≠ (TJ9 b).2.1 := by decide +kernel
theorem tyJ9_ok : ∀ k, k < 0 → parseFieldDescriptor (TJ9 k).2.2.1 = some (tyJ9 k) := by decide +kernel
abbrev cJ9_max_7cf53 : ByteArray := prog_13_method_65_code
def yJ9_max_7cf53 : MethodName := ⟨RJ9, "max", "(II)I"⟩
def RL : String := "BlockCellsLaw"
abbrev cL_law : ByteArray := code
def yL_law : MethodName := ⟨RL, "law", "([I)Z"⟩
abbrev vwCl : List vw_C := [(RX0, TX0, 7), (RX1, TX1, 4), (RX2, TX2, 2), (RX3, TX3, 2), (RX4, TX4, 2), (RX5, TX5, 2), (RX6, TX6, 10), (RX7, TX7, 4), (RX8, TX8, 9), (RX9, TX9, 41)]
