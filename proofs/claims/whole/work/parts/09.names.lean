/-! Names, field tables, the words that every method has (BIG), laid by my own program out of the listing and of tables_1. -/
abbrev R_T : String := "CommitDesk$Transaction"
abbrev R_D : String := "CommitDesk"
abbrev R_M : String := "CommitDeskModel"
abbrev R_L : String := "CommitDeskLaw"
abbrev R_J : String := "java/lang/Integer"
def F_T : u_T := fun k => match k with
  | 0 => ("CommitDesk$Transaction", "open", "Z", false)
  | 1 => ("CommitDesk$Transaction", "stale", "Z", false)
  | 2 => ("CommitDesk$Transaction", "readCells", "I", false)
  | 3 => ("CommitDesk$Transaction", "parts", "I", false)
  | 4 => ("CommitDesk$Transaction", "writtenCells", "[I", true)
  | _ => ("CommitDesk$Transaction", "values", "[[J", true)
def tf_T : Nat → FieldType := fun k => match k with
  | 0 => .boolean
  | 1 => .boolean
  | 2 => .int
  | 3 => .int
  | 4 => (.array .int)
  | _ => (.array (.array .long))
theorem nm_T : ∀ a, a < 6 → ∀ b, b < 6 → a ≠ b → (F_T a).2.1 ≠ (F_T b).2.1 := by decide +kernel
theorem ty_T : ∀ k, k < 6 → parseFieldDescriptor (F_T k).2.2.1 = some (tf_T k) := by decide +kernel
def F_D : u_T := fun k => match k with
  | 0 => ("CommitDesk", "numbers", "[J", true)
  | 1 => ("CommitDesk", "changes", "[I", true)
  | 2 => ("CommitDesk", "transactions", "[LCommitDesk$Transaction;", true)
  | 3 => ("CommitDesk", "doneTotal", "I", false)
  | _ => ("CommitDesk", "staleTotal", "I", false)
def tf_D : Nat → FieldType := fun k => match k with
  | 0 => (.array .long)
  | 1 => (.array .int)
  | 2 => (.array (.object "CommitDesk$Transaction"))
  | 3 => .int
  | _ => .int
theorem nm_D : ∀ a, a < 5 → ∀ b, b < 5 → a ≠ b → (F_D a).2.1 ≠ (F_D b).2.1 := by decide +kernel
theorem ty_D : ∀ k, k < 5 → parseFieldDescriptor (F_D k).2.2.1 = some (tf_D k) := by decide +kernel
def F_M : u_T := fun k => match k with
  | 0 => ("CommitDeskModel", "err", "I", false)
  | 1 => ("CommitDeskModel", "cells", "[J", true)
  | 2 => ("CommitDeskModel", "wrote", "[J", true)
  | 3 => ("CommitDeskModel", "changes", "[I", true)
  | 4 => ("CommitDeskModel", "parts", "[I", true)
  | 5 => ("CommitDeskModel", "seen", "[I", true)
  | 6 => ("CommitDeskModel", "has", "[Z", true)
  | 7 => ("CommitDeskModel", "read", "[Z", true)
  | 8 => ("CommitDeskModel", "open", "[Z", true)
  | 9 => ("CommitDeskModel", "done", "I", false)
  | _ => ("CommitDeskModel", "stale", "I", false)
def tf_M : Nat → FieldType := fun k => match k with
  | 0 => .int
  | 1 => (.array .long)
  | 2 => (.array .long)
  | 3 => (.array .int)
  | 4 => (.array .int)
  | 5 => (.array .int)
  | 6 => (.array .boolean)
  | 7 => (.array .boolean)
  | 8 => (.array .boolean)
  | 9 => .int
  | _ => .int
theorem nm_M : ∀ a, a < 11 → ∀ b, b < 11 → a ≠ b → (F_M a).2.1 ≠ (F_M b).2.1 := by decide +kernel
theorem ty_M : ∀ k, k < 11 → parseFieldDescriptor (F_M k).2.2.1 = some (tf_M k) := by decide +kernel
abbrev vwC : List vw_C := [(R_T, F_T, 6), (R_D, F_D, 5), (R_M, F_M, 11)]
abbrev y_D_init : MethodName := ⟨"CommitDesk", "<init>", "()V"⟩
abbrev y_T_init : MethodName := ⟨"CommitDesk$Transaction", "<init>", "()V"⟩
abbrev y_L_begin : MethodName := ⟨"CommitDeskLaw", "begin", "(LCommitDesk;I)I"⟩
abbrev y_D_begin : MethodName := ⟨"CommitDesk", "begin", "(I)V"⟩
abbrev y_D_transactionOf : MethodName := ⟨"CommitDesk", "transactionOf", "(I)LCommitDesk$Transaction;"⟩
abbrev y_T_isOpen : MethodName := ⟨"CommitDesk$Transaction", "isOpen", "()Z"⟩
abbrev y_T_start : MethodName := ⟨"CommitDesk$Transaction", "start", "()V"⟩
abbrev y_L_read : MethodName := ⟨"CommitDeskLaw", "read", "(LCommitDesk;II[J)I"⟩
abbrev y_D_read : MethodName := ⟨"CommitDesk", "read", "(II)J"⟩
abbrev y_D_openTransactionAt : MethodName := ⟨"CommitDesk", "openTransactionAt", "(II)LCommitDesk$Transaction;"⟩
abbrev y_D_requireCell : MethodName := ⟨"CommitDesk", "requireCell", "(I)V"⟩
abbrev y_D_openTransactionOf : MethodName := ⟨"CommitDesk", "openTransactionOf", "(I)LCommitDesk$Transaction;"⟩
abbrev y_T_lastPartWith : MethodName := ⟨"CommitDesk$Transaction", "lastPartWith", "(I)I"⟩
abbrev y_T_holds : MethodName := ⟨"CommitDesk$Transaction", "holds", "(II)Z"⟩
abbrev y_T_writtenIn : MethodName := ⟨"CommitDesk$Transaction", "writtenIn", "(II)J"⟩
abbrev y_T_isStale : MethodName := ⟨"CommitDesk$Transaction", "isStale", "()Z"⟩
abbrev y_D_endStale : MethodName := ⟨"CommitDesk", "endStale", "(LCommitDesk$Transaction;)V"⟩
abbrev y_T_close : MethodName := ⟨"CommitDesk$Transaction", "close", "()V"⟩
abbrev y_T_markRead : MethodName := ⟨"CommitDesk$Transaction", "markRead", "(I)V"⟩
abbrev y_L_write : MethodName := ⟨"CommitDeskLaw", "write", "(LCommitDesk;IIJ)I"⟩
abbrev y_D_write : MethodName := ⟨"CommitDesk", "write", "(IIJ)V"⟩
abbrev y_T_putInLastPart : MethodName := ⟨"CommitDesk$Transaction", "putInLastPart", "(IJ)V"⟩
abbrev y_T_putInPart : MethodName := ⟨"CommitDesk$Transaction", "putInPart", "(IIJ)V"⟩
abbrev y_L_save : MethodName := ⟨"CommitDeskLaw", "save", "(LCommitDesk;I[J)I"⟩
abbrev y_D_save : MethodName := ⟨"CommitDesk", "save", "(I)I"⟩
abbrev y_T_partCount : MethodName := ⟨"CommitDesk$Transaction", "partCount", "()I"⟩
abbrev y_T_addPart : MethodName := ⟨"CommitDesk$Transaction", "addPart", "()V"⟩
abbrev y_L_back : MethodName := ⟨"CommitDeskLaw", "back", "(LCommitDesk;I)I"⟩
abbrev y_D_back : MethodName := ⟨"CommitDesk", "back", "(I)V"⟩
abbrev y_D_transactionWithSeveralParts : MethodName := ⟨"CommitDesk", "transactionWithSeveralParts", "(I)LCommitDesk$Transaction;"⟩
abbrev y_T_dropLastPart : MethodName := ⟨"CommitDesk$Transaction", "dropLastPart", "()V"⟩
abbrev y_L_keep : MethodName := ⟨"CommitDeskLaw", "keep", "(LCommitDesk;I)I"⟩
abbrev y_D_keep : MethodName := ⟨"CommitDesk", "keep", "(I)V"⟩
abbrev y_T_mergeLastPart : MethodName := ⟨"CommitDesk$Transaction", "mergeLastPart", "()V"⟩
abbrev y_L_done : MethodName := ⟨"CommitDeskLaw", "done", "(LCommitDesk;I[J)I"⟩
abbrev y_D_done : MethodName := ⟨"CommitDesk", "done", "(I)Z"⟩
abbrev y_D_change : MethodName := ⟨"CommitDesk", "change", "(IJ)V"⟩
abbrev y_T_noteChange : MethodName := ⟨"CommitDesk$Transaction", "noteChange", "(I)V"⟩
abbrev y_L_leave : MethodName := ⟨"CommitDeskLaw", "leave", "(LCommitDesk;I)I"⟩
abbrev y_D_leave : MethodName := ⟨"CommitDesk", "leave", "(I)V"⟩
abbrev y_L_set : MethodName := ⟨"CommitDeskLaw", "set", "(LCommitDesk;IJ)I"⟩
abbrev y_D_set : MethodName := ⟨"CommitDesk", "set", "(IJ)V"⟩
abbrev y_L_cell : MethodName := ⟨"CommitDeskLaw", "cell", "(LCommitDesk;I[J)I"⟩
abbrev y_D_cell : MethodName := ⟨"CommitDesk", "cell", "(I)J"⟩
abbrev y_L_changed : MethodName := ⟨"CommitDeskLaw", "changed", "(LCommitDesk;I[J)I"⟩
abbrev y_D_changed : MethodName := ⟨"CommitDesk", "changed", "(I)I"⟩
abbrev y_L_count : MethodName := ⟨"CommitDeskLaw", "count", "(LCommitDesk;II[J)I"⟩
abbrev y_D_count : MethodName := ⟨"CommitDesk", "count", "(II)I"⟩
abbrev y_T_readCount : MethodName := ⟨"CommitDesk$Transaction", "readCount", "()I"⟩
abbrev y_J_bitCount : MethodName := ⟨"java/lang/Integer", "bitCount", "(I)I"⟩
abbrev y_T_writtenCount : MethodName := ⟨"CommitDesk$Transaction", "writtenCount", "()I"⟩
abbrev y_L_all : MethodName := ⟨"CommitDeskLaw", "all", "(LCommitDesk;I[J)I"⟩
abbrev y_D_all : MethodName := ⟨"CommitDesk", "all", "(I)I"⟩
abbrev y_D_openTotal : MethodName := ⟨"CommitDesk", "openTotal", "()I"⟩
abbrev y_M_init : MethodName := ⟨"CommitDeskModel", "<init>", "()V"⟩
abbrev y_M_thrown : MethodName := ⟨"CommitDeskModel", "thrown", "()I"⟩
abbrev y_M_begin : MethodName := ⟨"CommitDeskModel", "begin", "(I)V"⟩
abbrev y_M_isOne : MethodName := ⟨"CommitDeskModel", "isOne", "(I)Z"⟩
abbrev y_M_in : MethodName := ⟨"CommitDeskModel", "in", "(JJJ)Z"⟩
abbrev y_M_fails : MethodName := ⟨"CommitDeskModel", "fails", "(ZI)Z"⟩
abbrev y_M_last : MethodName := ⟨"CommitDeskModel", "last", "(II)I"⟩
abbrev y_M_read : MethodName := ⟨"CommitDeskModel", "read", "(II)J"⟩
abbrev y_M_isCell : MethodName := ⟨"CommitDeskModel", "isCell", "(I)Z"⟩
abbrev y_M_isStale : MethodName := ⟨"CommitDeskModel", "isStale", "(I)Z"⟩
abbrev y_M_write : MethodName := ⟨"CommitDeskModel", "write", "(IIJ)V"⟩
abbrev y_M_save : MethodName := ⟨"CommitDeskModel", "save", "(I)I"⟩
abbrev y_M_copy : MethodName := ⟨"CommitDeskModel", "copy", "(II)V"⟩
abbrev y_M_back : MethodName := ⟨"CommitDeskModel", "back", "(I)V"⟩
abbrev y_M_keep : MethodName := ⟨"CommitDeskModel", "keep", "(I)V"⟩
abbrev y_M_done : MethodName := ⟨"CommitDeskModel", "done", "(I)Z"⟩
abbrev y_M_change : MethodName := ⟨"CommitDeskModel", "change", "(IJ)V"⟩
abbrev y_M_leave : MethodName := ⟨"CommitDeskModel", "leave", "(I)V"⟩
abbrev y_M_set : MethodName := ⟨"CommitDeskModel", "set", "(IJ)V"⟩
abbrev y_M_cell : MethodName := ⟨"CommitDeskModel", "cell", "(I)J"⟩
abbrev y_M_changed : MethodName := ⟨"CommitDeskModel", "changed", "(I)I"⟩
abbrev y_M_count : MethodName := ⟨"CommitDeskModel", "count", "(II)I"⟩
abbrev y_M_all : MethodName := ⟨"CommitDeskModel", "all", "(I)I"⟩
abbrev y_L_law : MethodName := ⟨"CommitDeskLaw", "law", "([I)Z"⟩
def BIG_0 : List Cond := [(Jvm.Cond.selects "CommitDesk" ({ cls := "CommitDesk", name := "transactionOf", desc := "(I)LCommitDesk$Transaction;" } : Jvm.MethodName) ({ cls := "CommitDesk", name := "transactionOf", desc := "(I)LCommitDesk$Transaction;" } : Jvm.MethodName)),
  (Jvm.Cond.selects "java/lang/Throwable" ({ cls := "java/lang/Throwable", name := "fillInStackTrace", desc := "(I)Ljava/lang/Throwable;" } : Jvm.MethodName) ({ cls := "java/lang/Throwable", name := "fillInStackTrace", desc := "(I)Ljava/lang/Throwable;" } : Jvm.MethodName)),
  (Jvm.Cond.selects "CommitDesk" ({ cls := "CommitDesk", name := "openTransactionAt", desc := "(II)LCommitDesk$Transaction;" } : Jvm.MethodName) ({ cls := "CommitDesk", name := "openTransactionAt", desc := "(II)LCommitDesk$Transaction;" } : Jvm.MethodName)),
  (Jvm.Cond.selects "CommitDesk" ({ cls := "CommitDesk", name := "requireCell", desc := "(I)V" } : Jvm.MethodName) ({ cls := "CommitDesk", name := "requireCell", desc := "(I)V" } : Jvm.MethodName)),
  (Jvm.Cond.selects "CommitDesk" ({ cls := "CommitDesk", name := "openTransactionOf", desc := "(I)LCommitDesk$Transaction;" } : Jvm.MethodName) ({ cls := "CommitDesk", name := "openTransactionOf", desc := "(I)LCommitDesk$Transaction;" } : Jvm.MethodName)),
  (Jvm.Cond.selects "CommitDesk" ({ cls := "CommitDesk", name := "endStale", desc := "(LCommitDesk$Transaction;)V" } : Jvm.MethodName) ({ cls := "CommitDesk", name := "endStale", desc := "(LCommitDesk$Transaction;)V" } : Jvm.MethodName)),
  (Jvm.Cond.selects "CommitDesk$Transaction" ({ cls := "CommitDesk$Transaction", name := "putInPart", desc := "(IIJ)V" } : Jvm.MethodName) ({ cls := "CommitDesk$Transaction", name := "putInPart", desc := "(IIJ)V" } : Jvm.MethodName)),
  (Jvm.Cond.selects "CommitDesk" ({ cls := "CommitDesk", name := "transactionWithSeveralParts", desc := "(I)LCommitDesk$Transaction;" } : Jvm.MethodName) ({ cls := "CommitDesk", name := "transactionWithSeveralParts", desc := "(I)LCommitDesk$Transaction;" } : Jvm.MethodName)),
  (Jvm.Cond.selects "CommitDesk" ({ cls := "CommitDesk", name := "change", desc := "(IJ)V" } : Jvm.MethodName) ({ cls := "CommitDesk", name := "change", desc := "(IJ)V" } : Jvm.MethodName)),
  (Jvm.Cond.selects "CommitDesk" ({ cls := "CommitDesk", name := "openTotal", desc := "()I" } : Jvm.MethodName) ({ cls := "CommitDesk", name := "openTotal", desc := "()I" } : Jvm.MethodName)),
  (Jvm.Cond.selects "CommitDeskModel" ({ cls := "CommitDeskModel", name := "fails", desc := "(ZI)Z" } : Jvm.MethodName) ({ cls := "CommitDeskModel", name := "fails", desc := "(ZI)Z" } : Jvm.MethodName)),
  (Jvm.Cond.selects "CommitDeskModel" ({ cls := "CommitDeskModel", name := "last", desc := "(II)I" } : Jvm.MethodName) ({ cls := "CommitDeskModel", name := "last", desc := "(II)I" } : Jvm.MethodName)),
  (Jvm.Cond.selects "CommitDeskModel" ({ cls := "CommitDeskModel", name := "isStale", desc := "(I)Z" } : Jvm.MethodName) ({ cls := "CommitDeskModel", name := "isStale", desc := "(I)Z" } : Jvm.MethodName)),
  (Jvm.Cond.selects "CommitDeskModel" ({ cls := "CommitDeskModel", name := "copy", desc := "(II)V" } : Jvm.MethodName) ({ cls := "CommitDeskModel", name := "copy", desc := "(II)V" } : Jvm.MethodName)),
  (Jvm.Cond.selects "CommitDeskModel" ({ cls := "CommitDeskModel", name := "change", desc := "(IJ)V" } : Jvm.MethodName) ({ cls := "CommitDeskModel", name := "change", desc := "(IJ)V" } : Jvm.MethodName)),
  (Jvm.Cond.initialized "CommitDeskLaw"),
  (Jvm.Cond.initialized "CommitDesk"),
  (Jvm.Cond.initialized "CommitDesk$Transaction"),
  (Jvm.Cond.initialized "CommitDeskModel"),
  (Jvm.Cond.initialized "java/lang/Throwable"),
  (Jvm.Cond.initialized "java/lang/Exception"),
  (Jvm.Cond.initialized "java/lang/RuntimeException"),
  (Jvm.Cond.initialized "java/lang/IllegalArgumentException"),
  (Jvm.Cond.initialized "java/lang/IllegalStateException"),
  (Jvm.Cond.initialized "java/lang/IndexOutOfBoundsException"),
  (Jvm.Cond.initialized "java/lang/UnsupportedOperationException"),
  (Jvm.Cond.initialized "java/lang/Integer"),
  (Jvm.Cond.classLink "CommitDeskLaw" (8 : Nat) "CommitDesk"),
  (Jvm.Cond.instantiable "CommitDesk" (5 : Nat)),
  (Jvm.Cond.methodLink "CommitDeskLaw" (64 : Nat) ({ cls := "CommitDesk", name := "<init>", desc := "()V" } : Jvm.MethodName)),
  (Jvm.Cond.instanceMethod ({ cls := "CommitDesk", name := "<init>", desc := "()V" } : Jvm.MethodName)),
  (Jvm.Cond.code ({ cls := "CommitDesk", name := "<init>", desc := "()V" } : Jvm.MethodName) prog_1_method_1_code (2 : Nat) (Option.none : Option Jvm.ClassFile.FieldType)),
  (Jvm.Cond.methodLink "CommitDesk" (1 : Nat) ({ cls := "java/lang/Object", name := "<init>", desc := "()V" } : Jvm.MethodName)),
  (Jvm.Cond.instanceMethod ({ cls := "java/lang/Object", name := "<init>", desc := "()V" } : Jvm.MethodName)),
  (Jvm.Cond.code ({ cls := "java/lang/Object", name := "<init>", desc := "()V" } : Jvm.MethodName) object_method_1_code (1 : Nat) (Option.none : Option Jvm.ClassFile.FieldType)),
  (Jvm.Cond.classLink "CommitDesk" (17 : Nat) "CommitDesk$Transaction"),
  (Jvm.Cond.instantiable "CommitDesk$Transaction" (6 : Nat)),
  (Jvm.Cond.instanceMethod ({ cls := "CommitDesk$Transaction", name := "<init>", desc := "()V" } : Jvm.MethodName)),
  (Jvm.Cond.code ({ cls := "CommitDesk$Transaction", name := "<init>", desc := "()V" } : Jvm.MethodName) prog_2_method_1_code (1 : Nat) (Option.none : Option Jvm.ClassFile.FieldType)),
  (Jvm.Cond.methodLink "CommitDesk$Transaction" (3 : Nat) ({ cls := "java/lang/Object", name := "<init>", desc := "()V" } : Jvm.MethodName))]
def BIG_1 : List Cond := [(Jvm.Cond.classLink "CommitDesk$Transaction" (29 : Nat) "[[J"),
  (Jvm.Cond.fieldLink "CommitDesk$Transaction" (9 : Nat) "CommitDesk$Transaction" "open" "Z"),
  (Jvm.Cond.fieldLink "CommitDesk$Transaction" (15 : Nat) "CommitDesk$Transaction" "stale" "Z"),
  (Jvm.Cond.fieldLink "CommitDesk$Transaction" (18 : Nat) "CommitDesk$Transaction" "readCells" "I"),
  (Jvm.Cond.fieldLink "CommitDesk$Transaction" (22 : Nat) "CommitDesk$Transaction" "parts" "I"),
  (Jvm.Cond.fieldLink "CommitDesk$Transaction" (25 : Nat) "CommitDesk$Transaction" "writtenCells" "[I"),
  (Jvm.Cond.fieldLink "CommitDesk$Transaction" (31 : Nat) "CommitDesk$Transaction" "values" "[[J"),
  (Jvm.Cond.lays "CommitDesk$Transaction" "CommitDesk$Transaction" "open" "Z"),
  (Jvm.Cond.lays "CommitDesk$Transaction" "CommitDesk$Transaction" "stale" "Z"),
  (Jvm.Cond.lays "CommitDesk$Transaction" "CommitDesk$Transaction" "readCells" "I"),
  (Jvm.Cond.lays "CommitDesk$Transaction" "CommitDesk$Transaction" "parts" "I"),
  (Jvm.Cond.laysFinal "CommitDesk$Transaction" "CommitDesk$Transaction" "writtenCells" "[I"),
  (Jvm.Cond.laysFinal "CommitDesk$Transaction" "CommitDesk$Transaction" "values" "[[J"),
  (Jvm.Cond.superclass "CommitDesk$Transaction" "java/lang/Object"),
  (Jvm.Cond.arrayClass Jvm.ClassFile.FieldType.long),
  (Jvm.Cond.arrayClass Jvm.ClassFile.FieldType.int),
  (Jvm.Cond.fieldLink "CommitDesk" (9 : Nat) "CommitDesk" "numbers" "[J"),
  (Jvm.Cond.fieldLink "CommitDesk" (13 : Nat) "CommitDesk" "changes" "[I"),
  (Jvm.Cond.fieldLink "CommitDesk" (19 : Nat) "CommitDesk" "transactions" "[LCommitDesk$Transaction;"),
  (Jvm.Cond.fieldLink "CommitDesk" (23 : Nat) "CommitDesk" "doneTotal" "I"),
  (Jvm.Cond.fieldLink "CommitDesk" (27 : Nat) "CommitDesk" "staleTotal" "I"),
  (Jvm.Cond.laysFinal "CommitDesk" "CommitDesk" "numbers" "[J"),
  (Jvm.Cond.laysFinal "CommitDesk" "CommitDesk" "changes" "[I"),
  (Jvm.Cond.laysFinal "CommitDesk" "CommitDesk" "transactions" "[LCommitDesk$Transaction;"),
  (Jvm.Cond.lays "CommitDesk" "CommitDesk" "doneTotal" "I"),
  (Jvm.Cond.lays "CommitDesk" "CommitDesk" "staleTotal" "I"),
  (Jvm.Cond.superclass "CommitDesk" "java/lang/Object"),
  (Jvm.Cond.methodLink "CommitDeskLaw" (68 : Nat) ({ cls := "CommitDeskLaw", name := "begin", desc := "(LCommitDesk;I)I" } : Jvm.MethodName)),
  (Jvm.Cond.static ({ cls := "CommitDeskLaw", name := "begin", desc := "(LCommitDesk;I)I" } : Jvm.MethodName)),
  (Jvm.Cond.codeWith ({ cls := "CommitDeskLaw", name := "begin", desc := "(LCommitDesk;I)I" } : Jvm.MethodName) method_3_code (3 : Nat) (Option.some Jvm.ClassFile.FieldType.int) [((0 : Nat), (5 : Nat), (8 : Nat), (13 : Nat)), ((0 : Nat), (5 : Nat), (11 : Nat), (15 : Nat))]),
  (Jvm.Cond.classLink "CommitDeskLaw" (13 : Nat) "java/lang/IllegalArgumentException"),
  (Jvm.Cond.classLink "CommitDeskLaw" (15 : Nat) "java/lang/IllegalStateException"),
  (Jvm.Cond.methodLink "CommitDeskLaw" (7 : Nat) ({ cls := "CommitDesk", name := "begin", desc := "(I)V" } : Jvm.MethodName)),
  (Jvm.Cond.instanceMethod ({ cls := "CommitDesk", name := "begin", desc := "(I)V" } : Jvm.MethodName)),
  (Jvm.Cond.selects "CommitDesk" ({ cls := "CommitDesk", name := "begin", desc := "(I)V" } : Jvm.MethodName) ({ cls := "CommitDesk", name := "begin", desc := "(I)V" } : Jvm.MethodName)),
  (Jvm.Cond.code ({ cls := "CommitDesk", name := "begin", desc := "(I)V" } : Jvm.MethodName) prog_1_method_2_code (3 : Nat) (Option.none : Option Jvm.ClassFile.FieldType)),
  (Jvm.Cond.methodLink "CommitDesk" (31 : Nat) ({ cls := "CommitDesk", name := "transactionOf", desc := "(I)LCommitDesk$Transaction;" } : Jvm.MethodName)),
  (Jvm.Cond.instanceMethod ({ cls := "CommitDesk", name := "transactionOf", desc := "(I)LCommitDesk$Transaction;" } : Jvm.MethodName)),
  (Jvm.Cond.code ({ cls := "CommitDesk", name := "transactionOf", desc := "(I)LCommitDesk$Transaction;" } : Jvm.MethodName) prog_1_method_15_code (2 : Nat) (Option.some (Jvm.ClassFile.FieldType.object "CommitDesk$Transaction"))),
  (Jvm.Cond.classLink "CommitDesk" (111 : Nat) "java/lang/IllegalArgumentException")]
def BIG_2 : List Cond := [(Jvm.Cond.instantiable "java/lang/IllegalArgumentException" (6 : Nat)),
  (Jvm.Cond.selects "java/lang/IllegalArgumentException" ({ cls := "java/lang/Throwable", name := "fillInStackTrace", desc := "(I)Ljava/lang/Throwable;" } : Jvm.MethodName) ({ cls := "java/lang/Throwable", name := "fillInStackTrace", desc := "(I)Ljava/lang/Throwable;" } : Jvm.MethodName)),
  (Jvm.Cond.selects "java/lang/IllegalArgumentException" ({ cls := "java/lang/Throwable", name := "fillInStackTrace", desc := "()Ljava/lang/Throwable;" } : Jvm.MethodName) ({ cls := "java/lang/Throwable", name := "fillInStackTrace", desc := "()Ljava/lang/Throwable;" } : Jvm.MethodName)),
  (Jvm.Cond.lays "java/lang/IllegalArgumentException" "java/lang/Throwable" "cause" "Ljava/lang/Throwable;"),
  (Jvm.Cond.lays "java/lang/Throwable" "java/lang/Throwable" "cause" "Ljava/lang/Throwable;"),
  (Jvm.Cond.lays "java/lang/IllegalArgumentException" "java/lang/Throwable" "stackTrace" "[Ljava/lang/StackTraceElement;"),
  (Jvm.Cond.lays "java/lang/Throwable" "java/lang/Throwable" "stackTrace" "[Ljava/lang/StackTraceElement;"),
  (Jvm.Cond.lays "java/lang/IllegalArgumentException" "java/lang/Throwable" "suppressedExceptions" "Ljava/util/List;"),
  (Jvm.Cond.lays "java/lang/Throwable" "java/lang/Throwable" "suppressedExceptions" "Ljava/util/List;"),
  (Jvm.Cond.lays "java/lang/IllegalArgumentException" "java/lang/Throwable" "detailMessage" "Ljava/lang/String;"),
  (Jvm.Cond.lays "java/lang/Throwable" "java/lang/Throwable" "detailMessage" "Ljava/lang/String;"),
  (Jvm.Cond.lays "java/lang/IllegalArgumentException" "java/lang/Throwable" "backtrace" "Ljava/lang/Object;"),
  (Jvm.Cond.lays "java/lang/Throwable" "java/lang/Throwable" "backtrace" "Ljava/lang/Object;"),
  (Jvm.Cond.fieldLink "java/lang/Throwable" (198 : Nat) "java/lang/Throwable" "backtrace" "Ljava/lang/Object;"),
  (Jvm.Cond.superclass "java/lang/Throwable" "java/lang/Object"),
  (Jvm.Cond.instanceMethod ({ cls := "java/lang/Throwable", name := "<init>", desc := "()V" } : Jvm.MethodName)),
  (Jvm.Cond.code ({ cls := "java/lang/Throwable", name := "<init>", desc := "()V" } : Jvm.MethodName) prog_12_method_1_code (1 : Nat) (Option.none : Option Jvm.ClassFile.FieldType)),
  (Jvm.Cond.methodLink "java/lang/Throwable" (1 : Nat) ({ cls := "java/lang/Object", name := "<init>", desc := "()V" } : Jvm.MethodName)),
  (Jvm.Cond.fieldLink "java/lang/Throwable" (13 : Nat) "java/lang/Throwable" "UNASSIGNED_STACK" "[Ljava/lang/StackTraceElement;"),
  (Jvm.Cond.fieldLink "java/lang/Throwable" (20 : Nat) "java/lang/Throwable" "SUPPRESSED_SENTINEL" "Ljava/util/List;"),
  (Jvm.Cond.methodLink "java/lang/Throwable" (27 : Nat) ({ cls := "java/lang/Throwable", name := "fillInStackTrace", desc := "()Ljava/lang/Throwable;" } : Jvm.MethodName)),
  (Jvm.Cond.instanceMethod ({ cls := "java/lang/Throwable", name := "fillInStackTrace", desc := "()Ljava/lang/Throwable;" } : Jvm.MethodName)),
  (Jvm.Cond.selects "java/lang/IllegalStateException" ({ cls := "java/lang/Throwable", name := "fillInStackTrace", desc := "()Ljava/lang/Throwable;" } : Jvm.MethodName) ({ cls := "java/lang/Throwable", name := "fillInStackTrace", desc := "()Ljava/lang/Throwable;" } : Jvm.MethodName)),
  (Jvm.Cond.selects "java/lang/IndexOutOfBoundsException" ({ cls := "java/lang/Throwable", name := "fillInStackTrace", desc := "()Ljava/lang/Throwable;" } : Jvm.MethodName) ({ cls := "java/lang/Throwable", name := "fillInStackTrace", desc := "()Ljava/lang/Throwable;" } : Jvm.MethodName)),
  (Jvm.Cond.selects "java/lang/UnsupportedOperationException" ({ cls := "java/lang/Throwable", name := "fillInStackTrace", desc := "()Ljava/lang/Throwable;" } : Jvm.MethodName) ({ cls := "java/lang/Throwable", name := "fillInStackTrace", desc := "()Ljava/lang/Throwable;" } : Jvm.MethodName)),
  (Jvm.Cond.methodLink "java/lang/Throwable" (202 : Nat) ({ cls := "java/lang/Throwable", name := "fillInStackTrace", desc := "(I)Ljava/lang/Throwable;" } : Jvm.MethodName)),
  (Jvm.Cond.instanceMethod ({ cls := "java/lang/Throwable", name := "fillInStackTrace", desc := "(I)Ljava/lang/Throwable;" } : Jvm.MethodName)),
  (Jvm.Cond.instantiable "java/lang/Throwable" (6 : Nat)),
  (Jvm.Cond.methodLink "CommitDesk" (115 : Nat) ({ cls := "java/lang/IllegalArgumentException", name := "<init>", desc := "(Ljava/lang/String;)V" } : Jvm.MethodName)),
  (Jvm.Cond.instanceMethod ({ cls := "java/lang/IllegalArgumentException", name := "<init>", desc := "(Ljava/lang/String;)V" } : Jvm.MethodName)),
  (Jvm.Cond.code ({ cls := "java/lang/IllegalArgumentException", name := "<init>", desc := "(Ljava/lang/String;)V" } : Jvm.MethodName) prog_6_method_2_code (2 : Nat) (Option.none : Option Jvm.ClassFile.FieldType)),
  (Jvm.Cond.methodLink "java/lang/IllegalArgumentException" (7 : Nat) ({ cls := "java/lang/RuntimeException", name := "<init>", desc := "(Ljava/lang/String;)V" } : Jvm.MethodName)),
  (Jvm.Cond.instanceMethod ({ cls := "java/lang/RuntimeException", name := "<init>", desc := "(Ljava/lang/String;)V" } : Jvm.MethodName)),
  (Jvm.Cond.code ({ cls := "java/lang/RuntimeException", name := "<init>", desc := "(Ljava/lang/String;)V" } : Jvm.MethodName) prog_10_method_2_code (2 : Nat) (Option.none : Option Jvm.ClassFile.FieldType)),
  (Jvm.Cond.methodLink "java/lang/RuntimeException" (7 : Nat) ({ cls := "java/lang/Exception", name := "<init>", desc := "(Ljava/lang/String;)V" } : Jvm.MethodName)),
  (Jvm.Cond.instanceMethod ({ cls := "java/lang/Exception", name := "<init>", desc := "(Ljava/lang/String;)V" } : Jvm.MethodName)),
  (Jvm.Cond.code ({ cls := "java/lang/Exception", name := "<init>", desc := "(Ljava/lang/String;)V" } : Jvm.MethodName) prog_5_method_2_code (2 : Nat) (Option.none : Option Jvm.ClassFile.FieldType)),
  (Jvm.Cond.methodLink "java/lang/Exception" (7 : Nat) ({ cls := "java/lang/Throwable", name := "<init>", desc := "(Ljava/lang/String;)V" } : Jvm.MethodName)),
  (Jvm.Cond.instanceMethod ({ cls := "java/lang/Throwable", name := "<init>", desc := "(Ljava/lang/String;)V" } : Jvm.MethodName)),
  (Jvm.Cond.code ({ cls := "java/lang/Throwable", name := "<init>", desc := "(Ljava/lang/String;)V" } : Jvm.MethodName) prog_12_method_2_code (2 : Nat) (Option.none : Option Jvm.ClassFile.FieldType))]
def BIG_3 : List Cond := [(Jvm.Cond.fieldLink "java/lang/Throwable" (31 : Nat) "java/lang/Throwable" "detailMessage" "Ljava/lang/String;"),
  (Jvm.Cond.fieldLink "java/lang/Throwable" (7 : Nat) "java/lang/Throwable" "cause" "Ljava/lang/Throwable;"),
  (Jvm.Cond.fieldLink "java/lang/Throwable" (17 : Nat) "java/lang/Throwable" "stackTrace" "[Ljava/lang/StackTraceElement;"),
  (Jvm.Cond.fieldLink "java/lang/Throwable" (24 : Nat) "java/lang/Throwable" "suppressedExceptions" "Ljava/util/List;"),
  (Jvm.Cond.lays "java/lang/IllegalArgumentException" "java/lang/Throwable" "depth" "I"),
  (Jvm.Cond.superclass "java/lang/IllegalArgumentException" "java/lang/RuntimeException"),
  (Jvm.Cond.arrayClass Jvm.ClassFile.FieldType.byte),
  (Jvm.Cond.methodLink "CommitDesk" (35 : Nat) ({ cls := "CommitDesk$Transaction", name := "isOpen", desc := "()Z" } : Jvm.MethodName)),
  (Jvm.Cond.instanceMethod ({ cls := "CommitDesk$Transaction", name := "isOpen", desc := "()Z" } : Jvm.MethodName)),
  (Jvm.Cond.selects "CommitDesk$Transaction" ({ cls := "CommitDesk$Transaction", name := "isOpen", desc := "()Z" } : Jvm.MethodName) ({ cls := "CommitDesk$Transaction", name := "isOpen", desc := "()Z" } : Jvm.MethodName)),
  (Jvm.Cond.code ({ cls := "CommitDesk$Transaction", name := "isOpen", desc := "()Z" } : Jvm.MethodName) prog_2_method_2_code (1 : Nat) (Option.some Jvm.ClassFile.FieldType.boolean)),
  (Jvm.Cond.classLink "CommitDesk" (39 : Nat) "java/lang/IllegalStateException"),
  (Jvm.Cond.instantiable "java/lang/IllegalStateException" (6 : Nat)),
  (Jvm.Cond.selects "java/lang/IllegalStateException" ({ cls := "java/lang/Throwable", name := "fillInStackTrace", desc := "(I)Ljava/lang/Throwable;" } : Jvm.MethodName) ({ cls := "java/lang/Throwable", name := "fillInStackTrace", desc := "(I)Ljava/lang/Throwable;" } : Jvm.MethodName)),
  (Jvm.Cond.lays "java/lang/IllegalStateException" "java/lang/Throwable" "cause" "Ljava/lang/Throwable;"),
  (Jvm.Cond.lays "java/lang/IllegalStateException" "java/lang/Throwable" "stackTrace" "[Ljava/lang/StackTraceElement;"),
  (Jvm.Cond.lays "java/lang/IllegalStateException" "java/lang/Throwable" "suppressedExceptions" "Ljava/util/List;"),
  (Jvm.Cond.lays "java/lang/IllegalStateException" "java/lang/Throwable" "detailMessage" "Ljava/lang/String;"),
  (Jvm.Cond.lays "java/lang/IllegalStateException" "java/lang/Throwable" "backtrace" "Ljava/lang/Object;"),
  (Jvm.Cond.methodLink "CommitDesk" (43 : Nat) ({ cls := "java/lang/IllegalStateException", name := "<init>", desc := "(Ljava/lang/String;)V" } : Jvm.MethodName)),
  (Jvm.Cond.instanceMethod ({ cls := "java/lang/IllegalStateException", name := "<init>", desc := "(Ljava/lang/String;)V" } : Jvm.MethodName)),
  (Jvm.Cond.code ({ cls := "java/lang/IllegalStateException", name := "<init>", desc := "(Ljava/lang/String;)V" } : Jvm.MethodName) prog_7_method_2_code (2 : Nat) (Option.none : Option Jvm.ClassFile.FieldType)),
  (Jvm.Cond.methodLink "java/lang/IllegalStateException" (7 : Nat) ({ cls := "java/lang/RuntimeException", name := "<init>", desc := "(Ljava/lang/String;)V" } : Jvm.MethodName)),
  (Jvm.Cond.lays "java/lang/IllegalStateException" "java/lang/Throwable" "depth" "I"),
  (Jvm.Cond.superclass "java/lang/IllegalStateException" "java/lang/RuntimeException"),
  (Jvm.Cond.methodLink "CommitDesk" (46 : Nat) ({ cls := "CommitDesk$Transaction", name := "start", desc := "()V" } : Jvm.MethodName)),
  (Jvm.Cond.instanceMethod ({ cls := "CommitDesk$Transaction", name := "start", desc := "()V" } : Jvm.MethodName)),
  (Jvm.Cond.selects "CommitDesk$Transaction" ({ cls := "CommitDesk$Transaction", name := "start", desc := "()V" } : Jvm.MethodName) ({ cls := "CommitDesk$Transaction", name := "start", desc := "()V" } : Jvm.MethodName)),
  (Jvm.Cond.code ({ cls := "CommitDesk$Transaction", name := "start", desc := "()V" } : Jvm.MethodName) prog_2_method_7_code (1 : Nat) (Option.none : Option Jvm.ClassFile.FieldType)),
  (Jvm.Cond.methodLink "CommitDeskLaw" (78 : Nat) ({ cls := "CommitDeskLaw", name := "read", desc := "(LCommitDesk;II[J)I" } : Jvm.MethodName)),
  (Jvm.Cond.static ({ cls := "CommitDeskLaw", name := "read", desc := "(LCommitDesk;II[J)I" } : Jvm.MethodName)),
  (Jvm.Cond.codeWith ({ cls := "CommitDeskLaw", name := "read", desc := "(LCommitDesk;II[J)I" } : Jvm.MethodName) method_4_code (5 : Nat) (Option.some Jvm.ClassFile.FieldType.int) [((0 : Nat), (9 : Nat), (12 : Nat), (13 : Nat)), ((0 : Nat), (9 : Nat), (16 : Nat), (21 : Nat)), ((0 : Nat), (9 : Nat), (20 : Nat), (15 : Nat)), ((0 : Nat), (9 : Nat), (24 : Nat), (23 : Nat))]),
  (Jvm.Cond.classLink "CommitDeskLaw" (21 : Nat) "java/lang/IndexOutOfBoundsException"),
  (Jvm.Cond.classLink "CommitDeskLaw" (23 : Nat) "java/lang/UnsupportedOperationException"),
  (Jvm.Cond.methodLink "CommitDeskLaw" (17 : Nat) ({ cls := "CommitDesk", name := "read", desc := "(II)J" } : Jvm.MethodName)),
  (Jvm.Cond.instanceMethod ({ cls := "CommitDesk", name := "read", desc := "(II)J" } : Jvm.MethodName)),
  (Jvm.Cond.selects "CommitDesk" ({ cls := "CommitDesk", name := "read", desc := "(II)J" } : Jvm.MethodName) ({ cls := "CommitDesk", name := "read", desc := "(II)J" } : Jvm.MethodName)),
  (Jvm.Cond.code ({ cls := "CommitDesk", name := "read", desc := "(II)J" } : Jvm.MethodName) prog_1_method_3_code (5 : Nat) (Option.some Jvm.ClassFile.FieldType.long)),
  (Jvm.Cond.methodLink "CommitDesk" (49 : Nat) ({ cls := "CommitDesk", name := "openTransactionAt", desc := "(II)LCommitDesk$Transaction;" } : Jvm.MethodName)),
  (Jvm.Cond.instanceMethod ({ cls := "CommitDesk", name := "openTransactionAt", desc := "(II)LCommitDesk$Transaction;" } : Jvm.MethodName))]
def BIG_4 : List Cond := [(Jvm.Cond.code ({ cls := "CommitDesk", name := "openTransactionAt", desc := "(II)LCommitDesk$Transaction;" } : Jvm.MethodName) prog_1_method_18_code (3 : Nat) (Option.some (Jvm.ClassFile.FieldType.object "CommitDesk$Transaction"))),
  (Jvm.Cond.methodLink "CommitDesk" (108 : Nat) ({ cls := "CommitDesk", name := "requireCell", desc := "(I)V" } : Jvm.MethodName)),
  (Jvm.Cond.instanceMethod ({ cls := "CommitDesk", name := "requireCell", desc := "(I)V" } : Jvm.MethodName)),
  (Jvm.Cond.code ({ cls := "CommitDesk", name := "requireCell", desc := "(I)V" } : Jvm.MethodName) prog_1_method_16_code (2 : Nat) (Option.none : Option Jvm.ClassFile.FieldType)),
  (Jvm.Cond.classLink "CommitDesk" (127 : Nat) "java/lang/IndexOutOfBoundsException"),
  (Jvm.Cond.instantiable "java/lang/IndexOutOfBoundsException" (6 : Nat)),
  (Jvm.Cond.selects "java/lang/IndexOutOfBoundsException" ({ cls := "java/lang/Throwable", name := "fillInStackTrace", desc := "(I)Ljava/lang/Throwable;" } : Jvm.MethodName) ({ cls := "java/lang/Throwable", name := "fillInStackTrace", desc := "(I)Ljava/lang/Throwable;" } : Jvm.MethodName)),
  (Jvm.Cond.lays "java/lang/IndexOutOfBoundsException" "java/lang/Throwable" "cause" "Ljava/lang/Throwable;"),
  (Jvm.Cond.lays "java/lang/IndexOutOfBoundsException" "java/lang/Throwable" "stackTrace" "[Ljava/lang/StackTraceElement;"),
  (Jvm.Cond.lays "java/lang/IndexOutOfBoundsException" "java/lang/Throwable" "suppressedExceptions" "Ljava/util/List;"),
  (Jvm.Cond.lays "java/lang/IndexOutOfBoundsException" "java/lang/Throwable" "detailMessage" "Ljava/lang/String;"),
  (Jvm.Cond.lays "java/lang/IndexOutOfBoundsException" "java/lang/Throwable" "backtrace" "Ljava/lang/Object;"),
  (Jvm.Cond.methodLink "CommitDesk" (131 : Nat) ({ cls := "java/lang/IndexOutOfBoundsException", name := "<init>", desc := "(Ljava/lang/String;)V" } : Jvm.MethodName)),
  (Jvm.Cond.instanceMethod ({ cls := "java/lang/IndexOutOfBoundsException", name := "<init>", desc := "(Ljava/lang/String;)V" } : Jvm.MethodName)),
  (Jvm.Cond.code ({ cls := "java/lang/IndexOutOfBoundsException", name := "<init>", desc := "(Ljava/lang/String;)V" } : Jvm.MethodName) prog_8_method_2_code (2 : Nat) (Option.none : Option Jvm.ClassFile.FieldType)),
  (Jvm.Cond.methodLink "java/lang/IndexOutOfBoundsException" (7 : Nat) ({ cls := "java/lang/RuntimeException", name := "<init>", desc := "(Ljava/lang/String;)V" } : Jvm.MethodName)),
  (Jvm.Cond.lays "java/lang/IndexOutOfBoundsException" "java/lang/Throwable" "depth" "I"),
  (Jvm.Cond.superclass "java/lang/IndexOutOfBoundsException" "java/lang/RuntimeException"),
  (Jvm.Cond.methodLink "CommitDesk" (81 : Nat) ({ cls := "CommitDesk", name := "openTransactionOf", desc := "(I)LCommitDesk$Transaction;" } : Jvm.MethodName)),
  (Jvm.Cond.instanceMethod ({ cls := "CommitDesk", name := "openTransactionOf", desc := "(I)LCommitDesk$Transaction;" } : Jvm.MethodName)),
  (Jvm.Cond.code ({ cls := "CommitDesk", name := "openTransactionOf", desc := "(I)LCommitDesk$Transaction;" } : Jvm.MethodName) prog_1_method_17_code (3 : Nat) (Option.some (Jvm.ClassFile.FieldType.object "CommitDesk$Transaction"))),
  (Jvm.Cond.methodLink "CommitDesk" (53 : Nat) ({ cls := "CommitDesk$Transaction", name := "lastPartWith", desc := "(I)I" } : Jvm.MethodName)),
  (Jvm.Cond.instanceMethod ({ cls := "CommitDesk$Transaction", name := "lastPartWith", desc := "(I)I" } : Jvm.MethodName)),
  (Jvm.Cond.selects "CommitDesk$Transaction" ({ cls := "CommitDesk$Transaction", name := "lastPartWith", desc := "(I)I" } : Jvm.MethodName) ({ cls := "CommitDesk$Transaction", name := "lastPartWith", desc := "(I)I" } : Jvm.MethodName)),
  (Jvm.Cond.code ({ cls := "CommitDesk$Transaction", name := "lastPartWith", desc := "(I)I" } : Jvm.MethodName) prog_2_method_11_code (3 : Nat) (Option.some Jvm.ClassFile.FieldType.int)),
  (Jvm.Cond.methodLink "CommitDesk$Transaction" (40 : Nat) ({ cls := "CommitDesk$Transaction", name := "holds", desc := "(II)Z" } : Jvm.MethodName)),
  (Jvm.Cond.static ({ cls := "CommitDesk$Transaction", name := "holds", desc := "(II)Z" } : Jvm.MethodName)),
  (Jvm.Cond.code ({ cls := "CommitDesk$Transaction", name := "holds", desc := "(II)Z" } : Jvm.MethodName) prog_2_method_18_code (2 : Nat) (Option.some Jvm.ClassFile.FieldType.boolean)),
  (Jvm.Cond.methodLink "CommitDesk" (57 : Nat) ({ cls := "CommitDesk$Transaction", name := "writtenIn", desc := "(II)J" } : Jvm.MethodName)),
  (Jvm.Cond.instanceMethod ({ cls := "CommitDesk$Transaction", name := "writtenIn", desc := "(II)J" } : Jvm.MethodName)),
  (Jvm.Cond.selects "CommitDesk$Transaction" ({ cls := "CommitDesk$Transaction", name := "writtenIn", desc := "(II)J" } : Jvm.MethodName) ({ cls := "CommitDesk$Transaction", name := "writtenIn", desc := "(II)J" } : Jvm.MethodName)),
  (Jvm.Cond.code ({ cls := "CommitDesk$Transaction", name := "writtenIn", desc := "(II)J" } : Jvm.MethodName) prog_2_method_12_code (3 : Nat) (Option.some Jvm.ClassFile.FieldType.long)),
  (Jvm.Cond.methodLink "CommitDesk" (61 : Nat) ({ cls := "CommitDesk$Transaction", name := "isStale", desc := "()Z" } : Jvm.MethodName)),
  (Jvm.Cond.instanceMethod ({ cls := "CommitDesk$Transaction", name := "isStale", desc := "()Z" } : Jvm.MethodName)),
  (Jvm.Cond.selects "CommitDesk$Transaction" ({ cls := "CommitDesk$Transaction", name := "isStale", desc := "()Z" } : Jvm.MethodName) ({ cls := "CommitDesk$Transaction", name := "isStale", desc := "()Z" } : Jvm.MethodName)),
  (Jvm.Cond.code ({ cls := "CommitDesk$Transaction", name := "isStale", desc := "()Z" } : Jvm.MethodName) prog_2_method_3_code (1 : Nat) (Option.some Jvm.ClassFile.FieldType.boolean)),
  (Jvm.Cond.methodLink "CommitDesk" (64 : Nat) ({ cls := "CommitDesk", name := "endStale", desc := "(LCommitDesk$Transaction;)V" } : Jvm.MethodName)),
  (Jvm.Cond.instanceMethod ({ cls := "CommitDesk", name := "endStale", desc := "(LCommitDesk$Transaction;)V" } : Jvm.MethodName)),
  (Jvm.Cond.code ({ cls := "CommitDesk", name := "endStale", desc := "(LCommitDesk$Transaction;)V" } : Jvm.MethodName) prog_1_method_20_code (2 : Nat) (Option.none : Option Jvm.ClassFile.FieldType)),
  (Jvm.Cond.methodLink "CommitDesk" (102 : Nat) ({ cls := "CommitDesk$Transaction", name := "close", desc := "()V" } : Jvm.MethodName))]
def BIG_5 : List Cond := [(Jvm.Cond.instanceMethod ({ cls := "CommitDesk$Transaction", name := "close", desc := "()V" } : Jvm.MethodName)),
  (Jvm.Cond.selects "CommitDesk$Transaction" ({ cls := "CommitDesk$Transaction", name := "close", desc := "()V" } : Jvm.MethodName) ({ cls := "CommitDesk$Transaction", name := "close", desc := "()V" } : Jvm.MethodName)),
  (Jvm.Cond.code ({ cls := "CommitDesk$Transaction", name := "close", desc := "()V" } : Jvm.MethodName) prog_2_method_8_code (1 : Nat) (Option.none : Option Jvm.ClassFile.FieldType)),
  (Jvm.Cond.classLink "CommitDesk" (68 : Nat) "java/lang/UnsupportedOperationException"),
  (Jvm.Cond.instantiable "java/lang/UnsupportedOperationException" (6 : Nat)),
  (Jvm.Cond.selects "java/lang/UnsupportedOperationException" ({ cls := "java/lang/Throwable", name := "fillInStackTrace", desc := "(I)Ljava/lang/Throwable;" } : Jvm.MethodName) ({ cls := "java/lang/Throwable", name := "fillInStackTrace", desc := "(I)Ljava/lang/Throwable;" } : Jvm.MethodName)),
  (Jvm.Cond.lays "java/lang/UnsupportedOperationException" "java/lang/Throwable" "cause" "Ljava/lang/Throwable;"),
  (Jvm.Cond.lays "java/lang/UnsupportedOperationException" "java/lang/Throwable" "stackTrace" "[Ljava/lang/StackTraceElement;"),
  (Jvm.Cond.lays "java/lang/UnsupportedOperationException" "java/lang/Throwable" "suppressedExceptions" "Ljava/util/List;"),
  (Jvm.Cond.lays "java/lang/UnsupportedOperationException" "java/lang/Throwable" "detailMessage" "Ljava/lang/String;"),
  (Jvm.Cond.lays "java/lang/UnsupportedOperationException" "java/lang/Throwable" "backtrace" "Ljava/lang/Object;"),
  (Jvm.Cond.methodLink "CommitDesk" (72 : Nat) ({ cls := "java/lang/UnsupportedOperationException", name := "<init>", desc := "(Ljava/lang/String;)V" } : Jvm.MethodName)),
  (Jvm.Cond.instanceMethod ({ cls := "java/lang/UnsupportedOperationException", name := "<init>", desc := "(Ljava/lang/String;)V" } : Jvm.MethodName)),
  (Jvm.Cond.code ({ cls := "java/lang/UnsupportedOperationException", name := "<init>", desc := "(Ljava/lang/String;)V" } : Jvm.MethodName) prog_13_method_2_code (2 : Nat) (Option.none : Option Jvm.ClassFile.FieldType)),
  (Jvm.Cond.methodLink "java/lang/UnsupportedOperationException" (7 : Nat) ({ cls := "java/lang/RuntimeException", name := "<init>", desc := "(Ljava/lang/String;)V" } : Jvm.MethodName)),
  (Jvm.Cond.lays "java/lang/UnsupportedOperationException" "java/lang/Throwable" "depth" "I"),
  (Jvm.Cond.superclass "java/lang/UnsupportedOperationException" "java/lang/RuntimeException"),
  (Jvm.Cond.methodLink "CommitDesk" (73 : Nat) ({ cls := "CommitDesk$Transaction", name := "markRead", desc := "(I)V" } : Jvm.MethodName)),
  (Jvm.Cond.instanceMethod ({ cls := "CommitDesk$Transaction", name := "markRead", desc := "(I)V" } : Jvm.MethodName)),
  (Jvm.Cond.selects "CommitDesk$Transaction" ({ cls := "CommitDesk$Transaction", name := "markRead", desc := "(I)V" } : Jvm.MethodName) ({ cls := "CommitDesk$Transaction", name := "markRead", desc := "(I)V" } : Jvm.MethodName)),
  (Jvm.Cond.code ({ cls := "CommitDesk$Transaction", name := "markRead", desc := "(I)V" } : Jvm.MethodName) prog_2_method_9_code (2 : Nat) (Option.none : Option Jvm.ClassFile.FieldType)),
  (Jvm.Cond.methodLink "CommitDeskLaw" (84 : Nat) ({ cls := "CommitDeskLaw", name := "write", desc := "(LCommitDesk;IIJ)I" } : Jvm.MethodName)),
  (Jvm.Cond.static ({ cls := "CommitDeskLaw", name := "write", desc := "(LCommitDesk;IIJ)I" } : Jvm.MethodName)),
  (Jvm.Cond.codeWith ({ cls := "CommitDeskLaw", name := "write", desc := "(LCommitDesk;IIJ)I" } : Jvm.MethodName) method_5_code (6 : Nat) (Option.some Jvm.ClassFile.FieldType.int) [((0 : Nat), (7 : Nat), (10 : Nat), (13 : Nat)), ((0 : Nat), (7 : Nat), (14 : Nat), (21 : Nat)), ((0 : Nat), (7 : Nat), (18 : Nat), (15 : Nat))]),
  (Jvm.Cond.methodLink "CommitDeskLaw" (25 : Nat) ({ cls := "CommitDesk", name := "write", desc := "(IIJ)V" } : Jvm.MethodName)),
  (Jvm.Cond.instanceMethod ({ cls := "CommitDesk", name := "write", desc := "(IIJ)V" } : Jvm.MethodName)),
  (Jvm.Cond.selects "CommitDesk" ({ cls := "CommitDesk", name := "write", desc := "(IIJ)V" } : Jvm.MethodName) ({ cls := "CommitDesk", name := "write", desc := "(IIJ)V" } : Jvm.MethodName)),
  (Jvm.Cond.code ({ cls := "CommitDesk", name := "write", desc := "(IIJ)V" } : Jvm.MethodName) prog_1_method_4_code (5 : Nat) (Option.none : Option Jvm.ClassFile.FieldType)),
  (Jvm.Cond.methodLink "CommitDesk" (77 : Nat) ({ cls := "CommitDesk$Transaction", name := "putInLastPart", desc := "(IJ)V" } : Jvm.MethodName)),
  (Jvm.Cond.instanceMethod ({ cls := "CommitDesk$Transaction", name := "putInLastPart", desc := "(IJ)V" } : Jvm.MethodName)),
  (Jvm.Cond.selects "CommitDesk$Transaction" ({ cls := "CommitDesk$Transaction", name := "putInLastPart", desc := "(IJ)V" } : Jvm.MethodName) ({ cls := "CommitDesk$Transaction", name := "putInLastPart", desc := "(IJ)V" } : Jvm.MethodName)),
  (Jvm.Cond.code ({ cls := "CommitDesk$Transaction", name := "putInLastPart", desc := "(IJ)V" } : Jvm.MethodName) prog_2_method_13_code (4 : Nat) (Option.none : Option Jvm.ClassFile.FieldType)),
  (Jvm.Cond.methodLink "CommitDesk$Transaction" (44 : Nat) ({ cls := "CommitDesk$Transaction", name := "putInPart", desc := "(IIJ)V" } : Jvm.MethodName)),
  (Jvm.Cond.instanceMethod ({ cls := "CommitDesk$Transaction", name := "putInPart", desc := "(IIJ)V" } : Jvm.MethodName)),
  (Jvm.Cond.code ({ cls := "CommitDesk$Transaction", name := "putInPart", desc := "(IIJ)V" } : Jvm.MethodName) prog_2_method_17_code (5 : Nat) (Option.none : Option Jvm.ClassFile.FieldType)),
  (Jvm.Cond.methodLink "CommitDeskLaw" (88 : Nat) ({ cls := "CommitDeskLaw", name := "save", desc := "(LCommitDesk;I[J)I" } : Jvm.MethodName)),
  (Jvm.Cond.static ({ cls := "CommitDeskLaw", name := "save", desc := "(LCommitDesk;I[J)I" } : Jvm.MethodName)),
  (Jvm.Cond.codeWith ({ cls := "CommitDeskLaw", name := "save", desc := "(LCommitDesk;I[J)I" } : Jvm.MethodName) method_6_code (4 : Nat) (Option.some Jvm.ClassFile.FieldType.int) [((0 : Nat), (9 : Nat), (12 : Nat), (13 : Nat)), ((0 : Nat), (9 : Nat), (15 : Nat), (15 : Nat)), ((0 : Nat), (9 : Nat), (18 : Nat), (23 : Nat))]),
  (Jvm.Cond.methodLink "CommitDeskLaw" (29 : Nat) ({ cls := "CommitDesk", name := "save", desc := "(I)I" } : Jvm.MethodName)),
  (Jvm.Cond.instanceMethod ({ cls := "CommitDesk", name := "save", desc := "(I)I" } : Jvm.MethodName))]
def BIG_6 : List Cond := [(Jvm.Cond.selects "CommitDesk" ({ cls := "CommitDesk", name := "save", desc := "(I)I" } : Jvm.MethodName) ({ cls := "CommitDesk", name := "save", desc := "(I)I" } : Jvm.MethodName)),
  (Jvm.Cond.code ({ cls := "CommitDesk", name := "save", desc := "(I)I" } : Jvm.MethodName) prog_1_method_5_code (3 : Nat) (Option.some Jvm.ClassFile.FieldType.int)),
  (Jvm.Cond.methodLink "CommitDesk" (84 : Nat) ({ cls := "CommitDesk$Transaction", name := "partCount", desc := "()I" } : Jvm.MethodName)),
  (Jvm.Cond.instanceMethod ({ cls := "CommitDesk$Transaction", name := "partCount", desc := "()I" } : Jvm.MethodName)),
  (Jvm.Cond.selects "CommitDesk$Transaction" ({ cls := "CommitDesk$Transaction", name := "partCount", desc := "()I" } : Jvm.MethodName) ({ cls := "CommitDesk$Transaction", name := "partCount", desc := "()I" } : Jvm.MethodName)),
  (Jvm.Cond.code ({ cls := "CommitDesk$Transaction", name := "partCount", desc := "()I" } : Jvm.MethodName) prog_2_method_4_code (1 : Nat) (Option.some Jvm.ClassFile.FieldType.int)),
  (Jvm.Cond.methodLink "CommitDesk" (90 : Nat) ({ cls := "CommitDesk$Transaction", name := "addPart", desc := "()V" } : Jvm.MethodName)),
  (Jvm.Cond.instanceMethod ({ cls := "CommitDesk$Transaction", name := "addPart", desc := "()V" } : Jvm.MethodName)),
  (Jvm.Cond.selects "CommitDesk$Transaction" ({ cls := "CommitDesk$Transaction", name := "addPart", desc := "()V" } : Jvm.MethodName) ({ cls := "CommitDesk$Transaction", name := "addPart", desc := "()V" } : Jvm.MethodName)),
  (Jvm.Cond.code ({ cls := "CommitDesk$Transaction", name := "addPart", desc := "()V" } : Jvm.MethodName) prog_2_method_14_code (1 : Nat) (Option.none : Option Jvm.ClassFile.FieldType)),
  (Jvm.Cond.methodLink "CommitDeskLaw" (92 : Nat) ({ cls := "CommitDeskLaw", name := "back", desc := "(LCommitDesk;I)I" } : Jvm.MethodName)),
  (Jvm.Cond.static ({ cls := "CommitDeskLaw", name := "back", desc := "(LCommitDesk;I)I" } : Jvm.MethodName)),
  (Jvm.Cond.codeWith ({ cls := "CommitDeskLaw", name := "back", desc := "(LCommitDesk;I)I" } : Jvm.MethodName) method_7_code (3 : Nat) (Option.some Jvm.ClassFile.FieldType.int) [((0 : Nat), (5 : Nat), (8 : Nat), (13 : Nat)), ((0 : Nat), (5 : Nat), (11 : Nat), (15 : Nat)), ((0 : Nat), (5 : Nat), (14 : Nat), (23 : Nat))]),
  (Jvm.Cond.methodLink "CommitDeskLaw" (33 : Nat) ({ cls := "CommitDesk", name := "back", desc := "(I)V" } : Jvm.MethodName)),
  (Jvm.Cond.instanceMethod ({ cls := "CommitDesk", name := "back", desc := "(I)V" } : Jvm.MethodName)),
  (Jvm.Cond.selects "CommitDesk" ({ cls := "CommitDesk", name := "back", desc := "(I)V" } : Jvm.MethodName) ({ cls := "CommitDesk", name := "back", desc := "(I)V" } : Jvm.MethodName)),
  (Jvm.Cond.code ({ cls := "CommitDesk", name := "back", desc := "(I)V" } : Jvm.MethodName) prog_1_method_6_code (2 : Nat) (Option.none : Option Jvm.ClassFile.FieldType)),
  (Jvm.Cond.methodLink "CommitDesk" (93 : Nat) ({ cls := "CommitDesk", name := "transactionWithSeveralParts", desc := "(I)LCommitDesk$Transaction;" } : Jvm.MethodName)),
  (Jvm.Cond.instanceMethod ({ cls := "CommitDesk", name := "transactionWithSeveralParts", desc := "(I)LCommitDesk$Transaction;" } : Jvm.MethodName)),
  (Jvm.Cond.code ({ cls := "CommitDesk", name := "transactionWithSeveralParts", desc := "(I)LCommitDesk$Transaction;" } : Jvm.MethodName) prog_1_method_19_code (3 : Nat) (Option.some (Jvm.ClassFile.FieldType.object "CommitDesk$Transaction"))),
  (Jvm.Cond.methodLink "CommitDesk" (96 : Nat) ({ cls := "CommitDesk$Transaction", name := "dropLastPart", desc := "()V" } : Jvm.MethodName)),
  (Jvm.Cond.instanceMethod ({ cls := "CommitDesk$Transaction", name := "dropLastPart", desc := "()V" } : Jvm.MethodName)),
  (Jvm.Cond.selects "CommitDesk$Transaction" ({ cls := "CommitDesk$Transaction", name := "dropLastPart", desc := "()V" } : Jvm.MethodName) ({ cls := "CommitDesk$Transaction", name := "dropLastPart", desc := "()V" } : Jvm.MethodName)),
  (Jvm.Cond.code ({ cls := "CommitDesk$Transaction", name := "dropLastPart", desc := "()V" } : Jvm.MethodName) prog_2_method_15_code (1 : Nat) (Option.none : Option Jvm.ClassFile.FieldType)),
  (Jvm.Cond.methodLink "CommitDeskLaw" (95 : Nat) ({ cls := "CommitDeskLaw", name := "keep", desc := "(LCommitDesk;I)I" } : Jvm.MethodName)),
  (Jvm.Cond.static ({ cls := "CommitDeskLaw", name := "keep", desc := "(LCommitDesk;I)I" } : Jvm.MethodName)),
  (Jvm.Cond.codeWith ({ cls := "CommitDeskLaw", name := "keep", desc := "(LCommitDesk;I)I" } : Jvm.MethodName) method_8_code (3 : Nat) (Option.some Jvm.ClassFile.FieldType.int) [((0 : Nat), (5 : Nat), (8 : Nat), (13 : Nat)), ((0 : Nat), (5 : Nat), (11 : Nat), (15 : Nat)), ((0 : Nat), (5 : Nat), (14 : Nat), (23 : Nat))]),
  (Jvm.Cond.methodLink "CommitDeskLaw" (36 : Nat) ({ cls := "CommitDesk", name := "keep", desc := "(I)V" } : Jvm.MethodName)),
  (Jvm.Cond.instanceMethod ({ cls := "CommitDesk", name := "keep", desc := "(I)V" } : Jvm.MethodName)),
  (Jvm.Cond.selects "CommitDesk" ({ cls := "CommitDesk", name := "keep", desc := "(I)V" } : Jvm.MethodName) ({ cls := "CommitDesk", name := "keep", desc := "(I)V" } : Jvm.MethodName)),
  (Jvm.Cond.code ({ cls := "CommitDesk", name := "keep", desc := "(I)V" } : Jvm.MethodName) prog_1_method_7_code (2 : Nat) (Option.none : Option Jvm.ClassFile.FieldType)),
  (Jvm.Cond.methodLink "CommitDesk" (99 : Nat) ({ cls := "CommitDesk$Transaction", name := "mergeLastPart", desc := "()V" } : Jvm.MethodName)),
  (Jvm.Cond.instanceMethod ({ cls := "CommitDesk$Transaction", name := "mergeLastPart", desc := "()V" } : Jvm.MethodName)),
  (Jvm.Cond.selects "CommitDesk$Transaction" ({ cls := "CommitDesk$Transaction", name := "mergeLastPart", desc := "()V" } : Jvm.MethodName) ({ cls := "CommitDesk$Transaction", name := "mergeLastPart", desc := "()V" } : Jvm.MethodName)),
  (Jvm.Cond.code ({ cls := "CommitDesk$Transaction", name := "mergeLastPart", desc := "()V" } : Jvm.MethodName) prog_2_method_16_code (3 : Nat) (Option.none : Option Jvm.ClassFile.FieldType)),
  (Jvm.Cond.methodLink "CommitDesk$Transaction" (48 : Nat) ({ cls := "CommitDesk$Transaction", name := "dropLastPart", desc := "()V" } : Jvm.MethodName)),
  (Jvm.Cond.methodLink "CommitDeskLaw" (98 : Nat) ({ cls := "CommitDeskLaw", name := "done", desc := "(LCommitDesk;I[J)I" } : Jvm.MethodName)),
  (Jvm.Cond.static ({ cls := "CommitDeskLaw", name := "done", desc := "(LCommitDesk;I[J)I" } : Jvm.MethodName)),
  (Jvm.Cond.codeWith ({ cls := "CommitDeskLaw", name := "done", desc := "(LCommitDesk;I[J)I" } : Jvm.MethodName) method_9_code (4 : Nat) (Option.some Jvm.ClassFile.FieldType.int) [((0 : Nat), (16 : Nat), (19 : Nat), (13 : Nat)), ((0 : Nat), (16 : Nat), (22 : Nat), (15 : Nat))]),
  (Jvm.Cond.methodLink "CommitDeskLaw" (39 : Nat) ({ cls := "CommitDesk", name := "done", desc := "(I)Z" } : Jvm.MethodName))]
def BIG_7 : List Cond := [(Jvm.Cond.instanceMethod ({ cls := "CommitDesk", name := "done", desc := "(I)Z" } : Jvm.MethodName)),
  (Jvm.Cond.selects "CommitDesk" ({ cls := "CommitDesk", name := "done", desc := "(I)Z" } : Jvm.MethodName) ({ cls := "CommitDesk", name := "done", desc := "(I)Z" } : Jvm.MethodName)),
  (Jvm.Cond.code ({ cls := "CommitDesk", name := "done", desc := "(I)Z" } : Jvm.MethodName) prog_1_method_8_code (5 : Nat) (Option.some Jvm.ClassFile.FieldType.boolean)),
  (Jvm.Cond.methodLink "CommitDesk" (105 : Nat) ({ cls := "CommitDesk", name := "change", desc := "(IJ)V" } : Jvm.MethodName)),
  (Jvm.Cond.instanceMethod ({ cls := "CommitDesk", name := "change", desc := "(IJ)V" } : Jvm.MethodName)),
  (Jvm.Cond.code ({ cls := "CommitDesk", name := "change", desc := "(IJ)V" } : Jvm.MethodName) prog_1_method_21_code (5 : Nat) (Option.none : Option Jvm.ClassFile.FieldType)),
  (Jvm.Cond.methodLink "CommitDesk" (136 : Nat) ({ cls := "CommitDesk$Transaction", name := "noteChange", desc := "(I)V" } : Jvm.MethodName)),
  (Jvm.Cond.instanceMethod ({ cls := "CommitDesk$Transaction", name := "noteChange", desc := "(I)V" } : Jvm.MethodName)),
  (Jvm.Cond.selects "CommitDesk$Transaction" ({ cls := "CommitDesk$Transaction", name := "noteChange", desc := "(I)V" } : Jvm.MethodName) ({ cls := "CommitDesk$Transaction", name := "noteChange", desc := "(I)V" } : Jvm.MethodName)),
  (Jvm.Cond.code ({ cls := "CommitDesk$Transaction", name := "noteChange", desc := "(I)V" } : Jvm.MethodName) prog_2_method_10_code (2 : Nat) (Option.none : Option Jvm.ClassFile.FieldType)),
  (Jvm.Cond.methodLink "CommitDeskLaw" (101 : Nat) ({ cls := "CommitDeskLaw", name := "leave", desc := "(LCommitDesk;I)I" } : Jvm.MethodName)),
  (Jvm.Cond.static ({ cls := "CommitDeskLaw", name := "leave", desc := "(LCommitDesk;I)I" } : Jvm.MethodName)),
  (Jvm.Cond.codeWith ({ cls := "CommitDeskLaw", name := "leave", desc := "(LCommitDesk;I)I" } : Jvm.MethodName) method_10_code (3 : Nat) (Option.some Jvm.ClassFile.FieldType.int) [((0 : Nat), (5 : Nat), (8 : Nat), (13 : Nat)), ((0 : Nat), (5 : Nat), (11 : Nat), (15 : Nat))]),
  (Jvm.Cond.methodLink "CommitDeskLaw" (43 : Nat) ({ cls := "CommitDesk", name := "leave", desc := "(I)V" } : Jvm.MethodName)),
  (Jvm.Cond.instanceMethod ({ cls := "CommitDesk", name := "leave", desc := "(I)V" } : Jvm.MethodName)),
  (Jvm.Cond.selects "CommitDesk" ({ cls := "CommitDesk", name := "leave", desc := "(I)V" } : Jvm.MethodName) ({ cls := "CommitDesk", name := "leave", desc := "(I)V" } : Jvm.MethodName)),
  (Jvm.Cond.code ({ cls := "CommitDesk", name := "leave", desc := "(I)V" } : Jvm.MethodName) prog_1_method_9_code (2 : Nat) (Option.none : Option Jvm.ClassFile.FieldType)),
  (Jvm.Cond.methodLink "CommitDeskLaw" (104 : Nat) ({ cls := "CommitDeskLaw", name := "set", desc := "(LCommitDesk;IJ)I" } : Jvm.MethodName)),
  (Jvm.Cond.static ({ cls := "CommitDeskLaw", name := "set", desc := "(LCommitDesk;IJ)I" } : Jvm.MethodName)),
  (Jvm.Cond.codeWith ({ cls := "CommitDeskLaw", name := "set", desc := "(LCommitDesk;IJ)I" } : Jvm.MethodName) method_11_code (5 : Nat) (Option.some Jvm.ClassFile.FieldType.int) [((0 : Nat), (6 : Nat), (9 : Nat), (21 : Nat))]),
  (Jvm.Cond.methodLink "CommitDeskLaw" (46 : Nat) ({ cls := "CommitDesk", name := "set", desc := "(IJ)V" } : Jvm.MethodName)),
  (Jvm.Cond.instanceMethod ({ cls := "CommitDesk", name := "set", desc := "(IJ)V" } : Jvm.MethodName)),
  (Jvm.Cond.selects "CommitDesk" ({ cls := "CommitDesk", name := "set", desc := "(IJ)V" } : Jvm.MethodName) ({ cls := "CommitDesk", name := "set", desc := "(IJ)V" } : Jvm.MethodName)),
  (Jvm.Cond.code ({ cls := "CommitDesk", name := "set", desc := "(IJ)V" } : Jvm.MethodName) prog_1_method_10_code (4 : Nat) (Option.none : Option Jvm.ClassFile.FieldType)),
  (Jvm.Cond.methodLink "CommitDeskLaw" (108 : Nat) ({ cls := "CommitDeskLaw", name := "cell", desc := "(LCommitDesk;I[J)I" } : Jvm.MethodName)),
  (Jvm.Cond.static ({ cls := "CommitDeskLaw", name := "cell", desc := "(LCommitDesk;I[J)I" } : Jvm.MethodName)),
  (Jvm.Cond.codeWith ({ cls := "CommitDeskLaw", name := "cell", desc := "(LCommitDesk;I[J)I" } : Jvm.MethodName) method_12_code (4 : Nat) (Option.some Jvm.ClassFile.FieldType.int) [((0 : Nat), (8 : Nat), (11 : Nat), (21 : Nat))]),
  (Jvm.Cond.methodLink "CommitDeskLaw" (50 : Nat) ({ cls := "CommitDesk", name := "cell", desc := "(I)J" } : Jvm.MethodName)),
  (Jvm.Cond.instanceMethod ({ cls := "CommitDesk", name := "cell", desc := "(I)J" } : Jvm.MethodName)),
  (Jvm.Cond.selects "CommitDesk" ({ cls := "CommitDesk", name := "cell", desc := "(I)J" } : Jvm.MethodName) ({ cls := "CommitDesk", name := "cell", desc := "(I)J" } : Jvm.MethodName)),
  (Jvm.Cond.code ({ cls := "CommitDesk", name := "cell", desc := "(I)J" } : Jvm.MethodName) prog_1_method_11_code (2 : Nat) (Option.some Jvm.ClassFile.FieldType.long)),
  (Jvm.Cond.methodLink "CommitDeskLaw" (111 : Nat) ({ cls := "CommitDeskLaw", name := "changed", desc := "(LCommitDesk;I[J)I" } : Jvm.MethodName)),
  (Jvm.Cond.static ({ cls := "CommitDeskLaw", name := "changed", desc := "(LCommitDesk;I[J)I" } : Jvm.MethodName)),
  (Jvm.Cond.codeWith ({ cls := "CommitDeskLaw", name := "changed", desc := "(LCommitDesk;I[J)I" } : Jvm.MethodName) method_13_code (4 : Nat) (Option.some Jvm.ClassFile.FieldType.int) [((0 : Nat), (9 : Nat), (12 : Nat), (21 : Nat))]),
  (Jvm.Cond.methodLink "CommitDeskLaw" (54 : Nat) ({ cls := "CommitDesk", name := "changed", desc := "(I)I" } : Jvm.MethodName)),
  (Jvm.Cond.instanceMethod ({ cls := "CommitDesk", name := "changed", desc := "(I)I" } : Jvm.MethodName)),
  (Jvm.Cond.selects "CommitDesk" ({ cls := "CommitDesk", name := "changed", desc := "(I)I" } : Jvm.MethodName) ({ cls := "CommitDesk", name := "changed", desc := "(I)I" } : Jvm.MethodName)),
  (Jvm.Cond.code ({ cls := "CommitDesk", name := "changed", desc := "(I)I" } : Jvm.MethodName) prog_1_method_12_code (2 : Nat) (Option.some Jvm.ClassFile.FieldType.int)),
  (Jvm.Cond.methodLink "CommitDeskLaw" (114 : Nat) ({ cls := "CommitDeskLaw", name := "count", desc := "(LCommitDesk;II[J)I" } : Jvm.MethodName)),
  (Jvm.Cond.static ({ cls := "CommitDeskLaw", name := "count", desc := "(LCommitDesk;II[J)I" } : Jvm.MethodName))]
def BIG_8 : List Cond := [(Jvm.Cond.codeWith ({ cls := "CommitDeskLaw", name := "count", desc := "(LCommitDesk;II[J)I" } : Jvm.MethodName) method_14_code (5 : Nat) (Option.some Jvm.ClassFile.FieldType.int) [((0 : Nat), (10 : Nat), (13 : Nat), (13 : Nat)), ((0 : Nat), (10 : Nat), (17 : Nat), (15 : Nat))]),
  (Jvm.Cond.methodLink "CommitDeskLaw" (57 : Nat) ({ cls := "CommitDesk", name := "count", desc := "(II)I" } : Jvm.MethodName)),
  (Jvm.Cond.instanceMethod ({ cls := "CommitDesk", name := "count", desc := "(II)I" } : Jvm.MethodName)),
  (Jvm.Cond.selects "CommitDesk" ({ cls := "CommitDesk", name := "count", desc := "(II)I" } : Jvm.MethodName) ({ cls := "CommitDesk", name := "count", desc := "(II)I" } : Jvm.MethodName)),
  (Jvm.Cond.code ({ cls := "CommitDesk", name := "count", desc := "(II)I" } : Jvm.MethodName) prog_1_method_13_code (4 : Nat) (Option.some Jvm.ClassFile.FieldType.int)),
  (Jvm.Cond.methodLink "CommitDesk" (116 : Nat) ({ cls := "CommitDesk$Transaction", name := "readCount", desc := "()I" } : Jvm.MethodName)),
  (Jvm.Cond.instanceMethod ({ cls := "CommitDesk$Transaction", name := "readCount", desc := "()I" } : Jvm.MethodName)),
  (Jvm.Cond.selects "CommitDesk$Transaction" ({ cls := "CommitDesk$Transaction", name := "readCount", desc := "()I" } : Jvm.MethodName) ({ cls := "CommitDesk$Transaction", name := "readCount", desc := "()I" } : Jvm.MethodName)),
  (Jvm.Cond.code ({ cls := "CommitDesk$Transaction", name := "readCount", desc := "()I" } : Jvm.MethodName) prog_2_method_5_code (1 : Nat) (Option.some Jvm.ClassFile.FieldType.int)),
  (Jvm.Cond.methodLink "CommitDesk$Transaction" (34 : Nat) ({ cls := "java/lang/Integer", name := "bitCount", desc := "(I)I" } : Jvm.MethodName)),
  (Jvm.Cond.static ({ cls := "java/lang/Integer", name := "bitCount", desc := "(I)I" } : Jvm.MethodName)),
  (Jvm.Cond.code ({ cls := "java/lang/Integer", name := "bitCount", desc := "(I)I" } : Jvm.MethodName) prog_9_method_49_code (1 : Nat) (Option.some Jvm.ClassFile.FieldType.int)),
  (Jvm.Cond.constant "java/lang/Integer" (265 : Nat) (1431655765 : Int32)),
  (Jvm.Cond.constant "java/lang/Integer" (266 : Nat) (858993459 : Int32)),
  (Jvm.Cond.constant "java/lang/Integer" (267 : Nat) (252645135 : Int32)),
  (Jvm.Cond.methodLink "CommitDesk" (119 : Nat) ({ cls := "CommitDesk$Transaction", name := "writtenCount", desc := "()I" } : Jvm.MethodName)),
  (Jvm.Cond.instanceMethod ({ cls := "CommitDesk$Transaction", name := "writtenCount", desc := "()I" } : Jvm.MethodName)),
  (Jvm.Cond.selects "CommitDesk$Transaction" ({ cls := "CommitDesk$Transaction", name := "writtenCount", desc := "()I" } : Jvm.MethodName) ({ cls := "CommitDesk$Transaction", name := "writtenCount", desc := "()I" } : Jvm.MethodName)),
  (Jvm.Cond.code ({ cls := "CommitDesk$Transaction", name := "writtenCount", desc := "()I" } : Jvm.MethodName) prog_2_method_6_code (3 : Nat) (Option.some Jvm.ClassFile.FieldType.int)),
  (Jvm.Cond.methodLink "CommitDeskLaw" (117 : Nat) ({ cls := "CommitDeskLaw", name := "all", desc := "(LCommitDesk;I[J)I" } : Jvm.MethodName)),
  (Jvm.Cond.static ({ cls := "CommitDeskLaw", name := "all", desc := "(LCommitDesk;I[J)I" } : Jvm.MethodName)),
  (Jvm.Cond.codeWith ({ cls := "CommitDeskLaw", name := "all", desc := "(LCommitDesk;I[J)I" } : Jvm.MethodName) method_15_code (4 : Nat) (Option.some Jvm.ClassFile.FieldType.int) [((0 : Nat), (9 : Nat), (12 : Nat), (13 : Nat))]),
  (Jvm.Cond.methodLink "CommitDeskLaw" (61 : Nat) ({ cls := "CommitDesk", name := "all", desc := "(I)I" } : Jvm.MethodName)),
  (Jvm.Cond.instanceMethod ({ cls := "CommitDesk", name := "all", desc := "(I)I" } : Jvm.MethodName)),
  (Jvm.Cond.selects "CommitDesk" ({ cls := "CommitDesk", name := "all", desc := "(I)I" } : Jvm.MethodName) ({ cls := "CommitDesk", name := "all", desc := "(I)I" } : Jvm.MethodName)),
  (Jvm.Cond.code ({ cls := "CommitDesk", name := "all", desc := "(I)I" } : Jvm.MethodName) prog_1_method_14_code (2 : Nat) (Option.some Jvm.ClassFile.FieldType.int)),
  (Jvm.Cond.methodLink "CommitDesk" (122 : Nat) ({ cls := "CommitDesk", name := "openTotal", desc := "()I" } : Jvm.MethodName)),
  (Jvm.Cond.instanceMethod ({ cls := "CommitDesk", name := "openTotal", desc := "()I" } : Jvm.MethodName)),
  (Jvm.Cond.code ({ cls := "CommitDesk", name := "openTotal", desc := "()I" } : Jvm.MethodName) prog_1_method_22_code (3 : Nat) (Option.some Jvm.ClassFile.FieldType.int)),
  (Jvm.Cond.classLink "CommitDeskLaw" (65 : Nat) "CommitDeskModel"),
  (Jvm.Cond.instantiable "CommitDeskModel" (11 : Nat)),
  (Jvm.Cond.methodLink "CommitDeskLaw" (67 : Nat) ({ cls := "CommitDeskModel", name := "<init>", desc := "()V" } : Jvm.MethodName)),
  (Jvm.Cond.instanceMethod ({ cls := "CommitDeskModel", name := "<init>", desc := "()V" } : Jvm.MethodName)),
  (Jvm.Cond.code ({ cls := "CommitDeskModel", name := "<init>", desc := "()V" } : Jvm.MethodName) prog_4_method_1_code (1 : Nat) (Option.none : Option Jvm.ClassFile.FieldType)),
  (Jvm.Cond.methodLink "CommitDeskModel" (1 : Nat) ({ cls := "java/lang/Object", name := "<init>", desc := "()V" } : Jvm.MethodName)),
  (Jvm.Cond.fieldLink "CommitDeskModel" (36 : Nat) "CommitDeskModel" "err" "I"),
  (Jvm.Cond.fieldLink "CommitDeskModel" (9 : Nat) "CommitDeskModel" "cells" "[J"),
  (Jvm.Cond.fieldLink "CommitDeskModel" (13 : Nat) "CommitDeskModel" "wrote" "[J"),
  (Jvm.Cond.fieldLink "CommitDeskModel" (16 : Nat) "CommitDeskModel" "changes" "[I"),
  (Jvm.Cond.fieldLink "CommitDeskModel" (20 : Nat) "CommitDeskModel" "parts" "[I")]
def BIG_9 : List Cond := [(Jvm.Cond.fieldLink "CommitDeskModel" (23 : Nat) "CommitDeskModel" "seen" "[I"),
  (Jvm.Cond.fieldLink "CommitDeskModel" (26 : Nat) "CommitDeskModel" "has" "[Z"),
  (Jvm.Cond.fieldLink "CommitDeskModel" (30 : Nat) "CommitDeskModel" "read" "[Z"),
  (Jvm.Cond.fieldLink "CommitDeskModel" (33 : Nat) "CommitDeskModel" "open" "[Z"),
  (Jvm.Cond.fieldLink "CommitDeskModel" (77 : Nat) "CommitDeskModel" "done" "I"),
  (Jvm.Cond.fieldLink "CommitDeskModel" (66 : Nat) "CommitDeskModel" "stale" "I"),
  (Jvm.Cond.lays "CommitDeskModel" "CommitDeskModel" "err" "I"),
  (Jvm.Cond.laysFinal "CommitDeskModel" "CommitDeskModel" "cells" "[J"),
  (Jvm.Cond.laysFinal "CommitDeskModel" "CommitDeskModel" "wrote" "[J"),
  (Jvm.Cond.laysFinal "CommitDeskModel" "CommitDeskModel" "changes" "[I"),
  (Jvm.Cond.laysFinal "CommitDeskModel" "CommitDeskModel" "parts" "[I"),
  (Jvm.Cond.laysFinal "CommitDeskModel" "CommitDeskModel" "seen" "[I"),
  (Jvm.Cond.laysFinal "CommitDeskModel" "CommitDeskModel" "has" "[Z"),
  (Jvm.Cond.laysFinal "CommitDeskModel" "CommitDeskModel" "read" "[Z"),
  (Jvm.Cond.laysFinal "CommitDeskModel" "CommitDeskModel" "open" "[Z"),
  (Jvm.Cond.lays "CommitDeskModel" "CommitDeskModel" "done" "I"),
  (Jvm.Cond.lays "CommitDeskModel" "CommitDeskModel" "stale" "I"),
  (Jvm.Cond.superclass "CommitDeskModel" "java/lang/Object"),
  (Jvm.Cond.arrayClass Jvm.ClassFile.FieldType.boolean),
  (Jvm.Cond.methodLink "CommitDeskLaw" (74 : Nat) ({ cls := "CommitDeskModel", name := "thrown", desc := "()I" } : Jvm.MethodName)),
  (Jvm.Cond.instanceMethod ({ cls := "CommitDeskModel", name := "thrown", desc := "()I" } : Jvm.MethodName)),
  (Jvm.Cond.selects "CommitDeskModel" ({ cls := "CommitDeskModel", name := "thrown", desc := "()I" } : Jvm.MethodName) ({ cls := "CommitDeskModel", name := "thrown", desc := "()I" } : Jvm.MethodName)),
  (Jvm.Cond.code ({ cls := "CommitDeskModel", name := "thrown", desc := "()I" } : Jvm.MethodName) prog_4_method_2_code (1 : Nat) (Option.some Jvm.ClassFile.FieldType.int)),
  (Jvm.Cond.methodLink "CommitDeskLaw" (73 : Nat) ({ cls := "CommitDeskModel", name := "begin", desc := "(I)V" } : Jvm.MethodName)),
  (Jvm.Cond.instanceMethod ({ cls := "CommitDeskModel", name := "begin", desc := "(I)V" } : Jvm.MethodName)),
  (Jvm.Cond.selects "CommitDeskModel" ({ cls := "CommitDeskModel", name := "begin", desc := "(I)V" } : Jvm.MethodName) ({ cls := "CommitDeskModel", name := "begin", desc := "(I)V" } : Jvm.MethodName)),
  (Jvm.Cond.code ({ cls := "CommitDeskModel", name := "begin", desc := "(I)V" } : Jvm.MethodName) prog_4_method_10_code (3 : Nat) (Option.none : Option Jvm.ClassFile.FieldType)),
  (Jvm.Cond.methodLink "CommitDeskModel" (48 : Nat) ({ cls := "CommitDeskModel", name := "isOne", desc := "(I)Z" } : Jvm.MethodName)),
  (Jvm.Cond.static ({ cls := "CommitDeskModel", name := "isOne", desc := "(I)Z" } : Jvm.MethodName)),
  (Jvm.Cond.code ({ cls := "CommitDeskModel", name := "isOne", desc := "(I)Z" } : Jvm.MethodName) prog_4_method_5_code (1 : Nat) (Option.some Jvm.ClassFile.FieldType.boolean)),
  (Jvm.Cond.constantLong "CommitDeskModel" (40 : Nat) (7 : Int64)),
  (Jvm.Cond.methodLink "CommitDeskModel" (42 : Nat) ({ cls := "CommitDeskModel", name := "in", desc := "(JJJ)Z" } : Jvm.MethodName)),
  (Jvm.Cond.static ({ cls := "CommitDeskModel", name := "in", desc := "(JJJ)Z" } : Jvm.MethodName)),
  (Jvm.Cond.code ({ cls := "CommitDeskModel", name := "in", desc := "(JJJ)Z" } : Jvm.MethodName) prog_4_method_3_code (6 : Nat) (Option.some Jvm.ClassFile.FieldType.boolean)),
  (Jvm.Cond.methodLink "CommitDeskModel" (52 : Nat) ({ cls := "CommitDeskModel", name := "fails", desc := "(ZI)Z" } : Jvm.MethodName)),
  (Jvm.Cond.instanceMethod ({ cls := "CommitDeskModel", name := "fails", desc := "(ZI)Z" } : Jvm.MethodName)),
  (Jvm.Cond.code ({ cls := "CommitDeskModel", name := "fails", desc := "(ZI)Z" } : Jvm.MethodName) prog_4_method_4_code (3 : Nat) (Option.some Jvm.ClassFile.FieldType.boolean)),
  (Jvm.Cond.methodLink "CommitDeskModel" (56 : Nat) ({ cls := "CommitDeskModel", name := "last", desc := "(II)I" } : Jvm.MethodName)),
  (Jvm.Cond.instanceMethod ({ cls := "CommitDeskModel", name := "last", desc := "(II)I" } : Jvm.MethodName)),
  (Jvm.Cond.code ({ cls := "CommitDeskModel", name := "last", desc := "(II)I" } : Jvm.MethodName) prog_4_method_7_code (3 : Nat) (Option.some Jvm.ClassFile.FieldType.int))]
def BIG_10 : List Cond := [(Jvm.Cond.methodLink "CommitDeskLaw" (81 : Nat) ({ cls := "CommitDeskModel", name := "read", desc := "(II)J" } : Jvm.MethodName)),
  (Jvm.Cond.instanceMethod ({ cls := "CommitDeskModel", name := "read", desc := "(II)J" } : Jvm.MethodName)),
  (Jvm.Cond.selects "CommitDeskModel" ({ cls := "CommitDeskModel", name := "read", desc := "(II)J" } : Jvm.MethodName) ({ cls := "CommitDeskModel", name := "read", desc := "(II)J" } : Jvm.MethodName)),
  (Jvm.Cond.code ({ cls := "CommitDeskModel", name := "read", desc := "(II)J" } : Jvm.MethodName) prog_4_method_11_code (3 : Nat) (Option.some Jvm.ClassFile.FieldType.long)),
  (Jvm.Cond.methodLink "CommitDeskModel" (60 : Nat) ({ cls := "CommitDeskModel", name := "isCell", desc := "(I)Z" } : Jvm.MethodName)),
  (Jvm.Cond.static ({ cls := "CommitDeskModel", name := "isCell", desc := "(I)Z" } : Jvm.MethodName)),
  (Jvm.Cond.code ({ cls := "CommitDeskModel", name := "isCell", desc := "(I)Z" } : Jvm.MethodName) prog_4_method_6_code (1 : Nat) (Option.some Jvm.ClassFile.FieldType.boolean)),
  (Jvm.Cond.constantLong "CommitDeskModel" (46 : Nat) (31 : Int64)),
  (Jvm.Cond.methodLink "CommitDeskModel" (63 : Nat) ({ cls := "CommitDeskModel", name := "isStale", desc := "(I)Z" } : Jvm.MethodName)),
  (Jvm.Cond.instanceMethod ({ cls := "CommitDeskModel", name := "isStale", desc := "(I)Z" } : Jvm.MethodName)),
  (Jvm.Cond.code ({ cls := "CommitDeskModel", name := "isStale", desc := "(I)Z" } : Jvm.MethodName) prog_4_method_8_code (3 : Nat) (Option.some Jvm.ClassFile.FieldType.boolean)),
  (Jvm.Cond.methodLink "CommitDeskLaw" (87 : Nat) ({ cls := "CommitDeskModel", name := "write", desc := "(IIJ)V" } : Jvm.MethodName)),
  (Jvm.Cond.instanceMethod ({ cls := "CommitDeskModel", name := "write", desc := "(IIJ)V" } : Jvm.MethodName)),
  (Jvm.Cond.selects "CommitDeskModel" ({ cls := "CommitDeskModel", name := "write", desc := "(IIJ)V" } : Jvm.MethodName) ({ cls := "CommitDeskModel", name := "write", desc := "(IIJ)V" } : Jvm.MethodName)),
  (Jvm.Cond.code ({ cls := "CommitDeskModel", name := "write", desc := "(IIJ)V" } : Jvm.MethodName) prog_4_method_12_code (5 : Nat) (Option.none : Option Jvm.ClassFile.FieldType)),
  (Jvm.Cond.methodLink "CommitDeskLaw" (91 : Nat) ({ cls := "CommitDeskModel", name := "save", desc := "(I)I" } : Jvm.MethodName)),
  (Jvm.Cond.instanceMethod ({ cls := "CommitDeskModel", name := "save", desc := "(I)I" } : Jvm.MethodName)),
  (Jvm.Cond.selects "CommitDeskModel" ({ cls := "CommitDeskModel", name := "save", desc := "(I)I" } : Jvm.MethodName) ({ cls := "CommitDeskModel", name := "save", desc := "(I)I" } : Jvm.MethodName)),
  (Jvm.Cond.code ({ cls := "CommitDeskModel", name := "save", desc := "(I)I" } : Jvm.MethodName) prog_4_method_14_code (2 : Nat) (Option.some Jvm.ClassFile.FieldType.int)),
  (Jvm.Cond.methodLink "CommitDeskModel" (69 : Nat) ({ cls := "CommitDeskModel", name := "copy", desc := "(II)V" } : Jvm.MethodName)),
  (Jvm.Cond.instanceMethod ({ cls := "CommitDeskModel", name := "copy", desc := "(II)V" } : Jvm.MethodName)),
  (Jvm.Cond.code ({ cls := "CommitDeskModel", name := "copy", desc := "(II)V" } : Jvm.MethodName) prog_4_method_13_code (4 : Nat) (Option.none : Option Jvm.ClassFile.FieldType)),
  (Jvm.Cond.methodLink "CommitDeskLaw" (94 : Nat) ({ cls := "CommitDeskModel", name := "back", desc := "(I)V" } : Jvm.MethodName)),
  (Jvm.Cond.instanceMethod ({ cls := "CommitDeskModel", name := "back", desc := "(I)V" } : Jvm.MethodName)),
  (Jvm.Cond.selects "CommitDeskModel" ({ cls := "CommitDeskModel", name := "back", desc := "(I)V" } : Jvm.MethodName) ({ cls := "CommitDeskModel", name := "back", desc := "(I)V" } : Jvm.MethodName)),
  (Jvm.Cond.code ({ cls := "CommitDeskModel", name := "back", desc := "(I)V" } : Jvm.MethodName) prog_4_method_15_code (2 : Nat) (Option.none : Option Jvm.ClassFile.FieldType)),
  (Jvm.Cond.methodLink "CommitDeskLaw" (97 : Nat) ({ cls := "CommitDeskModel", name := "keep", desc := "(I)V" } : Jvm.MethodName)),
  (Jvm.Cond.instanceMethod ({ cls := "CommitDeskModel", name := "keep", desc := "(I)V" } : Jvm.MethodName)),
  (Jvm.Cond.selects "CommitDeskModel" ({ cls := "CommitDeskModel", name := "keep", desc := "(I)V" } : Jvm.MethodName) ({ cls := "CommitDeskModel", name := "keep", desc := "(I)V" } : Jvm.MethodName)),
  (Jvm.Cond.code ({ cls := "CommitDeskModel", name := "keep", desc := "(I)V" } : Jvm.MethodName) prog_4_method_16_code (2 : Nat) (Option.none : Option Jvm.ClassFile.FieldType)),
  (Jvm.Cond.methodLink "CommitDeskLaw" (100 : Nat) ({ cls := "CommitDeskModel", name := "done", desc := "(I)Z" } : Jvm.MethodName)),
  (Jvm.Cond.instanceMethod ({ cls := "CommitDeskModel", name := "done", desc := "(I)Z" } : Jvm.MethodName)),
  (Jvm.Cond.selects "CommitDeskModel" ({ cls := "CommitDeskModel", name := "done", desc := "(I)Z" } : Jvm.MethodName) ({ cls := "CommitDeskModel", name := "done", desc := "(I)Z" } : Jvm.MethodName)),
  (Jvm.Cond.code ({ cls := "CommitDeskModel", name := "done", desc := "(I)Z" } : Jvm.MethodName) prog_4_method_17_code (3 : Nat) (Option.some Jvm.ClassFile.FieldType.boolean)),
  (Jvm.Cond.methodLink "CommitDeskModel" (73 : Nat) ({ cls := "CommitDeskModel", name := "change", desc := "(IJ)V" } : Jvm.MethodName)),
  (Jvm.Cond.instanceMethod ({ cls := "CommitDeskModel", name := "change", desc := "(IJ)V" } : Jvm.MethodName)),
  (Jvm.Cond.code ({ cls := "CommitDeskModel", name := "change", desc := "(IJ)V" } : Jvm.MethodName) prog_4_method_9_code (4 : Nat) (Option.none : Option Jvm.ClassFile.FieldType)),
  (Jvm.Cond.methodLink "CommitDeskLaw" (103 : Nat) ({ cls := "CommitDeskModel", name := "leave", desc := "(I)V" } : Jvm.MethodName)),
  (Jvm.Cond.instanceMethod ({ cls := "CommitDeskModel", name := "leave", desc := "(I)V" } : Jvm.MethodName)),
  (Jvm.Cond.selects "CommitDeskModel" ({ cls := "CommitDeskModel", name := "leave", desc := "(I)V" } : Jvm.MethodName) ({ cls := "CommitDeskModel", name := "leave", desc := "(I)V" } : Jvm.MethodName))]
def BIG_11 : List Cond := [(Jvm.Cond.code ({ cls := "CommitDeskModel", name := "leave", desc := "(I)V" } : Jvm.MethodName) prog_4_method_18_code (2 : Nat) (Option.none : Option Jvm.ClassFile.FieldType)),
  (Jvm.Cond.methodLink "CommitDeskLaw" (107 : Nat) ({ cls := "CommitDeskModel", name := "set", desc := "(IJ)V" } : Jvm.MethodName)),
  (Jvm.Cond.instanceMethod ({ cls := "CommitDeskModel", name := "set", desc := "(IJ)V" } : Jvm.MethodName)),
  (Jvm.Cond.selects "CommitDeskModel" ({ cls := "CommitDeskModel", name := "set", desc := "(IJ)V" } : Jvm.MethodName) ({ cls := "CommitDeskModel", name := "set", desc := "(IJ)V" } : Jvm.MethodName)),
  (Jvm.Cond.code ({ cls := "CommitDeskModel", name := "set", desc := "(IJ)V" } : Jvm.MethodName) prog_4_method_19_code (4 : Nat) (Option.none : Option Jvm.ClassFile.FieldType)),
  (Jvm.Cond.methodLink "CommitDeskLaw" (110 : Nat) ({ cls := "CommitDeskModel", name := "cell", desc := "(I)J" } : Jvm.MethodName)),
  (Jvm.Cond.instanceMethod ({ cls := "CommitDeskModel", name := "cell", desc := "(I)J" } : Jvm.MethodName)),
  (Jvm.Cond.selects "CommitDeskModel" ({ cls := "CommitDeskModel", name := "cell", desc := "(I)J" } : Jvm.MethodName) ({ cls := "CommitDeskModel", name := "cell", desc := "(I)J" } : Jvm.MethodName)),
  (Jvm.Cond.code ({ cls := "CommitDeskModel", name := "cell", desc := "(I)J" } : Jvm.MethodName) prog_4_method_20_code (2 : Nat) (Option.some Jvm.ClassFile.FieldType.long)),
  (Jvm.Cond.methodLink "CommitDeskLaw" (113 : Nat) ({ cls := "CommitDeskModel", name := "changed", desc := "(I)I" } : Jvm.MethodName)),
  (Jvm.Cond.instanceMethod ({ cls := "CommitDeskModel", name := "changed", desc := "(I)I" } : Jvm.MethodName)),
  (Jvm.Cond.selects "CommitDeskModel" ({ cls := "CommitDeskModel", name := "changed", desc := "(I)I" } : Jvm.MethodName) ({ cls := "CommitDeskModel", name := "changed", desc := "(I)I" } : Jvm.MethodName)),
  (Jvm.Cond.code ({ cls := "CommitDeskModel", name := "changed", desc := "(I)I" } : Jvm.MethodName) prog_4_method_21_code (2 : Nat) (Option.some Jvm.ClassFile.FieldType.int)),
  (Jvm.Cond.methodLink "CommitDeskLaw" (116 : Nat) ({ cls := "CommitDeskModel", name := "count", desc := "(II)I" } : Jvm.MethodName)),
  (Jvm.Cond.instanceMethod ({ cls := "CommitDeskModel", name := "count", desc := "(II)I" } : Jvm.MethodName)),
  (Jvm.Cond.selects "CommitDeskModel" ({ cls := "CommitDeskModel", name := "count", desc := "(II)I" } : Jvm.MethodName) ({ cls := "CommitDeskModel", name := "count", desc := "(II)I" } : Jvm.MethodName)),
  (Jvm.Cond.code ({ cls := "CommitDeskModel", name := "count", desc := "(II)I" } : Jvm.MethodName) prog_4_method_22_code (5 : Nat) (Option.some Jvm.ClassFile.FieldType.int)),
  (Jvm.Cond.constantLong "CommitDeskModel" (80 : Nat) (3 : Int64)),
  (Jvm.Cond.methodLink "CommitDeskLaw" (119 : Nat) ({ cls := "CommitDeskModel", name := "all", desc := "(I)I" } : Jvm.MethodName)),
  (Jvm.Cond.instanceMethod ({ cls := "CommitDeskModel", name := "all", desc := "(I)I" } : Jvm.MethodName)),
  (Jvm.Cond.selects "CommitDeskModel" ({ cls := "CommitDeskModel", name := "all", desc := "(I)I" } : Jvm.MethodName) ({ cls := "CommitDeskModel", name := "all", desc := "(I)I" } : Jvm.MethodName)),
  (Jvm.Cond.code ({ cls := "CommitDeskModel", name := "all", desc := "(I)I" } : Jvm.MethodName) prog_4_method_23_code (4 : Nat) (Option.some Jvm.ClassFile.FieldType.int)),
  (Jvm.Cond.constantLong "CommitDeskModel" (82 : Nat) (2 : Int64)),
  (Jvm.Cond.constantLong "CommitDeskLaw" (82 : Nat) (4294967295 : Int64))]
def BIG : List Cond := BIG_0 ++ (BIG_1 ++ (BIG_2 ++ (BIG_3 ++ (BIG_4 ++ (BIG_5 ++ (BIG_6 ++ (BIG_7 ++ (BIG_8 ++ (BIG_9 ++ (BIG_10 ++ (BIG_11)))))))))))
theorem BIG_g0 : BIG_0.all goodWord = true := by decide +kernel
theorem BIG_g1 : BIG_1.all goodWord = true := by decide +kernel
theorem BIG_g2 : BIG_2.all goodWord = true := by decide +kernel
theorem BIG_g3 : BIG_3.all goodWord = true := by decide +kernel
theorem BIG_g4 : BIG_4.all goodWord = true := by decide +kernel
theorem BIG_g5 : BIG_5.all goodWord = true := by decide +kernel
theorem BIG_g6 : BIG_6.all goodWord = true := by decide +kernel
theorem BIG_g7 : BIG_7.all goodWord = true := by decide +kernel
theorem BIG_g8 : BIG_8.all goodWord = true := by decide +kernel
theorem BIG_g9 : BIG_9.all goodWord = true := by decide +kernel
theorem BIG_g10 : BIG_10.all goodWord = true := by decide +kernel
theorem BIG_g11 : BIG_11.all goodWord = true := by decide +kernel
theorem bw_0 : (Jvm.Cond.selects "CommitDesk" ({ cls := "CommitDesk", name := "transactionOf", desc := "(I)LCommitDesk$Transaction;" } : Jvm.MethodName) ({ cls := "CommitDesk", name := "transactionOf", desc := "(I)LCommitDesk$Transaction;" } : Jvm.MethodName)) ∈ BIG := List.mem_append_left _ (List.mem_of_getElem? (i := 0) rfl)
theorem bw_1 : (Jvm.Cond.selects "java/lang/Throwable" ({ cls := "java/lang/Throwable", name := "fillInStackTrace", desc := "(I)Ljava/lang/Throwable;" } : Jvm.MethodName) ({ cls := "java/lang/Throwable", name := "fillInStackTrace", desc := "(I)Ljava/lang/Throwable;" } : Jvm.MethodName)) ∈ BIG := List.mem_append_left _ (List.mem_of_getElem? (i := 1) rfl)
theorem bw_2 : (Jvm.Cond.selects "CommitDesk" ({ cls := "CommitDesk", name := "openTransactionAt", desc := "(II)LCommitDesk$Transaction;" } : Jvm.MethodName) ({ cls := "CommitDesk", name := "openTransactionAt", desc := "(II)LCommitDesk$Transaction;" } : Jvm.MethodName)) ∈ BIG := List.mem_append_left _ (List.mem_of_getElem? (i := 2) rfl)
theorem bw_3 : (Jvm.Cond.selects "CommitDesk" ({ cls := "CommitDesk", name := "requireCell", desc := "(I)V" } : Jvm.MethodName) ({ cls := "CommitDesk", name := "requireCell", desc := "(I)V" } : Jvm.MethodName)) ∈ BIG := List.mem_append_left _ (List.mem_of_getElem? (i := 3) rfl)
theorem bw_4 : (Jvm.Cond.selects "CommitDesk" ({ cls := "CommitDesk", name := "openTransactionOf", desc := "(I)LCommitDesk$Transaction;" } : Jvm.MethodName) ({ cls := "CommitDesk", name := "openTransactionOf", desc := "(I)LCommitDesk$Transaction;" } : Jvm.MethodName)) ∈ BIG := List.mem_append_left _ (List.mem_of_getElem? (i := 4) rfl)
theorem bw_5 : (Jvm.Cond.selects "CommitDesk" ({ cls := "CommitDesk", name := "endStale", desc := "(LCommitDesk$Transaction;)V" } : Jvm.MethodName) ({ cls := "CommitDesk", name := "endStale", desc := "(LCommitDesk$Transaction;)V" } : Jvm.MethodName)) ∈ BIG := List.mem_append_left _ (List.mem_of_getElem? (i := 5) rfl)
theorem bw_6 : (Jvm.Cond.selects "CommitDesk$Transaction" ({ cls := "CommitDesk$Transaction", name := "putInPart", desc := "(IIJ)V" } : Jvm.MethodName) ({ cls := "CommitDesk$Transaction", name := "putInPart", desc := "(IIJ)V" } : Jvm.MethodName)) ∈ BIG := List.mem_append_left _ (List.mem_of_getElem? (i := 6) rfl)
theorem bw_7 : (Jvm.Cond.selects "CommitDesk" ({ cls := "CommitDesk", name := "transactionWithSeveralParts", desc := "(I)LCommitDesk$Transaction;" } : Jvm.MethodName) ({ cls := "CommitDesk", name := "transactionWithSeveralParts", desc := "(I)LCommitDesk$Transaction;" } : Jvm.MethodName)) ∈ BIG := List.mem_append_left _ (List.mem_of_getElem? (i := 7) rfl)
theorem bw_8 : (Jvm.Cond.selects "CommitDesk" ({ cls := "CommitDesk", name := "change", desc := "(IJ)V" } : Jvm.MethodName) ({ cls := "CommitDesk", name := "change", desc := "(IJ)V" } : Jvm.MethodName)) ∈ BIG := List.mem_append_left _ (List.mem_of_getElem? (i := 8) rfl)
theorem bw_9 : (Jvm.Cond.selects "CommitDesk" ({ cls := "CommitDesk", name := "openTotal", desc := "()I" } : Jvm.MethodName) ({ cls := "CommitDesk", name := "openTotal", desc := "()I" } : Jvm.MethodName)) ∈ BIG := List.mem_append_left _ (List.mem_of_getElem? (i := 9) rfl)
theorem bw_10 : (Jvm.Cond.selects "CommitDeskModel" ({ cls := "CommitDeskModel", name := "fails", desc := "(ZI)Z" } : Jvm.MethodName) ({ cls := "CommitDeskModel", name := "fails", desc := "(ZI)Z" } : Jvm.MethodName)) ∈ BIG := List.mem_append_left _ (List.mem_of_getElem? (i := 10) rfl)
theorem bw_11 : (Jvm.Cond.selects "CommitDeskModel" ({ cls := "CommitDeskModel", name := "last", desc := "(II)I" } : Jvm.MethodName) ({ cls := "CommitDeskModel", name := "last", desc := "(II)I" } : Jvm.MethodName)) ∈ BIG := List.mem_append_left _ (List.mem_of_getElem? (i := 11) rfl)
theorem bw_12 : (Jvm.Cond.selects "CommitDeskModel" ({ cls := "CommitDeskModel", name := "isStale", desc := "(I)Z" } : Jvm.MethodName) ({ cls := "CommitDeskModel", name := "isStale", desc := "(I)Z" } : Jvm.MethodName)) ∈ BIG := List.mem_append_left _ (List.mem_of_getElem? (i := 12) rfl)
theorem bw_13 : (Jvm.Cond.selects "CommitDeskModel" ({ cls := "CommitDeskModel", name := "copy", desc := "(II)V" } : Jvm.MethodName) ({ cls := "CommitDeskModel", name := "copy", desc := "(II)V" } : Jvm.MethodName)) ∈ BIG := List.mem_append_left _ (List.mem_of_getElem? (i := 13) rfl)
theorem bw_14 : (Jvm.Cond.selects "CommitDeskModel" ({ cls := "CommitDeskModel", name := "change", desc := "(IJ)V" } : Jvm.MethodName) ({ cls := "CommitDeskModel", name := "change", desc := "(IJ)V" } : Jvm.MethodName)) ∈ BIG := List.mem_append_left _ (List.mem_of_getElem? (i := 14) rfl)
theorem bw_15 : (Jvm.Cond.initialized "CommitDeskLaw") ∈ BIG := List.mem_append_left _ (List.mem_of_getElem? (i := 15) rfl)
theorem bw_16 : (Jvm.Cond.initialized "CommitDesk") ∈ BIG := List.mem_append_left _ (List.mem_of_getElem? (i := 16) rfl)
theorem bw_17 : (Jvm.Cond.initialized "CommitDesk$Transaction") ∈ BIG := List.mem_append_left _ (List.mem_of_getElem? (i := 17) rfl)
theorem bw_18 : (Jvm.Cond.initialized "CommitDeskModel") ∈ BIG := List.mem_append_left _ (List.mem_of_getElem? (i := 18) rfl)
theorem bw_19 : (Jvm.Cond.initialized "java/lang/Throwable") ∈ BIG := List.mem_append_left _ (List.mem_of_getElem? (i := 19) rfl)
theorem bw_20 : (Jvm.Cond.initialized "java/lang/Exception") ∈ BIG := List.mem_append_left _ (List.mem_of_getElem? (i := 20) rfl)
theorem bw_21 : (Jvm.Cond.initialized "java/lang/RuntimeException") ∈ BIG := List.mem_append_left _ (List.mem_of_getElem? (i := 21) rfl)
theorem bw_22 : (Jvm.Cond.initialized "java/lang/IllegalArgumentException") ∈ BIG := List.mem_append_left _ (List.mem_of_getElem? (i := 22) rfl)
theorem bw_23 : (Jvm.Cond.initialized "java/lang/IllegalStateException") ∈ BIG := List.mem_append_left _ (List.mem_of_getElem? (i := 23) rfl)
theorem bw_24 : (Jvm.Cond.initialized "java/lang/IndexOutOfBoundsException") ∈ BIG := List.mem_append_left _ (List.mem_of_getElem? (i := 24) rfl)
theorem bw_25 : (Jvm.Cond.initialized "java/lang/UnsupportedOperationException") ∈ BIG := List.mem_append_left _ (List.mem_of_getElem? (i := 25) rfl)
theorem bw_26 : (Jvm.Cond.initialized "java/lang/Integer") ∈ BIG := List.mem_append_left _ (List.mem_of_getElem? (i := 26) rfl)
theorem bw_27 : (Jvm.Cond.classLink "CommitDeskLaw" (8 : Nat) "CommitDesk") ∈ BIG := List.mem_append_left _ (List.mem_of_getElem? (i := 27) rfl)
theorem bw_28 : (Jvm.Cond.instantiable "CommitDesk" (5 : Nat)) ∈ BIG := List.mem_append_left _ (List.mem_of_getElem? (i := 28) rfl)
theorem bw_29 : (Jvm.Cond.methodLink "CommitDeskLaw" (64 : Nat) ({ cls := "CommitDesk", name := "<init>", desc := "()V" } : Jvm.MethodName)) ∈ BIG := List.mem_append_left _ (List.mem_of_getElem? (i := 29) rfl)
theorem bw_30 : (Jvm.Cond.instanceMethod ({ cls := "CommitDesk", name := "<init>", desc := "()V" } : Jvm.MethodName)) ∈ BIG := List.mem_append_left _ (List.mem_of_getElem? (i := 30) rfl)
theorem bw_31 : (Jvm.Cond.code ({ cls := "CommitDesk", name := "<init>", desc := "()V" } : Jvm.MethodName) prog_1_method_1_code (2 : Nat) (Option.none : Option Jvm.ClassFile.FieldType)) ∈ BIG := List.mem_append_left _ (List.mem_of_getElem? (i := 31) rfl)
theorem bw_32 : (Jvm.Cond.methodLink "CommitDesk" (1 : Nat) ({ cls := "java/lang/Object", name := "<init>", desc := "()V" } : Jvm.MethodName)) ∈ BIG := List.mem_append_left _ (List.mem_of_getElem? (i := 32) rfl)
theorem bw_33 : (Jvm.Cond.instanceMethod ({ cls := "java/lang/Object", name := "<init>", desc := "()V" } : Jvm.MethodName)) ∈ BIG := List.mem_append_left _ (List.mem_of_getElem? (i := 33) rfl)
theorem bw_34 : (Jvm.Cond.code ({ cls := "java/lang/Object", name := "<init>", desc := "()V" } : Jvm.MethodName) object_method_1_code (1 : Nat) (Option.none : Option Jvm.ClassFile.FieldType)) ∈ BIG := List.mem_append_left _ (List.mem_of_getElem? (i := 34) rfl)
theorem bw_35 : (Jvm.Cond.classLink "CommitDesk" (17 : Nat) "CommitDesk$Transaction") ∈ BIG := List.mem_append_left _ (List.mem_of_getElem? (i := 35) rfl)
theorem bw_36 : (Jvm.Cond.instantiable "CommitDesk$Transaction" (6 : Nat)) ∈ BIG := List.mem_append_left _ (List.mem_of_getElem? (i := 36) rfl)
theorem bw_37 : (Jvm.Cond.instanceMethod ({ cls := "CommitDesk$Transaction", name := "<init>", desc := "()V" } : Jvm.MethodName)) ∈ BIG := List.mem_append_left _ (List.mem_of_getElem? (i := 37) rfl)
theorem bw_38 : (Jvm.Cond.code ({ cls := "CommitDesk$Transaction", name := "<init>", desc := "()V" } : Jvm.MethodName) prog_2_method_1_code (1 : Nat) (Option.none : Option Jvm.ClassFile.FieldType)) ∈ BIG := List.mem_append_left _ (List.mem_of_getElem? (i := 38) rfl)
theorem bw_39 : (Jvm.Cond.methodLink "CommitDesk$Transaction" (3 : Nat) ({ cls := "java/lang/Object", name := "<init>", desc := "()V" } : Jvm.MethodName)) ∈ BIG := List.mem_append_left _ (List.mem_of_getElem? (i := 39) rfl)
theorem bw_40 : (Jvm.Cond.classLink "CommitDesk$Transaction" (29 : Nat) "[[J") ∈ BIG := List.mem_append_right _ (List.mem_append_left _ (List.mem_of_getElem? (i := 0) rfl))
theorem bw_41 : (Jvm.Cond.fieldLink "CommitDesk$Transaction" (9 : Nat) "CommitDesk$Transaction" "open" "Z") ∈ BIG := List.mem_append_right _ (List.mem_append_left _ (List.mem_of_getElem? (i := 1) rfl))
theorem bw_42 : (Jvm.Cond.fieldLink "CommitDesk$Transaction" (15 : Nat) "CommitDesk$Transaction" "stale" "Z") ∈ BIG := List.mem_append_right _ (List.mem_append_left _ (List.mem_of_getElem? (i := 2) rfl))
theorem bw_43 : (Jvm.Cond.fieldLink "CommitDesk$Transaction" (18 : Nat) "CommitDesk$Transaction" "readCells" "I") ∈ BIG := List.mem_append_right _ (List.mem_append_left _ (List.mem_of_getElem? (i := 3) rfl))
theorem bw_44 : (Jvm.Cond.fieldLink "CommitDesk$Transaction" (22 : Nat) "CommitDesk$Transaction" "parts" "I") ∈ BIG := List.mem_append_right _ (List.mem_append_left _ (List.mem_of_getElem? (i := 4) rfl))
theorem bw_45 : (Jvm.Cond.fieldLink "CommitDesk$Transaction" (25 : Nat) "CommitDesk$Transaction" "writtenCells" "[I") ∈ BIG := List.mem_append_right _ (List.mem_append_left _ (List.mem_of_getElem? (i := 5) rfl))
theorem bw_46 : (Jvm.Cond.fieldLink "CommitDesk$Transaction" (31 : Nat) "CommitDesk$Transaction" "values" "[[J") ∈ BIG := List.mem_append_right _ (List.mem_append_left _ (List.mem_of_getElem? (i := 6) rfl))
theorem bw_47 : (Jvm.Cond.lays "CommitDesk$Transaction" "CommitDesk$Transaction" "open" "Z") ∈ BIG := List.mem_append_right _ (List.mem_append_left _ (List.mem_of_getElem? (i := 7) rfl))
theorem bw_48 : (Jvm.Cond.lays "CommitDesk$Transaction" "CommitDesk$Transaction" "stale" "Z") ∈ BIG := List.mem_append_right _ (List.mem_append_left _ (List.mem_of_getElem? (i := 8) rfl))
theorem bw_49 : (Jvm.Cond.lays "CommitDesk$Transaction" "CommitDesk$Transaction" "readCells" "I") ∈ BIG := List.mem_append_right _ (List.mem_append_left _ (List.mem_of_getElem? (i := 9) rfl))
theorem bw_50 : (Jvm.Cond.lays "CommitDesk$Transaction" "CommitDesk$Transaction" "parts" "I") ∈ BIG := List.mem_append_right _ (List.mem_append_left _ (List.mem_of_getElem? (i := 10) rfl))
theorem bw_51 : (Jvm.Cond.laysFinal "CommitDesk$Transaction" "CommitDesk$Transaction" "writtenCells" "[I") ∈ BIG := List.mem_append_right _ (List.mem_append_left _ (List.mem_of_getElem? (i := 11) rfl))
theorem bw_52 : (Jvm.Cond.laysFinal "CommitDesk$Transaction" "CommitDesk$Transaction" "values" "[[J") ∈ BIG := List.mem_append_right _ (List.mem_append_left _ (List.mem_of_getElem? (i := 12) rfl))
theorem bw_53 : (Jvm.Cond.superclass "CommitDesk$Transaction" "java/lang/Object") ∈ BIG := List.mem_append_right _ (List.mem_append_left _ (List.mem_of_getElem? (i := 13) rfl))
theorem bw_54 : (Jvm.Cond.arrayClass Jvm.ClassFile.FieldType.long) ∈ BIG := List.mem_append_right _ (List.mem_append_left _ (List.mem_of_getElem? (i := 14) rfl))
theorem bw_55 : (Jvm.Cond.arrayClass Jvm.ClassFile.FieldType.int) ∈ BIG := List.mem_append_right _ (List.mem_append_left _ (List.mem_of_getElem? (i := 15) rfl))
theorem bw_56 : (Jvm.Cond.fieldLink "CommitDesk" (9 : Nat) "CommitDesk" "numbers" "[J") ∈ BIG := List.mem_append_right _ (List.mem_append_left _ (List.mem_of_getElem? (i := 16) rfl))
theorem bw_57 : (Jvm.Cond.fieldLink "CommitDesk" (13 : Nat) "CommitDesk" "changes" "[I") ∈ BIG := List.mem_append_right _ (List.mem_append_left _ (List.mem_of_getElem? (i := 17) rfl))
theorem bw_58 : (Jvm.Cond.fieldLink "CommitDesk" (19 : Nat) "CommitDesk" "transactions" "[LCommitDesk$Transaction;") ∈ BIG := List.mem_append_right _ (List.mem_append_left _ (List.mem_of_getElem? (i := 18) rfl))
theorem bw_59 : (Jvm.Cond.fieldLink "CommitDesk" (23 : Nat) "CommitDesk" "doneTotal" "I") ∈ BIG := List.mem_append_right _ (List.mem_append_left _ (List.mem_of_getElem? (i := 19) rfl))
theorem bw_60 : (Jvm.Cond.fieldLink "CommitDesk" (27 : Nat) "CommitDesk" "staleTotal" "I") ∈ BIG := List.mem_append_right _ (List.mem_append_left _ (List.mem_of_getElem? (i := 20) rfl))
theorem bw_61 : (Jvm.Cond.laysFinal "CommitDesk" "CommitDesk" "numbers" "[J") ∈ BIG := List.mem_append_right _ (List.mem_append_left _ (List.mem_of_getElem? (i := 21) rfl))
theorem bw_62 : (Jvm.Cond.laysFinal "CommitDesk" "CommitDesk" "changes" "[I") ∈ BIG := List.mem_append_right _ (List.mem_append_left _ (List.mem_of_getElem? (i := 22) rfl))
theorem bw_63 : (Jvm.Cond.laysFinal "CommitDesk" "CommitDesk" "transactions" "[LCommitDesk$Transaction;") ∈ BIG := List.mem_append_right _ (List.mem_append_left _ (List.mem_of_getElem? (i := 23) rfl))
theorem bw_64 : (Jvm.Cond.lays "CommitDesk" "CommitDesk" "doneTotal" "I") ∈ BIG := List.mem_append_right _ (List.mem_append_left _ (List.mem_of_getElem? (i := 24) rfl))
theorem bw_65 : (Jvm.Cond.lays "CommitDesk" "CommitDesk" "staleTotal" "I") ∈ BIG := List.mem_append_right _ (List.mem_append_left _ (List.mem_of_getElem? (i := 25) rfl))
theorem bw_66 : (Jvm.Cond.superclass "CommitDesk" "java/lang/Object") ∈ BIG := List.mem_append_right _ (List.mem_append_left _ (List.mem_of_getElem? (i := 26) rfl))
theorem bw_67 : (Jvm.Cond.methodLink "CommitDeskLaw" (68 : Nat) ({ cls := "CommitDeskLaw", name := "begin", desc := "(LCommitDesk;I)I" } : Jvm.MethodName)) ∈ BIG := List.mem_append_right _ (List.mem_append_left _ (List.mem_of_getElem? (i := 27) rfl))
theorem bw_68 : (Jvm.Cond.static ({ cls := "CommitDeskLaw", name := "begin", desc := "(LCommitDesk;I)I" } : Jvm.MethodName)) ∈ BIG := List.mem_append_right _ (List.mem_append_left _ (List.mem_of_getElem? (i := 28) rfl))
theorem bw_69 : (Jvm.Cond.codeWith ({ cls := "CommitDeskLaw", name := "begin", desc := "(LCommitDesk;I)I" } : Jvm.MethodName) method_3_code (3 : Nat) (Option.some Jvm.ClassFile.FieldType.int) [((0 : Nat), (5 : Nat), (8 : Nat), (13 : Nat)), ((0 : Nat), (5 : Nat), (11 : Nat), (15 : Nat))]) ∈ BIG := List.mem_append_right _ (List.mem_append_left _ (List.mem_of_getElem? (i := 29) rfl))
theorem bw_70 : (Jvm.Cond.classLink "CommitDeskLaw" (13 : Nat) "java/lang/IllegalArgumentException") ∈ BIG := List.mem_append_right _ (List.mem_append_left _ (List.mem_of_getElem? (i := 30) rfl))
theorem bw_71 : (Jvm.Cond.classLink "CommitDeskLaw" (15 : Nat) "java/lang/IllegalStateException") ∈ BIG := List.mem_append_right _ (List.mem_append_left _ (List.mem_of_getElem? (i := 31) rfl))
theorem bw_72 : (Jvm.Cond.methodLink "CommitDeskLaw" (7 : Nat) ({ cls := "CommitDesk", name := "begin", desc := "(I)V" } : Jvm.MethodName)) ∈ BIG := List.mem_append_right _ (List.mem_append_left _ (List.mem_of_getElem? (i := 32) rfl))
theorem bw_73 : (Jvm.Cond.instanceMethod ({ cls := "CommitDesk", name := "begin", desc := "(I)V" } : Jvm.MethodName)) ∈ BIG := List.mem_append_right _ (List.mem_append_left _ (List.mem_of_getElem? (i := 33) rfl))
theorem bw_74 : (Jvm.Cond.selects "CommitDesk" ({ cls := "CommitDesk", name := "begin", desc := "(I)V" } : Jvm.MethodName) ({ cls := "CommitDesk", name := "begin", desc := "(I)V" } : Jvm.MethodName)) ∈ BIG := List.mem_append_right _ (List.mem_append_left _ (List.mem_of_getElem? (i := 34) rfl))
theorem bw_75 : (Jvm.Cond.code ({ cls := "CommitDesk", name := "begin", desc := "(I)V" } : Jvm.MethodName) prog_1_method_2_code (3 : Nat) (Option.none : Option Jvm.ClassFile.FieldType)) ∈ BIG := List.mem_append_right _ (List.mem_append_left _ (List.mem_of_getElem? (i := 35) rfl))
theorem bw_76 : (Jvm.Cond.methodLink "CommitDesk" (31 : Nat) ({ cls := "CommitDesk", name := "transactionOf", desc := "(I)LCommitDesk$Transaction;" } : Jvm.MethodName)) ∈ BIG := List.mem_append_right _ (List.mem_append_left _ (List.mem_of_getElem? (i := 36) rfl))
theorem bw_77 : (Jvm.Cond.instanceMethod ({ cls := "CommitDesk", name := "transactionOf", desc := "(I)LCommitDesk$Transaction;" } : Jvm.MethodName)) ∈ BIG := List.mem_append_right _ (List.mem_append_left _ (List.mem_of_getElem? (i := 37) rfl))
theorem bw_78 : (Jvm.Cond.code ({ cls := "CommitDesk", name := "transactionOf", desc := "(I)LCommitDesk$Transaction;" } : Jvm.MethodName) prog_1_method_15_code (2 : Nat) (Option.some (Jvm.ClassFile.FieldType.object "CommitDesk$Transaction"))) ∈ BIG := List.mem_append_right _ (List.mem_append_left _ (List.mem_of_getElem? (i := 38) rfl))
theorem bw_79 : (Jvm.Cond.classLink "CommitDesk" (111 : Nat) "java/lang/IllegalArgumentException") ∈ BIG := List.mem_append_right _ (List.mem_append_left _ (List.mem_of_getElem? (i := 39) rfl))
theorem bw_80 : (Jvm.Cond.instantiable "java/lang/IllegalArgumentException" (6 : Nat)) ∈ BIG := List.mem_append_right _ (List.mem_append_right _ (List.mem_append_left _ (List.mem_of_getElem? (i := 0) rfl)))
theorem bw_81 : (Jvm.Cond.selects "java/lang/IllegalArgumentException" ({ cls := "java/lang/Throwable", name := "fillInStackTrace", desc := "(I)Ljava/lang/Throwable;" } : Jvm.MethodName) ({ cls := "java/lang/Throwable", name := "fillInStackTrace", desc := "(I)Ljava/lang/Throwable;" } : Jvm.MethodName)) ∈ BIG := List.mem_append_right _ (List.mem_append_right _ (List.mem_append_left _ (List.mem_of_getElem? (i := 1) rfl)))
theorem bw_82 : (Jvm.Cond.selects "java/lang/IllegalArgumentException" ({ cls := "java/lang/Throwable", name := "fillInStackTrace", desc := "()Ljava/lang/Throwable;" } : Jvm.MethodName) ({ cls := "java/lang/Throwable", name := "fillInStackTrace", desc := "()Ljava/lang/Throwable;" } : Jvm.MethodName)) ∈ BIG := List.mem_append_right _ (List.mem_append_right _ (List.mem_append_left _ (List.mem_of_getElem? (i := 2) rfl)))
theorem bw_83 : (Jvm.Cond.lays "java/lang/IllegalArgumentException" "java/lang/Throwable" "cause" "Ljava/lang/Throwable;") ∈ BIG := List.mem_append_right _ (List.mem_append_right _ (List.mem_append_left _ (List.mem_of_getElem? (i := 3) rfl)))
theorem bw_84 : (Jvm.Cond.lays "java/lang/Throwable" "java/lang/Throwable" "cause" "Ljava/lang/Throwable;") ∈ BIG := List.mem_append_right _ (List.mem_append_right _ (List.mem_append_left _ (List.mem_of_getElem? (i := 4) rfl)))
theorem bw_85 : (Jvm.Cond.lays "java/lang/IllegalArgumentException" "java/lang/Throwable" "stackTrace" "[Ljava/lang/StackTraceElement;") ∈ BIG := List.mem_append_right _ (List.mem_append_right _ (List.mem_append_left _ (List.mem_of_getElem? (i := 5) rfl)))
theorem bw_86 : (Jvm.Cond.lays "java/lang/Throwable" "java/lang/Throwable" "stackTrace" "[Ljava/lang/StackTraceElement;") ∈ BIG := List.mem_append_right _ (List.mem_append_right _ (List.mem_append_left _ (List.mem_of_getElem? (i := 6) rfl)))
theorem bw_87 : (Jvm.Cond.lays "java/lang/IllegalArgumentException" "java/lang/Throwable" "suppressedExceptions" "Ljava/util/List;") ∈ BIG := List.mem_append_right _ (List.mem_append_right _ (List.mem_append_left _ (List.mem_of_getElem? (i := 7) rfl)))
theorem bw_88 : (Jvm.Cond.lays "java/lang/Throwable" "java/lang/Throwable" "suppressedExceptions" "Ljava/util/List;") ∈ BIG := List.mem_append_right _ (List.mem_append_right _ (List.mem_append_left _ (List.mem_of_getElem? (i := 8) rfl)))
theorem bw_89 : (Jvm.Cond.lays "java/lang/IllegalArgumentException" "java/lang/Throwable" "detailMessage" "Ljava/lang/String;") ∈ BIG := List.mem_append_right _ (List.mem_append_right _ (List.mem_append_left _ (List.mem_of_getElem? (i := 9) rfl)))
theorem bw_90 : (Jvm.Cond.lays "java/lang/Throwable" "java/lang/Throwable" "detailMessage" "Ljava/lang/String;") ∈ BIG := List.mem_append_right _ (List.mem_append_right _ (List.mem_append_left _ (List.mem_of_getElem? (i := 10) rfl)))
theorem bw_91 : (Jvm.Cond.lays "java/lang/IllegalArgumentException" "java/lang/Throwable" "backtrace" "Ljava/lang/Object;") ∈ BIG := List.mem_append_right _ (List.mem_append_right _ (List.mem_append_left _ (List.mem_of_getElem? (i := 11) rfl)))
theorem bw_92 : (Jvm.Cond.lays "java/lang/Throwable" "java/lang/Throwable" "backtrace" "Ljava/lang/Object;") ∈ BIG := List.mem_append_right _ (List.mem_append_right _ (List.mem_append_left _ (List.mem_of_getElem? (i := 12) rfl)))
theorem bw_93 : (Jvm.Cond.fieldLink "java/lang/Throwable" (198 : Nat) "java/lang/Throwable" "backtrace" "Ljava/lang/Object;") ∈ BIG := List.mem_append_right _ (List.mem_append_right _ (List.mem_append_left _ (List.mem_of_getElem? (i := 13) rfl)))
theorem bw_94 : (Jvm.Cond.superclass "java/lang/Throwable" "java/lang/Object") ∈ BIG := List.mem_append_right _ (List.mem_append_right _ (List.mem_append_left _ (List.mem_of_getElem? (i := 14) rfl)))
theorem bw_95 : (Jvm.Cond.instanceMethod ({ cls := "java/lang/Throwable", name := "<init>", desc := "()V" } : Jvm.MethodName)) ∈ BIG := List.mem_append_right _ (List.mem_append_right _ (List.mem_append_left _ (List.mem_of_getElem? (i := 15) rfl)))
theorem bw_96 : (Jvm.Cond.code ({ cls := "java/lang/Throwable", name := "<init>", desc := "()V" } : Jvm.MethodName) prog_12_method_1_code (1 : Nat) (Option.none : Option Jvm.ClassFile.FieldType)) ∈ BIG := List.mem_append_right _ (List.mem_append_right _ (List.mem_append_left _ (List.mem_of_getElem? (i := 16) rfl)))
theorem bw_97 : (Jvm.Cond.methodLink "java/lang/Throwable" (1 : Nat) ({ cls := "java/lang/Object", name := "<init>", desc := "()V" } : Jvm.MethodName)) ∈ BIG := List.mem_append_right _ (List.mem_append_right _ (List.mem_append_left _ (List.mem_of_getElem? (i := 17) rfl)))
theorem bw_98 : (Jvm.Cond.fieldLink "java/lang/Throwable" (13 : Nat) "java/lang/Throwable" "UNASSIGNED_STACK" "[Ljava/lang/StackTraceElement;") ∈ BIG := List.mem_append_right _ (List.mem_append_right _ (List.mem_append_left _ (List.mem_of_getElem? (i := 18) rfl)))
theorem bw_99 : (Jvm.Cond.fieldLink "java/lang/Throwable" (20 : Nat) "java/lang/Throwable" "SUPPRESSED_SENTINEL" "Ljava/util/List;") ∈ BIG := List.mem_append_right _ (List.mem_append_right _ (List.mem_append_left _ (List.mem_of_getElem? (i := 19) rfl)))
theorem bw_100 : (Jvm.Cond.methodLink "java/lang/Throwable" (27 : Nat) ({ cls := "java/lang/Throwable", name := "fillInStackTrace", desc := "()Ljava/lang/Throwable;" } : Jvm.MethodName)) ∈ BIG := List.mem_append_right _ (List.mem_append_right _ (List.mem_append_left _ (List.mem_of_getElem? (i := 20) rfl)))
theorem bw_101 : (Jvm.Cond.instanceMethod ({ cls := "java/lang/Throwable", name := "fillInStackTrace", desc := "()Ljava/lang/Throwable;" } : Jvm.MethodName)) ∈ BIG := List.mem_append_right _ (List.mem_append_right _ (List.mem_append_left _ (List.mem_of_getElem? (i := 21) rfl)))
theorem bw_102 : (Jvm.Cond.selects "java/lang/IllegalStateException" ({ cls := "java/lang/Throwable", name := "fillInStackTrace", desc := "()Ljava/lang/Throwable;" } : Jvm.MethodName) ({ cls := "java/lang/Throwable", name := "fillInStackTrace", desc := "()Ljava/lang/Throwable;" } : Jvm.MethodName)) ∈ BIG := List.mem_append_right _ (List.mem_append_right _ (List.mem_append_left _ (List.mem_of_getElem? (i := 22) rfl)))
theorem bw_103 : (Jvm.Cond.selects "java/lang/IndexOutOfBoundsException" ({ cls := "java/lang/Throwable", name := "fillInStackTrace", desc := "()Ljava/lang/Throwable;" } : Jvm.MethodName) ({ cls := "java/lang/Throwable", name := "fillInStackTrace", desc := "()Ljava/lang/Throwable;" } : Jvm.MethodName)) ∈ BIG := List.mem_append_right _ (List.mem_append_right _ (List.mem_append_left _ (List.mem_of_getElem? (i := 23) rfl)))
theorem bw_104 : (Jvm.Cond.selects "java/lang/UnsupportedOperationException" ({ cls := "java/lang/Throwable", name := "fillInStackTrace", desc := "()Ljava/lang/Throwable;" } : Jvm.MethodName) ({ cls := "java/lang/Throwable", name := "fillInStackTrace", desc := "()Ljava/lang/Throwable;" } : Jvm.MethodName)) ∈ BIG := List.mem_append_right _ (List.mem_append_right _ (List.mem_append_left _ (List.mem_of_getElem? (i := 24) rfl)))
theorem bw_105 : (Jvm.Cond.methodLink "java/lang/Throwable" (202 : Nat) ({ cls := "java/lang/Throwable", name := "fillInStackTrace", desc := "(I)Ljava/lang/Throwable;" } : Jvm.MethodName)) ∈ BIG := List.mem_append_right _ (List.mem_append_right _ (List.mem_append_left _ (List.mem_of_getElem? (i := 25) rfl)))
theorem bw_106 : (Jvm.Cond.instanceMethod ({ cls := "java/lang/Throwable", name := "fillInStackTrace", desc := "(I)Ljava/lang/Throwable;" } : Jvm.MethodName)) ∈ BIG := List.mem_append_right _ (List.mem_append_right _ (List.mem_append_left _ (List.mem_of_getElem? (i := 26) rfl)))
theorem bw_107 : (Jvm.Cond.instantiable "java/lang/Throwable" (6 : Nat)) ∈ BIG := List.mem_append_right _ (List.mem_append_right _ (List.mem_append_left _ (List.mem_of_getElem? (i := 27) rfl)))
theorem bw_108 : (Jvm.Cond.methodLink "CommitDesk" (115 : Nat) ({ cls := "java/lang/IllegalArgumentException", name := "<init>", desc := "(Ljava/lang/String;)V" } : Jvm.MethodName)) ∈ BIG := List.mem_append_right _ (List.mem_append_right _ (List.mem_append_left _ (List.mem_of_getElem? (i := 28) rfl)))
theorem bw_109 : (Jvm.Cond.instanceMethod ({ cls := "java/lang/IllegalArgumentException", name := "<init>", desc := "(Ljava/lang/String;)V" } : Jvm.MethodName)) ∈ BIG := List.mem_append_right _ (List.mem_append_right _ (List.mem_append_left _ (List.mem_of_getElem? (i := 29) rfl)))
theorem bw_110 : (Jvm.Cond.code ({ cls := "java/lang/IllegalArgumentException", name := "<init>", desc := "(Ljava/lang/String;)V" } : Jvm.MethodName) prog_6_method_2_code (2 : Nat) (Option.none : Option Jvm.ClassFile.FieldType)) ∈ BIG := List.mem_append_right _ (List.mem_append_right _ (List.mem_append_left _ (List.mem_of_getElem? (i := 30) rfl)))
theorem bw_111 : (Jvm.Cond.methodLink "java/lang/IllegalArgumentException" (7 : Nat) ({ cls := "java/lang/RuntimeException", name := "<init>", desc := "(Ljava/lang/String;)V" } : Jvm.MethodName)) ∈ BIG := List.mem_append_right _ (List.mem_append_right _ (List.mem_append_left _ (List.mem_of_getElem? (i := 31) rfl)))
theorem bw_112 : (Jvm.Cond.instanceMethod ({ cls := "java/lang/RuntimeException", name := "<init>", desc := "(Ljava/lang/String;)V" } : Jvm.MethodName)) ∈ BIG := List.mem_append_right _ (List.mem_append_right _ (List.mem_append_left _ (List.mem_of_getElem? (i := 32) rfl)))
theorem bw_113 : (Jvm.Cond.code ({ cls := "java/lang/RuntimeException", name := "<init>", desc := "(Ljava/lang/String;)V" } : Jvm.MethodName) prog_10_method_2_code (2 : Nat) (Option.none : Option Jvm.ClassFile.FieldType)) ∈ BIG := List.mem_append_right _ (List.mem_append_right _ (List.mem_append_left _ (List.mem_of_getElem? (i := 33) rfl)))
theorem bw_114 : (Jvm.Cond.methodLink "java/lang/RuntimeException" (7 : Nat) ({ cls := "java/lang/Exception", name := "<init>", desc := "(Ljava/lang/String;)V" } : Jvm.MethodName)) ∈ BIG := List.mem_append_right _ (List.mem_append_right _ (List.mem_append_left _ (List.mem_of_getElem? (i := 34) rfl)))
theorem bw_115 : (Jvm.Cond.instanceMethod ({ cls := "java/lang/Exception", name := "<init>", desc := "(Ljava/lang/String;)V" } : Jvm.MethodName)) ∈ BIG := List.mem_append_right _ (List.mem_append_right _ (List.mem_append_left _ (List.mem_of_getElem? (i := 35) rfl)))
theorem bw_116 : (Jvm.Cond.code ({ cls := "java/lang/Exception", name := "<init>", desc := "(Ljava/lang/String;)V" } : Jvm.MethodName) prog_5_method_2_code (2 : Nat) (Option.none : Option Jvm.ClassFile.FieldType)) ∈ BIG := List.mem_append_right _ (List.mem_append_right _ (List.mem_append_left _ (List.mem_of_getElem? (i := 36) rfl)))
theorem bw_117 : (Jvm.Cond.methodLink "java/lang/Exception" (7 : Nat) ({ cls := "java/lang/Throwable", name := "<init>", desc := "(Ljava/lang/String;)V" } : Jvm.MethodName)) ∈ BIG := List.mem_append_right _ (List.mem_append_right _ (List.mem_append_left _ (List.mem_of_getElem? (i := 37) rfl)))
theorem bw_118 : (Jvm.Cond.instanceMethod ({ cls := "java/lang/Throwable", name := "<init>", desc := "(Ljava/lang/String;)V" } : Jvm.MethodName)) ∈ BIG := List.mem_append_right _ (List.mem_append_right _ (List.mem_append_left _ (List.mem_of_getElem? (i := 38) rfl)))
theorem bw_119 : (Jvm.Cond.code ({ cls := "java/lang/Throwable", name := "<init>", desc := "(Ljava/lang/String;)V" } : Jvm.MethodName) prog_12_method_2_code (2 : Nat) (Option.none : Option Jvm.ClassFile.FieldType)) ∈ BIG := List.mem_append_right _ (List.mem_append_right _ (List.mem_append_left _ (List.mem_of_getElem? (i := 39) rfl)))
theorem bw_120 : (Jvm.Cond.fieldLink "java/lang/Throwable" (31 : Nat) "java/lang/Throwable" "detailMessage" "Ljava/lang/String;") ∈ BIG := List.mem_append_right _ (List.mem_append_right _ (List.mem_append_right _ (List.mem_append_left _ (List.mem_of_getElem? (i := 0) rfl))))
theorem bw_121 : (Jvm.Cond.fieldLink "java/lang/Throwable" (7 : Nat) "java/lang/Throwable" "cause" "Ljava/lang/Throwable;") ∈ BIG := List.mem_append_right _ (List.mem_append_right _ (List.mem_append_right _ (List.mem_append_left _ (List.mem_of_getElem? (i := 1) rfl))))
theorem bw_122 : (Jvm.Cond.fieldLink "java/lang/Throwable" (17 : Nat) "java/lang/Throwable" "stackTrace" "[Ljava/lang/StackTraceElement;") ∈ BIG := List.mem_append_right _ (List.mem_append_right _ (List.mem_append_right _ (List.mem_append_left _ (List.mem_of_getElem? (i := 2) rfl))))
theorem bw_123 : (Jvm.Cond.fieldLink "java/lang/Throwable" (24 : Nat) "java/lang/Throwable" "suppressedExceptions" "Ljava/util/List;") ∈ BIG := List.mem_append_right _ (List.mem_append_right _ (List.mem_append_right _ (List.mem_append_left _ (List.mem_of_getElem? (i := 3) rfl))))
theorem bw_124 : (Jvm.Cond.lays "java/lang/IllegalArgumentException" "java/lang/Throwable" "depth" "I") ∈ BIG := List.mem_append_right _ (List.mem_append_right _ (List.mem_append_right _ (List.mem_append_left _ (List.mem_of_getElem? (i := 4) rfl))))
theorem bw_125 : (Jvm.Cond.superclass "java/lang/IllegalArgumentException" "java/lang/RuntimeException") ∈ BIG := List.mem_append_right _ (List.mem_append_right _ (List.mem_append_right _ (List.mem_append_left _ (List.mem_of_getElem? (i := 5) rfl))))
theorem bw_126 : (Jvm.Cond.arrayClass Jvm.ClassFile.FieldType.byte) ∈ BIG := List.mem_append_right _ (List.mem_append_right _ (List.mem_append_right _ (List.mem_append_left _ (List.mem_of_getElem? (i := 6) rfl))))
theorem bw_127 : (Jvm.Cond.methodLink "CommitDesk" (35 : Nat) ({ cls := "CommitDesk$Transaction", name := "isOpen", desc := "()Z" } : Jvm.MethodName)) ∈ BIG := List.mem_append_right _ (List.mem_append_right _ (List.mem_append_right _ (List.mem_append_left _ (List.mem_of_getElem? (i := 7) rfl))))
theorem bw_128 : (Jvm.Cond.instanceMethod ({ cls := "CommitDesk$Transaction", name := "isOpen", desc := "()Z" } : Jvm.MethodName)) ∈ BIG := List.mem_append_right _ (List.mem_append_right _ (List.mem_append_right _ (List.mem_append_left _ (List.mem_of_getElem? (i := 8) rfl))))
theorem bw_129 : (Jvm.Cond.selects "CommitDesk$Transaction" ({ cls := "CommitDesk$Transaction", name := "isOpen", desc := "()Z" } : Jvm.MethodName) ({ cls := "CommitDesk$Transaction", name := "isOpen", desc := "()Z" } : Jvm.MethodName)) ∈ BIG := List.mem_append_right _ (List.mem_append_right _ (List.mem_append_right _ (List.mem_append_left _ (List.mem_of_getElem? (i := 9) rfl))))
theorem bw_130 : (Jvm.Cond.code ({ cls := "CommitDesk$Transaction", name := "isOpen", desc := "()Z" } : Jvm.MethodName) prog_2_method_2_code (1 : Nat) (Option.some Jvm.ClassFile.FieldType.boolean)) ∈ BIG := List.mem_append_right _ (List.mem_append_right _ (List.mem_append_right _ (List.mem_append_left _ (List.mem_of_getElem? (i := 10) rfl))))
theorem bw_131 : (Jvm.Cond.classLink "CommitDesk" (39 : Nat) "java/lang/IllegalStateException") ∈ BIG := List.mem_append_right _ (List.mem_append_right _ (List.mem_append_right _ (List.mem_append_left _ (List.mem_of_getElem? (i := 11) rfl))))
theorem bw_132 : (Jvm.Cond.instantiable "java/lang/IllegalStateException" (6 : Nat)) ∈ BIG := List.mem_append_right _ (List.mem_append_right _ (List.mem_append_right _ (List.mem_append_left _ (List.mem_of_getElem? (i := 12) rfl))))
theorem bw_133 : (Jvm.Cond.selects "java/lang/IllegalStateException" ({ cls := "java/lang/Throwable", name := "fillInStackTrace", desc := "(I)Ljava/lang/Throwable;" } : Jvm.MethodName) ({ cls := "java/lang/Throwable", name := "fillInStackTrace", desc := "(I)Ljava/lang/Throwable;" } : Jvm.MethodName)) ∈ BIG := List.mem_append_right _ (List.mem_append_right _ (List.mem_append_right _ (List.mem_append_left _ (List.mem_of_getElem? (i := 13) rfl))))
theorem bw_134 : (Jvm.Cond.lays "java/lang/IllegalStateException" "java/lang/Throwable" "cause" "Ljava/lang/Throwable;") ∈ BIG := List.mem_append_right _ (List.mem_append_right _ (List.mem_append_right _ (List.mem_append_left _ (List.mem_of_getElem? (i := 14) rfl))))
theorem bw_135 : (Jvm.Cond.lays "java/lang/IllegalStateException" "java/lang/Throwable" "stackTrace" "[Ljava/lang/StackTraceElement;") ∈ BIG := List.mem_append_right _ (List.mem_append_right _ (List.mem_append_right _ (List.mem_append_left _ (List.mem_of_getElem? (i := 15) rfl))))
theorem bw_136 : (Jvm.Cond.lays "java/lang/IllegalStateException" "java/lang/Throwable" "suppressedExceptions" "Ljava/util/List;") ∈ BIG := List.mem_append_right _ (List.mem_append_right _ (List.mem_append_right _ (List.mem_append_left _ (List.mem_of_getElem? (i := 16) rfl))))
theorem bw_137 : (Jvm.Cond.lays "java/lang/IllegalStateException" "java/lang/Throwable" "detailMessage" "Ljava/lang/String;") ∈ BIG := List.mem_append_right _ (List.mem_append_right _ (List.mem_append_right _ (List.mem_append_left _ (List.mem_of_getElem? (i := 17) rfl))))
theorem bw_138 : (Jvm.Cond.lays "java/lang/IllegalStateException" "java/lang/Throwable" "backtrace" "Ljava/lang/Object;") ∈ BIG := List.mem_append_right _ (List.mem_append_right _ (List.mem_append_right _ (List.mem_append_left _ (List.mem_of_getElem? (i := 18) rfl))))
theorem bw_139 : (Jvm.Cond.methodLink "CommitDesk" (43 : Nat) ({ cls := "java/lang/IllegalStateException", name := "<init>", desc := "(Ljava/lang/String;)V" } : Jvm.MethodName)) ∈ BIG := List.mem_append_right _ (List.mem_append_right _ (List.mem_append_right _ (List.mem_append_left _ (List.mem_of_getElem? (i := 19) rfl))))
theorem bw_140 : (Jvm.Cond.instanceMethod ({ cls := "java/lang/IllegalStateException", name := "<init>", desc := "(Ljava/lang/String;)V" } : Jvm.MethodName)) ∈ BIG := List.mem_append_right _ (List.mem_append_right _ (List.mem_append_right _ (List.mem_append_left _ (List.mem_of_getElem? (i := 20) rfl))))
theorem bw_141 : (Jvm.Cond.code ({ cls := "java/lang/IllegalStateException", name := "<init>", desc := "(Ljava/lang/String;)V" } : Jvm.MethodName) prog_7_method_2_code (2 : Nat) (Option.none : Option Jvm.ClassFile.FieldType)) ∈ BIG := List.mem_append_right _ (List.mem_append_right _ (List.mem_append_right _ (List.mem_append_left _ (List.mem_of_getElem? (i := 21) rfl))))
theorem bw_142 : (Jvm.Cond.methodLink "java/lang/IllegalStateException" (7 : Nat) ({ cls := "java/lang/RuntimeException", name := "<init>", desc := "(Ljava/lang/String;)V" } : Jvm.MethodName)) ∈ BIG := List.mem_append_right _ (List.mem_append_right _ (List.mem_append_right _ (List.mem_append_left _ (List.mem_of_getElem? (i := 22) rfl))))
theorem bw_143 : (Jvm.Cond.lays "java/lang/IllegalStateException" "java/lang/Throwable" "depth" "I") ∈ BIG := List.mem_append_right _ (List.mem_append_right _ (List.mem_append_right _ (List.mem_append_left _ (List.mem_of_getElem? (i := 23) rfl))))
theorem bw_144 : (Jvm.Cond.superclass "java/lang/IllegalStateException" "java/lang/RuntimeException") ∈ BIG := List.mem_append_right _ (List.mem_append_right _ (List.mem_append_right _ (List.mem_append_left _ (List.mem_of_getElem? (i := 24) rfl))))
theorem bw_145 : (Jvm.Cond.methodLink "CommitDesk" (46 : Nat) ({ cls := "CommitDesk$Transaction", name := "start", desc := "()V" } : Jvm.MethodName)) ∈ BIG := List.mem_append_right _ (List.mem_append_right _ (List.mem_append_right _ (List.mem_append_left _ (List.mem_of_getElem? (i := 25) rfl))))
theorem bw_146 : (Jvm.Cond.instanceMethod ({ cls := "CommitDesk$Transaction", name := "start", desc := "()V" } : Jvm.MethodName)) ∈ BIG := List.mem_append_right _ (List.mem_append_right _ (List.mem_append_right _ (List.mem_append_left _ (List.mem_of_getElem? (i := 26) rfl))))
theorem bw_147 : (Jvm.Cond.selects "CommitDesk$Transaction" ({ cls := "CommitDesk$Transaction", name := "start", desc := "()V" } : Jvm.MethodName) ({ cls := "CommitDesk$Transaction", name := "start", desc := "()V" } : Jvm.MethodName)) ∈ BIG := List.mem_append_right _ (List.mem_append_right _ (List.mem_append_right _ (List.mem_append_left _ (List.mem_of_getElem? (i := 27) rfl))))
theorem bw_148 : (Jvm.Cond.code ({ cls := "CommitDesk$Transaction", name := "start", desc := "()V" } : Jvm.MethodName) prog_2_method_7_code (1 : Nat) (Option.none : Option Jvm.ClassFile.FieldType)) ∈ BIG := List.mem_append_right _ (List.mem_append_right _ (List.mem_append_right _ (List.mem_append_left _ (List.mem_of_getElem? (i := 28) rfl))))
theorem bw_149 : (Jvm.Cond.methodLink "CommitDeskLaw" (78 : Nat) ({ cls := "CommitDeskLaw", name := "read", desc := "(LCommitDesk;II[J)I" } : Jvm.MethodName)) ∈ BIG := List.mem_append_right _ (List.mem_append_right _ (List.mem_append_right _ (List.mem_append_left _ (List.mem_of_getElem? (i := 29) rfl))))
theorem bw_150 : (Jvm.Cond.static ({ cls := "CommitDeskLaw", name := "read", desc := "(LCommitDesk;II[J)I" } : Jvm.MethodName)) ∈ BIG := List.mem_append_right _ (List.mem_append_right _ (List.mem_append_right _ (List.mem_append_left _ (List.mem_of_getElem? (i := 30) rfl))))
theorem bw_151 : (Jvm.Cond.codeWith ({ cls := "CommitDeskLaw", name := "read", desc := "(LCommitDesk;II[J)I" } : Jvm.MethodName) method_4_code (5 : Nat) (Option.some Jvm.ClassFile.FieldType.int) [((0 : Nat), (9 : Nat), (12 : Nat), (13 : Nat)), ((0 : Nat), (9 : Nat), (16 : Nat), (21 : Nat)), ((0 : Nat), (9 : Nat), (20 : Nat), (15 : Nat)), ((0 : Nat), (9 : Nat), (24 : Nat), (23 : Nat))]) ∈ BIG := List.mem_append_right _ (List.mem_append_right _ (List.mem_append_right _ (List.mem_append_left _ (List.mem_of_getElem? (i := 31) rfl))))
theorem bw_152 : (Jvm.Cond.classLink "CommitDeskLaw" (21 : Nat) "java/lang/IndexOutOfBoundsException") ∈ BIG := List.mem_append_right _ (List.mem_append_right _ (List.mem_append_right _ (List.mem_append_left _ (List.mem_of_getElem? (i := 32) rfl))))
theorem bw_153 : (Jvm.Cond.classLink "CommitDeskLaw" (23 : Nat) "java/lang/UnsupportedOperationException") ∈ BIG := List.mem_append_right _ (List.mem_append_right _ (List.mem_append_right _ (List.mem_append_left _ (List.mem_of_getElem? (i := 33) rfl))))
theorem bw_154 : (Jvm.Cond.methodLink "CommitDeskLaw" (17 : Nat) ({ cls := "CommitDesk", name := "read", desc := "(II)J" } : Jvm.MethodName)) ∈ BIG := List.mem_append_right _ (List.mem_append_right _ (List.mem_append_right _ (List.mem_append_left _ (List.mem_of_getElem? (i := 34) rfl))))
theorem bw_155 : (Jvm.Cond.instanceMethod ({ cls := "CommitDesk", name := "read", desc := "(II)J" } : Jvm.MethodName)) ∈ BIG := List.mem_append_right _ (List.mem_append_right _ (List.mem_append_right _ (List.mem_append_left _ (List.mem_of_getElem? (i := 35) rfl))))
theorem bw_156 : (Jvm.Cond.selects "CommitDesk" ({ cls := "CommitDesk", name := "read", desc := "(II)J" } : Jvm.MethodName) ({ cls := "CommitDesk", name := "read", desc := "(II)J" } : Jvm.MethodName)) ∈ BIG := List.mem_append_right _ (List.mem_append_right _ (List.mem_append_right _ (List.mem_append_left _ (List.mem_of_getElem? (i := 36) rfl))))
theorem bw_157 : (Jvm.Cond.code ({ cls := "CommitDesk", name := "read", desc := "(II)J" } : Jvm.MethodName) prog_1_method_3_code (5 : Nat) (Option.some Jvm.ClassFile.FieldType.long)) ∈ BIG := List.mem_append_right _ (List.mem_append_right _ (List.mem_append_right _ (List.mem_append_left _ (List.mem_of_getElem? (i := 37) rfl))))
theorem bw_158 : (Jvm.Cond.methodLink "CommitDesk" (49 : Nat) ({ cls := "CommitDesk", name := "openTransactionAt", desc := "(II)LCommitDesk$Transaction;" } : Jvm.MethodName)) ∈ BIG := List.mem_append_right _ (List.mem_append_right _ (List.mem_append_right _ (List.mem_append_left _ (List.mem_of_getElem? (i := 38) rfl))))
theorem bw_159 : (Jvm.Cond.instanceMethod ({ cls := "CommitDesk", name := "openTransactionAt", desc := "(II)LCommitDesk$Transaction;" } : Jvm.MethodName)) ∈ BIG := List.mem_append_right _ (List.mem_append_right _ (List.mem_append_right _ (List.mem_append_left _ (List.mem_of_getElem? (i := 39) rfl))))
theorem bw_160 : (Jvm.Cond.code ({ cls := "CommitDesk", name := "openTransactionAt", desc := "(II)LCommitDesk$Transaction;" } : Jvm.MethodName) prog_1_method_18_code (3 : Nat) (Option.some (Jvm.ClassFile.FieldType.object "CommitDesk$Transaction"))) ∈ BIG := List.mem_append_right _ (List.mem_append_right _ (List.mem_append_right _ (List.mem_append_right _ (List.mem_append_left _ (List.mem_of_getElem? (i := 0) rfl)))))
theorem bw_161 : (Jvm.Cond.methodLink "CommitDesk" (108 : Nat) ({ cls := "CommitDesk", name := "requireCell", desc := "(I)V" } : Jvm.MethodName)) ∈ BIG := List.mem_append_right _ (List.mem_append_right _ (List.mem_append_right _ (List.mem_append_right _ (List.mem_append_left _ (List.mem_of_getElem? (i := 1) rfl)))))
theorem bw_162 : (Jvm.Cond.instanceMethod ({ cls := "CommitDesk", name := "requireCell", desc := "(I)V" } : Jvm.MethodName)) ∈ BIG := List.mem_append_right _ (List.mem_append_right _ (List.mem_append_right _ (List.mem_append_right _ (List.mem_append_left _ (List.mem_of_getElem? (i := 2) rfl)))))
theorem bw_163 : (Jvm.Cond.code ({ cls := "CommitDesk", name := "requireCell", desc := "(I)V" } : Jvm.MethodName) prog_1_method_16_code (2 : Nat) (Option.none : Option Jvm.ClassFile.FieldType)) ∈ BIG := List.mem_append_right _ (List.mem_append_right _ (List.mem_append_right _ (List.mem_append_right _ (List.mem_append_left _ (List.mem_of_getElem? (i := 3) rfl)))))
theorem bw_164 : (Jvm.Cond.classLink "CommitDesk" (127 : Nat) "java/lang/IndexOutOfBoundsException") ∈ BIG := List.mem_append_right _ (List.mem_append_right _ (List.mem_append_right _ (List.mem_append_right _ (List.mem_append_left _ (List.mem_of_getElem? (i := 4) rfl)))))
theorem bw_165 : (Jvm.Cond.instantiable "java/lang/IndexOutOfBoundsException" (6 : Nat)) ∈ BIG := List.mem_append_right _ (List.mem_append_right _ (List.mem_append_right _ (List.mem_append_right _ (List.mem_append_left _ (List.mem_of_getElem? (i := 5) rfl)))))
theorem bw_166 : (Jvm.Cond.selects "java/lang/IndexOutOfBoundsException" ({ cls := "java/lang/Throwable", name := "fillInStackTrace", desc := "(I)Ljava/lang/Throwable;" } : Jvm.MethodName) ({ cls := "java/lang/Throwable", name := "fillInStackTrace", desc := "(I)Ljava/lang/Throwable;" } : Jvm.MethodName)) ∈ BIG := List.mem_append_right _ (List.mem_append_right _ (List.mem_append_right _ (List.mem_append_right _ (List.mem_append_left _ (List.mem_of_getElem? (i := 6) rfl)))))
theorem bw_167 : (Jvm.Cond.lays "java/lang/IndexOutOfBoundsException" "java/lang/Throwable" "cause" "Ljava/lang/Throwable;") ∈ BIG := List.mem_append_right _ (List.mem_append_right _ (List.mem_append_right _ (List.mem_append_right _ (List.mem_append_left _ (List.mem_of_getElem? (i := 7) rfl)))))
theorem bw_168 : (Jvm.Cond.lays "java/lang/IndexOutOfBoundsException" "java/lang/Throwable" "stackTrace" "[Ljava/lang/StackTraceElement;") ∈ BIG := List.mem_append_right _ (List.mem_append_right _ (List.mem_append_right _ (List.mem_append_right _ (List.mem_append_left _ (List.mem_of_getElem? (i := 8) rfl)))))
theorem bw_169 : (Jvm.Cond.lays "java/lang/IndexOutOfBoundsException" "java/lang/Throwable" "suppressedExceptions" "Ljava/util/List;") ∈ BIG := List.mem_append_right _ (List.mem_append_right _ (List.mem_append_right _ (List.mem_append_right _ (List.mem_append_left _ (List.mem_of_getElem? (i := 9) rfl)))))
theorem bw_170 : (Jvm.Cond.lays "java/lang/IndexOutOfBoundsException" "java/lang/Throwable" "detailMessage" "Ljava/lang/String;") ∈ BIG := List.mem_append_right _ (List.mem_append_right _ (List.mem_append_right _ (List.mem_append_right _ (List.mem_append_left _ (List.mem_of_getElem? (i := 10) rfl)))))
theorem bw_171 : (Jvm.Cond.lays "java/lang/IndexOutOfBoundsException" "java/lang/Throwable" "backtrace" "Ljava/lang/Object;") ∈ BIG := List.mem_append_right _ (List.mem_append_right _ (List.mem_append_right _ (List.mem_append_right _ (List.mem_append_left _ (List.mem_of_getElem? (i := 11) rfl)))))
theorem bw_172 : (Jvm.Cond.methodLink "CommitDesk" (131 : Nat) ({ cls := "java/lang/IndexOutOfBoundsException", name := "<init>", desc := "(Ljava/lang/String;)V" } : Jvm.MethodName)) ∈ BIG := List.mem_append_right _ (List.mem_append_right _ (List.mem_append_right _ (List.mem_append_right _ (List.mem_append_left _ (List.mem_of_getElem? (i := 12) rfl)))))
theorem bw_173 : (Jvm.Cond.instanceMethod ({ cls := "java/lang/IndexOutOfBoundsException", name := "<init>", desc := "(Ljava/lang/String;)V" } : Jvm.MethodName)) ∈ BIG := List.mem_append_right _ (List.mem_append_right _ (List.mem_append_right _ (List.mem_append_right _ (List.mem_append_left _ (List.mem_of_getElem? (i := 13) rfl)))))
theorem bw_174 : (Jvm.Cond.code ({ cls := "java/lang/IndexOutOfBoundsException", name := "<init>", desc := "(Ljava/lang/String;)V" } : Jvm.MethodName) prog_8_method_2_code (2 : Nat) (Option.none : Option Jvm.ClassFile.FieldType)) ∈ BIG := List.mem_append_right _ (List.mem_append_right _ (List.mem_append_right _ (List.mem_append_right _ (List.mem_append_left _ (List.mem_of_getElem? (i := 14) rfl)))))
theorem bw_175 : (Jvm.Cond.methodLink "java/lang/IndexOutOfBoundsException" (7 : Nat) ({ cls := "java/lang/RuntimeException", name := "<init>", desc := "(Ljava/lang/String;)V" } : Jvm.MethodName)) ∈ BIG := List.mem_append_right _ (List.mem_append_right _ (List.mem_append_right _ (List.mem_append_right _ (List.mem_append_left _ (List.mem_of_getElem? (i := 15) rfl)))))
theorem bw_176 : (Jvm.Cond.lays "java/lang/IndexOutOfBoundsException" "java/lang/Throwable" "depth" "I") ∈ BIG := List.mem_append_right _ (List.mem_append_right _ (List.mem_append_right _ (List.mem_append_right _ (List.mem_append_left _ (List.mem_of_getElem? (i := 16) rfl)))))
theorem bw_177 : (Jvm.Cond.superclass "java/lang/IndexOutOfBoundsException" "java/lang/RuntimeException") ∈ BIG := List.mem_append_right _ (List.mem_append_right _ (List.mem_append_right _ (List.mem_append_right _ (List.mem_append_left _ (List.mem_of_getElem? (i := 17) rfl)))))
theorem bw_178 : (Jvm.Cond.methodLink "CommitDesk" (81 : Nat) ({ cls := "CommitDesk", name := "openTransactionOf", desc := "(I)LCommitDesk$Transaction;" } : Jvm.MethodName)) ∈ BIG := List.mem_append_right _ (List.mem_append_right _ (List.mem_append_right _ (List.mem_append_right _ (List.mem_append_left _ (List.mem_of_getElem? (i := 18) rfl)))))
theorem bw_179 : (Jvm.Cond.instanceMethod ({ cls := "CommitDesk", name := "openTransactionOf", desc := "(I)LCommitDesk$Transaction;" } : Jvm.MethodName)) ∈ BIG := List.mem_append_right _ (List.mem_append_right _ (List.mem_append_right _ (List.mem_append_right _ (List.mem_append_left _ (List.mem_of_getElem? (i := 19) rfl)))))
theorem bw_180 : (Jvm.Cond.code ({ cls := "CommitDesk", name := "openTransactionOf", desc := "(I)LCommitDesk$Transaction;" } : Jvm.MethodName) prog_1_method_17_code (3 : Nat) (Option.some (Jvm.ClassFile.FieldType.object "CommitDesk$Transaction"))) ∈ BIG := List.mem_append_right _ (List.mem_append_right _ (List.mem_append_right _ (List.mem_append_right _ (List.mem_append_left _ (List.mem_of_getElem? (i := 20) rfl)))))
theorem bw_181 : (Jvm.Cond.methodLink "CommitDesk" (53 : Nat) ({ cls := "CommitDesk$Transaction", name := "lastPartWith", desc := "(I)I" } : Jvm.MethodName)) ∈ BIG := List.mem_append_right _ (List.mem_append_right _ (List.mem_append_right _ (List.mem_append_right _ (List.mem_append_left _ (List.mem_of_getElem? (i := 21) rfl)))))
theorem bw_182 : (Jvm.Cond.instanceMethod ({ cls := "CommitDesk$Transaction", name := "lastPartWith", desc := "(I)I" } : Jvm.MethodName)) ∈ BIG := List.mem_append_right _ (List.mem_append_right _ (List.mem_append_right _ (List.mem_append_right _ (List.mem_append_left _ (List.mem_of_getElem? (i := 22) rfl)))))
theorem bw_183 : (Jvm.Cond.selects "CommitDesk$Transaction" ({ cls := "CommitDesk$Transaction", name := "lastPartWith", desc := "(I)I" } : Jvm.MethodName) ({ cls := "CommitDesk$Transaction", name := "lastPartWith", desc := "(I)I" } : Jvm.MethodName)) ∈ BIG := List.mem_append_right _ (List.mem_append_right _ (List.mem_append_right _ (List.mem_append_right _ (List.mem_append_left _ (List.mem_of_getElem? (i := 23) rfl)))))
theorem bw_184 : (Jvm.Cond.code ({ cls := "CommitDesk$Transaction", name := "lastPartWith", desc := "(I)I" } : Jvm.MethodName) prog_2_method_11_code (3 : Nat) (Option.some Jvm.ClassFile.FieldType.int)) ∈ BIG := List.mem_append_right _ (List.mem_append_right _ (List.mem_append_right _ (List.mem_append_right _ (List.mem_append_left _ (List.mem_of_getElem? (i := 24) rfl)))))
theorem bw_185 : (Jvm.Cond.methodLink "CommitDesk$Transaction" (40 : Nat) ({ cls := "CommitDesk$Transaction", name := "holds", desc := "(II)Z" } : Jvm.MethodName)) ∈ BIG := List.mem_append_right _ (List.mem_append_right _ (List.mem_append_right _ (List.mem_append_right _ (List.mem_append_left _ (List.mem_of_getElem? (i := 25) rfl)))))
theorem bw_186 : (Jvm.Cond.static ({ cls := "CommitDesk$Transaction", name := "holds", desc := "(II)Z" } : Jvm.MethodName)) ∈ BIG := List.mem_append_right _ (List.mem_append_right _ (List.mem_append_right _ (List.mem_append_right _ (List.mem_append_left _ (List.mem_of_getElem? (i := 26) rfl)))))
theorem bw_187 : (Jvm.Cond.code ({ cls := "CommitDesk$Transaction", name := "holds", desc := "(II)Z" } : Jvm.MethodName) prog_2_method_18_code (2 : Nat) (Option.some Jvm.ClassFile.FieldType.boolean)) ∈ BIG := List.mem_append_right _ (List.mem_append_right _ (List.mem_append_right _ (List.mem_append_right _ (List.mem_append_left _ (List.mem_of_getElem? (i := 27) rfl)))))
theorem bw_188 : (Jvm.Cond.methodLink "CommitDesk" (57 : Nat) ({ cls := "CommitDesk$Transaction", name := "writtenIn", desc := "(II)J" } : Jvm.MethodName)) ∈ BIG := List.mem_append_right _ (List.mem_append_right _ (List.mem_append_right _ (List.mem_append_right _ (List.mem_append_left _ (List.mem_of_getElem? (i := 28) rfl)))))
theorem bw_189 : (Jvm.Cond.instanceMethod ({ cls := "CommitDesk$Transaction", name := "writtenIn", desc := "(II)J" } : Jvm.MethodName)) ∈ BIG := List.mem_append_right _ (List.mem_append_right _ (List.mem_append_right _ (List.mem_append_right _ (List.mem_append_left _ (List.mem_of_getElem? (i := 29) rfl)))))
theorem bw_190 : (Jvm.Cond.selects "CommitDesk$Transaction" ({ cls := "CommitDesk$Transaction", name := "writtenIn", desc := "(II)J" } : Jvm.MethodName) ({ cls := "CommitDesk$Transaction", name := "writtenIn", desc := "(II)J" } : Jvm.MethodName)) ∈ BIG := List.mem_append_right _ (List.mem_append_right _ (List.mem_append_right _ (List.mem_append_right _ (List.mem_append_left _ (List.mem_of_getElem? (i := 30) rfl)))))
theorem bw_191 : (Jvm.Cond.code ({ cls := "CommitDesk$Transaction", name := "writtenIn", desc := "(II)J" } : Jvm.MethodName) prog_2_method_12_code (3 : Nat) (Option.some Jvm.ClassFile.FieldType.long)) ∈ BIG := List.mem_append_right _ (List.mem_append_right _ (List.mem_append_right _ (List.mem_append_right _ (List.mem_append_left _ (List.mem_of_getElem? (i := 31) rfl)))))
theorem bw_192 : (Jvm.Cond.methodLink "CommitDesk" (61 : Nat) ({ cls := "CommitDesk$Transaction", name := "isStale", desc := "()Z" } : Jvm.MethodName)) ∈ BIG := List.mem_append_right _ (List.mem_append_right _ (List.mem_append_right _ (List.mem_append_right _ (List.mem_append_left _ (List.mem_of_getElem? (i := 32) rfl)))))
theorem bw_193 : (Jvm.Cond.instanceMethod ({ cls := "CommitDesk$Transaction", name := "isStale", desc := "()Z" } : Jvm.MethodName)) ∈ BIG := List.mem_append_right _ (List.mem_append_right _ (List.mem_append_right _ (List.mem_append_right _ (List.mem_append_left _ (List.mem_of_getElem? (i := 33) rfl)))))
theorem bw_194 : (Jvm.Cond.selects "CommitDesk$Transaction" ({ cls := "CommitDesk$Transaction", name := "isStale", desc := "()Z" } : Jvm.MethodName) ({ cls := "CommitDesk$Transaction", name := "isStale", desc := "()Z" } : Jvm.MethodName)) ∈ BIG := List.mem_append_right _ (List.mem_append_right _ (List.mem_append_right _ (List.mem_append_right _ (List.mem_append_left _ (List.mem_of_getElem? (i := 34) rfl)))))
theorem bw_195 : (Jvm.Cond.code ({ cls := "CommitDesk$Transaction", name := "isStale", desc := "()Z" } : Jvm.MethodName) prog_2_method_3_code (1 : Nat) (Option.some Jvm.ClassFile.FieldType.boolean)) ∈ BIG := List.mem_append_right _ (List.mem_append_right _ (List.mem_append_right _ (List.mem_append_right _ (List.mem_append_left _ (List.mem_of_getElem? (i := 35) rfl)))))
theorem bw_196 : (Jvm.Cond.methodLink "CommitDesk" (64 : Nat) ({ cls := "CommitDesk", name := "endStale", desc := "(LCommitDesk$Transaction;)V" } : Jvm.MethodName)) ∈ BIG := List.mem_append_right _ (List.mem_append_right _ (List.mem_append_right _ (List.mem_append_right _ (List.mem_append_left _ (List.mem_of_getElem? (i := 36) rfl)))))
theorem bw_197 : (Jvm.Cond.instanceMethod ({ cls := "CommitDesk", name := "endStale", desc := "(LCommitDesk$Transaction;)V" } : Jvm.MethodName)) ∈ BIG := List.mem_append_right _ (List.mem_append_right _ (List.mem_append_right _ (List.mem_append_right _ (List.mem_append_left _ (List.mem_of_getElem? (i := 37) rfl)))))
theorem bw_198 : (Jvm.Cond.code ({ cls := "CommitDesk", name := "endStale", desc := "(LCommitDesk$Transaction;)V" } : Jvm.MethodName) prog_1_method_20_code (2 : Nat) (Option.none : Option Jvm.ClassFile.FieldType)) ∈ BIG := List.mem_append_right _ (List.mem_append_right _ (List.mem_append_right _ (List.mem_append_right _ (List.mem_append_left _ (List.mem_of_getElem? (i := 38) rfl)))))
theorem bw_199 : (Jvm.Cond.methodLink "CommitDesk" (102 : Nat) ({ cls := "CommitDesk$Transaction", name := "close", desc := "()V" } : Jvm.MethodName)) ∈ BIG := List.mem_append_right _ (List.mem_append_right _ (List.mem_append_right _ (List.mem_append_right _ (List.mem_append_left _ (List.mem_of_getElem? (i := 39) rfl)))))
theorem bw_200 : (Jvm.Cond.instanceMethod ({ cls := "CommitDesk$Transaction", name := "close", desc := "()V" } : Jvm.MethodName)) ∈ BIG := List.mem_append_right _ (List.mem_append_right _ (List.mem_append_right _ (List.mem_append_right _ (List.mem_append_right _ (List.mem_append_left _ (List.mem_of_getElem? (i := 0) rfl))))))
theorem bw_201 : (Jvm.Cond.selects "CommitDesk$Transaction" ({ cls := "CommitDesk$Transaction", name := "close", desc := "()V" } : Jvm.MethodName) ({ cls := "CommitDesk$Transaction", name := "close", desc := "()V" } : Jvm.MethodName)) ∈ BIG := List.mem_append_right _ (List.mem_append_right _ (List.mem_append_right _ (List.mem_append_right _ (List.mem_append_right _ (List.mem_append_left _ (List.mem_of_getElem? (i := 1) rfl))))))
theorem bw_202 : (Jvm.Cond.code ({ cls := "CommitDesk$Transaction", name := "close", desc := "()V" } : Jvm.MethodName) prog_2_method_8_code (1 : Nat) (Option.none : Option Jvm.ClassFile.FieldType)) ∈ BIG := List.mem_append_right _ (List.mem_append_right _ (List.mem_append_right _ (List.mem_append_right _ (List.mem_append_right _ (List.mem_append_left _ (List.mem_of_getElem? (i := 2) rfl))))))
theorem bw_203 : (Jvm.Cond.classLink "CommitDesk" (68 : Nat) "java/lang/UnsupportedOperationException") ∈ BIG := List.mem_append_right _ (List.mem_append_right _ (List.mem_append_right _ (List.mem_append_right _ (List.mem_append_right _ (List.mem_append_left _ (List.mem_of_getElem? (i := 3) rfl))))))
theorem bw_204 : (Jvm.Cond.instantiable "java/lang/UnsupportedOperationException" (6 : Nat)) ∈ BIG := List.mem_append_right _ (List.mem_append_right _ (List.mem_append_right _ (List.mem_append_right _ (List.mem_append_right _ (List.mem_append_left _ (List.mem_of_getElem? (i := 4) rfl))))))
theorem bw_205 : (Jvm.Cond.selects "java/lang/UnsupportedOperationException" ({ cls := "java/lang/Throwable", name := "fillInStackTrace", desc := "(I)Ljava/lang/Throwable;" } : Jvm.MethodName) ({ cls := "java/lang/Throwable", name := "fillInStackTrace", desc := "(I)Ljava/lang/Throwable;" } : Jvm.MethodName)) ∈ BIG := List.mem_append_right _ (List.mem_append_right _ (List.mem_append_right _ (List.mem_append_right _ (List.mem_append_right _ (List.mem_append_left _ (List.mem_of_getElem? (i := 5) rfl))))))
theorem bw_206 : (Jvm.Cond.lays "java/lang/UnsupportedOperationException" "java/lang/Throwable" "cause" "Ljava/lang/Throwable;") ∈ BIG := List.mem_append_right _ (List.mem_append_right _ (List.mem_append_right _ (List.mem_append_right _ (List.mem_append_right _ (List.mem_append_left _ (List.mem_of_getElem? (i := 6) rfl))))))
theorem bw_207 : (Jvm.Cond.lays "java/lang/UnsupportedOperationException" "java/lang/Throwable" "stackTrace" "[Ljava/lang/StackTraceElement;") ∈ BIG := List.mem_append_right _ (List.mem_append_right _ (List.mem_append_right _ (List.mem_append_right _ (List.mem_append_right _ (List.mem_append_left _ (List.mem_of_getElem? (i := 7) rfl))))))
theorem bw_208 : (Jvm.Cond.lays "java/lang/UnsupportedOperationException" "java/lang/Throwable" "suppressedExceptions" "Ljava/util/List;") ∈ BIG := List.mem_append_right _ (List.mem_append_right _ (List.mem_append_right _ (List.mem_append_right _ (List.mem_append_right _ (List.mem_append_left _ (List.mem_of_getElem? (i := 8) rfl))))))
theorem bw_209 : (Jvm.Cond.lays "java/lang/UnsupportedOperationException" "java/lang/Throwable" "detailMessage" "Ljava/lang/String;") ∈ BIG := List.mem_append_right _ (List.mem_append_right _ (List.mem_append_right _ (List.mem_append_right _ (List.mem_append_right _ (List.mem_append_left _ (List.mem_of_getElem? (i := 9) rfl))))))
theorem bw_210 : (Jvm.Cond.lays "java/lang/UnsupportedOperationException" "java/lang/Throwable" "backtrace" "Ljava/lang/Object;") ∈ BIG := List.mem_append_right _ (List.mem_append_right _ (List.mem_append_right _ (List.mem_append_right _ (List.mem_append_right _ (List.mem_append_left _ (List.mem_of_getElem? (i := 10) rfl))))))
theorem bw_211 : (Jvm.Cond.methodLink "CommitDesk" (72 : Nat) ({ cls := "java/lang/UnsupportedOperationException", name := "<init>", desc := "(Ljava/lang/String;)V" } : Jvm.MethodName)) ∈ BIG := List.mem_append_right _ (List.mem_append_right _ (List.mem_append_right _ (List.mem_append_right _ (List.mem_append_right _ (List.mem_append_left _ (List.mem_of_getElem? (i := 11) rfl))))))
theorem bw_212 : (Jvm.Cond.instanceMethod ({ cls := "java/lang/UnsupportedOperationException", name := "<init>", desc := "(Ljava/lang/String;)V" } : Jvm.MethodName)) ∈ BIG := List.mem_append_right _ (List.mem_append_right _ (List.mem_append_right _ (List.mem_append_right _ (List.mem_append_right _ (List.mem_append_left _ (List.mem_of_getElem? (i := 12) rfl))))))
theorem bw_213 : (Jvm.Cond.code ({ cls := "java/lang/UnsupportedOperationException", name := "<init>", desc := "(Ljava/lang/String;)V" } : Jvm.MethodName) prog_13_method_2_code (2 : Nat) (Option.none : Option Jvm.ClassFile.FieldType)) ∈ BIG := List.mem_append_right _ (List.mem_append_right _ (List.mem_append_right _ (List.mem_append_right _ (List.mem_append_right _ (List.mem_append_left _ (List.mem_of_getElem? (i := 13) rfl))))))
theorem bw_214 : (Jvm.Cond.methodLink "java/lang/UnsupportedOperationException" (7 : Nat) ({ cls := "java/lang/RuntimeException", name := "<init>", desc := "(Ljava/lang/String;)V" } : Jvm.MethodName)) ∈ BIG := List.mem_append_right _ (List.mem_append_right _ (List.mem_append_right _ (List.mem_append_right _ (List.mem_append_right _ (List.mem_append_left _ (List.mem_of_getElem? (i := 14) rfl))))))
theorem bw_215 : (Jvm.Cond.lays "java/lang/UnsupportedOperationException" "java/lang/Throwable" "depth" "I") ∈ BIG := List.mem_append_right _ (List.mem_append_right _ (List.mem_append_right _ (List.mem_append_right _ (List.mem_append_right _ (List.mem_append_left _ (List.mem_of_getElem? (i := 15) rfl))))))
theorem bw_216 : (Jvm.Cond.superclass "java/lang/UnsupportedOperationException" "java/lang/RuntimeException") ∈ BIG := List.mem_append_right _ (List.mem_append_right _ (List.mem_append_right _ (List.mem_append_right _ (List.mem_append_right _ (List.mem_append_left _ (List.mem_of_getElem? (i := 16) rfl))))))
theorem bw_217 : (Jvm.Cond.methodLink "CommitDesk" (73 : Nat) ({ cls := "CommitDesk$Transaction", name := "markRead", desc := "(I)V" } : Jvm.MethodName)) ∈ BIG := List.mem_append_right _ (List.mem_append_right _ (List.mem_append_right _ (List.mem_append_right _ (List.mem_append_right _ (List.mem_append_left _ (List.mem_of_getElem? (i := 17) rfl))))))
theorem bw_218 : (Jvm.Cond.instanceMethod ({ cls := "CommitDesk$Transaction", name := "markRead", desc := "(I)V" } : Jvm.MethodName)) ∈ BIG := List.mem_append_right _ (List.mem_append_right _ (List.mem_append_right _ (List.mem_append_right _ (List.mem_append_right _ (List.mem_append_left _ (List.mem_of_getElem? (i := 18) rfl))))))
theorem bw_219 : (Jvm.Cond.selects "CommitDesk$Transaction" ({ cls := "CommitDesk$Transaction", name := "markRead", desc := "(I)V" } : Jvm.MethodName) ({ cls := "CommitDesk$Transaction", name := "markRead", desc := "(I)V" } : Jvm.MethodName)) ∈ BIG := List.mem_append_right _ (List.mem_append_right _ (List.mem_append_right _ (List.mem_append_right _ (List.mem_append_right _ (List.mem_append_left _ (List.mem_of_getElem? (i := 19) rfl))))))
theorem bw_220 : (Jvm.Cond.code ({ cls := "CommitDesk$Transaction", name := "markRead", desc := "(I)V" } : Jvm.MethodName) prog_2_method_9_code (2 : Nat) (Option.none : Option Jvm.ClassFile.FieldType)) ∈ BIG := List.mem_append_right _ (List.mem_append_right _ (List.mem_append_right _ (List.mem_append_right _ (List.mem_append_right _ (List.mem_append_left _ (List.mem_of_getElem? (i := 20) rfl))))))
theorem bw_221 : (Jvm.Cond.methodLink "CommitDeskLaw" (84 : Nat) ({ cls := "CommitDeskLaw", name := "write", desc := "(LCommitDesk;IIJ)I" } : Jvm.MethodName)) ∈ BIG := List.mem_append_right _ (List.mem_append_right _ (List.mem_append_right _ (List.mem_append_right _ (List.mem_append_right _ (List.mem_append_left _ (List.mem_of_getElem? (i := 21) rfl))))))
theorem bw_222 : (Jvm.Cond.static ({ cls := "CommitDeskLaw", name := "write", desc := "(LCommitDesk;IIJ)I" } : Jvm.MethodName)) ∈ BIG := List.mem_append_right _ (List.mem_append_right _ (List.mem_append_right _ (List.mem_append_right _ (List.mem_append_right _ (List.mem_append_left _ (List.mem_of_getElem? (i := 22) rfl))))))
theorem bw_223 : (Jvm.Cond.codeWith ({ cls := "CommitDeskLaw", name := "write", desc := "(LCommitDesk;IIJ)I" } : Jvm.MethodName) method_5_code (6 : Nat) (Option.some Jvm.ClassFile.FieldType.int) [((0 : Nat), (7 : Nat), (10 : Nat), (13 : Nat)), ((0 : Nat), (7 : Nat), (14 : Nat), (21 : Nat)), ((0 : Nat), (7 : Nat), (18 : Nat), (15 : Nat))]) ∈ BIG := List.mem_append_right _ (List.mem_append_right _ (List.mem_append_right _ (List.mem_append_right _ (List.mem_append_right _ (List.mem_append_left _ (List.mem_of_getElem? (i := 23) rfl))))))
theorem bw_224 : (Jvm.Cond.methodLink "CommitDeskLaw" (25 : Nat) ({ cls := "CommitDesk", name := "write", desc := "(IIJ)V" } : Jvm.MethodName)) ∈ BIG := List.mem_append_right _ (List.mem_append_right _ (List.mem_append_right _ (List.mem_append_right _ (List.mem_append_right _ (List.mem_append_left _ (List.mem_of_getElem? (i := 24) rfl))))))
theorem bw_225 : (Jvm.Cond.instanceMethod ({ cls := "CommitDesk", name := "write", desc := "(IIJ)V" } : Jvm.MethodName)) ∈ BIG := List.mem_append_right _ (List.mem_append_right _ (List.mem_append_right _ (List.mem_append_right _ (List.mem_append_right _ (List.mem_append_left _ (List.mem_of_getElem? (i := 25) rfl))))))
theorem bw_226 : (Jvm.Cond.selects "CommitDesk" ({ cls := "CommitDesk", name := "write", desc := "(IIJ)V" } : Jvm.MethodName) ({ cls := "CommitDesk", name := "write", desc := "(IIJ)V" } : Jvm.MethodName)) ∈ BIG := List.mem_append_right _ (List.mem_append_right _ (List.mem_append_right _ (List.mem_append_right _ (List.mem_append_right _ (List.mem_append_left _ (List.mem_of_getElem? (i := 26) rfl))))))
theorem bw_227 : (Jvm.Cond.code ({ cls := "CommitDesk", name := "write", desc := "(IIJ)V" } : Jvm.MethodName) prog_1_method_4_code (5 : Nat) (Option.none : Option Jvm.ClassFile.FieldType)) ∈ BIG := List.mem_append_right _ (List.mem_append_right _ (List.mem_append_right _ (List.mem_append_right _ (List.mem_append_right _ (List.mem_append_left _ (List.mem_of_getElem? (i := 27) rfl))))))
theorem bw_228 : (Jvm.Cond.methodLink "CommitDesk" (77 : Nat) ({ cls := "CommitDesk$Transaction", name := "putInLastPart", desc := "(IJ)V" } : Jvm.MethodName)) ∈ BIG := List.mem_append_right _ (List.mem_append_right _ (List.mem_append_right _ (List.mem_append_right _ (List.mem_append_right _ (List.mem_append_left _ (List.mem_of_getElem? (i := 28) rfl))))))
theorem bw_229 : (Jvm.Cond.instanceMethod ({ cls := "CommitDesk$Transaction", name := "putInLastPart", desc := "(IJ)V" } : Jvm.MethodName)) ∈ BIG := List.mem_append_right _ (List.mem_append_right _ (List.mem_append_right _ (List.mem_append_right _ (List.mem_append_right _ (List.mem_append_left _ (List.mem_of_getElem? (i := 29) rfl))))))
theorem bw_230 : (Jvm.Cond.selects "CommitDesk$Transaction" ({ cls := "CommitDesk$Transaction", name := "putInLastPart", desc := "(IJ)V" } : Jvm.MethodName) ({ cls := "CommitDesk$Transaction", name := "putInLastPart", desc := "(IJ)V" } : Jvm.MethodName)) ∈ BIG := List.mem_append_right _ (List.mem_append_right _ (List.mem_append_right _ (List.mem_append_right _ (List.mem_append_right _ (List.mem_append_left _ (List.mem_of_getElem? (i := 30) rfl))))))
theorem bw_231 : (Jvm.Cond.code ({ cls := "CommitDesk$Transaction", name := "putInLastPart", desc := "(IJ)V" } : Jvm.MethodName) prog_2_method_13_code (4 : Nat) (Option.none : Option Jvm.ClassFile.FieldType)) ∈ BIG := List.mem_append_right _ (List.mem_append_right _ (List.mem_append_right _ (List.mem_append_right _ (List.mem_append_right _ (List.mem_append_left _ (List.mem_of_getElem? (i := 31) rfl))))))
theorem bw_232 : (Jvm.Cond.methodLink "CommitDesk$Transaction" (44 : Nat) ({ cls := "CommitDesk$Transaction", name := "putInPart", desc := "(IIJ)V" } : Jvm.MethodName)) ∈ BIG := List.mem_append_right _ (List.mem_append_right _ (List.mem_append_right _ (List.mem_append_right _ (List.mem_append_right _ (List.mem_append_left _ (List.mem_of_getElem? (i := 32) rfl))))))
theorem bw_233 : (Jvm.Cond.instanceMethod ({ cls := "CommitDesk$Transaction", name := "putInPart", desc := "(IIJ)V" } : Jvm.MethodName)) ∈ BIG := List.mem_append_right _ (List.mem_append_right _ (List.mem_append_right _ (List.mem_append_right _ (List.mem_append_right _ (List.mem_append_left _ (List.mem_of_getElem? (i := 33) rfl))))))
theorem bw_234 : (Jvm.Cond.code ({ cls := "CommitDesk$Transaction", name := "putInPart", desc := "(IIJ)V" } : Jvm.MethodName) prog_2_method_17_code (5 : Nat) (Option.none : Option Jvm.ClassFile.FieldType)) ∈ BIG := List.mem_append_right _ (List.mem_append_right _ (List.mem_append_right _ (List.mem_append_right _ (List.mem_append_right _ (List.mem_append_left _ (List.mem_of_getElem? (i := 34) rfl))))))
theorem bw_235 : (Jvm.Cond.methodLink "CommitDeskLaw" (88 : Nat) ({ cls := "CommitDeskLaw", name := "save", desc := "(LCommitDesk;I[J)I" } : Jvm.MethodName)) ∈ BIG := List.mem_append_right _ (List.mem_append_right _ (List.mem_append_right _ (List.mem_append_right _ (List.mem_append_right _ (List.mem_append_left _ (List.mem_of_getElem? (i := 35) rfl))))))
theorem bw_236 : (Jvm.Cond.static ({ cls := "CommitDeskLaw", name := "save", desc := "(LCommitDesk;I[J)I" } : Jvm.MethodName)) ∈ BIG := List.mem_append_right _ (List.mem_append_right _ (List.mem_append_right _ (List.mem_append_right _ (List.mem_append_right _ (List.mem_append_left _ (List.mem_of_getElem? (i := 36) rfl))))))
theorem bw_237 : (Jvm.Cond.codeWith ({ cls := "CommitDeskLaw", name := "save", desc := "(LCommitDesk;I[J)I" } : Jvm.MethodName) method_6_code (4 : Nat) (Option.some Jvm.ClassFile.FieldType.int) [((0 : Nat), (9 : Nat), (12 : Nat), (13 : Nat)), ((0 : Nat), (9 : Nat), (15 : Nat), (15 : Nat)), ((0 : Nat), (9 : Nat), (18 : Nat), (23 : Nat))]) ∈ BIG := List.mem_append_right _ (List.mem_append_right _ (List.mem_append_right _ (List.mem_append_right _ (List.mem_append_right _ (List.mem_append_left _ (List.mem_of_getElem? (i := 37) rfl))))))
theorem bw_238 : (Jvm.Cond.methodLink "CommitDeskLaw" (29 : Nat) ({ cls := "CommitDesk", name := "save", desc := "(I)I" } : Jvm.MethodName)) ∈ BIG := List.mem_append_right _ (List.mem_append_right _ (List.mem_append_right _ (List.mem_append_right _ (List.mem_append_right _ (List.mem_append_left _ (List.mem_of_getElem? (i := 38) rfl))))))
theorem bw_239 : (Jvm.Cond.instanceMethod ({ cls := "CommitDesk", name := "save", desc := "(I)I" } : Jvm.MethodName)) ∈ BIG := List.mem_append_right _ (List.mem_append_right _ (List.mem_append_right _ (List.mem_append_right _ (List.mem_append_right _ (List.mem_append_left _ (List.mem_of_getElem? (i := 39) rfl))))))
theorem bw_240 : (Jvm.Cond.selects "CommitDesk" ({ cls := "CommitDesk", name := "save", desc := "(I)I" } : Jvm.MethodName) ({ cls := "CommitDesk", name := "save", desc := "(I)I" } : Jvm.MethodName)) ∈ BIG := List.mem_append_right _ (List.mem_append_right _ (List.mem_append_right _ (List.mem_append_right _ (List.mem_append_right _ (List.mem_append_right _ (List.mem_append_left _ (List.mem_of_getElem? (i := 0) rfl)))))))
theorem bw_241 : (Jvm.Cond.code ({ cls := "CommitDesk", name := "save", desc := "(I)I" } : Jvm.MethodName) prog_1_method_5_code (3 : Nat) (Option.some Jvm.ClassFile.FieldType.int)) ∈ BIG := List.mem_append_right _ (List.mem_append_right _ (List.mem_append_right _ (List.mem_append_right _ (List.mem_append_right _ (List.mem_append_right _ (List.mem_append_left _ (List.mem_of_getElem? (i := 1) rfl)))))))
theorem bw_242 : (Jvm.Cond.methodLink "CommitDesk" (84 : Nat) ({ cls := "CommitDesk$Transaction", name := "partCount", desc := "()I" } : Jvm.MethodName)) ∈ BIG := List.mem_append_right _ (List.mem_append_right _ (List.mem_append_right _ (List.mem_append_right _ (List.mem_append_right _ (List.mem_append_right _ (List.mem_append_left _ (List.mem_of_getElem? (i := 2) rfl)))))))
theorem bw_243 : (Jvm.Cond.instanceMethod ({ cls := "CommitDesk$Transaction", name := "partCount", desc := "()I" } : Jvm.MethodName)) ∈ BIG := List.mem_append_right _ (List.mem_append_right _ (List.mem_append_right _ (List.mem_append_right _ (List.mem_append_right _ (List.mem_append_right _ (List.mem_append_left _ (List.mem_of_getElem? (i := 3) rfl)))))))
theorem bw_244 : (Jvm.Cond.selects "CommitDesk$Transaction" ({ cls := "CommitDesk$Transaction", name := "partCount", desc := "()I" } : Jvm.MethodName) ({ cls := "CommitDesk$Transaction", name := "partCount", desc := "()I" } : Jvm.MethodName)) ∈ BIG := List.mem_append_right _ (List.mem_append_right _ (List.mem_append_right _ (List.mem_append_right _ (List.mem_append_right _ (List.mem_append_right _ (List.mem_append_left _ (List.mem_of_getElem? (i := 4) rfl)))))))
theorem bw_245 : (Jvm.Cond.code ({ cls := "CommitDesk$Transaction", name := "partCount", desc := "()I" } : Jvm.MethodName) prog_2_method_4_code (1 : Nat) (Option.some Jvm.ClassFile.FieldType.int)) ∈ BIG := List.mem_append_right _ (List.mem_append_right _ (List.mem_append_right _ (List.mem_append_right _ (List.mem_append_right _ (List.mem_append_right _ (List.mem_append_left _ (List.mem_of_getElem? (i := 5) rfl)))))))
theorem bw_246 : (Jvm.Cond.methodLink "CommitDesk" (90 : Nat) ({ cls := "CommitDesk$Transaction", name := "addPart", desc := "()V" } : Jvm.MethodName)) ∈ BIG := List.mem_append_right _ (List.mem_append_right _ (List.mem_append_right _ (List.mem_append_right _ (List.mem_append_right _ (List.mem_append_right _ (List.mem_append_left _ (List.mem_of_getElem? (i := 6) rfl)))))))
theorem bw_247 : (Jvm.Cond.instanceMethod ({ cls := "CommitDesk$Transaction", name := "addPart", desc := "()V" } : Jvm.MethodName)) ∈ BIG := List.mem_append_right _ (List.mem_append_right _ (List.mem_append_right _ (List.mem_append_right _ (List.mem_append_right _ (List.mem_append_right _ (List.mem_append_left _ (List.mem_of_getElem? (i := 7) rfl)))))))
theorem bw_248 : (Jvm.Cond.selects "CommitDesk$Transaction" ({ cls := "CommitDesk$Transaction", name := "addPart", desc := "()V" } : Jvm.MethodName) ({ cls := "CommitDesk$Transaction", name := "addPart", desc := "()V" } : Jvm.MethodName)) ∈ BIG := List.mem_append_right _ (List.mem_append_right _ (List.mem_append_right _ (List.mem_append_right _ (List.mem_append_right _ (List.mem_append_right _ (List.mem_append_left _ (List.mem_of_getElem? (i := 8) rfl)))))))
theorem bw_249 : (Jvm.Cond.code ({ cls := "CommitDesk$Transaction", name := "addPart", desc := "()V" } : Jvm.MethodName) prog_2_method_14_code (1 : Nat) (Option.none : Option Jvm.ClassFile.FieldType)) ∈ BIG := List.mem_append_right _ (List.mem_append_right _ (List.mem_append_right _ (List.mem_append_right _ (List.mem_append_right _ (List.mem_append_right _ (List.mem_append_left _ (List.mem_of_getElem? (i := 9) rfl)))))))
theorem bw_250 : (Jvm.Cond.methodLink "CommitDeskLaw" (92 : Nat) ({ cls := "CommitDeskLaw", name := "back", desc := "(LCommitDesk;I)I" } : Jvm.MethodName)) ∈ BIG := List.mem_append_right _ (List.mem_append_right _ (List.mem_append_right _ (List.mem_append_right _ (List.mem_append_right _ (List.mem_append_right _ (List.mem_append_left _ (List.mem_of_getElem? (i := 10) rfl)))))))
theorem bw_251 : (Jvm.Cond.static ({ cls := "CommitDeskLaw", name := "back", desc := "(LCommitDesk;I)I" } : Jvm.MethodName)) ∈ BIG := List.mem_append_right _ (List.mem_append_right _ (List.mem_append_right _ (List.mem_append_right _ (List.mem_append_right _ (List.mem_append_right _ (List.mem_append_left _ (List.mem_of_getElem? (i := 11) rfl)))))))
theorem bw_252 : (Jvm.Cond.codeWith ({ cls := "CommitDeskLaw", name := "back", desc := "(LCommitDesk;I)I" } : Jvm.MethodName) method_7_code (3 : Nat) (Option.some Jvm.ClassFile.FieldType.int) [((0 : Nat), (5 : Nat), (8 : Nat), (13 : Nat)), ((0 : Nat), (5 : Nat), (11 : Nat), (15 : Nat)), ((0 : Nat), (5 : Nat), (14 : Nat), (23 : Nat))]) ∈ BIG := List.mem_append_right _ (List.mem_append_right _ (List.mem_append_right _ (List.mem_append_right _ (List.mem_append_right _ (List.mem_append_right _ (List.mem_append_left _ (List.mem_of_getElem? (i := 12) rfl)))))))
theorem bw_253 : (Jvm.Cond.methodLink "CommitDeskLaw" (33 : Nat) ({ cls := "CommitDesk", name := "back", desc := "(I)V" } : Jvm.MethodName)) ∈ BIG := List.mem_append_right _ (List.mem_append_right _ (List.mem_append_right _ (List.mem_append_right _ (List.mem_append_right _ (List.mem_append_right _ (List.mem_append_left _ (List.mem_of_getElem? (i := 13) rfl)))))))
theorem bw_254 : (Jvm.Cond.instanceMethod ({ cls := "CommitDesk", name := "back", desc := "(I)V" } : Jvm.MethodName)) ∈ BIG := List.mem_append_right _ (List.mem_append_right _ (List.mem_append_right _ (List.mem_append_right _ (List.mem_append_right _ (List.mem_append_right _ (List.mem_append_left _ (List.mem_of_getElem? (i := 14) rfl)))))))
theorem bw_255 : (Jvm.Cond.selects "CommitDesk" ({ cls := "CommitDesk", name := "back", desc := "(I)V" } : Jvm.MethodName) ({ cls := "CommitDesk", name := "back", desc := "(I)V" } : Jvm.MethodName)) ∈ BIG := List.mem_append_right _ (List.mem_append_right _ (List.mem_append_right _ (List.mem_append_right _ (List.mem_append_right _ (List.mem_append_right _ (List.mem_append_left _ (List.mem_of_getElem? (i := 15) rfl)))))))
theorem bw_256 : (Jvm.Cond.code ({ cls := "CommitDesk", name := "back", desc := "(I)V" } : Jvm.MethodName) prog_1_method_6_code (2 : Nat) (Option.none : Option Jvm.ClassFile.FieldType)) ∈ BIG := List.mem_append_right _ (List.mem_append_right _ (List.mem_append_right _ (List.mem_append_right _ (List.mem_append_right _ (List.mem_append_right _ (List.mem_append_left _ (List.mem_of_getElem? (i := 16) rfl)))))))
theorem bw_257 : (Jvm.Cond.methodLink "CommitDesk" (93 : Nat) ({ cls := "CommitDesk", name := "transactionWithSeveralParts", desc := "(I)LCommitDesk$Transaction;" } : Jvm.MethodName)) ∈ BIG := List.mem_append_right _ (List.mem_append_right _ (List.mem_append_right _ (List.mem_append_right _ (List.mem_append_right _ (List.mem_append_right _ (List.mem_append_left _ (List.mem_of_getElem? (i := 17) rfl)))))))
theorem bw_258 : (Jvm.Cond.instanceMethod ({ cls := "CommitDesk", name := "transactionWithSeveralParts", desc := "(I)LCommitDesk$Transaction;" } : Jvm.MethodName)) ∈ BIG := List.mem_append_right _ (List.mem_append_right _ (List.mem_append_right _ (List.mem_append_right _ (List.mem_append_right _ (List.mem_append_right _ (List.mem_append_left _ (List.mem_of_getElem? (i := 18) rfl)))))))
theorem bw_259 : (Jvm.Cond.code ({ cls := "CommitDesk", name := "transactionWithSeveralParts", desc := "(I)LCommitDesk$Transaction;" } : Jvm.MethodName) prog_1_method_19_code (3 : Nat) (Option.some (Jvm.ClassFile.FieldType.object "CommitDesk$Transaction"))) ∈ BIG := List.mem_append_right _ (List.mem_append_right _ (List.mem_append_right _ (List.mem_append_right _ (List.mem_append_right _ (List.mem_append_right _ (List.mem_append_left _ (List.mem_of_getElem? (i := 19) rfl)))))))
theorem bw_260 : (Jvm.Cond.methodLink "CommitDesk" (96 : Nat) ({ cls := "CommitDesk$Transaction", name := "dropLastPart", desc := "()V" } : Jvm.MethodName)) ∈ BIG := List.mem_append_right _ (List.mem_append_right _ (List.mem_append_right _ (List.mem_append_right _ (List.mem_append_right _ (List.mem_append_right _ (List.mem_append_left _ (List.mem_of_getElem? (i := 20) rfl)))))))
theorem bw_261 : (Jvm.Cond.instanceMethod ({ cls := "CommitDesk$Transaction", name := "dropLastPart", desc := "()V" } : Jvm.MethodName)) ∈ BIG := List.mem_append_right _ (List.mem_append_right _ (List.mem_append_right _ (List.mem_append_right _ (List.mem_append_right _ (List.mem_append_right _ (List.mem_append_left _ (List.mem_of_getElem? (i := 21) rfl)))))))
theorem bw_262 : (Jvm.Cond.selects "CommitDesk$Transaction" ({ cls := "CommitDesk$Transaction", name := "dropLastPart", desc := "()V" } : Jvm.MethodName) ({ cls := "CommitDesk$Transaction", name := "dropLastPart", desc := "()V" } : Jvm.MethodName)) ∈ BIG := List.mem_append_right _ (List.mem_append_right _ (List.mem_append_right _ (List.mem_append_right _ (List.mem_append_right _ (List.mem_append_right _ (List.mem_append_left _ (List.mem_of_getElem? (i := 22) rfl)))))))
theorem bw_263 : (Jvm.Cond.code ({ cls := "CommitDesk$Transaction", name := "dropLastPart", desc := "()V" } : Jvm.MethodName) prog_2_method_15_code (1 : Nat) (Option.none : Option Jvm.ClassFile.FieldType)) ∈ BIG := List.mem_append_right _ (List.mem_append_right _ (List.mem_append_right _ (List.mem_append_right _ (List.mem_append_right _ (List.mem_append_right _ (List.mem_append_left _ (List.mem_of_getElem? (i := 23) rfl)))))))
theorem bw_264 : (Jvm.Cond.methodLink "CommitDeskLaw" (95 : Nat) ({ cls := "CommitDeskLaw", name := "keep", desc := "(LCommitDesk;I)I" } : Jvm.MethodName)) ∈ BIG := List.mem_append_right _ (List.mem_append_right _ (List.mem_append_right _ (List.mem_append_right _ (List.mem_append_right _ (List.mem_append_right _ (List.mem_append_left _ (List.mem_of_getElem? (i := 24) rfl)))))))
theorem bw_265 : (Jvm.Cond.static ({ cls := "CommitDeskLaw", name := "keep", desc := "(LCommitDesk;I)I" } : Jvm.MethodName)) ∈ BIG := List.mem_append_right _ (List.mem_append_right _ (List.mem_append_right _ (List.mem_append_right _ (List.mem_append_right _ (List.mem_append_right _ (List.mem_append_left _ (List.mem_of_getElem? (i := 25) rfl)))))))
theorem bw_266 : (Jvm.Cond.codeWith ({ cls := "CommitDeskLaw", name := "keep", desc := "(LCommitDesk;I)I" } : Jvm.MethodName) method_8_code (3 : Nat) (Option.some Jvm.ClassFile.FieldType.int) [((0 : Nat), (5 : Nat), (8 : Nat), (13 : Nat)), ((0 : Nat), (5 : Nat), (11 : Nat), (15 : Nat)), ((0 : Nat), (5 : Nat), (14 : Nat), (23 : Nat))]) ∈ BIG := List.mem_append_right _ (List.mem_append_right _ (List.mem_append_right _ (List.mem_append_right _ (List.mem_append_right _ (List.mem_append_right _ (List.mem_append_left _ (List.mem_of_getElem? (i := 26) rfl)))))))
theorem bw_267 : (Jvm.Cond.methodLink "CommitDeskLaw" (36 : Nat) ({ cls := "CommitDesk", name := "keep", desc := "(I)V" } : Jvm.MethodName)) ∈ BIG := List.mem_append_right _ (List.mem_append_right _ (List.mem_append_right _ (List.mem_append_right _ (List.mem_append_right _ (List.mem_append_right _ (List.mem_append_left _ (List.mem_of_getElem? (i := 27) rfl)))))))
theorem bw_268 : (Jvm.Cond.instanceMethod ({ cls := "CommitDesk", name := "keep", desc := "(I)V" } : Jvm.MethodName)) ∈ BIG := List.mem_append_right _ (List.mem_append_right _ (List.mem_append_right _ (List.mem_append_right _ (List.mem_append_right _ (List.mem_append_right _ (List.mem_append_left _ (List.mem_of_getElem? (i := 28) rfl)))))))
theorem bw_269 : (Jvm.Cond.selects "CommitDesk" ({ cls := "CommitDesk", name := "keep", desc := "(I)V" } : Jvm.MethodName) ({ cls := "CommitDesk", name := "keep", desc := "(I)V" } : Jvm.MethodName)) ∈ BIG := List.mem_append_right _ (List.mem_append_right _ (List.mem_append_right _ (List.mem_append_right _ (List.mem_append_right _ (List.mem_append_right _ (List.mem_append_left _ (List.mem_of_getElem? (i := 29) rfl)))))))
theorem bw_270 : (Jvm.Cond.code ({ cls := "CommitDesk", name := "keep", desc := "(I)V" } : Jvm.MethodName) prog_1_method_7_code (2 : Nat) (Option.none : Option Jvm.ClassFile.FieldType)) ∈ BIG := List.mem_append_right _ (List.mem_append_right _ (List.mem_append_right _ (List.mem_append_right _ (List.mem_append_right _ (List.mem_append_right _ (List.mem_append_left _ (List.mem_of_getElem? (i := 30) rfl)))))))
theorem bw_271 : (Jvm.Cond.methodLink "CommitDesk" (99 : Nat) ({ cls := "CommitDesk$Transaction", name := "mergeLastPart", desc := "()V" } : Jvm.MethodName)) ∈ BIG := List.mem_append_right _ (List.mem_append_right _ (List.mem_append_right _ (List.mem_append_right _ (List.mem_append_right _ (List.mem_append_right _ (List.mem_append_left _ (List.mem_of_getElem? (i := 31) rfl)))))))
theorem bw_272 : (Jvm.Cond.instanceMethod ({ cls := "CommitDesk$Transaction", name := "mergeLastPart", desc := "()V" } : Jvm.MethodName)) ∈ BIG := List.mem_append_right _ (List.mem_append_right _ (List.mem_append_right _ (List.mem_append_right _ (List.mem_append_right _ (List.mem_append_right _ (List.mem_append_left _ (List.mem_of_getElem? (i := 32) rfl)))))))
theorem bw_273 : (Jvm.Cond.selects "CommitDesk$Transaction" ({ cls := "CommitDesk$Transaction", name := "mergeLastPart", desc := "()V" } : Jvm.MethodName) ({ cls := "CommitDesk$Transaction", name := "mergeLastPart", desc := "()V" } : Jvm.MethodName)) ∈ BIG := List.mem_append_right _ (List.mem_append_right _ (List.mem_append_right _ (List.mem_append_right _ (List.mem_append_right _ (List.mem_append_right _ (List.mem_append_left _ (List.mem_of_getElem? (i := 33) rfl)))))))
theorem bw_274 : (Jvm.Cond.code ({ cls := "CommitDesk$Transaction", name := "mergeLastPart", desc := "()V" } : Jvm.MethodName) prog_2_method_16_code (3 : Nat) (Option.none : Option Jvm.ClassFile.FieldType)) ∈ BIG := List.mem_append_right _ (List.mem_append_right _ (List.mem_append_right _ (List.mem_append_right _ (List.mem_append_right _ (List.mem_append_right _ (List.mem_append_left _ (List.mem_of_getElem? (i := 34) rfl)))))))
theorem bw_275 : (Jvm.Cond.methodLink "CommitDesk$Transaction" (48 : Nat) ({ cls := "CommitDesk$Transaction", name := "dropLastPart", desc := "()V" } : Jvm.MethodName)) ∈ BIG := List.mem_append_right _ (List.mem_append_right _ (List.mem_append_right _ (List.mem_append_right _ (List.mem_append_right _ (List.mem_append_right _ (List.mem_append_left _ (List.mem_of_getElem? (i := 35) rfl)))))))
theorem bw_276 : (Jvm.Cond.methodLink "CommitDeskLaw" (98 : Nat) ({ cls := "CommitDeskLaw", name := "done", desc := "(LCommitDesk;I[J)I" } : Jvm.MethodName)) ∈ BIG := List.mem_append_right _ (List.mem_append_right _ (List.mem_append_right _ (List.mem_append_right _ (List.mem_append_right _ (List.mem_append_right _ (List.mem_append_left _ (List.mem_of_getElem? (i := 36) rfl)))))))
theorem bw_277 : (Jvm.Cond.static ({ cls := "CommitDeskLaw", name := "done", desc := "(LCommitDesk;I[J)I" } : Jvm.MethodName)) ∈ BIG := List.mem_append_right _ (List.mem_append_right _ (List.mem_append_right _ (List.mem_append_right _ (List.mem_append_right _ (List.mem_append_right _ (List.mem_append_left _ (List.mem_of_getElem? (i := 37) rfl)))))))
theorem bw_278 : (Jvm.Cond.codeWith ({ cls := "CommitDeskLaw", name := "done", desc := "(LCommitDesk;I[J)I" } : Jvm.MethodName) method_9_code (4 : Nat) (Option.some Jvm.ClassFile.FieldType.int) [((0 : Nat), (16 : Nat), (19 : Nat), (13 : Nat)), ((0 : Nat), (16 : Nat), (22 : Nat), (15 : Nat))]) ∈ BIG := List.mem_append_right _ (List.mem_append_right _ (List.mem_append_right _ (List.mem_append_right _ (List.mem_append_right _ (List.mem_append_right _ (List.mem_append_left _ (List.mem_of_getElem? (i := 38) rfl)))))))
theorem bw_279 : (Jvm.Cond.methodLink "CommitDeskLaw" (39 : Nat) ({ cls := "CommitDesk", name := "done", desc := "(I)Z" } : Jvm.MethodName)) ∈ BIG := List.mem_append_right _ (List.mem_append_right _ (List.mem_append_right _ (List.mem_append_right _ (List.mem_append_right _ (List.mem_append_right _ (List.mem_append_left _ (List.mem_of_getElem? (i := 39) rfl)))))))
theorem bw_280 : (Jvm.Cond.instanceMethod ({ cls := "CommitDesk", name := "done", desc := "(I)Z" } : Jvm.MethodName)) ∈ BIG := List.mem_append_right _ (List.mem_append_right _ (List.mem_append_right _ (List.mem_append_right _ (List.mem_append_right _ (List.mem_append_right _ (List.mem_append_right _ (List.mem_append_left _ (List.mem_of_getElem? (i := 0) rfl))))))))
theorem bw_281 : (Jvm.Cond.selects "CommitDesk" ({ cls := "CommitDesk", name := "done", desc := "(I)Z" } : Jvm.MethodName) ({ cls := "CommitDesk", name := "done", desc := "(I)Z" } : Jvm.MethodName)) ∈ BIG := List.mem_append_right _ (List.mem_append_right _ (List.mem_append_right _ (List.mem_append_right _ (List.mem_append_right _ (List.mem_append_right _ (List.mem_append_right _ (List.mem_append_left _ (List.mem_of_getElem? (i := 1) rfl))))))))
theorem bw_282 : (Jvm.Cond.code ({ cls := "CommitDesk", name := "done", desc := "(I)Z" } : Jvm.MethodName) prog_1_method_8_code (5 : Nat) (Option.some Jvm.ClassFile.FieldType.boolean)) ∈ BIG := List.mem_append_right _ (List.mem_append_right _ (List.mem_append_right _ (List.mem_append_right _ (List.mem_append_right _ (List.mem_append_right _ (List.mem_append_right _ (List.mem_append_left _ (List.mem_of_getElem? (i := 2) rfl))))))))
theorem bw_283 : (Jvm.Cond.methodLink "CommitDesk" (105 : Nat) ({ cls := "CommitDesk", name := "change", desc := "(IJ)V" } : Jvm.MethodName)) ∈ BIG := List.mem_append_right _ (List.mem_append_right _ (List.mem_append_right _ (List.mem_append_right _ (List.mem_append_right _ (List.mem_append_right _ (List.mem_append_right _ (List.mem_append_left _ (List.mem_of_getElem? (i := 3) rfl))))))))
theorem bw_284 : (Jvm.Cond.instanceMethod ({ cls := "CommitDesk", name := "change", desc := "(IJ)V" } : Jvm.MethodName)) ∈ BIG := List.mem_append_right _ (List.mem_append_right _ (List.mem_append_right _ (List.mem_append_right _ (List.mem_append_right _ (List.mem_append_right _ (List.mem_append_right _ (List.mem_append_left _ (List.mem_of_getElem? (i := 4) rfl))))))))
theorem bw_285 : (Jvm.Cond.code ({ cls := "CommitDesk", name := "change", desc := "(IJ)V" } : Jvm.MethodName) prog_1_method_21_code (5 : Nat) (Option.none : Option Jvm.ClassFile.FieldType)) ∈ BIG := List.mem_append_right _ (List.mem_append_right _ (List.mem_append_right _ (List.mem_append_right _ (List.mem_append_right _ (List.mem_append_right _ (List.mem_append_right _ (List.mem_append_left _ (List.mem_of_getElem? (i := 5) rfl))))))))
theorem bw_286 : (Jvm.Cond.methodLink "CommitDesk" (136 : Nat) ({ cls := "CommitDesk$Transaction", name := "noteChange", desc := "(I)V" } : Jvm.MethodName)) ∈ BIG := List.mem_append_right _ (List.mem_append_right _ (List.mem_append_right _ (List.mem_append_right _ (List.mem_append_right _ (List.mem_append_right _ (List.mem_append_right _ (List.mem_append_left _ (List.mem_of_getElem? (i := 6) rfl))))))))
theorem bw_287 : (Jvm.Cond.instanceMethod ({ cls := "CommitDesk$Transaction", name := "noteChange", desc := "(I)V" } : Jvm.MethodName)) ∈ BIG := List.mem_append_right _ (List.mem_append_right _ (List.mem_append_right _ (List.mem_append_right _ (List.mem_append_right _ (List.mem_append_right _ (List.mem_append_right _ (List.mem_append_left _ (List.mem_of_getElem? (i := 7) rfl))))))))
theorem bw_288 : (Jvm.Cond.selects "CommitDesk$Transaction" ({ cls := "CommitDesk$Transaction", name := "noteChange", desc := "(I)V" } : Jvm.MethodName) ({ cls := "CommitDesk$Transaction", name := "noteChange", desc := "(I)V" } : Jvm.MethodName)) ∈ BIG := List.mem_append_right _ (List.mem_append_right _ (List.mem_append_right _ (List.mem_append_right _ (List.mem_append_right _ (List.mem_append_right _ (List.mem_append_right _ (List.mem_append_left _ (List.mem_of_getElem? (i := 8) rfl))))))))
theorem bw_289 : (Jvm.Cond.code ({ cls := "CommitDesk$Transaction", name := "noteChange", desc := "(I)V" } : Jvm.MethodName) prog_2_method_10_code (2 : Nat) (Option.none : Option Jvm.ClassFile.FieldType)) ∈ BIG := List.mem_append_right _ (List.mem_append_right _ (List.mem_append_right _ (List.mem_append_right _ (List.mem_append_right _ (List.mem_append_right _ (List.mem_append_right _ (List.mem_append_left _ (List.mem_of_getElem? (i := 9) rfl))))))))
theorem bw_290 : (Jvm.Cond.methodLink "CommitDeskLaw" (101 : Nat) ({ cls := "CommitDeskLaw", name := "leave", desc := "(LCommitDesk;I)I" } : Jvm.MethodName)) ∈ BIG := List.mem_append_right _ (List.mem_append_right _ (List.mem_append_right _ (List.mem_append_right _ (List.mem_append_right _ (List.mem_append_right _ (List.mem_append_right _ (List.mem_append_left _ (List.mem_of_getElem? (i := 10) rfl))))))))
theorem bw_291 : (Jvm.Cond.static ({ cls := "CommitDeskLaw", name := "leave", desc := "(LCommitDesk;I)I" } : Jvm.MethodName)) ∈ BIG := List.mem_append_right _ (List.mem_append_right _ (List.mem_append_right _ (List.mem_append_right _ (List.mem_append_right _ (List.mem_append_right _ (List.mem_append_right _ (List.mem_append_left _ (List.mem_of_getElem? (i := 11) rfl))))))))
theorem bw_292 : (Jvm.Cond.codeWith ({ cls := "CommitDeskLaw", name := "leave", desc := "(LCommitDesk;I)I" } : Jvm.MethodName) method_10_code (3 : Nat) (Option.some Jvm.ClassFile.FieldType.int) [((0 : Nat), (5 : Nat), (8 : Nat), (13 : Nat)), ((0 : Nat), (5 : Nat), (11 : Nat), (15 : Nat))]) ∈ BIG := List.mem_append_right _ (List.mem_append_right _ (List.mem_append_right _ (List.mem_append_right _ (List.mem_append_right _ (List.mem_append_right _ (List.mem_append_right _ (List.mem_append_left _ (List.mem_of_getElem? (i := 12) rfl))))))))
theorem bw_293 : (Jvm.Cond.methodLink "CommitDeskLaw" (43 : Nat) ({ cls := "CommitDesk", name := "leave", desc := "(I)V" } : Jvm.MethodName)) ∈ BIG := List.mem_append_right _ (List.mem_append_right _ (List.mem_append_right _ (List.mem_append_right _ (List.mem_append_right _ (List.mem_append_right _ (List.mem_append_right _ (List.mem_append_left _ (List.mem_of_getElem? (i := 13) rfl))))))))
theorem bw_294 : (Jvm.Cond.instanceMethod ({ cls := "CommitDesk", name := "leave", desc := "(I)V" } : Jvm.MethodName)) ∈ BIG := List.mem_append_right _ (List.mem_append_right _ (List.mem_append_right _ (List.mem_append_right _ (List.mem_append_right _ (List.mem_append_right _ (List.mem_append_right _ (List.mem_append_left _ (List.mem_of_getElem? (i := 14) rfl))))))))
theorem bw_295 : (Jvm.Cond.selects "CommitDesk" ({ cls := "CommitDesk", name := "leave", desc := "(I)V" } : Jvm.MethodName) ({ cls := "CommitDesk", name := "leave", desc := "(I)V" } : Jvm.MethodName)) ∈ BIG := List.mem_append_right _ (List.mem_append_right _ (List.mem_append_right _ (List.mem_append_right _ (List.mem_append_right _ (List.mem_append_right _ (List.mem_append_right _ (List.mem_append_left _ (List.mem_of_getElem? (i := 15) rfl))))))))
theorem bw_296 : (Jvm.Cond.code ({ cls := "CommitDesk", name := "leave", desc := "(I)V" } : Jvm.MethodName) prog_1_method_9_code (2 : Nat) (Option.none : Option Jvm.ClassFile.FieldType)) ∈ BIG := List.mem_append_right _ (List.mem_append_right _ (List.mem_append_right _ (List.mem_append_right _ (List.mem_append_right _ (List.mem_append_right _ (List.mem_append_right _ (List.mem_append_left _ (List.mem_of_getElem? (i := 16) rfl))))))))
theorem bw_297 : (Jvm.Cond.methodLink "CommitDeskLaw" (104 : Nat) ({ cls := "CommitDeskLaw", name := "set", desc := "(LCommitDesk;IJ)I" } : Jvm.MethodName)) ∈ BIG := List.mem_append_right _ (List.mem_append_right _ (List.mem_append_right _ (List.mem_append_right _ (List.mem_append_right _ (List.mem_append_right _ (List.mem_append_right _ (List.mem_append_left _ (List.mem_of_getElem? (i := 17) rfl))))))))
theorem bw_298 : (Jvm.Cond.static ({ cls := "CommitDeskLaw", name := "set", desc := "(LCommitDesk;IJ)I" } : Jvm.MethodName)) ∈ BIG := List.mem_append_right _ (List.mem_append_right _ (List.mem_append_right _ (List.mem_append_right _ (List.mem_append_right _ (List.mem_append_right _ (List.mem_append_right _ (List.mem_append_left _ (List.mem_of_getElem? (i := 18) rfl))))))))
theorem bw_299 : (Jvm.Cond.codeWith ({ cls := "CommitDeskLaw", name := "set", desc := "(LCommitDesk;IJ)I" } : Jvm.MethodName) method_11_code (5 : Nat) (Option.some Jvm.ClassFile.FieldType.int) [((0 : Nat), (6 : Nat), (9 : Nat), (21 : Nat))]) ∈ BIG := List.mem_append_right _ (List.mem_append_right _ (List.mem_append_right _ (List.mem_append_right _ (List.mem_append_right _ (List.mem_append_right _ (List.mem_append_right _ (List.mem_append_left _ (List.mem_of_getElem? (i := 19) rfl))))))))
theorem bw_300 : (Jvm.Cond.methodLink "CommitDeskLaw" (46 : Nat) ({ cls := "CommitDesk", name := "set", desc := "(IJ)V" } : Jvm.MethodName)) ∈ BIG := List.mem_append_right _ (List.mem_append_right _ (List.mem_append_right _ (List.mem_append_right _ (List.mem_append_right _ (List.mem_append_right _ (List.mem_append_right _ (List.mem_append_left _ (List.mem_of_getElem? (i := 20) rfl))))))))
theorem bw_301 : (Jvm.Cond.instanceMethod ({ cls := "CommitDesk", name := "set", desc := "(IJ)V" } : Jvm.MethodName)) ∈ BIG := List.mem_append_right _ (List.mem_append_right _ (List.mem_append_right _ (List.mem_append_right _ (List.mem_append_right _ (List.mem_append_right _ (List.mem_append_right _ (List.mem_append_left _ (List.mem_of_getElem? (i := 21) rfl))))))))
theorem bw_302 : (Jvm.Cond.selects "CommitDesk" ({ cls := "CommitDesk", name := "set", desc := "(IJ)V" } : Jvm.MethodName) ({ cls := "CommitDesk", name := "set", desc := "(IJ)V" } : Jvm.MethodName)) ∈ BIG := List.mem_append_right _ (List.mem_append_right _ (List.mem_append_right _ (List.mem_append_right _ (List.mem_append_right _ (List.mem_append_right _ (List.mem_append_right _ (List.mem_append_left _ (List.mem_of_getElem? (i := 22) rfl))))))))
theorem bw_303 : (Jvm.Cond.code ({ cls := "CommitDesk", name := "set", desc := "(IJ)V" } : Jvm.MethodName) prog_1_method_10_code (4 : Nat) (Option.none : Option Jvm.ClassFile.FieldType)) ∈ BIG := List.mem_append_right _ (List.mem_append_right _ (List.mem_append_right _ (List.mem_append_right _ (List.mem_append_right _ (List.mem_append_right _ (List.mem_append_right _ (List.mem_append_left _ (List.mem_of_getElem? (i := 23) rfl))))))))
theorem bw_304 : (Jvm.Cond.methodLink "CommitDeskLaw" (108 : Nat) ({ cls := "CommitDeskLaw", name := "cell", desc := "(LCommitDesk;I[J)I" } : Jvm.MethodName)) ∈ BIG := List.mem_append_right _ (List.mem_append_right _ (List.mem_append_right _ (List.mem_append_right _ (List.mem_append_right _ (List.mem_append_right _ (List.mem_append_right _ (List.mem_append_left _ (List.mem_of_getElem? (i := 24) rfl))))))))
theorem bw_305 : (Jvm.Cond.static ({ cls := "CommitDeskLaw", name := "cell", desc := "(LCommitDesk;I[J)I" } : Jvm.MethodName)) ∈ BIG := List.mem_append_right _ (List.mem_append_right _ (List.mem_append_right _ (List.mem_append_right _ (List.mem_append_right _ (List.mem_append_right _ (List.mem_append_right _ (List.mem_append_left _ (List.mem_of_getElem? (i := 25) rfl))))))))
theorem bw_306 : (Jvm.Cond.codeWith ({ cls := "CommitDeskLaw", name := "cell", desc := "(LCommitDesk;I[J)I" } : Jvm.MethodName) method_12_code (4 : Nat) (Option.some Jvm.ClassFile.FieldType.int) [((0 : Nat), (8 : Nat), (11 : Nat), (21 : Nat))]) ∈ BIG := List.mem_append_right _ (List.mem_append_right _ (List.mem_append_right _ (List.mem_append_right _ (List.mem_append_right _ (List.mem_append_right _ (List.mem_append_right _ (List.mem_append_left _ (List.mem_of_getElem? (i := 26) rfl))))))))
theorem bw_307 : (Jvm.Cond.methodLink "CommitDeskLaw" (50 : Nat) ({ cls := "CommitDesk", name := "cell", desc := "(I)J" } : Jvm.MethodName)) ∈ BIG := List.mem_append_right _ (List.mem_append_right _ (List.mem_append_right _ (List.mem_append_right _ (List.mem_append_right _ (List.mem_append_right _ (List.mem_append_right _ (List.mem_append_left _ (List.mem_of_getElem? (i := 27) rfl))))))))
theorem bw_308 : (Jvm.Cond.instanceMethod ({ cls := "CommitDesk", name := "cell", desc := "(I)J" } : Jvm.MethodName)) ∈ BIG := List.mem_append_right _ (List.mem_append_right _ (List.mem_append_right _ (List.mem_append_right _ (List.mem_append_right _ (List.mem_append_right _ (List.mem_append_right _ (List.mem_append_left _ (List.mem_of_getElem? (i := 28) rfl))))))))
theorem bw_309 : (Jvm.Cond.selects "CommitDesk" ({ cls := "CommitDesk", name := "cell", desc := "(I)J" } : Jvm.MethodName) ({ cls := "CommitDesk", name := "cell", desc := "(I)J" } : Jvm.MethodName)) ∈ BIG := List.mem_append_right _ (List.mem_append_right _ (List.mem_append_right _ (List.mem_append_right _ (List.mem_append_right _ (List.mem_append_right _ (List.mem_append_right _ (List.mem_append_left _ (List.mem_of_getElem? (i := 29) rfl))))))))
theorem bw_310 : (Jvm.Cond.code ({ cls := "CommitDesk", name := "cell", desc := "(I)J" } : Jvm.MethodName) prog_1_method_11_code (2 : Nat) (Option.some Jvm.ClassFile.FieldType.long)) ∈ BIG := List.mem_append_right _ (List.mem_append_right _ (List.mem_append_right _ (List.mem_append_right _ (List.mem_append_right _ (List.mem_append_right _ (List.mem_append_right _ (List.mem_append_left _ (List.mem_of_getElem? (i := 30) rfl))))))))
theorem bw_311 : (Jvm.Cond.methodLink "CommitDeskLaw" (111 : Nat) ({ cls := "CommitDeskLaw", name := "changed", desc := "(LCommitDesk;I[J)I" } : Jvm.MethodName)) ∈ BIG := List.mem_append_right _ (List.mem_append_right _ (List.mem_append_right _ (List.mem_append_right _ (List.mem_append_right _ (List.mem_append_right _ (List.mem_append_right _ (List.mem_append_left _ (List.mem_of_getElem? (i := 31) rfl))))))))
theorem bw_312 : (Jvm.Cond.static ({ cls := "CommitDeskLaw", name := "changed", desc := "(LCommitDesk;I[J)I" } : Jvm.MethodName)) ∈ BIG := List.mem_append_right _ (List.mem_append_right _ (List.mem_append_right _ (List.mem_append_right _ (List.mem_append_right _ (List.mem_append_right _ (List.mem_append_right _ (List.mem_append_left _ (List.mem_of_getElem? (i := 32) rfl))))))))
theorem bw_313 : (Jvm.Cond.codeWith ({ cls := "CommitDeskLaw", name := "changed", desc := "(LCommitDesk;I[J)I" } : Jvm.MethodName) method_13_code (4 : Nat) (Option.some Jvm.ClassFile.FieldType.int) [((0 : Nat), (9 : Nat), (12 : Nat), (21 : Nat))]) ∈ BIG := List.mem_append_right _ (List.mem_append_right _ (List.mem_append_right _ (List.mem_append_right _ (List.mem_append_right _ (List.mem_append_right _ (List.mem_append_right _ (List.mem_append_left _ (List.mem_of_getElem? (i := 33) rfl))))))))
theorem bw_314 : (Jvm.Cond.methodLink "CommitDeskLaw" (54 : Nat) ({ cls := "CommitDesk", name := "changed", desc := "(I)I" } : Jvm.MethodName)) ∈ BIG := List.mem_append_right _ (List.mem_append_right _ (List.mem_append_right _ (List.mem_append_right _ (List.mem_append_right _ (List.mem_append_right _ (List.mem_append_right _ (List.mem_append_left _ (List.mem_of_getElem? (i := 34) rfl))))))))
theorem bw_315 : (Jvm.Cond.instanceMethod ({ cls := "CommitDesk", name := "changed", desc := "(I)I" } : Jvm.MethodName)) ∈ BIG := List.mem_append_right _ (List.mem_append_right _ (List.mem_append_right _ (List.mem_append_right _ (List.mem_append_right _ (List.mem_append_right _ (List.mem_append_right _ (List.mem_append_left _ (List.mem_of_getElem? (i := 35) rfl))))))))
theorem bw_316 : (Jvm.Cond.selects "CommitDesk" ({ cls := "CommitDesk", name := "changed", desc := "(I)I" } : Jvm.MethodName) ({ cls := "CommitDesk", name := "changed", desc := "(I)I" } : Jvm.MethodName)) ∈ BIG := List.mem_append_right _ (List.mem_append_right _ (List.mem_append_right _ (List.mem_append_right _ (List.mem_append_right _ (List.mem_append_right _ (List.mem_append_right _ (List.mem_append_left _ (List.mem_of_getElem? (i := 36) rfl))))))))
theorem bw_317 : (Jvm.Cond.code ({ cls := "CommitDesk", name := "changed", desc := "(I)I" } : Jvm.MethodName) prog_1_method_12_code (2 : Nat) (Option.some Jvm.ClassFile.FieldType.int)) ∈ BIG := List.mem_append_right _ (List.mem_append_right _ (List.mem_append_right _ (List.mem_append_right _ (List.mem_append_right _ (List.mem_append_right _ (List.mem_append_right _ (List.mem_append_left _ (List.mem_of_getElem? (i := 37) rfl))))))))
theorem bw_318 : (Jvm.Cond.methodLink "CommitDeskLaw" (114 : Nat) ({ cls := "CommitDeskLaw", name := "count", desc := "(LCommitDesk;II[J)I" } : Jvm.MethodName)) ∈ BIG := List.mem_append_right _ (List.mem_append_right _ (List.mem_append_right _ (List.mem_append_right _ (List.mem_append_right _ (List.mem_append_right _ (List.mem_append_right _ (List.mem_append_left _ (List.mem_of_getElem? (i := 38) rfl))))))))
theorem bw_319 : (Jvm.Cond.static ({ cls := "CommitDeskLaw", name := "count", desc := "(LCommitDesk;II[J)I" } : Jvm.MethodName)) ∈ BIG := List.mem_append_right _ (List.mem_append_right _ (List.mem_append_right _ (List.mem_append_right _ (List.mem_append_right _ (List.mem_append_right _ (List.mem_append_right _ (List.mem_append_left _ (List.mem_of_getElem? (i := 39) rfl))))))))
theorem bw_320 : (Jvm.Cond.codeWith ({ cls := "CommitDeskLaw", name := "count", desc := "(LCommitDesk;II[J)I" } : Jvm.MethodName) method_14_code (5 : Nat) (Option.some Jvm.ClassFile.FieldType.int) [((0 : Nat), (10 : Nat), (13 : Nat), (13 : Nat)), ((0 : Nat), (10 : Nat), (17 : Nat), (15 : Nat))]) ∈ BIG := List.mem_append_right _ (List.mem_append_right _ (List.mem_append_right _ (List.mem_append_right _ (List.mem_append_right _ (List.mem_append_right _ (List.mem_append_right _ (List.mem_append_right _ (List.mem_append_left _ (List.mem_of_getElem? (i := 0) rfl)))))))))
theorem bw_321 : (Jvm.Cond.methodLink "CommitDeskLaw" (57 : Nat) ({ cls := "CommitDesk", name := "count", desc := "(II)I" } : Jvm.MethodName)) ∈ BIG := List.mem_append_right _ (List.mem_append_right _ (List.mem_append_right _ (List.mem_append_right _ (List.mem_append_right _ (List.mem_append_right _ (List.mem_append_right _ (List.mem_append_right _ (List.mem_append_left _ (List.mem_of_getElem? (i := 1) rfl)))))))))
theorem bw_322 : (Jvm.Cond.instanceMethod ({ cls := "CommitDesk", name := "count", desc := "(II)I" } : Jvm.MethodName)) ∈ BIG := List.mem_append_right _ (List.mem_append_right _ (List.mem_append_right _ (List.mem_append_right _ (List.mem_append_right _ (List.mem_append_right _ (List.mem_append_right _ (List.mem_append_right _ (List.mem_append_left _ (List.mem_of_getElem? (i := 2) rfl)))))))))
theorem bw_323 : (Jvm.Cond.selects "CommitDesk" ({ cls := "CommitDesk", name := "count", desc := "(II)I" } : Jvm.MethodName) ({ cls := "CommitDesk", name := "count", desc := "(II)I" } : Jvm.MethodName)) ∈ BIG := List.mem_append_right _ (List.mem_append_right _ (List.mem_append_right _ (List.mem_append_right _ (List.mem_append_right _ (List.mem_append_right _ (List.mem_append_right _ (List.mem_append_right _ (List.mem_append_left _ (List.mem_of_getElem? (i := 3) rfl)))))))))
theorem bw_324 : (Jvm.Cond.code ({ cls := "CommitDesk", name := "count", desc := "(II)I" } : Jvm.MethodName) prog_1_method_13_code (4 : Nat) (Option.some Jvm.ClassFile.FieldType.int)) ∈ BIG := List.mem_append_right _ (List.mem_append_right _ (List.mem_append_right _ (List.mem_append_right _ (List.mem_append_right _ (List.mem_append_right _ (List.mem_append_right _ (List.mem_append_right _ (List.mem_append_left _ (List.mem_of_getElem? (i := 4) rfl)))))))))
theorem bw_325 : (Jvm.Cond.methodLink "CommitDesk" (116 : Nat) ({ cls := "CommitDesk$Transaction", name := "readCount", desc := "()I" } : Jvm.MethodName)) ∈ BIG := List.mem_append_right _ (List.mem_append_right _ (List.mem_append_right _ (List.mem_append_right _ (List.mem_append_right _ (List.mem_append_right _ (List.mem_append_right _ (List.mem_append_right _ (List.mem_append_left _ (List.mem_of_getElem? (i := 5) rfl)))))))))
theorem bw_326 : (Jvm.Cond.instanceMethod ({ cls := "CommitDesk$Transaction", name := "readCount", desc := "()I" } : Jvm.MethodName)) ∈ BIG := List.mem_append_right _ (List.mem_append_right _ (List.mem_append_right _ (List.mem_append_right _ (List.mem_append_right _ (List.mem_append_right _ (List.mem_append_right _ (List.mem_append_right _ (List.mem_append_left _ (List.mem_of_getElem? (i := 6) rfl)))))))))
theorem bw_327 : (Jvm.Cond.selects "CommitDesk$Transaction" ({ cls := "CommitDesk$Transaction", name := "readCount", desc := "()I" } : Jvm.MethodName) ({ cls := "CommitDesk$Transaction", name := "readCount", desc := "()I" } : Jvm.MethodName)) ∈ BIG := List.mem_append_right _ (List.mem_append_right _ (List.mem_append_right _ (List.mem_append_right _ (List.mem_append_right _ (List.mem_append_right _ (List.mem_append_right _ (List.mem_append_right _ (List.mem_append_left _ (List.mem_of_getElem? (i := 7) rfl)))))))))
theorem bw_328 : (Jvm.Cond.code ({ cls := "CommitDesk$Transaction", name := "readCount", desc := "()I" } : Jvm.MethodName) prog_2_method_5_code (1 : Nat) (Option.some Jvm.ClassFile.FieldType.int)) ∈ BIG := List.mem_append_right _ (List.mem_append_right _ (List.mem_append_right _ (List.mem_append_right _ (List.mem_append_right _ (List.mem_append_right _ (List.mem_append_right _ (List.mem_append_right _ (List.mem_append_left _ (List.mem_of_getElem? (i := 8) rfl)))))))))
theorem bw_329 : (Jvm.Cond.methodLink "CommitDesk$Transaction" (34 : Nat) ({ cls := "java/lang/Integer", name := "bitCount", desc := "(I)I" } : Jvm.MethodName)) ∈ BIG := List.mem_append_right _ (List.mem_append_right _ (List.mem_append_right _ (List.mem_append_right _ (List.mem_append_right _ (List.mem_append_right _ (List.mem_append_right _ (List.mem_append_right _ (List.mem_append_left _ (List.mem_of_getElem? (i := 9) rfl)))))))))
theorem bw_330 : (Jvm.Cond.static ({ cls := "java/lang/Integer", name := "bitCount", desc := "(I)I" } : Jvm.MethodName)) ∈ BIG := List.mem_append_right _ (List.mem_append_right _ (List.mem_append_right _ (List.mem_append_right _ (List.mem_append_right _ (List.mem_append_right _ (List.mem_append_right _ (List.mem_append_right _ (List.mem_append_left _ (List.mem_of_getElem? (i := 10) rfl)))))))))
theorem bw_331 : (Jvm.Cond.code ({ cls := "java/lang/Integer", name := "bitCount", desc := "(I)I" } : Jvm.MethodName) prog_9_method_49_code (1 : Nat) (Option.some Jvm.ClassFile.FieldType.int)) ∈ BIG := List.mem_append_right _ (List.mem_append_right _ (List.mem_append_right _ (List.mem_append_right _ (List.mem_append_right _ (List.mem_append_right _ (List.mem_append_right _ (List.mem_append_right _ (List.mem_append_left _ (List.mem_of_getElem? (i := 11) rfl)))))))))
theorem bw_332 : (Jvm.Cond.constant "java/lang/Integer" (265 : Nat) (1431655765 : Int32)) ∈ BIG := List.mem_append_right _ (List.mem_append_right _ (List.mem_append_right _ (List.mem_append_right _ (List.mem_append_right _ (List.mem_append_right _ (List.mem_append_right _ (List.mem_append_right _ (List.mem_append_left _ (List.mem_of_getElem? (i := 12) rfl)))))))))
theorem bw_333 : (Jvm.Cond.constant "java/lang/Integer" (266 : Nat) (858993459 : Int32)) ∈ BIG := List.mem_append_right _ (List.mem_append_right _ (List.mem_append_right _ (List.mem_append_right _ (List.mem_append_right _ (List.mem_append_right _ (List.mem_append_right _ (List.mem_append_right _ (List.mem_append_left _ (List.mem_of_getElem? (i := 13) rfl)))))))))
theorem bw_334 : (Jvm.Cond.constant "java/lang/Integer" (267 : Nat) (252645135 : Int32)) ∈ BIG := List.mem_append_right _ (List.mem_append_right _ (List.mem_append_right _ (List.mem_append_right _ (List.mem_append_right _ (List.mem_append_right _ (List.mem_append_right _ (List.mem_append_right _ (List.mem_append_left _ (List.mem_of_getElem? (i := 14) rfl)))))))))
theorem bw_335 : (Jvm.Cond.methodLink "CommitDesk" (119 : Nat) ({ cls := "CommitDesk$Transaction", name := "writtenCount", desc := "()I" } : Jvm.MethodName)) ∈ BIG := List.mem_append_right _ (List.mem_append_right _ (List.mem_append_right _ (List.mem_append_right _ (List.mem_append_right _ (List.mem_append_right _ (List.mem_append_right _ (List.mem_append_right _ (List.mem_append_left _ (List.mem_of_getElem? (i := 15) rfl)))))))))
theorem bw_336 : (Jvm.Cond.instanceMethod ({ cls := "CommitDesk$Transaction", name := "writtenCount", desc := "()I" } : Jvm.MethodName)) ∈ BIG := List.mem_append_right _ (List.mem_append_right _ (List.mem_append_right _ (List.mem_append_right _ (List.mem_append_right _ (List.mem_append_right _ (List.mem_append_right _ (List.mem_append_right _ (List.mem_append_left _ (List.mem_of_getElem? (i := 16) rfl)))))))))
theorem bw_337 : (Jvm.Cond.selects "CommitDesk$Transaction" ({ cls := "CommitDesk$Transaction", name := "writtenCount", desc := "()I" } : Jvm.MethodName) ({ cls := "CommitDesk$Transaction", name := "writtenCount", desc := "()I" } : Jvm.MethodName)) ∈ BIG := List.mem_append_right _ (List.mem_append_right _ (List.mem_append_right _ (List.mem_append_right _ (List.mem_append_right _ (List.mem_append_right _ (List.mem_append_right _ (List.mem_append_right _ (List.mem_append_left _ (List.mem_of_getElem? (i := 17) rfl)))))))))
theorem bw_338 : (Jvm.Cond.code ({ cls := "CommitDesk$Transaction", name := "writtenCount", desc := "()I" } : Jvm.MethodName) prog_2_method_6_code (3 : Nat) (Option.some Jvm.ClassFile.FieldType.int)) ∈ BIG := List.mem_append_right _ (List.mem_append_right _ (List.mem_append_right _ (List.mem_append_right _ (List.mem_append_right _ (List.mem_append_right _ (List.mem_append_right _ (List.mem_append_right _ (List.mem_append_left _ (List.mem_of_getElem? (i := 18) rfl)))))))))
theorem bw_339 : (Jvm.Cond.methodLink "CommitDeskLaw" (117 : Nat) ({ cls := "CommitDeskLaw", name := "all", desc := "(LCommitDesk;I[J)I" } : Jvm.MethodName)) ∈ BIG := List.mem_append_right _ (List.mem_append_right _ (List.mem_append_right _ (List.mem_append_right _ (List.mem_append_right _ (List.mem_append_right _ (List.mem_append_right _ (List.mem_append_right _ (List.mem_append_left _ (List.mem_of_getElem? (i := 19) rfl)))))))))
theorem bw_340 : (Jvm.Cond.static ({ cls := "CommitDeskLaw", name := "all", desc := "(LCommitDesk;I[J)I" } : Jvm.MethodName)) ∈ BIG := List.mem_append_right _ (List.mem_append_right _ (List.mem_append_right _ (List.mem_append_right _ (List.mem_append_right _ (List.mem_append_right _ (List.mem_append_right _ (List.mem_append_right _ (List.mem_append_left _ (List.mem_of_getElem? (i := 20) rfl)))))))))
theorem bw_341 : (Jvm.Cond.codeWith ({ cls := "CommitDeskLaw", name := "all", desc := "(LCommitDesk;I[J)I" } : Jvm.MethodName) method_15_code (4 : Nat) (Option.some Jvm.ClassFile.FieldType.int) [((0 : Nat), (9 : Nat), (12 : Nat), (13 : Nat))]) ∈ BIG := List.mem_append_right _ (List.mem_append_right _ (List.mem_append_right _ (List.mem_append_right _ (List.mem_append_right _ (List.mem_append_right _ (List.mem_append_right _ (List.mem_append_right _ (List.mem_append_left _ (List.mem_of_getElem? (i := 21) rfl)))))))))
theorem bw_342 : (Jvm.Cond.methodLink "CommitDeskLaw" (61 : Nat) ({ cls := "CommitDesk", name := "all", desc := "(I)I" } : Jvm.MethodName)) ∈ BIG := List.mem_append_right _ (List.mem_append_right _ (List.mem_append_right _ (List.mem_append_right _ (List.mem_append_right _ (List.mem_append_right _ (List.mem_append_right _ (List.mem_append_right _ (List.mem_append_left _ (List.mem_of_getElem? (i := 22) rfl)))))))))
theorem bw_343 : (Jvm.Cond.instanceMethod ({ cls := "CommitDesk", name := "all", desc := "(I)I" } : Jvm.MethodName)) ∈ BIG := List.mem_append_right _ (List.mem_append_right _ (List.mem_append_right _ (List.mem_append_right _ (List.mem_append_right _ (List.mem_append_right _ (List.mem_append_right _ (List.mem_append_right _ (List.mem_append_left _ (List.mem_of_getElem? (i := 23) rfl)))))))))
theorem bw_344 : (Jvm.Cond.selects "CommitDesk" ({ cls := "CommitDesk", name := "all", desc := "(I)I" } : Jvm.MethodName) ({ cls := "CommitDesk", name := "all", desc := "(I)I" } : Jvm.MethodName)) ∈ BIG := List.mem_append_right _ (List.mem_append_right _ (List.mem_append_right _ (List.mem_append_right _ (List.mem_append_right _ (List.mem_append_right _ (List.mem_append_right _ (List.mem_append_right _ (List.mem_append_left _ (List.mem_of_getElem? (i := 24) rfl)))))))))
theorem bw_345 : (Jvm.Cond.code ({ cls := "CommitDesk", name := "all", desc := "(I)I" } : Jvm.MethodName) prog_1_method_14_code (2 : Nat) (Option.some Jvm.ClassFile.FieldType.int)) ∈ BIG := List.mem_append_right _ (List.mem_append_right _ (List.mem_append_right _ (List.mem_append_right _ (List.mem_append_right _ (List.mem_append_right _ (List.mem_append_right _ (List.mem_append_right _ (List.mem_append_left _ (List.mem_of_getElem? (i := 25) rfl)))))))))
theorem bw_346 : (Jvm.Cond.methodLink "CommitDesk" (122 : Nat) ({ cls := "CommitDesk", name := "openTotal", desc := "()I" } : Jvm.MethodName)) ∈ BIG := List.mem_append_right _ (List.mem_append_right _ (List.mem_append_right _ (List.mem_append_right _ (List.mem_append_right _ (List.mem_append_right _ (List.mem_append_right _ (List.mem_append_right _ (List.mem_append_left _ (List.mem_of_getElem? (i := 26) rfl)))))))))
theorem bw_347 : (Jvm.Cond.instanceMethod ({ cls := "CommitDesk", name := "openTotal", desc := "()I" } : Jvm.MethodName)) ∈ BIG := List.mem_append_right _ (List.mem_append_right _ (List.mem_append_right _ (List.mem_append_right _ (List.mem_append_right _ (List.mem_append_right _ (List.mem_append_right _ (List.mem_append_right _ (List.mem_append_left _ (List.mem_of_getElem? (i := 27) rfl)))))))))
theorem bw_348 : (Jvm.Cond.code ({ cls := "CommitDesk", name := "openTotal", desc := "()I" } : Jvm.MethodName) prog_1_method_22_code (3 : Nat) (Option.some Jvm.ClassFile.FieldType.int)) ∈ BIG := List.mem_append_right _ (List.mem_append_right _ (List.mem_append_right _ (List.mem_append_right _ (List.mem_append_right _ (List.mem_append_right _ (List.mem_append_right _ (List.mem_append_right _ (List.mem_append_left _ (List.mem_of_getElem? (i := 28) rfl)))))))))
theorem bw_349 : (Jvm.Cond.classLink "CommitDeskLaw" (65 : Nat) "CommitDeskModel") ∈ BIG := List.mem_append_right _ (List.mem_append_right _ (List.mem_append_right _ (List.mem_append_right _ (List.mem_append_right _ (List.mem_append_right _ (List.mem_append_right _ (List.mem_append_right _ (List.mem_append_left _ (List.mem_of_getElem? (i := 29) rfl)))))))))
theorem bw_350 : (Jvm.Cond.instantiable "CommitDeskModel" (11 : Nat)) ∈ BIG := List.mem_append_right _ (List.mem_append_right _ (List.mem_append_right _ (List.mem_append_right _ (List.mem_append_right _ (List.mem_append_right _ (List.mem_append_right _ (List.mem_append_right _ (List.mem_append_left _ (List.mem_of_getElem? (i := 30) rfl)))))))))
theorem bw_351 : (Jvm.Cond.methodLink "CommitDeskLaw" (67 : Nat) ({ cls := "CommitDeskModel", name := "<init>", desc := "()V" } : Jvm.MethodName)) ∈ BIG := List.mem_append_right _ (List.mem_append_right _ (List.mem_append_right _ (List.mem_append_right _ (List.mem_append_right _ (List.mem_append_right _ (List.mem_append_right _ (List.mem_append_right _ (List.mem_append_left _ (List.mem_of_getElem? (i := 31) rfl)))))))))
theorem bw_352 : (Jvm.Cond.instanceMethod ({ cls := "CommitDeskModel", name := "<init>", desc := "()V" } : Jvm.MethodName)) ∈ BIG := List.mem_append_right _ (List.mem_append_right _ (List.mem_append_right _ (List.mem_append_right _ (List.mem_append_right _ (List.mem_append_right _ (List.mem_append_right _ (List.mem_append_right _ (List.mem_append_left _ (List.mem_of_getElem? (i := 32) rfl)))))))))
theorem bw_353 : (Jvm.Cond.code ({ cls := "CommitDeskModel", name := "<init>", desc := "()V" } : Jvm.MethodName) prog_4_method_1_code (1 : Nat) (Option.none : Option Jvm.ClassFile.FieldType)) ∈ BIG := List.mem_append_right _ (List.mem_append_right _ (List.mem_append_right _ (List.mem_append_right _ (List.mem_append_right _ (List.mem_append_right _ (List.mem_append_right _ (List.mem_append_right _ (List.mem_append_left _ (List.mem_of_getElem? (i := 33) rfl)))))))))
theorem bw_354 : (Jvm.Cond.methodLink "CommitDeskModel" (1 : Nat) ({ cls := "java/lang/Object", name := "<init>", desc := "()V" } : Jvm.MethodName)) ∈ BIG := List.mem_append_right _ (List.mem_append_right _ (List.mem_append_right _ (List.mem_append_right _ (List.mem_append_right _ (List.mem_append_right _ (List.mem_append_right _ (List.mem_append_right _ (List.mem_append_left _ (List.mem_of_getElem? (i := 34) rfl)))))))))
theorem bw_355 : (Jvm.Cond.fieldLink "CommitDeskModel" (36 : Nat) "CommitDeskModel" "err" "I") ∈ BIG := List.mem_append_right _ (List.mem_append_right _ (List.mem_append_right _ (List.mem_append_right _ (List.mem_append_right _ (List.mem_append_right _ (List.mem_append_right _ (List.mem_append_right _ (List.mem_append_left _ (List.mem_of_getElem? (i := 35) rfl)))))))))
theorem bw_356 : (Jvm.Cond.fieldLink "CommitDeskModel" (9 : Nat) "CommitDeskModel" "cells" "[J") ∈ BIG := List.mem_append_right _ (List.mem_append_right _ (List.mem_append_right _ (List.mem_append_right _ (List.mem_append_right _ (List.mem_append_right _ (List.mem_append_right _ (List.mem_append_right _ (List.mem_append_left _ (List.mem_of_getElem? (i := 36) rfl)))))))))
theorem bw_357 : (Jvm.Cond.fieldLink "CommitDeskModel" (13 : Nat) "CommitDeskModel" "wrote" "[J") ∈ BIG := List.mem_append_right _ (List.mem_append_right _ (List.mem_append_right _ (List.mem_append_right _ (List.mem_append_right _ (List.mem_append_right _ (List.mem_append_right _ (List.mem_append_right _ (List.mem_append_left _ (List.mem_of_getElem? (i := 37) rfl)))))))))
theorem bw_358 : (Jvm.Cond.fieldLink "CommitDeskModel" (16 : Nat) "CommitDeskModel" "changes" "[I") ∈ BIG := List.mem_append_right _ (List.mem_append_right _ (List.mem_append_right _ (List.mem_append_right _ (List.mem_append_right _ (List.mem_append_right _ (List.mem_append_right _ (List.mem_append_right _ (List.mem_append_left _ (List.mem_of_getElem? (i := 38) rfl)))))))))
theorem bw_359 : (Jvm.Cond.fieldLink "CommitDeskModel" (20 : Nat) "CommitDeskModel" "parts" "[I") ∈ BIG := List.mem_append_right _ (List.mem_append_right _ (List.mem_append_right _ (List.mem_append_right _ (List.mem_append_right _ (List.mem_append_right _ (List.mem_append_right _ (List.mem_append_right _ (List.mem_append_left _ (List.mem_of_getElem? (i := 39) rfl)))))))))
theorem bw_360 : (Jvm.Cond.fieldLink "CommitDeskModel" (23 : Nat) "CommitDeskModel" "seen" "[I") ∈ BIG := List.mem_append_right _ (List.mem_append_right _ (List.mem_append_right _ (List.mem_append_right _ (List.mem_append_right _ (List.mem_append_right _ (List.mem_append_right _ (List.mem_append_right _ (List.mem_append_right _ (List.mem_append_left _ (List.mem_of_getElem? (i := 0) rfl))))))))))
theorem bw_361 : (Jvm.Cond.fieldLink "CommitDeskModel" (26 : Nat) "CommitDeskModel" "has" "[Z") ∈ BIG := List.mem_append_right _ (List.mem_append_right _ (List.mem_append_right _ (List.mem_append_right _ (List.mem_append_right _ (List.mem_append_right _ (List.mem_append_right _ (List.mem_append_right _ (List.mem_append_right _ (List.mem_append_left _ (List.mem_of_getElem? (i := 1) rfl))))))))))
theorem bw_362 : (Jvm.Cond.fieldLink "CommitDeskModel" (30 : Nat) "CommitDeskModel" "read" "[Z") ∈ BIG := List.mem_append_right _ (List.mem_append_right _ (List.mem_append_right _ (List.mem_append_right _ (List.mem_append_right _ (List.mem_append_right _ (List.mem_append_right _ (List.mem_append_right _ (List.mem_append_right _ (List.mem_append_left _ (List.mem_of_getElem? (i := 2) rfl))))))))))
theorem bw_363 : (Jvm.Cond.fieldLink "CommitDeskModel" (33 : Nat) "CommitDeskModel" "open" "[Z") ∈ BIG := List.mem_append_right _ (List.mem_append_right _ (List.mem_append_right _ (List.mem_append_right _ (List.mem_append_right _ (List.mem_append_right _ (List.mem_append_right _ (List.mem_append_right _ (List.mem_append_right _ (List.mem_append_left _ (List.mem_of_getElem? (i := 3) rfl))))))))))
theorem bw_364 : (Jvm.Cond.fieldLink "CommitDeskModel" (77 : Nat) "CommitDeskModel" "done" "I") ∈ BIG := List.mem_append_right _ (List.mem_append_right _ (List.mem_append_right _ (List.mem_append_right _ (List.mem_append_right _ (List.mem_append_right _ (List.mem_append_right _ (List.mem_append_right _ (List.mem_append_right _ (List.mem_append_left _ (List.mem_of_getElem? (i := 4) rfl))))))))))
theorem bw_365 : (Jvm.Cond.fieldLink "CommitDeskModel" (66 : Nat) "CommitDeskModel" "stale" "I") ∈ BIG := List.mem_append_right _ (List.mem_append_right _ (List.mem_append_right _ (List.mem_append_right _ (List.mem_append_right _ (List.mem_append_right _ (List.mem_append_right _ (List.mem_append_right _ (List.mem_append_right _ (List.mem_append_left _ (List.mem_of_getElem? (i := 5) rfl))))))))))
theorem bw_366 : (Jvm.Cond.lays "CommitDeskModel" "CommitDeskModel" "err" "I") ∈ BIG := List.mem_append_right _ (List.mem_append_right _ (List.mem_append_right _ (List.mem_append_right _ (List.mem_append_right _ (List.mem_append_right _ (List.mem_append_right _ (List.mem_append_right _ (List.mem_append_right _ (List.mem_append_left _ (List.mem_of_getElem? (i := 6) rfl))))))))))
theorem bw_367 : (Jvm.Cond.laysFinal "CommitDeskModel" "CommitDeskModel" "cells" "[J") ∈ BIG := List.mem_append_right _ (List.mem_append_right _ (List.mem_append_right _ (List.mem_append_right _ (List.mem_append_right _ (List.mem_append_right _ (List.mem_append_right _ (List.mem_append_right _ (List.mem_append_right _ (List.mem_append_left _ (List.mem_of_getElem? (i := 7) rfl))))))))))
theorem bw_368 : (Jvm.Cond.laysFinal "CommitDeskModel" "CommitDeskModel" "wrote" "[J") ∈ BIG := List.mem_append_right _ (List.mem_append_right _ (List.mem_append_right _ (List.mem_append_right _ (List.mem_append_right _ (List.mem_append_right _ (List.mem_append_right _ (List.mem_append_right _ (List.mem_append_right _ (List.mem_append_left _ (List.mem_of_getElem? (i := 8) rfl))))))))))
theorem bw_369 : (Jvm.Cond.laysFinal "CommitDeskModel" "CommitDeskModel" "changes" "[I") ∈ BIG := List.mem_append_right _ (List.mem_append_right _ (List.mem_append_right _ (List.mem_append_right _ (List.mem_append_right _ (List.mem_append_right _ (List.mem_append_right _ (List.mem_append_right _ (List.mem_append_right _ (List.mem_append_left _ (List.mem_of_getElem? (i := 9) rfl))))))))))
theorem bw_370 : (Jvm.Cond.laysFinal "CommitDeskModel" "CommitDeskModel" "parts" "[I") ∈ BIG := List.mem_append_right _ (List.mem_append_right _ (List.mem_append_right _ (List.mem_append_right _ (List.mem_append_right _ (List.mem_append_right _ (List.mem_append_right _ (List.mem_append_right _ (List.mem_append_right _ (List.mem_append_left _ (List.mem_of_getElem? (i := 10) rfl))))))))))
theorem bw_371 : (Jvm.Cond.laysFinal "CommitDeskModel" "CommitDeskModel" "seen" "[I") ∈ BIG := List.mem_append_right _ (List.mem_append_right _ (List.mem_append_right _ (List.mem_append_right _ (List.mem_append_right _ (List.mem_append_right _ (List.mem_append_right _ (List.mem_append_right _ (List.mem_append_right _ (List.mem_append_left _ (List.mem_of_getElem? (i := 11) rfl))))))))))
theorem bw_372 : (Jvm.Cond.laysFinal "CommitDeskModel" "CommitDeskModel" "has" "[Z") ∈ BIG := List.mem_append_right _ (List.mem_append_right _ (List.mem_append_right _ (List.mem_append_right _ (List.mem_append_right _ (List.mem_append_right _ (List.mem_append_right _ (List.mem_append_right _ (List.mem_append_right _ (List.mem_append_left _ (List.mem_of_getElem? (i := 12) rfl))))))))))
theorem bw_373 : (Jvm.Cond.laysFinal "CommitDeskModel" "CommitDeskModel" "read" "[Z") ∈ BIG := List.mem_append_right _ (List.mem_append_right _ (List.mem_append_right _ (List.mem_append_right _ (List.mem_append_right _ (List.mem_append_right _ (List.mem_append_right _ (List.mem_append_right _ (List.mem_append_right _ (List.mem_append_left _ (List.mem_of_getElem? (i := 13) rfl))))))))))
theorem bw_374 : (Jvm.Cond.laysFinal "CommitDeskModel" "CommitDeskModel" "open" "[Z") ∈ BIG := List.mem_append_right _ (List.mem_append_right _ (List.mem_append_right _ (List.mem_append_right _ (List.mem_append_right _ (List.mem_append_right _ (List.mem_append_right _ (List.mem_append_right _ (List.mem_append_right _ (List.mem_append_left _ (List.mem_of_getElem? (i := 14) rfl))))))))))
theorem bw_375 : (Jvm.Cond.lays "CommitDeskModel" "CommitDeskModel" "done" "I") ∈ BIG := List.mem_append_right _ (List.mem_append_right _ (List.mem_append_right _ (List.mem_append_right _ (List.mem_append_right _ (List.mem_append_right _ (List.mem_append_right _ (List.mem_append_right _ (List.mem_append_right _ (List.mem_append_left _ (List.mem_of_getElem? (i := 15) rfl))))))))))
theorem bw_376 : (Jvm.Cond.lays "CommitDeskModel" "CommitDeskModel" "stale" "I") ∈ BIG := List.mem_append_right _ (List.mem_append_right _ (List.mem_append_right _ (List.mem_append_right _ (List.mem_append_right _ (List.mem_append_right _ (List.mem_append_right _ (List.mem_append_right _ (List.mem_append_right _ (List.mem_append_left _ (List.mem_of_getElem? (i := 16) rfl))))))))))
theorem bw_377 : (Jvm.Cond.superclass "CommitDeskModel" "java/lang/Object") ∈ BIG := List.mem_append_right _ (List.mem_append_right _ (List.mem_append_right _ (List.mem_append_right _ (List.mem_append_right _ (List.mem_append_right _ (List.mem_append_right _ (List.mem_append_right _ (List.mem_append_right _ (List.mem_append_left _ (List.mem_of_getElem? (i := 17) rfl))))))))))
theorem bw_378 : (Jvm.Cond.arrayClass Jvm.ClassFile.FieldType.boolean) ∈ BIG := List.mem_append_right _ (List.mem_append_right _ (List.mem_append_right _ (List.mem_append_right _ (List.mem_append_right _ (List.mem_append_right _ (List.mem_append_right _ (List.mem_append_right _ (List.mem_append_right _ (List.mem_append_left _ (List.mem_of_getElem? (i := 18) rfl))))))))))
theorem bw_379 : (Jvm.Cond.methodLink "CommitDeskLaw" (74 : Nat) ({ cls := "CommitDeskModel", name := "thrown", desc := "()I" } : Jvm.MethodName)) ∈ BIG := List.mem_append_right _ (List.mem_append_right _ (List.mem_append_right _ (List.mem_append_right _ (List.mem_append_right _ (List.mem_append_right _ (List.mem_append_right _ (List.mem_append_right _ (List.mem_append_right _ (List.mem_append_left _ (List.mem_of_getElem? (i := 19) rfl))))))))))
theorem bw_380 : (Jvm.Cond.instanceMethod ({ cls := "CommitDeskModel", name := "thrown", desc := "()I" } : Jvm.MethodName)) ∈ BIG := List.mem_append_right _ (List.mem_append_right _ (List.mem_append_right _ (List.mem_append_right _ (List.mem_append_right _ (List.mem_append_right _ (List.mem_append_right _ (List.mem_append_right _ (List.mem_append_right _ (List.mem_append_left _ (List.mem_of_getElem? (i := 20) rfl))))))))))
theorem bw_381 : (Jvm.Cond.selects "CommitDeskModel" ({ cls := "CommitDeskModel", name := "thrown", desc := "()I" } : Jvm.MethodName) ({ cls := "CommitDeskModel", name := "thrown", desc := "()I" } : Jvm.MethodName)) ∈ BIG := List.mem_append_right _ (List.mem_append_right _ (List.mem_append_right _ (List.mem_append_right _ (List.mem_append_right _ (List.mem_append_right _ (List.mem_append_right _ (List.mem_append_right _ (List.mem_append_right _ (List.mem_append_left _ (List.mem_of_getElem? (i := 21) rfl))))))))))
theorem bw_382 : (Jvm.Cond.code ({ cls := "CommitDeskModel", name := "thrown", desc := "()I" } : Jvm.MethodName) prog_4_method_2_code (1 : Nat) (Option.some Jvm.ClassFile.FieldType.int)) ∈ BIG := List.mem_append_right _ (List.mem_append_right _ (List.mem_append_right _ (List.mem_append_right _ (List.mem_append_right _ (List.mem_append_right _ (List.mem_append_right _ (List.mem_append_right _ (List.mem_append_right _ (List.mem_append_left _ (List.mem_of_getElem? (i := 22) rfl))))))))))
theorem bw_383 : (Jvm.Cond.methodLink "CommitDeskLaw" (73 : Nat) ({ cls := "CommitDeskModel", name := "begin", desc := "(I)V" } : Jvm.MethodName)) ∈ BIG := List.mem_append_right _ (List.mem_append_right _ (List.mem_append_right _ (List.mem_append_right _ (List.mem_append_right _ (List.mem_append_right _ (List.mem_append_right _ (List.mem_append_right _ (List.mem_append_right _ (List.mem_append_left _ (List.mem_of_getElem? (i := 23) rfl))))))))))
theorem bw_384 : (Jvm.Cond.instanceMethod ({ cls := "CommitDeskModel", name := "begin", desc := "(I)V" } : Jvm.MethodName)) ∈ BIG := List.mem_append_right _ (List.mem_append_right _ (List.mem_append_right _ (List.mem_append_right _ (List.mem_append_right _ (List.mem_append_right _ (List.mem_append_right _ (List.mem_append_right _ (List.mem_append_right _ (List.mem_append_left _ (List.mem_of_getElem? (i := 24) rfl))))))))))
theorem bw_385 : (Jvm.Cond.selects "CommitDeskModel" ({ cls := "CommitDeskModel", name := "begin", desc := "(I)V" } : Jvm.MethodName) ({ cls := "CommitDeskModel", name := "begin", desc := "(I)V" } : Jvm.MethodName)) ∈ BIG := List.mem_append_right _ (List.mem_append_right _ (List.mem_append_right _ (List.mem_append_right _ (List.mem_append_right _ (List.mem_append_right _ (List.mem_append_right _ (List.mem_append_right _ (List.mem_append_right _ (List.mem_append_left _ (List.mem_of_getElem? (i := 25) rfl))))))))))
theorem bw_386 : (Jvm.Cond.code ({ cls := "CommitDeskModel", name := "begin", desc := "(I)V" } : Jvm.MethodName) prog_4_method_10_code (3 : Nat) (Option.none : Option Jvm.ClassFile.FieldType)) ∈ BIG := List.mem_append_right _ (List.mem_append_right _ (List.mem_append_right _ (List.mem_append_right _ (List.mem_append_right _ (List.mem_append_right _ (List.mem_append_right _ (List.mem_append_right _ (List.mem_append_right _ (List.mem_append_left _ (List.mem_of_getElem? (i := 26) rfl))))))))))
theorem bw_387 : (Jvm.Cond.methodLink "CommitDeskModel" (48 : Nat) ({ cls := "CommitDeskModel", name := "isOne", desc := "(I)Z" } : Jvm.MethodName)) ∈ BIG := List.mem_append_right _ (List.mem_append_right _ (List.mem_append_right _ (List.mem_append_right _ (List.mem_append_right _ (List.mem_append_right _ (List.mem_append_right _ (List.mem_append_right _ (List.mem_append_right _ (List.mem_append_left _ (List.mem_of_getElem? (i := 27) rfl))))))))))
theorem bw_388 : (Jvm.Cond.static ({ cls := "CommitDeskModel", name := "isOne", desc := "(I)Z" } : Jvm.MethodName)) ∈ BIG := List.mem_append_right _ (List.mem_append_right _ (List.mem_append_right _ (List.mem_append_right _ (List.mem_append_right _ (List.mem_append_right _ (List.mem_append_right _ (List.mem_append_right _ (List.mem_append_right _ (List.mem_append_left _ (List.mem_of_getElem? (i := 28) rfl))))))))))
theorem bw_389 : (Jvm.Cond.code ({ cls := "CommitDeskModel", name := "isOne", desc := "(I)Z" } : Jvm.MethodName) prog_4_method_5_code (1 : Nat) (Option.some Jvm.ClassFile.FieldType.boolean)) ∈ BIG := List.mem_append_right _ (List.mem_append_right _ (List.mem_append_right _ (List.mem_append_right _ (List.mem_append_right _ (List.mem_append_right _ (List.mem_append_right _ (List.mem_append_right _ (List.mem_append_right _ (List.mem_append_left _ (List.mem_of_getElem? (i := 29) rfl))))))))))
theorem bw_390 : (Jvm.Cond.constantLong "CommitDeskModel" (40 : Nat) (7 : Int64)) ∈ BIG := List.mem_append_right _ (List.mem_append_right _ (List.mem_append_right _ (List.mem_append_right _ (List.mem_append_right _ (List.mem_append_right _ (List.mem_append_right _ (List.mem_append_right _ (List.mem_append_right _ (List.mem_append_left _ (List.mem_of_getElem? (i := 30) rfl))))))))))
theorem bw_391 : (Jvm.Cond.methodLink "CommitDeskModel" (42 : Nat) ({ cls := "CommitDeskModel", name := "in", desc := "(JJJ)Z" } : Jvm.MethodName)) ∈ BIG := List.mem_append_right _ (List.mem_append_right _ (List.mem_append_right _ (List.mem_append_right _ (List.mem_append_right _ (List.mem_append_right _ (List.mem_append_right _ (List.mem_append_right _ (List.mem_append_right _ (List.mem_append_left _ (List.mem_of_getElem? (i := 31) rfl))))))))))
theorem bw_392 : (Jvm.Cond.static ({ cls := "CommitDeskModel", name := "in", desc := "(JJJ)Z" } : Jvm.MethodName)) ∈ BIG := List.mem_append_right _ (List.mem_append_right _ (List.mem_append_right _ (List.mem_append_right _ (List.mem_append_right _ (List.mem_append_right _ (List.mem_append_right _ (List.mem_append_right _ (List.mem_append_right _ (List.mem_append_left _ (List.mem_of_getElem? (i := 32) rfl))))))))))
theorem bw_393 : (Jvm.Cond.code ({ cls := "CommitDeskModel", name := "in", desc := "(JJJ)Z" } : Jvm.MethodName) prog_4_method_3_code (6 : Nat) (Option.some Jvm.ClassFile.FieldType.boolean)) ∈ BIG := List.mem_append_right _ (List.mem_append_right _ (List.mem_append_right _ (List.mem_append_right _ (List.mem_append_right _ (List.mem_append_right _ (List.mem_append_right _ (List.mem_append_right _ (List.mem_append_right _ (List.mem_append_left _ (List.mem_of_getElem? (i := 33) rfl))))))))))
theorem bw_394 : (Jvm.Cond.methodLink "CommitDeskModel" (52 : Nat) ({ cls := "CommitDeskModel", name := "fails", desc := "(ZI)Z" } : Jvm.MethodName)) ∈ BIG := List.mem_append_right _ (List.mem_append_right _ (List.mem_append_right _ (List.mem_append_right _ (List.mem_append_right _ (List.mem_append_right _ (List.mem_append_right _ (List.mem_append_right _ (List.mem_append_right _ (List.mem_append_left _ (List.mem_of_getElem? (i := 34) rfl))))))))))
theorem bw_395 : (Jvm.Cond.instanceMethod ({ cls := "CommitDeskModel", name := "fails", desc := "(ZI)Z" } : Jvm.MethodName)) ∈ BIG := List.mem_append_right _ (List.mem_append_right _ (List.mem_append_right _ (List.mem_append_right _ (List.mem_append_right _ (List.mem_append_right _ (List.mem_append_right _ (List.mem_append_right _ (List.mem_append_right _ (List.mem_append_left _ (List.mem_of_getElem? (i := 35) rfl))))))))))
theorem bw_396 : (Jvm.Cond.code ({ cls := "CommitDeskModel", name := "fails", desc := "(ZI)Z" } : Jvm.MethodName) prog_4_method_4_code (3 : Nat) (Option.some Jvm.ClassFile.FieldType.boolean)) ∈ BIG := List.mem_append_right _ (List.mem_append_right _ (List.mem_append_right _ (List.mem_append_right _ (List.mem_append_right _ (List.mem_append_right _ (List.mem_append_right _ (List.mem_append_right _ (List.mem_append_right _ (List.mem_append_left _ (List.mem_of_getElem? (i := 36) rfl))))))))))
theorem bw_397 : (Jvm.Cond.methodLink "CommitDeskModel" (56 : Nat) ({ cls := "CommitDeskModel", name := "last", desc := "(II)I" } : Jvm.MethodName)) ∈ BIG := List.mem_append_right _ (List.mem_append_right _ (List.mem_append_right _ (List.mem_append_right _ (List.mem_append_right _ (List.mem_append_right _ (List.mem_append_right _ (List.mem_append_right _ (List.mem_append_right _ (List.mem_append_left _ (List.mem_of_getElem? (i := 37) rfl))))))))))
theorem bw_398 : (Jvm.Cond.instanceMethod ({ cls := "CommitDeskModel", name := "last", desc := "(II)I" } : Jvm.MethodName)) ∈ BIG := List.mem_append_right _ (List.mem_append_right _ (List.mem_append_right _ (List.mem_append_right _ (List.mem_append_right _ (List.mem_append_right _ (List.mem_append_right _ (List.mem_append_right _ (List.mem_append_right _ (List.mem_append_left _ (List.mem_of_getElem? (i := 38) rfl))))))))))
theorem bw_399 : (Jvm.Cond.code ({ cls := "CommitDeskModel", name := "last", desc := "(II)I" } : Jvm.MethodName) prog_4_method_7_code (3 : Nat) (Option.some Jvm.ClassFile.FieldType.int)) ∈ BIG := List.mem_append_right _ (List.mem_append_right _ (List.mem_append_right _ (List.mem_append_right _ (List.mem_append_right _ (List.mem_append_right _ (List.mem_append_right _ (List.mem_append_right _ (List.mem_append_right _ (List.mem_append_left _ (List.mem_of_getElem? (i := 39) rfl))))))))))
theorem bw_400 : (Jvm.Cond.methodLink "CommitDeskLaw" (81 : Nat) ({ cls := "CommitDeskModel", name := "read", desc := "(II)J" } : Jvm.MethodName)) ∈ BIG := List.mem_append_right _ (List.mem_append_right _ (List.mem_append_right _ (List.mem_append_right _ (List.mem_append_right _ (List.mem_append_right _ (List.mem_append_right _ (List.mem_append_right _ (List.mem_append_right _ (List.mem_append_right _ (List.mem_append_left _ (List.mem_of_getElem? (i := 0) rfl)))))))))))
theorem bw_401 : (Jvm.Cond.instanceMethod ({ cls := "CommitDeskModel", name := "read", desc := "(II)J" } : Jvm.MethodName)) ∈ BIG := List.mem_append_right _ (List.mem_append_right _ (List.mem_append_right _ (List.mem_append_right _ (List.mem_append_right _ (List.mem_append_right _ (List.mem_append_right _ (List.mem_append_right _ (List.mem_append_right _ (List.mem_append_right _ (List.mem_append_left _ (List.mem_of_getElem? (i := 1) rfl)))))))))))
theorem bw_402 : (Jvm.Cond.selects "CommitDeskModel" ({ cls := "CommitDeskModel", name := "read", desc := "(II)J" } : Jvm.MethodName) ({ cls := "CommitDeskModel", name := "read", desc := "(II)J" } : Jvm.MethodName)) ∈ BIG := List.mem_append_right _ (List.mem_append_right _ (List.mem_append_right _ (List.mem_append_right _ (List.mem_append_right _ (List.mem_append_right _ (List.mem_append_right _ (List.mem_append_right _ (List.mem_append_right _ (List.mem_append_right _ (List.mem_append_left _ (List.mem_of_getElem? (i := 2) rfl)))))))))))
theorem bw_403 : (Jvm.Cond.code ({ cls := "CommitDeskModel", name := "read", desc := "(II)J" } : Jvm.MethodName) prog_4_method_11_code (3 : Nat) (Option.some Jvm.ClassFile.FieldType.long)) ∈ BIG := List.mem_append_right _ (List.mem_append_right _ (List.mem_append_right _ (List.mem_append_right _ (List.mem_append_right _ (List.mem_append_right _ (List.mem_append_right _ (List.mem_append_right _ (List.mem_append_right _ (List.mem_append_right _ (List.mem_append_left _ (List.mem_of_getElem? (i := 3) rfl)))))))))))
theorem bw_404 : (Jvm.Cond.methodLink "CommitDeskModel" (60 : Nat) ({ cls := "CommitDeskModel", name := "isCell", desc := "(I)Z" } : Jvm.MethodName)) ∈ BIG := List.mem_append_right _ (List.mem_append_right _ (List.mem_append_right _ (List.mem_append_right _ (List.mem_append_right _ (List.mem_append_right _ (List.mem_append_right _ (List.mem_append_right _ (List.mem_append_right _ (List.mem_append_right _ (List.mem_append_left _ (List.mem_of_getElem? (i := 4) rfl)))))))))))
theorem bw_405 : (Jvm.Cond.static ({ cls := "CommitDeskModel", name := "isCell", desc := "(I)Z" } : Jvm.MethodName)) ∈ BIG := List.mem_append_right _ (List.mem_append_right _ (List.mem_append_right _ (List.mem_append_right _ (List.mem_append_right _ (List.mem_append_right _ (List.mem_append_right _ (List.mem_append_right _ (List.mem_append_right _ (List.mem_append_right _ (List.mem_append_left _ (List.mem_of_getElem? (i := 5) rfl)))))))))))
theorem bw_406 : (Jvm.Cond.code ({ cls := "CommitDeskModel", name := "isCell", desc := "(I)Z" } : Jvm.MethodName) prog_4_method_6_code (1 : Nat) (Option.some Jvm.ClassFile.FieldType.boolean)) ∈ BIG := List.mem_append_right _ (List.mem_append_right _ (List.mem_append_right _ (List.mem_append_right _ (List.mem_append_right _ (List.mem_append_right _ (List.mem_append_right _ (List.mem_append_right _ (List.mem_append_right _ (List.mem_append_right _ (List.mem_append_left _ (List.mem_of_getElem? (i := 6) rfl)))))))))))
theorem bw_407 : (Jvm.Cond.constantLong "CommitDeskModel" (46 : Nat) (31 : Int64)) ∈ BIG := List.mem_append_right _ (List.mem_append_right _ (List.mem_append_right _ (List.mem_append_right _ (List.mem_append_right _ (List.mem_append_right _ (List.mem_append_right _ (List.mem_append_right _ (List.mem_append_right _ (List.mem_append_right _ (List.mem_append_left _ (List.mem_of_getElem? (i := 7) rfl)))))))))))
theorem bw_408 : (Jvm.Cond.methodLink "CommitDeskModel" (63 : Nat) ({ cls := "CommitDeskModel", name := "isStale", desc := "(I)Z" } : Jvm.MethodName)) ∈ BIG := List.mem_append_right _ (List.mem_append_right _ (List.mem_append_right _ (List.mem_append_right _ (List.mem_append_right _ (List.mem_append_right _ (List.mem_append_right _ (List.mem_append_right _ (List.mem_append_right _ (List.mem_append_right _ (List.mem_append_left _ (List.mem_of_getElem? (i := 8) rfl)))))))))))
theorem bw_409 : (Jvm.Cond.instanceMethod ({ cls := "CommitDeskModel", name := "isStale", desc := "(I)Z" } : Jvm.MethodName)) ∈ BIG := List.mem_append_right _ (List.mem_append_right _ (List.mem_append_right _ (List.mem_append_right _ (List.mem_append_right _ (List.mem_append_right _ (List.mem_append_right _ (List.mem_append_right _ (List.mem_append_right _ (List.mem_append_right _ (List.mem_append_left _ (List.mem_of_getElem? (i := 9) rfl)))))))))))
theorem bw_410 : (Jvm.Cond.code ({ cls := "CommitDeskModel", name := "isStale", desc := "(I)Z" } : Jvm.MethodName) prog_4_method_8_code (3 : Nat) (Option.some Jvm.ClassFile.FieldType.boolean)) ∈ BIG := List.mem_append_right _ (List.mem_append_right _ (List.mem_append_right _ (List.mem_append_right _ (List.mem_append_right _ (List.mem_append_right _ (List.mem_append_right _ (List.mem_append_right _ (List.mem_append_right _ (List.mem_append_right _ (List.mem_append_left _ (List.mem_of_getElem? (i := 10) rfl)))))))))))
theorem bw_411 : (Jvm.Cond.methodLink "CommitDeskLaw" (87 : Nat) ({ cls := "CommitDeskModel", name := "write", desc := "(IIJ)V" } : Jvm.MethodName)) ∈ BIG := List.mem_append_right _ (List.mem_append_right _ (List.mem_append_right _ (List.mem_append_right _ (List.mem_append_right _ (List.mem_append_right _ (List.mem_append_right _ (List.mem_append_right _ (List.mem_append_right _ (List.mem_append_right _ (List.mem_append_left _ (List.mem_of_getElem? (i := 11) rfl)))))))))))
theorem bw_412 : (Jvm.Cond.instanceMethod ({ cls := "CommitDeskModel", name := "write", desc := "(IIJ)V" } : Jvm.MethodName)) ∈ BIG := List.mem_append_right _ (List.mem_append_right _ (List.mem_append_right _ (List.mem_append_right _ (List.mem_append_right _ (List.mem_append_right _ (List.mem_append_right _ (List.mem_append_right _ (List.mem_append_right _ (List.mem_append_right _ (List.mem_append_left _ (List.mem_of_getElem? (i := 12) rfl)))))))))))
theorem bw_413 : (Jvm.Cond.selects "CommitDeskModel" ({ cls := "CommitDeskModel", name := "write", desc := "(IIJ)V" } : Jvm.MethodName) ({ cls := "CommitDeskModel", name := "write", desc := "(IIJ)V" } : Jvm.MethodName)) ∈ BIG := List.mem_append_right _ (List.mem_append_right _ (List.mem_append_right _ (List.mem_append_right _ (List.mem_append_right _ (List.mem_append_right _ (List.mem_append_right _ (List.mem_append_right _ (List.mem_append_right _ (List.mem_append_right _ (List.mem_append_left _ (List.mem_of_getElem? (i := 13) rfl)))))))))))
theorem bw_414 : (Jvm.Cond.code ({ cls := "CommitDeskModel", name := "write", desc := "(IIJ)V" } : Jvm.MethodName) prog_4_method_12_code (5 : Nat) (Option.none : Option Jvm.ClassFile.FieldType)) ∈ BIG := List.mem_append_right _ (List.mem_append_right _ (List.mem_append_right _ (List.mem_append_right _ (List.mem_append_right _ (List.mem_append_right _ (List.mem_append_right _ (List.mem_append_right _ (List.mem_append_right _ (List.mem_append_right _ (List.mem_append_left _ (List.mem_of_getElem? (i := 14) rfl)))))))))))
theorem bw_415 : (Jvm.Cond.methodLink "CommitDeskLaw" (91 : Nat) ({ cls := "CommitDeskModel", name := "save", desc := "(I)I" } : Jvm.MethodName)) ∈ BIG := List.mem_append_right _ (List.mem_append_right _ (List.mem_append_right _ (List.mem_append_right _ (List.mem_append_right _ (List.mem_append_right _ (List.mem_append_right _ (List.mem_append_right _ (List.mem_append_right _ (List.mem_append_right _ (List.mem_append_left _ (List.mem_of_getElem? (i := 15) rfl)))))))))))
theorem bw_416 : (Jvm.Cond.instanceMethod ({ cls := "CommitDeskModel", name := "save", desc := "(I)I" } : Jvm.MethodName)) ∈ BIG := List.mem_append_right _ (List.mem_append_right _ (List.mem_append_right _ (List.mem_append_right _ (List.mem_append_right _ (List.mem_append_right _ (List.mem_append_right _ (List.mem_append_right _ (List.mem_append_right _ (List.mem_append_right _ (List.mem_append_left _ (List.mem_of_getElem? (i := 16) rfl)))))))))))
theorem bw_417 : (Jvm.Cond.selects "CommitDeskModel" ({ cls := "CommitDeskModel", name := "save", desc := "(I)I" } : Jvm.MethodName) ({ cls := "CommitDeskModel", name := "save", desc := "(I)I" } : Jvm.MethodName)) ∈ BIG := List.mem_append_right _ (List.mem_append_right _ (List.mem_append_right _ (List.mem_append_right _ (List.mem_append_right _ (List.mem_append_right _ (List.mem_append_right _ (List.mem_append_right _ (List.mem_append_right _ (List.mem_append_right _ (List.mem_append_left _ (List.mem_of_getElem? (i := 17) rfl)))))))))))
theorem bw_418 : (Jvm.Cond.code ({ cls := "CommitDeskModel", name := "save", desc := "(I)I" } : Jvm.MethodName) prog_4_method_14_code (2 : Nat) (Option.some Jvm.ClassFile.FieldType.int)) ∈ BIG := List.mem_append_right _ (List.mem_append_right _ (List.mem_append_right _ (List.mem_append_right _ (List.mem_append_right _ (List.mem_append_right _ (List.mem_append_right _ (List.mem_append_right _ (List.mem_append_right _ (List.mem_append_right _ (List.mem_append_left _ (List.mem_of_getElem? (i := 18) rfl)))))))))))
theorem bw_419 : (Jvm.Cond.methodLink "CommitDeskModel" (69 : Nat) ({ cls := "CommitDeskModel", name := "copy", desc := "(II)V" } : Jvm.MethodName)) ∈ BIG := List.mem_append_right _ (List.mem_append_right _ (List.mem_append_right _ (List.mem_append_right _ (List.mem_append_right _ (List.mem_append_right _ (List.mem_append_right _ (List.mem_append_right _ (List.mem_append_right _ (List.mem_append_right _ (List.mem_append_left _ (List.mem_of_getElem? (i := 19) rfl)))))))))))
theorem bw_420 : (Jvm.Cond.instanceMethod ({ cls := "CommitDeskModel", name := "copy", desc := "(II)V" } : Jvm.MethodName)) ∈ BIG := List.mem_append_right _ (List.mem_append_right _ (List.mem_append_right _ (List.mem_append_right _ (List.mem_append_right _ (List.mem_append_right _ (List.mem_append_right _ (List.mem_append_right _ (List.mem_append_right _ (List.mem_append_right _ (List.mem_append_left _ (List.mem_of_getElem? (i := 20) rfl)))))))))))
theorem bw_421 : (Jvm.Cond.code ({ cls := "CommitDeskModel", name := "copy", desc := "(II)V" } : Jvm.MethodName) prog_4_method_13_code (4 : Nat) (Option.none : Option Jvm.ClassFile.FieldType)) ∈ BIG := List.mem_append_right _ (List.mem_append_right _ (List.mem_append_right _ (List.mem_append_right _ (List.mem_append_right _ (List.mem_append_right _ (List.mem_append_right _ (List.mem_append_right _ (List.mem_append_right _ (List.mem_append_right _ (List.mem_append_left _ (List.mem_of_getElem? (i := 21) rfl)))))))))))
theorem bw_422 : (Jvm.Cond.methodLink "CommitDeskLaw" (94 : Nat) ({ cls := "CommitDeskModel", name := "back", desc := "(I)V" } : Jvm.MethodName)) ∈ BIG := List.mem_append_right _ (List.mem_append_right _ (List.mem_append_right _ (List.mem_append_right _ (List.mem_append_right _ (List.mem_append_right _ (List.mem_append_right _ (List.mem_append_right _ (List.mem_append_right _ (List.mem_append_right _ (List.mem_append_left _ (List.mem_of_getElem? (i := 22) rfl)))))))))))
theorem bw_423 : (Jvm.Cond.instanceMethod ({ cls := "CommitDeskModel", name := "back", desc := "(I)V" } : Jvm.MethodName)) ∈ BIG := List.mem_append_right _ (List.mem_append_right _ (List.mem_append_right _ (List.mem_append_right _ (List.mem_append_right _ (List.mem_append_right _ (List.mem_append_right _ (List.mem_append_right _ (List.mem_append_right _ (List.mem_append_right _ (List.mem_append_left _ (List.mem_of_getElem? (i := 23) rfl)))))))))))
theorem bw_424 : (Jvm.Cond.selects "CommitDeskModel" ({ cls := "CommitDeskModel", name := "back", desc := "(I)V" } : Jvm.MethodName) ({ cls := "CommitDeskModel", name := "back", desc := "(I)V" } : Jvm.MethodName)) ∈ BIG := List.mem_append_right _ (List.mem_append_right _ (List.mem_append_right _ (List.mem_append_right _ (List.mem_append_right _ (List.mem_append_right _ (List.mem_append_right _ (List.mem_append_right _ (List.mem_append_right _ (List.mem_append_right _ (List.mem_append_left _ (List.mem_of_getElem? (i := 24) rfl)))))))))))
theorem bw_425 : (Jvm.Cond.code ({ cls := "CommitDeskModel", name := "back", desc := "(I)V" } : Jvm.MethodName) prog_4_method_15_code (2 : Nat) (Option.none : Option Jvm.ClassFile.FieldType)) ∈ BIG := List.mem_append_right _ (List.mem_append_right _ (List.mem_append_right _ (List.mem_append_right _ (List.mem_append_right _ (List.mem_append_right _ (List.mem_append_right _ (List.mem_append_right _ (List.mem_append_right _ (List.mem_append_right _ (List.mem_append_left _ (List.mem_of_getElem? (i := 25) rfl)))))))))))
theorem bw_426 : (Jvm.Cond.methodLink "CommitDeskLaw" (97 : Nat) ({ cls := "CommitDeskModel", name := "keep", desc := "(I)V" } : Jvm.MethodName)) ∈ BIG := List.mem_append_right _ (List.mem_append_right _ (List.mem_append_right _ (List.mem_append_right _ (List.mem_append_right _ (List.mem_append_right _ (List.mem_append_right _ (List.mem_append_right _ (List.mem_append_right _ (List.mem_append_right _ (List.mem_append_left _ (List.mem_of_getElem? (i := 26) rfl)))))))))))
theorem bw_427 : (Jvm.Cond.instanceMethod ({ cls := "CommitDeskModel", name := "keep", desc := "(I)V" } : Jvm.MethodName)) ∈ BIG := List.mem_append_right _ (List.mem_append_right _ (List.mem_append_right _ (List.mem_append_right _ (List.mem_append_right _ (List.mem_append_right _ (List.mem_append_right _ (List.mem_append_right _ (List.mem_append_right _ (List.mem_append_right _ (List.mem_append_left _ (List.mem_of_getElem? (i := 27) rfl)))))))))))
theorem bw_428 : (Jvm.Cond.selects "CommitDeskModel" ({ cls := "CommitDeskModel", name := "keep", desc := "(I)V" } : Jvm.MethodName) ({ cls := "CommitDeskModel", name := "keep", desc := "(I)V" } : Jvm.MethodName)) ∈ BIG := List.mem_append_right _ (List.mem_append_right _ (List.mem_append_right _ (List.mem_append_right _ (List.mem_append_right _ (List.mem_append_right _ (List.mem_append_right _ (List.mem_append_right _ (List.mem_append_right _ (List.mem_append_right _ (List.mem_append_left _ (List.mem_of_getElem? (i := 28) rfl)))))))))))
theorem bw_429 : (Jvm.Cond.code ({ cls := "CommitDeskModel", name := "keep", desc := "(I)V" } : Jvm.MethodName) prog_4_method_16_code (2 : Nat) (Option.none : Option Jvm.ClassFile.FieldType)) ∈ BIG := List.mem_append_right _ (List.mem_append_right _ (List.mem_append_right _ (List.mem_append_right _ (List.mem_append_right _ (List.mem_append_right _ (List.mem_append_right _ (List.mem_append_right _ (List.mem_append_right _ (List.mem_append_right _ (List.mem_append_left _ (List.mem_of_getElem? (i := 29) rfl)))))))))))
theorem bw_430 : (Jvm.Cond.methodLink "CommitDeskLaw" (100 : Nat) ({ cls := "CommitDeskModel", name := "done", desc := "(I)Z" } : Jvm.MethodName)) ∈ BIG := List.mem_append_right _ (List.mem_append_right _ (List.mem_append_right _ (List.mem_append_right _ (List.mem_append_right _ (List.mem_append_right _ (List.mem_append_right _ (List.mem_append_right _ (List.mem_append_right _ (List.mem_append_right _ (List.mem_append_left _ (List.mem_of_getElem? (i := 30) rfl)))))))))))
theorem bw_431 : (Jvm.Cond.instanceMethod ({ cls := "CommitDeskModel", name := "done", desc := "(I)Z" } : Jvm.MethodName)) ∈ BIG := List.mem_append_right _ (List.mem_append_right _ (List.mem_append_right _ (List.mem_append_right _ (List.mem_append_right _ (List.mem_append_right _ (List.mem_append_right _ (List.mem_append_right _ (List.mem_append_right _ (List.mem_append_right _ (List.mem_append_left _ (List.mem_of_getElem? (i := 31) rfl)))))))))))
theorem bw_432 : (Jvm.Cond.selects "CommitDeskModel" ({ cls := "CommitDeskModel", name := "done", desc := "(I)Z" } : Jvm.MethodName) ({ cls := "CommitDeskModel", name := "done", desc := "(I)Z" } : Jvm.MethodName)) ∈ BIG := List.mem_append_right _ (List.mem_append_right _ (List.mem_append_right _ (List.mem_append_right _ (List.mem_append_right _ (List.mem_append_right _ (List.mem_append_right _ (List.mem_append_right _ (List.mem_append_right _ (List.mem_append_right _ (List.mem_append_left _ (List.mem_of_getElem? (i := 32) rfl)))))))))))
theorem bw_433 : (Jvm.Cond.code ({ cls := "CommitDeskModel", name := "done", desc := "(I)Z" } : Jvm.MethodName) prog_4_method_17_code (3 : Nat) (Option.some Jvm.ClassFile.FieldType.boolean)) ∈ BIG := List.mem_append_right _ (List.mem_append_right _ (List.mem_append_right _ (List.mem_append_right _ (List.mem_append_right _ (List.mem_append_right _ (List.mem_append_right _ (List.mem_append_right _ (List.mem_append_right _ (List.mem_append_right _ (List.mem_append_left _ (List.mem_of_getElem? (i := 33) rfl)))))))))))
theorem bw_434 : (Jvm.Cond.methodLink "CommitDeskModel" (73 : Nat) ({ cls := "CommitDeskModel", name := "change", desc := "(IJ)V" } : Jvm.MethodName)) ∈ BIG := List.mem_append_right _ (List.mem_append_right _ (List.mem_append_right _ (List.mem_append_right _ (List.mem_append_right _ (List.mem_append_right _ (List.mem_append_right _ (List.mem_append_right _ (List.mem_append_right _ (List.mem_append_right _ (List.mem_append_left _ (List.mem_of_getElem? (i := 34) rfl)))))))))))
theorem bw_435 : (Jvm.Cond.instanceMethod ({ cls := "CommitDeskModel", name := "change", desc := "(IJ)V" } : Jvm.MethodName)) ∈ BIG := List.mem_append_right _ (List.mem_append_right _ (List.mem_append_right _ (List.mem_append_right _ (List.mem_append_right _ (List.mem_append_right _ (List.mem_append_right _ (List.mem_append_right _ (List.mem_append_right _ (List.mem_append_right _ (List.mem_append_left _ (List.mem_of_getElem? (i := 35) rfl)))))))))))
theorem bw_436 : (Jvm.Cond.code ({ cls := "CommitDeskModel", name := "change", desc := "(IJ)V" } : Jvm.MethodName) prog_4_method_9_code (4 : Nat) (Option.none : Option Jvm.ClassFile.FieldType)) ∈ BIG := List.mem_append_right _ (List.mem_append_right _ (List.mem_append_right _ (List.mem_append_right _ (List.mem_append_right _ (List.mem_append_right _ (List.mem_append_right _ (List.mem_append_right _ (List.mem_append_right _ (List.mem_append_right _ (List.mem_append_left _ (List.mem_of_getElem? (i := 36) rfl)))))))))))
theorem bw_437 : (Jvm.Cond.methodLink "CommitDeskLaw" (103 : Nat) ({ cls := "CommitDeskModel", name := "leave", desc := "(I)V" } : Jvm.MethodName)) ∈ BIG := List.mem_append_right _ (List.mem_append_right _ (List.mem_append_right _ (List.mem_append_right _ (List.mem_append_right _ (List.mem_append_right _ (List.mem_append_right _ (List.mem_append_right _ (List.mem_append_right _ (List.mem_append_right _ (List.mem_append_left _ (List.mem_of_getElem? (i := 37) rfl)))))))))))
theorem bw_438 : (Jvm.Cond.instanceMethod ({ cls := "CommitDeskModel", name := "leave", desc := "(I)V" } : Jvm.MethodName)) ∈ BIG := List.mem_append_right _ (List.mem_append_right _ (List.mem_append_right _ (List.mem_append_right _ (List.mem_append_right _ (List.mem_append_right _ (List.mem_append_right _ (List.mem_append_right _ (List.mem_append_right _ (List.mem_append_right _ (List.mem_append_left _ (List.mem_of_getElem? (i := 38) rfl)))))))))))
theorem bw_439 : (Jvm.Cond.selects "CommitDeskModel" ({ cls := "CommitDeskModel", name := "leave", desc := "(I)V" } : Jvm.MethodName) ({ cls := "CommitDeskModel", name := "leave", desc := "(I)V" } : Jvm.MethodName)) ∈ BIG := List.mem_append_right _ (List.mem_append_right _ (List.mem_append_right _ (List.mem_append_right _ (List.mem_append_right _ (List.mem_append_right _ (List.mem_append_right _ (List.mem_append_right _ (List.mem_append_right _ (List.mem_append_right _ (List.mem_append_left _ (List.mem_of_getElem? (i := 39) rfl)))))))))))
theorem bw_440 : (Jvm.Cond.code ({ cls := "CommitDeskModel", name := "leave", desc := "(I)V" } : Jvm.MethodName) prog_4_method_18_code (2 : Nat) (Option.none : Option Jvm.ClassFile.FieldType)) ∈ BIG := List.mem_append_right _ (List.mem_append_right _ (List.mem_append_right _ (List.mem_append_right _ (List.mem_append_right _ (List.mem_append_right _ (List.mem_append_right _ (List.mem_append_right _ (List.mem_append_right _ (List.mem_append_right _ (List.mem_append_right _ (List.mem_of_getElem? (i := 0) rfl)))))))))))
theorem bw_441 : (Jvm.Cond.methodLink "CommitDeskLaw" (107 : Nat) ({ cls := "CommitDeskModel", name := "set", desc := "(IJ)V" } : Jvm.MethodName)) ∈ BIG := List.mem_append_right _ (List.mem_append_right _ (List.mem_append_right _ (List.mem_append_right _ (List.mem_append_right _ (List.mem_append_right _ (List.mem_append_right _ (List.mem_append_right _ (List.mem_append_right _ (List.mem_append_right _ (List.mem_append_right _ (List.mem_of_getElem? (i := 1) rfl)))))))))))
theorem bw_442 : (Jvm.Cond.instanceMethod ({ cls := "CommitDeskModel", name := "set", desc := "(IJ)V" } : Jvm.MethodName)) ∈ BIG := List.mem_append_right _ (List.mem_append_right _ (List.mem_append_right _ (List.mem_append_right _ (List.mem_append_right _ (List.mem_append_right _ (List.mem_append_right _ (List.mem_append_right _ (List.mem_append_right _ (List.mem_append_right _ (List.mem_append_right _ (List.mem_of_getElem? (i := 2) rfl)))))))))))
theorem bw_443 : (Jvm.Cond.selects "CommitDeskModel" ({ cls := "CommitDeskModel", name := "set", desc := "(IJ)V" } : Jvm.MethodName) ({ cls := "CommitDeskModel", name := "set", desc := "(IJ)V" } : Jvm.MethodName)) ∈ BIG := List.mem_append_right _ (List.mem_append_right _ (List.mem_append_right _ (List.mem_append_right _ (List.mem_append_right _ (List.mem_append_right _ (List.mem_append_right _ (List.mem_append_right _ (List.mem_append_right _ (List.mem_append_right _ (List.mem_append_right _ (List.mem_of_getElem? (i := 3) rfl)))))))))))
theorem bw_444 : (Jvm.Cond.code ({ cls := "CommitDeskModel", name := "set", desc := "(IJ)V" } : Jvm.MethodName) prog_4_method_19_code (4 : Nat) (Option.none : Option Jvm.ClassFile.FieldType)) ∈ BIG := List.mem_append_right _ (List.mem_append_right _ (List.mem_append_right _ (List.mem_append_right _ (List.mem_append_right _ (List.mem_append_right _ (List.mem_append_right _ (List.mem_append_right _ (List.mem_append_right _ (List.mem_append_right _ (List.mem_append_right _ (List.mem_of_getElem? (i := 4) rfl)))))))))))
theorem bw_445 : (Jvm.Cond.methodLink "CommitDeskLaw" (110 : Nat) ({ cls := "CommitDeskModel", name := "cell", desc := "(I)J" } : Jvm.MethodName)) ∈ BIG := List.mem_append_right _ (List.mem_append_right _ (List.mem_append_right _ (List.mem_append_right _ (List.mem_append_right _ (List.mem_append_right _ (List.mem_append_right _ (List.mem_append_right _ (List.mem_append_right _ (List.mem_append_right _ (List.mem_append_right _ (List.mem_of_getElem? (i := 5) rfl)))))))))))
theorem bw_446 : (Jvm.Cond.instanceMethod ({ cls := "CommitDeskModel", name := "cell", desc := "(I)J" } : Jvm.MethodName)) ∈ BIG := List.mem_append_right _ (List.mem_append_right _ (List.mem_append_right _ (List.mem_append_right _ (List.mem_append_right _ (List.mem_append_right _ (List.mem_append_right _ (List.mem_append_right _ (List.mem_append_right _ (List.mem_append_right _ (List.mem_append_right _ (List.mem_of_getElem? (i := 6) rfl)))))))))))
theorem bw_447 : (Jvm.Cond.selects "CommitDeskModel" ({ cls := "CommitDeskModel", name := "cell", desc := "(I)J" } : Jvm.MethodName) ({ cls := "CommitDeskModel", name := "cell", desc := "(I)J" } : Jvm.MethodName)) ∈ BIG := List.mem_append_right _ (List.mem_append_right _ (List.mem_append_right _ (List.mem_append_right _ (List.mem_append_right _ (List.mem_append_right _ (List.mem_append_right _ (List.mem_append_right _ (List.mem_append_right _ (List.mem_append_right _ (List.mem_append_right _ (List.mem_of_getElem? (i := 7) rfl)))))))))))
theorem bw_448 : (Jvm.Cond.code ({ cls := "CommitDeskModel", name := "cell", desc := "(I)J" } : Jvm.MethodName) prog_4_method_20_code (2 : Nat) (Option.some Jvm.ClassFile.FieldType.long)) ∈ BIG := List.mem_append_right _ (List.mem_append_right _ (List.mem_append_right _ (List.mem_append_right _ (List.mem_append_right _ (List.mem_append_right _ (List.mem_append_right _ (List.mem_append_right _ (List.mem_append_right _ (List.mem_append_right _ (List.mem_append_right _ (List.mem_of_getElem? (i := 8) rfl)))))))))))
theorem bw_449 : (Jvm.Cond.methodLink "CommitDeskLaw" (113 : Nat) ({ cls := "CommitDeskModel", name := "changed", desc := "(I)I" } : Jvm.MethodName)) ∈ BIG := List.mem_append_right _ (List.mem_append_right _ (List.mem_append_right _ (List.mem_append_right _ (List.mem_append_right _ (List.mem_append_right _ (List.mem_append_right _ (List.mem_append_right _ (List.mem_append_right _ (List.mem_append_right _ (List.mem_append_right _ (List.mem_of_getElem? (i := 9) rfl)))))))))))
theorem bw_450 : (Jvm.Cond.instanceMethod ({ cls := "CommitDeskModel", name := "changed", desc := "(I)I" } : Jvm.MethodName)) ∈ BIG := List.mem_append_right _ (List.mem_append_right _ (List.mem_append_right _ (List.mem_append_right _ (List.mem_append_right _ (List.mem_append_right _ (List.mem_append_right _ (List.mem_append_right _ (List.mem_append_right _ (List.mem_append_right _ (List.mem_append_right _ (List.mem_of_getElem? (i := 10) rfl)))))))))))
theorem bw_451 : (Jvm.Cond.selects "CommitDeskModel" ({ cls := "CommitDeskModel", name := "changed", desc := "(I)I" } : Jvm.MethodName) ({ cls := "CommitDeskModel", name := "changed", desc := "(I)I" } : Jvm.MethodName)) ∈ BIG := List.mem_append_right _ (List.mem_append_right _ (List.mem_append_right _ (List.mem_append_right _ (List.mem_append_right _ (List.mem_append_right _ (List.mem_append_right _ (List.mem_append_right _ (List.mem_append_right _ (List.mem_append_right _ (List.mem_append_right _ (List.mem_of_getElem? (i := 11) rfl)))))))))))
theorem bw_452 : (Jvm.Cond.code ({ cls := "CommitDeskModel", name := "changed", desc := "(I)I" } : Jvm.MethodName) prog_4_method_21_code (2 : Nat) (Option.some Jvm.ClassFile.FieldType.int)) ∈ BIG := List.mem_append_right _ (List.mem_append_right _ (List.mem_append_right _ (List.mem_append_right _ (List.mem_append_right _ (List.mem_append_right _ (List.mem_append_right _ (List.mem_append_right _ (List.mem_append_right _ (List.mem_append_right _ (List.mem_append_right _ (List.mem_of_getElem? (i := 12) rfl)))))))))))
theorem bw_453 : (Jvm.Cond.methodLink "CommitDeskLaw" (116 : Nat) ({ cls := "CommitDeskModel", name := "count", desc := "(II)I" } : Jvm.MethodName)) ∈ BIG := List.mem_append_right _ (List.mem_append_right _ (List.mem_append_right _ (List.mem_append_right _ (List.mem_append_right _ (List.mem_append_right _ (List.mem_append_right _ (List.mem_append_right _ (List.mem_append_right _ (List.mem_append_right _ (List.mem_append_right _ (List.mem_of_getElem? (i := 13) rfl)))))))))))
theorem bw_454 : (Jvm.Cond.instanceMethod ({ cls := "CommitDeskModel", name := "count", desc := "(II)I" } : Jvm.MethodName)) ∈ BIG := List.mem_append_right _ (List.mem_append_right _ (List.mem_append_right _ (List.mem_append_right _ (List.mem_append_right _ (List.mem_append_right _ (List.mem_append_right _ (List.mem_append_right _ (List.mem_append_right _ (List.mem_append_right _ (List.mem_append_right _ (List.mem_of_getElem? (i := 14) rfl)))))))))))
theorem bw_455 : (Jvm.Cond.selects "CommitDeskModel" ({ cls := "CommitDeskModel", name := "count", desc := "(II)I" } : Jvm.MethodName) ({ cls := "CommitDeskModel", name := "count", desc := "(II)I" } : Jvm.MethodName)) ∈ BIG := List.mem_append_right _ (List.mem_append_right _ (List.mem_append_right _ (List.mem_append_right _ (List.mem_append_right _ (List.mem_append_right _ (List.mem_append_right _ (List.mem_append_right _ (List.mem_append_right _ (List.mem_append_right _ (List.mem_append_right _ (List.mem_of_getElem? (i := 15) rfl)))))))))))
theorem bw_456 : (Jvm.Cond.code ({ cls := "CommitDeskModel", name := "count", desc := "(II)I" } : Jvm.MethodName) prog_4_method_22_code (5 : Nat) (Option.some Jvm.ClassFile.FieldType.int)) ∈ BIG := List.mem_append_right _ (List.mem_append_right _ (List.mem_append_right _ (List.mem_append_right _ (List.mem_append_right _ (List.mem_append_right _ (List.mem_append_right _ (List.mem_append_right _ (List.mem_append_right _ (List.mem_append_right _ (List.mem_append_right _ (List.mem_of_getElem? (i := 16) rfl)))))))))))
theorem bw_457 : (Jvm.Cond.constantLong "CommitDeskModel" (80 : Nat) (3 : Int64)) ∈ BIG := List.mem_append_right _ (List.mem_append_right _ (List.mem_append_right _ (List.mem_append_right _ (List.mem_append_right _ (List.mem_append_right _ (List.mem_append_right _ (List.mem_append_right _ (List.mem_append_right _ (List.mem_append_right _ (List.mem_append_right _ (List.mem_of_getElem? (i := 17) rfl)))))))))))
theorem bw_458 : (Jvm.Cond.methodLink "CommitDeskLaw" (119 : Nat) ({ cls := "CommitDeskModel", name := "all", desc := "(I)I" } : Jvm.MethodName)) ∈ BIG := List.mem_append_right _ (List.mem_append_right _ (List.mem_append_right _ (List.mem_append_right _ (List.mem_append_right _ (List.mem_append_right _ (List.mem_append_right _ (List.mem_append_right _ (List.mem_append_right _ (List.mem_append_right _ (List.mem_append_right _ (List.mem_of_getElem? (i := 18) rfl)))))))))))
theorem bw_459 : (Jvm.Cond.instanceMethod ({ cls := "CommitDeskModel", name := "all", desc := "(I)I" } : Jvm.MethodName)) ∈ BIG := List.mem_append_right _ (List.mem_append_right _ (List.mem_append_right _ (List.mem_append_right _ (List.mem_append_right _ (List.mem_append_right _ (List.mem_append_right _ (List.mem_append_right _ (List.mem_append_right _ (List.mem_append_right _ (List.mem_append_right _ (List.mem_of_getElem? (i := 19) rfl)))))))))))
theorem bw_460 : (Jvm.Cond.selects "CommitDeskModel" ({ cls := "CommitDeskModel", name := "all", desc := "(I)I" } : Jvm.MethodName) ({ cls := "CommitDeskModel", name := "all", desc := "(I)I" } : Jvm.MethodName)) ∈ BIG := List.mem_append_right _ (List.mem_append_right _ (List.mem_append_right _ (List.mem_append_right _ (List.mem_append_right _ (List.mem_append_right _ (List.mem_append_right _ (List.mem_append_right _ (List.mem_append_right _ (List.mem_append_right _ (List.mem_append_right _ (List.mem_of_getElem? (i := 20) rfl)))))))))))
theorem bw_461 : (Jvm.Cond.code ({ cls := "CommitDeskModel", name := "all", desc := "(I)I" } : Jvm.MethodName) prog_4_method_23_code (4 : Nat) (Option.some Jvm.ClassFile.FieldType.int)) ∈ BIG := List.mem_append_right _ (List.mem_append_right _ (List.mem_append_right _ (List.mem_append_right _ (List.mem_append_right _ (List.mem_append_right _ (List.mem_append_right _ (List.mem_append_right _ (List.mem_append_right _ (List.mem_append_right _ (List.mem_append_right _ (List.mem_of_getElem? (i := 21) rfl)))))))))))
theorem bw_462 : (Jvm.Cond.constantLong "CommitDeskModel" (82 : Nat) (2 : Int64)) ∈ BIG := List.mem_append_right _ (List.mem_append_right _ (List.mem_append_right _ (List.mem_append_right _ (List.mem_append_right _ (List.mem_append_right _ (List.mem_append_right _ (List.mem_append_right _ (List.mem_append_right _ (List.mem_append_right _ (List.mem_append_right _ (List.mem_of_getElem? (i := 22) rfl)))))))))))
theorem bw_463 : (Jvm.Cond.constantLong "CommitDeskLaw" (82 : Nat) (4294967295 : Int64)) ∈ BIG := List.mem_append_right _ (List.mem_append_right _ (List.mem_append_right _ (List.mem_append_right _ (List.mem_append_right _ (List.mem_append_right _ (List.mem_append_right _ (List.mem_append_right _ (List.mem_append_right _ (List.mem_append_right _ (List.mem_append_right _ (List.mem_of_getElem? (i := 23) rfl)))))))))))
theorem BIG_all : BIG.all goodWord = true := by
  unfold BIG
  simp only [List.all_append, BIG_g0, BIG_g1, BIG_g2, BIG_g3, BIG_g4, BIG_g5, BIG_g6, BIG_g7, BIG_g8, BIG_g9, BIG_g10, BIG_g11, Bool.and_self]
theorem BIG_good {c : Cond} (h : c ∈ BIG) : GoodIn BIG (c :: BIG) := fun w hw => by
  have hm : w ∈ BIG := (List.mem_cons.mp hw).elim (fun e => by rw [e]; exact h) id
  exact ⟨hm, good_of_word (List.all_eq_true.mp BIG_all w hm)⟩
theorem BIG_V {own C : String} {index : Nat} {y : MethodName} {c : Cond} (h1 : Cond.methodLink own index y ∈ BIG) (h2 : Cond.instanceMethod y ∈ BIG) (h3 : Cond.selects C y y ∈ BIG) (h4 : Cond.initialized C ∈ BIG) (h : c ∈ BIG) : GoodIn BIG (wsV own index C y (c :: BIG)) := fun w hw => by
  unfold wsV at hw
  rcases List.mem_append.mp hw with q | q
  · have hm : w ∈ BIG := by
      simp only [List.mem_cons, List.not_mem_nil, or_false] at q
      rcases q with rfl | rfl | rfl | rfl
      · exact h1
      · exact h2
      · exact h3
      · exact h4
    exact ⟨hm, good_of_word (List.all_eq_true.mp BIG_all w hm)⟩
  · exact BIG_good h w q
theorem BIG_S {own : String} {index : Nat} {y : MethodName} {c : Cond} (h1 : Cond.methodLink own index y ∈ BIG) (h2 : Cond.static y ∈ BIG) (h3 : Cond.initialized own ∈ BIG) (h : c ∈ BIG) : GoodIn BIG (wsS own index y (c :: BIG)) := fun w hw => by
  unfold wsS at hw
  rcases List.mem_append.mp hw with q | q
  · have hm : w ∈ BIG := by
      simp only [List.mem_cons, List.not_mem_nil, or_false] at q
      rcases q with rfl | rfl | rfl
      · exact h1
      · exact h2
      · exact h3
    exact ⟨hm, good_of_word (List.all_eq_true.mp BIG_all w hm)⟩
  · exact BIG_good h w q
theorem in_T : ∀ w ∈ u_ws R_T F_T 6, w ∈ BIG := fun w hw => by
  obtain ⟨k, hk, rfl⟩ := List.mem_map.mp hw
  have hk2 : k < 6 := List.mem_range.mp hk
  rcases (show k = 0 ∨ k = 1 ∨ k = 2 ∨ k = 3 ∨ k = 4 ∨ k = 5 by omega) with rfl | rfl | rfl | rfl | rfl | rfl
  · exact bw_47
  · exact bw_48
  · exact bw_49
  · exact bw_50
  · exact bw_51
  · exact bw_52
theorem in_D : ∀ w ∈ u_ws R_D F_D 5, w ∈ BIG := fun w hw => by
  obtain ⟨k, hk, rfl⟩ := List.mem_map.mp hw
  have hk2 : k < 5 := List.mem_range.mp hk
  rcases (show k = 0 ∨ k = 1 ∨ k = 2 ∨ k = 3 ∨ k = 4 by omega) with rfl | rfl | rfl | rfl | rfl
  · exact bw_61
  · exact bw_62
  · exact bw_63
  · exact bw_64
  · exact bw_65
theorem in_M : ∀ w ∈ u_ws R_M F_M 11, w ∈ BIG := fun w hw => by
  obtain ⟨k, hk, rfl⟩ := List.mem_map.mp hw
  have hk2 : k < 11 := List.mem_range.mp hk
  rcases (show k = 0 ∨ k = 1 ∨ k = 2 ∨ k = 3 ∨ k = 4 ∨ k = 5 ∨ k = 6 ∨ k = 7 ∨ k = 8 ∨ k = 9 ∨ k = 10 by omega) with rfl | rfl | rfl | rfl | rfl | rfl | rfl | rfl | rfl | rfl | rfl
  · exact bw_366
  · exact bw_367
  · exact bw_368
  · exact bw_369
  · exact bw_370
  · exact bw_371
  · exact bw_372
  · exact bw_373
  · exact bw_374
  · exact bw_375
  · exact bw_376
abbrev c_D_init : ByteArray := prog_1_method_1_code
abbrev w_D_init : List Cond := .code y_D_init c_D_init 2 none :: BIG
abbrev c_T_init : ByteArray := prog_2_method_1_code
abbrev w_T_init : List Cond := .code y_T_init c_T_init 1 none :: BIG
abbrev c_L_begin : ByteArray := method_3_code
abbrev w_L_begin : List Cond := .codeWith y_L_begin c_L_begin 3 (some .int) [(0, 5, 8, 13), (0, 5, 11, 15)] :: BIG
abbrev c_D_begin : ByteArray := prog_1_method_2_code
abbrev w_D_begin : List Cond := .code y_D_begin c_D_begin 3 none :: BIG
abbrev c_D_transactionOf : ByteArray := prog_1_method_15_code
abbrev w_D_transactionOf : List Cond := .code y_D_transactionOf c_D_transactionOf 2 (some (.object "CommitDesk$Transaction")) :: BIG
abbrev c_T_isOpen : ByteArray := prog_2_method_2_code
abbrev w_T_isOpen : List Cond := .code y_T_isOpen c_T_isOpen 1 (some .boolean) :: BIG
abbrev c_T_start : ByteArray := prog_2_method_7_code
abbrev w_T_start : List Cond := .code y_T_start c_T_start 1 none :: BIG
abbrev c_L_read : ByteArray := method_4_code
abbrev w_L_read : List Cond := .codeWith y_L_read c_L_read 5 (some .int) [(0, 9, 12, 13), (0, 9, 16, 21), (0, 9, 20, 15), (0, 9, 24, 23)] :: BIG
abbrev c_D_read : ByteArray := prog_1_method_3_code
abbrev w_D_read : List Cond := .code y_D_read c_D_read 5 (some .long) :: BIG
abbrev c_D_openTransactionAt : ByteArray := prog_1_method_18_code
abbrev w_D_openTransactionAt : List Cond := .code y_D_openTransactionAt c_D_openTransactionAt 3 (some (.object "CommitDesk$Transaction")) :: BIG
abbrev c_D_requireCell : ByteArray := prog_1_method_16_code
abbrev w_D_requireCell : List Cond := .code y_D_requireCell c_D_requireCell 2 none :: BIG
abbrev c_D_openTransactionOf : ByteArray := prog_1_method_17_code
abbrev w_D_openTransactionOf : List Cond := .code y_D_openTransactionOf c_D_openTransactionOf 3 (some (.object "CommitDesk$Transaction")) :: BIG
abbrev c_T_lastPartWith : ByteArray := prog_2_method_11_code
abbrev w_T_lastPartWith : List Cond := .code y_T_lastPartWith c_T_lastPartWith 3 (some .int) :: BIG
abbrev c_T_holds : ByteArray := prog_2_method_18_code
abbrev w_T_holds : List Cond := .code y_T_holds c_T_holds 2 (some .boolean) :: BIG
abbrev c_T_writtenIn : ByteArray := prog_2_method_12_code
abbrev w_T_writtenIn : List Cond := .code y_T_writtenIn c_T_writtenIn 3 (some .long) :: BIG
abbrev c_T_isStale : ByteArray := prog_2_method_3_code
abbrev w_T_isStale : List Cond := .code y_T_isStale c_T_isStale 1 (some .boolean) :: BIG
abbrev c_D_endStale : ByteArray := prog_1_method_20_code
abbrev w_D_endStale : List Cond := .code y_D_endStale c_D_endStale 2 none :: BIG
abbrev c_T_close : ByteArray := prog_2_method_8_code
abbrev w_T_close : List Cond := .code y_T_close c_T_close 1 none :: BIG
abbrev c_T_markRead : ByteArray := prog_2_method_9_code
abbrev w_T_markRead : List Cond := .code y_T_markRead c_T_markRead 2 none :: BIG
abbrev c_L_write : ByteArray := method_5_code
abbrev w_L_write : List Cond := .codeWith y_L_write c_L_write 6 (some .int) [(0, 7, 10, 13), (0, 7, 14, 21), (0, 7, 18, 15)] :: BIG
abbrev c_D_write : ByteArray := prog_1_method_4_code
abbrev w_D_write : List Cond := .code y_D_write c_D_write 5 none :: BIG
abbrev c_T_putInLastPart : ByteArray := prog_2_method_13_code
abbrev w_T_putInLastPart : List Cond := .code y_T_putInLastPart c_T_putInLastPart 4 none :: BIG
abbrev c_T_putInPart : ByteArray := prog_2_method_17_code
abbrev w_T_putInPart : List Cond := .code y_T_putInPart c_T_putInPart 5 none :: BIG
abbrev c_L_save : ByteArray := method_6_code
abbrev w_L_save : List Cond := .codeWith y_L_save c_L_save 4 (some .int) [(0, 9, 12, 13), (0, 9, 15, 15), (0, 9, 18, 23)] :: BIG
abbrev c_D_save : ByteArray := prog_1_method_5_code
abbrev w_D_save : List Cond := .code y_D_save c_D_save 3 (some .int) :: BIG
abbrev c_T_partCount : ByteArray := prog_2_method_4_code
abbrev w_T_partCount : List Cond := .code y_T_partCount c_T_partCount 1 (some .int) :: BIG
abbrev c_T_addPart : ByteArray := prog_2_method_14_code
abbrev w_T_addPart : List Cond := .code y_T_addPart c_T_addPart 1 none :: BIG
abbrev c_L_back : ByteArray := method_7_code
abbrev w_L_back : List Cond := .codeWith y_L_back c_L_back 3 (some .int) [(0, 5, 8, 13), (0, 5, 11, 15), (0, 5, 14, 23)] :: BIG
abbrev c_D_back : ByteArray := prog_1_method_6_code
abbrev w_D_back : List Cond := .code y_D_back c_D_back 2 none :: BIG
abbrev c_D_transactionWithSeveralParts : ByteArray := prog_1_method_19_code
abbrev w_D_transactionWithSeveralParts : List Cond := .code y_D_transactionWithSeveralParts c_D_transactionWithSeveralParts 3 (some (.object "CommitDesk$Transaction")) :: BIG
abbrev c_T_dropLastPart : ByteArray := prog_2_method_15_code
abbrev w_T_dropLastPart : List Cond := .code y_T_dropLastPart c_T_dropLastPart 1 none :: BIG
abbrev c_L_keep : ByteArray := method_8_code
abbrev w_L_keep : List Cond := .codeWith y_L_keep c_L_keep 3 (some .int) [(0, 5, 8, 13), (0, 5, 11, 15), (0, 5, 14, 23)] :: BIG
abbrev c_D_keep : ByteArray := prog_1_method_7_code
abbrev w_D_keep : List Cond := .code y_D_keep c_D_keep 2 none :: BIG
abbrev c_T_mergeLastPart : ByteArray := prog_2_method_16_code
abbrev w_T_mergeLastPart : List Cond := .code y_T_mergeLastPart c_T_mergeLastPart 3 none :: BIG
abbrev c_L_done : ByteArray := method_9_code
abbrev w_L_done : List Cond := .codeWith y_L_done c_L_done 4 (some .int) [(0, 16, 19, 13), (0, 16, 22, 15)] :: BIG
abbrev c_D_done : ByteArray := prog_1_method_8_code
abbrev w_D_done : List Cond := .code y_D_done c_D_done 5 (some .boolean) :: BIG
abbrev c_D_change : ByteArray := prog_1_method_21_code
abbrev w_D_change : List Cond := .code y_D_change c_D_change 5 none :: BIG
abbrev c_T_noteChange : ByteArray := prog_2_method_10_code
abbrev w_T_noteChange : List Cond := .code y_T_noteChange c_T_noteChange 2 none :: BIG
abbrev c_L_leave : ByteArray := method_10_code
abbrev w_L_leave : List Cond := .codeWith y_L_leave c_L_leave 3 (some .int) [(0, 5, 8, 13), (0, 5, 11, 15)] :: BIG
abbrev c_D_leave : ByteArray := prog_1_method_9_code
abbrev w_D_leave : List Cond := .code y_D_leave c_D_leave 2 none :: BIG
abbrev c_L_set : ByteArray := method_11_code
abbrev w_L_set : List Cond := .codeWith y_L_set c_L_set 5 (some .int) [(0, 6, 9, 21)] :: BIG
abbrev c_D_set : ByteArray := prog_1_method_10_code
abbrev w_D_set : List Cond := .code y_D_set c_D_set 4 none :: BIG
abbrev c_L_cell : ByteArray := method_12_code
abbrev w_L_cell : List Cond := .codeWith y_L_cell c_L_cell 4 (some .int) [(0, 8, 11, 21)] :: BIG
abbrev c_D_cell : ByteArray := prog_1_method_11_code
abbrev w_D_cell : List Cond := .code y_D_cell c_D_cell 2 (some .long) :: BIG
abbrev c_L_changed : ByteArray := method_13_code
abbrev w_L_changed : List Cond := .codeWith y_L_changed c_L_changed 4 (some .int) [(0, 9, 12, 21)] :: BIG
abbrev c_D_changed : ByteArray := prog_1_method_12_code
abbrev w_D_changed : List Cond := .code y_D_changed c_D_changed 2 (some .int) :: BIG
abbrev c_L_count : ByteArray := method_14_code
abbrev w_L_count : List Cond := .codeWith y_L_count c_L_count 5 (some .int) [(0, 10, 13, 13), (0, 10, 17, 15)] :: BIG
abbrev c_D_count : ByteArray := prog_1_method_13_code
abbrev w_D_count : List Cond := .code y_D_count c_D_count 4 (some .int) :: BIG
abbrev c_T_readCount : ByteArray := prog_2_method_5_code
abbrev w_T_readCount : List Cond := .code y_T_readCount c_T_readCount 1 (some .int) :: BIG
abbrev c_J_bitCount : ByteArray := prog_9_method_49_code
abbrev w_J_bitCount : List Cond := .code y_J_bitCount c_J_bitCount 1 (some .int) :: BIG
abbrev c_T_writtenCount : ByteArray := prog_2_method_6_code
abbrev w_T_writtenCount : List Cond := .code y_T_writtenCount c_T_writtenCount 3 (some .int) :: BIG
abbrev c_L_all : ByteArray := method_15_code
abbrev w_L_all : List Cond := .codeWith y_L_all c_L_all 4 (some .int) [(0, 9, 12, 13)] :: BIG
abbrev c_D_all : ByteArray := prog_1_method_14_code
abbrev w_D_all : List Cond := .code y_D_all c_D_all 2 (some .int) :: BIG
abbrev c_D_openTotal : ByteArray := prog_1_method_22_code
abbrev w_D_openTotal : List Cond := .code y_D_openTotal c_D_openTotal 3 (some .int) :: BIG
abbrev c_M_init : ByteArray := prog_4_method_1_code
abbrev w_M_init : List Cond := .code y_M_init c_M_init 1 none :: BIG
abbrev c_M_thrown : ByteArray := prog_4_method_2_code
abbrev w_M_thrown : List Cond := .code y_M_thrown c_M_thrown 1 (some .int) :: BIG
abbrev c_M_begin : ByteArray := prog_4_method_10_code
abbrev w_M_begin : List Cond := .code y_M_begin c_M_begin 3 none :: BIG
abbrev c_M_isOne : ByteArray := prog_4_method_5_code
abbrev w_M_isOne : List Cond := .code y_M_isOne c_M_isOne 1 (some .boolean) :: BIG
abbrev c_M_in : ByteArray := prog_4_method_3_code
abbrev w_M_in : List Cond := .code y_M_in c_M_in 6 (some .boolean) :: BIG
abbrev c_M_fails : ByteArray := prog_4_method_4_code
abbrev w_M_fails : List Cond := .code y_M_fails c_M_fails 3 (some .boolean) :: BIG
abbrev c_M_last : ByteArray := prog_4_method_7_code
abbrev w_M_last : List Cond := .code y_M_last c_M_last 3 (some .int) :: BIG
abbrev c_M_read : ByteArray := prog_4_method_11_code
abbrev w_M_read : List Cond := .code y_M_read c_M_read 3 (some .long) :: BIG
abbrev c_M_isCell : ByteArray := prog_4_method_6_code
abbrev w_M_isCell : List Cond := .code y_M_isCell c_M_isCell 1 (some .boolean) :: BIG
abbrev c_M_isStale : ByteArray := prog_4_method_8_code
abbrev w_M_isStale : List Cond := .code y_M_isStale c_M_isStale 3 (some .boolean) :: BIG
abbrev c_M_write : ByteArray := prog_4_method_12_code
abbrev w_M_write : List Cond := .code y_M_write c_M_write 5 none :: BIG
abbrev c_M_save : ByteArray := prog_4_method_14_code
abbrev w_M_save : List Cond := .code y_M_save c_M_save 2 (some .int) :: BIG
abbrev c_M_copy : ByteArray := prog_4_method_13_code
abbrev w_M_copy : List Cond := .code y_M_copy c_M_copy 4 none :: BIG
abbrev c_M_back : ByteArray := prog_4_method_15_code
abbrev w_M_back : List Cond := .code y_M_back c_M_back 2 none :: BIG
abbrev c_M_keep : ByteArray := prog_4_method_16_code
abbrev w_M_keep : List Cond := .code y_M_keep c_M_keep 2 none :: BIG
abbrev c_M_done : ByteArray := prog_4_method_17_code
abbrev w_M_done : List Cond := .code y_M_done c_M_done 3 (some .boolean) :: BIG
abbrev c_M_change : ByteArray := prog_4_method_9_code
abbrev w_M_change : List Cond := .code y_M_change c_M_change 4 none :: BIG
abbrev c_M_leave : ByteArray := prog_4_method_18_code
abbrev w_M_leave : List Cond := .code y_M_leave c_M_leave 2 none :: BIG
abbrev c_M_set : ByteArray := prog_4_method_19_code
abbrev w_M_set : List Cond := .code y_M_set c_M_set 4 none :: BIG
abbrev c_M_cell : ByteArray := prog_4_method_20_code
abbrev w_M_cell : List Cond := .code y_M_cell c_M_cell 2 (some .long) :: BIG
abbrev c_M_changed : ByteArray := prog_4_method_21_code
abbrev w_M_changed : List Cond := .code y_M_changed c_M_changed 2 (some .int) :: BIG
abbrev c_M_count : ByteArray := prog_4_method_22_code
abbrev w_M_count : List Cond := .code y_M_count c_M_count 5 (some .int) :: BIG
abbrev c_M_all : ByteArray := prog_4_method_23_code
abbrev w_M_all : List Cond := .code y_M_all c_M_all 4 (some .int) :: BIG
