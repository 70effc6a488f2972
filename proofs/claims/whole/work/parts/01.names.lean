-- ===== PART A: goes FIRST, ahead of the names: the tables' words, and 'selects' of the private methods out of them =====
/-- a private method of a class that the tables say can be made, by its rows of tables_1 -/
def lw_okq (q : MethodName × Nat) : Prop := (q.1.cls ≠ "java/lang/invoke/MethodHandle" ∧ q.1.cls ≠ "java/lang/invoke/VarHandle") ∧ Cond.instantiable q.1.cls q.2 ∈ tables_1 ∧ Cond.privateMethod q.1 ∈ tables_1 ∧ Cond.instanceMethod q.1 ∈ tables_1
theorem lw_p0 : lw_okq (⟨"java/lang/Throwable", "fillInStackTrace", "(I)Ljava/lang/Throwable;"⟩, 6) := ⟨⟨by decide +kernel, by decide +kernel⟩, List.mem_of_getElem? (i := 167) (by decide +kernel), List.mem_of_getElem? (i := 165) (by decide +kernel), List.mem_of_getElem? (i := 166) (by decide +kernel)⟩
theorem lw_p1 : lw_okq (⟨"CardDirectory$RouteTable", "has", "(I)Z"⟩, 4) := ⟨⟨by decide +kernel, by decide +kernel⟩, List.mem_of_getElem? (i := 28) (by decide +kernel), List.mem_of_getElem? (i := 214) (by decide +kernel), List.mem_of_getElem? (i := 215) (by decide +kernel)⟩
theorem lw_p2 : lw_okq (⟨"CardDirectory", "requireAccount", "(I)V"⟩, 6) := ⟨⟨by decide +kernel, by decide +kernel⟩, List.mem_of_getElem? (i := 14) (by decide +kernel), List.mem_of_getElem? (i := 280) (by decide +kernel), List.mem_of_getElem? (i := 281) (by decide +kernel)⟩
theorem lw_p3 : lw_okq (⟨"CardDirectory", "requireCard", "(I)V"⟩, 6) := ⟨⟨by decide +kernel, by decide +kernel⟩, List.mem_of_getElem? (i := 14) (by decide +kernel), List.mem_of_getElem? (i := 330) (by decide +kernel), List.mem_of_getElem? (i := 331) (by decide +kernel)⟩
theorem lw_p4 : lw_okq (⟨"CardDirectory", "requireTime", "(I)V"⟩, 6) := ⟨⟨by decide +kernel, by decide +kernel⟩, List.mem_of_getElem? (i := 14) (by decide +kernel), List.mem_of_getElem? (i := 376) (by decide +kernel), List.mem_of_getElem? (i := 377) (by decide +kernel)⟩
theorem lw_p5 : lw_okq (⟨"CardDirectoryModel", "placeOf", "(II)I"⟩, 16) := ⟨⟨by decide +kernel, by decide +kernel⟩, List.mem_of_getElem? (i := 413) (by decide +kernel), List.mem_of_getElem? (i := 476) (by decide +kernel), List.mem_of_getElem? (i := 477) (by decide +kernel)⟩
theorem lw_p6 : lw_okq (⟨"CardDirectoryModel", "goes", "(ZZ)Z"⟩, 16) := ⟨⟨by decide +kernel, by decide +kernel⟩, List.mem_of_getElem? (i := 413) (by decide +kernel), List.mem_of_getElem? (i := 487) (by decide +kernel), List.mem_of_getElem? (i := 488) (by decide +kernel)⟩
theorem lw_p7 : lw_okq (⟨"CardDirectoryModel", "routed", "(J)I"⟩, 16) := ⟨⟨by decide +kernel, by decide +kernel⟩, List.mem_of_getElem? (i := 413) (by decide +kernel), List.mem_of_getElem? (i := 506) (by decide +kernel), List.mem_of_getElem? (i := 507) (by decide +kernel)⟩
theorem lw_p8 : lw_okq (⟨"CardDirectoryModel", "cardOf", "(J)I"⟩, 16) := ⟨⟨by decide +kernel, by decide +kernel⟩, List.mem_of_getElem? (i := 413) (by decide +kernel), List.mem_of_getElem? (i := 532) (by decide +kernel), List.mem_of_getElem? (i := 533) (by decide +kernel)⟩
theorem lw_p9 : lw_okq (⟨"CardDirectoryModel", "since", "(II)I"⟩, 16) := ⟨⟨by decide +kernel, by decide +kernel⟩, List.mem_of_getElem? (i := 413) (by decide +kernel), List.mem_of_getElem? (i := 544) (by decide +kernel), List.mem_of_getElem? (i := 545) (by decide +kernel)⟩
def lw_privs_1 : List (MethodName × Nat) := [(⟨"java/lang/Throwable", "fillInStackTrace", "(I)Ljava/lang/Throwable;"⟩, 6), (⟨"CardDirectory$RouteTable", "has", "(I)Z"⟩, 4), (⟨"CardDirectory", "requireAccount", "(I)V"⟩, 6), (⟨"CardDirectory", "requireCard", "(I)V"⟩, 6), (⟨"CardDirectory", "requireTime", "(I)V"⟩, 6), (⟨"CardDirectoryModel", "placeOf", "(II)I"⟩, 16), (⟨"CardDirectoryModel", "goes", "(ZZ)Z"⟩, 16), (⟨"CardDirectoryModel", "routed", "(J)I"⟩, 16), (⟨"CardDirectoryModel", "cardOf", "(J)I"⟩, 16), (⟨"CardDirectoryModel", "since", "(II)I"⟩, 16)]
theorem lw_r1 : ∀ q ∈ lw_privs_1, lw_okq q := List.forall_mem_cons.mpr ⟨lw_p0, List.forall_mem_cons.mpr ⟨lw_p1, List.forall_mem_cons.mpr ⟨lw_p2, List.forall_mem_cons.mpr ⟨lw_p3, List.forall_mem_cons.mpr ⟨lw_p4, List.forall_mem_cons.mpr ⟨lw_p5, List.forall_mem_cons.mpr ⟨lw_p6, List.forall_mem_cons.mpr ⟨lw_p7, List.forall_mem_cons.mpr ⟨lw_p8, List.forall_mem_cons.mpr ⟨lw_p9, fun _ h => absurd h List.not_mem_nil⟩⟩⟩⟩⟩⟩⟩⟩⟩⟩
def lw_privs : List (MethodName × Nat) := lw_privs_1
def lw_tbl : List Cond := k2_sels lw_privs ++ tables_1
theorem lw_privs_ok : ∀ q ∈ lw_privs, lw_okq q := lw_r1
/-! ONE LIST OF WORDS FOR ALL METHODS: the tables' words but the two of static fields; each of them stays true while the tables warm -/
def zw_ok : Cond → Bool
  | .arrayClass _ => true
  | .stringRef .. => true
  | .methodLinkNest .. => true
  | .fieldLinkNest .. => true
  | .laysStatic .. => false
  | w => w.onTables && (w.keeps || w.faceAtom)
def BG : List Cond := lw_tbl.filter (fun w => match w with | .laysStatic .. => false | _ => true)
theorem BG_all : BG.all zw_ok = true := by decide +kernel
def zw_st : Cond → Bool := fun w => match w with | .laysStatic .. => false | _ => true
theorem zm_0 {w : Cond} {i : Nat} (h : (k2_sels lw_privs)[i]? = some w) (hn : zw_st w = true) : w ∈ BG := List.mem_filter.mpr ⟨List.mem_append_left _ (List.mem_of_getElem? h), hn⟩
theorem zm_1 {w : Cond} {i : Nat} (h : tables_1_1[i]? = some w) (hn : zw_st w = true) : w ∈ BG := List.mem_filter.mpr ⟨List.mem_append_right _ (List.mem_append_left _ (List.mem_of_getElem? h)), hn⟩
theorem zm_2 {w : Cond} {i : Nat} (h : tables_1_2[i]? = some w) (hn : zw_st w = true) : w ∈ BG := List.mem_filter.mpr ⟨List.mem_append_right _ (List.mem_append_right _ (List.mem_append_left _ (List.mem_of_getElem? h))), hn⟩
theorem zm_3 {w : Cond} {i : Nat} (h : tables_1_3[i]? = some w) (hn : zw_st w = true) : w ∈ BG := List.mem_filter.mpr ⟨List.mem_append_right _ (List.mem_append_right _ (List.mem_append_right _ (List.mem_of_getElem? h))), hn⟩
theorem BG_tbl {w : Cond} (h : w ∈ BG) : w ∈ lw_tbl := (List.mem_filter.mp h).1
theorem zw_face {a a' : Array Value} {s U : State} (hW : s.WarmedH U.vm) {w : Cond} (h1 : w.onTables = true) (h2 : (w.keeps || w.faceAtom) = true) (h : w.before a s = true) : w.before a' U = true := by
  have h3 : w.keepsFace = true := by cases w <;> first | exact h2 | (simp [Cond.onTables] at h1)
  exact va_tabs h1 (rfl : (s.setVm U.vm).vm = U.vm) (Cond.before_shiftedFace (State.Shifted.of_warmed hW) w h3 h)
theorem zw_move {a a' : Array Value} {s U : State} (hW : s.WarmedH U.vm) {w : Cond} (hw : zw_ok w = true) (h : w.before a s = true) : w.before a' U = true := by
  cases w <;> first
    | (simp [zw_ok] at hw; done)
    | exact word_at hW (Or.inr ⟨_, rfl⟩) h
    | exact va_tabs rfl (rfl : (s.setVm U.vm).vm = U.vm) (Cond.stringRef_warmed hW h)
    | (have h1 := Cond.stringRef_warmed hW h
       simp only [Cond.before, Cond.holds, Cond.value, State.names, State.poolOf?, State.resolvedAt?] at h1 ⊢
       exact h1)
    | exact va_tabs rfl (rfl : (s.setVm U.vm).vm = U.vm) (Cond.methodLinkNest_warmed hW h)
    | exact va_tabs rfl (rfl : (s.setVm U.vm).vm = U.vm) (Cond.fieldLinkNest_warmed hW h)
    | (have hk : _ := hw
       simp only [zw_ok, Bool.and_eq_true] at hk
       exact zw_face hW hk.1 hk.2 h)
def R_AT : String := "CardDirectory$AccountTable"
def T_AT : u_T := fun k => match k with
  | 0 => ("CardDirectory$AccountTable", "issuers", "[I", true)
  | 1 => ("CardDirectory$AccountTable", "useTimes", "[I", true)
  | 2 => ("CardDirectory$AccountTable", "oldest", "[I", true)
  | _ => ("CardDirectory$AccountTable", "count", "I", false)
def t_AT : Nat → FieldType := fun k => match k with
  | 0 => .array .int
  | 1 => .array .int
  | 2 => .array .int
  | _ => .int
theorem n_AT : ∀ a, a < 4 → ∀ b, b < 4 → a ≠ b → (T_AT a).2.1 ≠ (T_AT b).2.1 := by decide +kernel
theorem tk_AT : ∀ k, k < 4 → parseFieldDescriptor (T_AT k).2.2.1 = some (t_AT k) := by decide +kernel
theorem i_AT : ∀ w ∈ u_ws R_AT T_AT 4, w ∈ BG := by decide +kernel
def R_CT : String := "CardDirectory$CardTable"
def T_CT : u_T := fun k => match k with
  | 0 => ("CardDirectory$CardTable", "numbers", "[J", true)
  | 1 => ("CardDirectory$CardTable", "accounts", "[I", true)
  | 2 => ("CardDirectory$CardTable", "blocked", "[Z", true)
  | _ => ("CardDirectory$CardTable", "count", "I", false)
def t_CT : Nat → FieldType := fun k => match k with
  | 0 => .array .long
  | 1 => .array .int
  | 2 => .array .boolean
  | _ => .int
theorem n_CT : ∀ a, a < 4 → ∀ b, b < 4 → a ≠ b → (T_CT a).2.1 ≠ (T_CT b).2.1 := by decide +kernel
theorem tk_CT : ∀ k, k < 4 → parseFieldDescriptor (T_CT k).2.2.1 = some (t_CT k) := by decide +kernel
theorem i_CT : ∀ w ∈ u_ws R_CT T_CT 4, w ∈ BG := by decide +kernel
def R_RT : String := "CardDirectory$RouteTable"
def T_RT : u_T := fun k => match k with
  | 0 => ("CardDirectory$RouteTable", "prefixes", "[I", true)
  | 1 => ("CardDirectory$RouteTable", "lengths", "[I", true)
  | 2 => ("CardDirectory$RouteTable", "issuers", "[I", true)
  | _ => ("CardDirectory$RouteTable", "count", "I", false)
def t_RT : Nat → FieldType := fun k => match k with
  | 0 => .array .int
  | 1 => .array .int
  | 2 => .array .int
  | _ => .int
theorem n_RT : ∀ a, a < 4 → ∀ b, b < 4 → a ≠ b → (T_RT a).2.1 ≠ (T_RT b).2.1 := by decide +kernel
theorem tk_RT : ∀ k, k < 4 → parseFieldDescriptor (T_RT k).2.2.1 = some (t_RT k) := by decide +kernel
theorem i_RT : ∀ w ∈ u_ws R_RT T_RT 4, w ∈ BG := by decide +kernel
def R_CD : String := "CardDirectory"
def T_CD : u_T := fun k => match k with
  | 0 => ("CardDirectory", "window", "I", true)
  | 1 => ("CardDirectory", "many", "I", true)
  | 2 => ("CardDirectory", "routeTable", "LCardDirectory$RouteTable;", true)
  | 3 => ("CardDirectory", "accountTable", "LCardDirectory$AccountTable;", true)
  | 4 => ("CardDirectory", "cardTable", "LCardDirectory$CardTable;", true)
  | _ => ("CardDirectory", "latestTime", "I", false)
def t_CD : Nat → FieldType := fun k => match k with
  | 0 => .int
  | 1 => .int
  | 2 => .object "CardDirectory$RouteTable"
  | 3 => .object "CardDirectory$AccountTable"
  | 4 => .object "CardDirectory$CardTable"
  | _ => .int
theorem n_CD : ∀ a, a < 6 → ∀ b, b < 6 → a ≠ b → (T_CD a).2.1 ≠ (T_CD b).2.1 := by decide +kernel
theorem tk_CD : ∀ k, k < 6 → parseFieldDescriptor (T_CD k).2.2.1 = some (t_CD k) := by decide +kernel
theorem i_CD : ∀ w ∈ u_ws R_CD T_CD 6, w ∈ BG := by decide +kernel
def R_MO : String := "CardDirectoryModel"
def T_MO : u_T := fun k => match k with
  | 0 => ("CardDirectoryModel", "code", "I", false)
  | 1 => ("CardDirectoryModel", "window", "I", true)
  | 2 => ("CardDirectoryModel", "many", "I", true)
  | 3 => ("CardDirectoryModel", "routes", "I", false)
  | 4 => ("CardDirectoryModel", "prefix", "[I", true)
  | 5 => ("CardDirectoryModel", "digits", "[I", true)
  | 6 => ("CardDirectoryModel", "leads", "[I", true)
  | 7 => ("CardDirectoryModel", "accounts", "I", false)
  | 8 => ("CardDirectoryModel", "issuer", "[I", true)
  | 9 => ("CardDirectoryModel", "uses", "[I", true)
  | 10 => ("CardDirectoryModel", "usedAt", "[I", true)
  | 11 => ("CardDirectoryModel", "cards", "I", false)
  | 12 => ("CardDirectoryModel", "card", "[J", true)
  | 13 => ("CardDirectoryModel", "of", "[I", true)
  | 14 => ("CardDirectoryModel", "blocked", "[Z", true)
  | _ => ("CardDirectoryModel", "now", "I", false)
def t_MO : Nat → FieldType := fun k => match k with
  | 0 => .int
  | 1 => .int
  | 2 => .int
  | 3 => .int
  | 4 => .array .int
  | 5 => .array .int
  | 6 => .array .int
  | 7 => .int
  | 8 => .array .int
  | 9 => .array .int
  | 10 => .array .int
  | 11 => .int
  | 12 => .array .long
  | 13 => .array .int
  | 14 => .array .boolean
  | _ => .int
theorem n_MO : ∀ a, a < 16 → ∀ b, b < 16 → a ≠ b → (T_MO a).2.1 ≠ (T_MO b).2.1 := by decide +kernel
theorem tk_MO : ∀ k, k < 16 → parseFieldDescriptor (T_MO k).2.2.1 = some (t_MO k) := by decide +kernel
theorem i_MO : ∀ w ∈ u_ws R_MO T_MO 16, w ∈ BG := by decide +kernel
def R_LW : String := "CardDirectoryLaw"
abbrev vwCl : List vw_C := [(R_AT, T_AT, 4), (R_CT, T_CT, 4), (R_RT, T_RT, 4), (R_CD, T_CD, 6), (R_MO, T_MO, 16)]
abbrev b_AT_init : ByteArray := prog_2_method_1_code
def y_AT_init : MethodName := ⟨R_AT, "<init>", "()V"⟩
set_option maxRecDepth 20000 in
theorem mc_AT_init : Cond.code y_AT_init b_AT_init 1 none ∈ BG := (zm_1 (i := 52) rfl rfl)
abbrev b_AT_isFull : ByteArray := prog_2_method_2_code
def y_AT_isFull : MethodName := ⟨R_AT, "isFull", "()Z"⟩
set_option maxRecDepth 20000 in
theorem mc_AT_isFull : Cond.code y_AT_isFull b_AT_isFull 1 (some .boolean) ∈ BG := (zm_2 (i := 22) rfl rfl)
abbrev b_AT_has : ByteArray := prog_2_method_3_code
def y_AT_has : MethodName := ⟨R_AT, "has", "(I)Z"⟩
set_option maxRecDepth 20000 in
theorem mc_AT_has : Cond.code y_AT_has b_AT_has 2 (some .boolean) ∈ BG := (zm_2 (i := 46) rfl rfl)
abbrev b_AT_add : ByteArray := prog_2_method_4_code
def y_AT_add : MethodName := ⟨R_AT, "add", "(I)I"⟩
set_option maxRecDepth 20000 in
theorem mc_AT_add : Cond.code y_AT_add b_AT_add 2 (some .int) ∈ BG := (zm_2 (i := 27) rfl rfl)
abbrev b_AT_issuerOf : ByteArray := prog_2_method_5_code
def y_AT_issuerOf : MethodName := ⟨R_AT, "issuerOf", "(I)I"⟩
set_option maxRecDepth 20000 in
theorem mc_AT_issuerOf : Cond.code y_AT_issuerOf b_AT_issuerOf 2 (some .int) ∈ BG := (zm_2 (i := 72) rfl rfl)
abbrev b_AT_usesSince : ByteArray := prog_2_method_6_code
def y_AT_usesSince : MethodName := ⟨R_AT, "usesSince", "(II)I"⟩
set_option maxRecDepth 20000 in
theorem mc_AT_usesSince : Cond.code y_AT_usesSince b_AT_usesSince 6 (some .int) ∈ BG := (zm_2 (i := 148) rfl rfl)
abbrev b_AT_noteUse : ByteArray := prog_2_method_7_code
def y_AT_noteUse : MethodName := ⟨R_AT, "noteUse", "(II)V"⟩
set_option maxRecDepth 20000 in
theorem mc_AT_noteUse : Cond.code y_AT_noteUse b_AT_noteUse 4 none ∈ BG := (zm_2 (i := 152) rfl rfl)
abbrev b_CT_init : ByteArray := prog_3_method_1_code
def y_CT_init : MethodName := ⟨R_CT, "<init>", "()V"⟩
set_option maxRecDepth 20000 in
theorem mc_CT_init : Cond.code y_CT_init b_CT_init 1 none ∈ BG := (zm_1 (i := 74) rfl rfl)
abbrev b_CT_isFull : ByteArray := prog_3_method_2_code
def y_CT_isFull : MethodName := ⟨R_CT, "isFull", "()Z"⟩
set_option maxRecDepth 20000 in
theorem mc_CT_isFull : Cond.code y_CT_isFull b_CT_isFull 1 (some .boolean) ∈ BG := (zm_2 (i := 51) rfl rfl)
abbrev b_CT_has : ByteArray := prog_3_method_3_code
def y_CT_has : MethodName := ⟨R_CT, "has", "(I)Z"⟩
set_option maxRecDepth 20000 in
theorem mc_CT_has : Cond.code y_CT_has b_CT_has 2 (some .boolean) ∈ BG := (zm_2 (i := 96) rfl rfl)
abbrev b_CT_find : ByteArray := prog_3_method_4_code
def y_CT_find : MethodName := ⟨R_CT, "find", "(J)I"⟩
set_option maxRecDepth 20000 in
theorem mc_CT_find : Cond.code y_CT_find b_CT_find 4 (some .int) ∈ BG := (zm_2 (i := 77) rfl rfl)
abbrev b_CT_add : ByteArray := prog_3_method_5_code
def y_CT_add : MethodName := ⟨R_CT, "add", "(JI)I"⟩
set_option maxRecDepth 20000 in
theorem mc_CT_add : Cond.code y_CT_add b_CT_add 4 (some .int) ∈ BG := (zm_2 (i := 81) rfl rfl)
abbrev b_CT_numberOf : ByteArray := prog_3_method_6_code
def y_CT_numberOf : MethodName := ⟨R_CT, "numberOf", "(I)J"⟩
set_option maxRecDepth 20000 in
theorem mc_CT_numberOf : Cond.code y_CT_numberOf b_CT_numberOf 2 (some .long) ∈ BG := (zm_2 (i := 170) rfl rfl)
abbrev b_CT_accountOf : ByteArray := prog_3_method_7_code
def y_CT_accountOf : MethodName := ⟨R_CT, "accountOf", "(I)I"⟩
set_option maxRecDepth 20000 in
theorem mc_CT_accountOf : Cond.code y_CT_accountOf b_CT_accountOf 2 (some .int) ∈ BG := (zm_2 (i := 144) rfl rfl)
abbrev b_CT_isBlocked : ByteArray := prog_3_method_8_code
def y_CT_isBlocked : MethodName := ⟨R_CT, "isBlocked", "(I)Z"⟩
set_option maxRecDepth 20000 in
theorem mc_CT_isBlocked : Cond.code y_CT_isBlocked b_CT_isBlocked 2 (some .boolean) ∈ BG := (zm_2 (i := 105) rfl rfl)
abbrev b_CT_setBlocked : ByteArray := prog_3_method_9_code
def y_CT_setBlocked : MethodName := ⟨R_CT, "setBlocked", "(IZ)Z"⟩
set_option maxRecDepth 20000 in
theorem mc_CT_setBlocked : Cond.code y_CT_setBlocked b_CT_setBlocked 4 (some .boolean) ∈ BG := (zm_2 (i := 101) rfl rfl)
abbrev b_RT_init : ByteArray := prog_4_method_1_code
def y_RT_init : MethodName := ⟨R_RT, "<init>", "()V"⟩
set_option maxRecDepth 20000 in
theorem mc_RT_init : Cond.code y_RT_init b_RT_init 1 none ∈ BG := (zm_1 (i := 31) rfl rfl)
abbrev b_RT_isFull : ByteArray := prog_4_method_2_code
def y_RT_isFull : MethodName := ⟨R_RT, "isFull", "()Z"⟩
set_option maxRecDepth 20000 in
theorem mc_RT_isFull : Cond.code y_RT_isFull b_RT_isFull 1 (some .boolean) ∈ BG := (zm_1 (i := 220) rfl rfl)
abbrev b_RT_find : ByteArray := prog_4_method_3_code
def y_RT_find : MethodName := ⟨R_RT, "find", "(JI)I"⟩
set_option maxRecDepth 20000 in
theorem mc_RT_find : Cond.code y_RT_find b_RT_find 5 (some .int) ∈ BG := (zm_1 (i := 208) rfl rfl)
abbrev b_RT_add : ByteArray := prog_4_method_4_code
def y_RT_add : MethodName := ⟨R_RT, "add", "(III)V"⟩
set_option maxRecDepth 20000 in
theorem mc_RT_add : Cond.code y_RT_add b_RT_add 4 none ∈ BG := (zm_2 (i := 0) rfl rfl)
abbrev b_RT_redirect : ByteArray := prog_4_method_5_code
def y_RT_redirect : MethodName := ⟨R_RT, "redirect", "(II)I"⟩
set_option maxRecDepth 20000 in
theorem mc_RT_redirect : Cond.code y_RT_redirect b_RT_redirect 4 (some .int) ∈ BG := (zm_1 (i := 212) rfl rfl)
abbrev b_RT_remove : ByteArray := prog_4_method_6_code
def y_RT_remove : MethodName := ⟨R_RT, "remove", "(I)I"⟩
set_option maxRecDepth 20000 in
theorem mc_RT_remove : Cond.code y_RT_remove b_RT_remove 4 (some .int) ∈ BG := (zm_2 (i := 11) rfl rfl)
abbrev b_RT_issuerFor : ByteArray := prog_4_method_7_code
def y_RT_issuerFor : MethodName := ⟨R_RT, "issuerFor", "(J)I"⟩
set_option maxRecDepth 20000 in
theorem mc_RT_issuerFor : Cond.code y_RT_issuerFor b_RT_issuerFor 7 (some .int) ∈ BG := (zm_2 (i := 65) rfl rfl)
abbrev b_RT_has : ByteArray := prog_4_method_8_code
def y_RT_has : MethodName := ⟨R_RT, "has", "(I)Z"⟩
set_option maxRecDepth 20000 in
theorem mc_RT_has : Cond.code y_RT_has b_RT_has 2 (some .boolean) ∈ BG := (zm_1 (i := 216) rfl rfl)
abbrev b_CD_init : ByteArray := prog_1_method_1_code
def y_CD_init : MethodName := ⟨R_CD, "<init>", "(II)V"⟩
set_option maxRecDepth 20000 in
theorem mc_CD_init : Cond.code y_CD_init b_CD_init 3 none ∈ BG := (zm_1 (i := 17) rfl rfl)
abbrev b_CD_route : ByteArray := prog_1_method_2_code
def y_CD_route : MethodName := ⟨R_CD, "route", "(III)I"⟩
set_option maxRecDepth 20000 in
theorem mc_CD_route : Cond.code y_CD_route b_CD_route 5 (some .int) ∈ BG := (zm_1 (i := 125) rfl rfl)
abbrev b_CD_unroute : ByteArray := prog_1_method_3_code
def y_CD_unroute : MethodName := ⟨R_CD, "unroute", "(II)I"⟩
set_option maxRecDepth 20000 in
theorem mc_CD_unroute : Cond.code y_CD_unroute b_CD_unroute 4 (some .int) ∈ BG := (zm_2 (i := 7) rfl rfl)
abbrev b_CD_routes : ByteArray := prog_1_method_4_code
def y_CD_routes : MethodName := ⟨R_CD, "routes", "()I"⟩
set_option maxRecDepth 20000 in
theorem mc_CD_routes : Cond.code y_CD_routes b_CD_routes 1 (some .int) ∈ BG := (zm_1 (i := 113) rfl rfl)
abbrev b_CD_account : ByteArray := prog_1_method_5_code
def y_CD_account : MethodName := ⟨R_CD, "account", "(I)I"⟩
set_option maxRecDepth 20000 in
theorem mc_CD_account : Cond.code y_CD_account b_CD_account 2 (some .int) ∈ BG := (zm_2 (i := 18) rfl rfl)
abbrev b_CD_card : ByteArray := prog_1_method_6_code
def y_CD_card : MethodName := ⟨R_CD, "card", "(JI)I"⟩
set_option maxRecDepth 20000 in
theorem mc_CD_card : Cond.code y_CD_card b_CD_card 5 (some .int) ∈ BG := (zm_2 (i := 34) rfl rfl)
abbrev b_CD_block : ByteArray := prog_1_method_7_code
def y_CD_block : MethodName := ⟨R_CD, "block", "(IZ)Z"⟩
set_option maxRecDepth 20000 in
theorem mc_CD_block : Cond.code y_CD_block b_CD_block 3 (some .boolean) ∈ BG := (zm_2 (i := 88) rfl rfl)
abbrev b_CD_whose : ByteArray := prog_1_method_8_code
def y_CD_whose : MethodName := ⟨R_CD, "whose", "(J)I"⟩
set_option maxRecDepth 20000 in
theorem mc_CD_whose : Cond.code y_CD_whose b_CD_whose 3 (some .int) ∈ BG := (zm_2 (i := 113) rfl rfl)
abbrev b_CD_good : ByteArray := prog_1_method_9_code
def y_CD_good : MethodName := ⟨R_CD, "good", "(J)Z"⟩
set_option maxRecDepth 20000 in
theorem mc_CD_good : Cond.code y_CD_good b_CD_good 3 (some .boolean) ∈ BG := (zm_2 (i := 120) rfl rfl)
abbrev b_CD_digit : ByteArray := prog_1_method_10_code
def y_CD_digit : MethodName := ⟨R_CD, "digit", "(J)I"⟩
set_option maxRecDepth 20000 in
theorem mc_CD_digit : Cond.code y_CD_digit b_CD_digit 3 (some .int) ∈ BG := (zm_2 (i := 127) rfl rfl)
abbrev b_CD_use : ByteArray := prog_1_method_11_code
def y_CD_use : MethodName := ⟨R_CD, "use", "(JI)I"⟩
set_option maxRecDepth 20000 in
theorem mc_CD_use : Cond.code y_CD_use b_CD_use 6 (some .int) ∈ BG := (zm_2 (i := 134) rfl rfl)
abbrev b_CD_used : ByteArray := prog_1_method_12_code
def y_CD_used : MethodName := ⟨R_CD, "used", "(II)I"⟩
set_option maxRecDepth 20000 in
theorem mc_CD_used : Cond.code y_CD_used b_CD_used 3 (some .int) ∈ BG := (zm_2 (i := 159) rfl rfl)
abbrev b_CD_told : ByteArray := prog_1_method_13_code
def y_CD_told : MethodName := ⟨R_CD, "told", "(II)J"⟩
set_option maxRecDepth 20000 in
theorem mc_CD_told : Cond.code y_CD_told b_CD_told 3 (some .long) ∈ BG := (zm_2 (i := 166) rfl rfl)
abbrev b_CD_requireIssuer : ByteArray := prog_1_method_14_code
def y_CD_requireIssuer : MethodName := ⟨R_CD, "requireIssuer", "(I)V"⟩
set_option maxRecDepth 20000 in
theorem mc_CD_requireIssuer : Cond.code y_CD_requireIssuer b_CD_requireIssuer 1 none ∈ BG := (zm_1 (i := 128) rfl rfl)
abbrev b_CD_requirePrefix : ByteArray := prog_1_method_15_code
def y_CD_requirePrefix : MethodName := ⟨R_CD, "requirePrefix", "(II)V"⟩
set_option maxRecDepth 20000 in
theorem mc_CD_requirePrefix : Cond.code y_CD_requirePrefix b_CD_requirePrefix 2 none ∈ BG := (zm_1 (i := 198) rfl rfl)
abbrev b_CD_requireDigits : ByteArray := prog_1_method_16_code
def y_CD_requireDigits : MethodName := ⟨R_CD, "requireDigits", "(JII)V"⟩
set_option maxRecDepth 20000 in
theorem mc_CD_requireDigits : Cond.code y_CD_requireDigits b_CD_requireDigits 5 none ∈ BG := (zm_2 (i := 37) rfl rfl)
abbrev b_CD_requireAccount : ByteArray := prog_1_method_17_code
def y_CD_requireAccount : MethodName := ⟨R_CD, "requireAccount", "(I)V"⟩
set_option maxRecDepth 20000 in
theorem mc_CD_requireAccount : Cond.code y_CD_requireAccount b_CD_requireAccount 2 none ∈ BG := (zm_2 (i := 42) rfl rfl)
abbrev b_CD_requireCard : ByteArray := prog_1_method_18_code
def y_CD_requireCard : MethodName := ⟨R_CD, "requireCard", "(I)V"⟩
set_option maxRecDepth 20000 in
theorem mc_CD_requireCard : Cond.code y_CD_requireCard b_CD_requireCard 2 none ∈ BG := (zm_2 (i := 92) rfl rfl)
abbrev b_CD_requireTime : ByteArray := prog_1_method_19_code
def y_CD_requireTime : MethodName := ⟨R_CD, "requireTime", "(I)V"⟩
set_option maxRecDepth 20000 in
theorem mc_CD_requireTime : Cond.code y_CD_requireTime b_CD_requireTime 2 none ∈ BG := (zm_2 (i := 138) rfl rfl)
abbrev b_CD_digitsOf : ByteArray := prog_1_method_20_code
def y_CD_digitsOf : MethodName := ⟨R_CD, "digitsOf", "(J)I"⟩
set_option maxRecDepth 20000 in
theorem mc_CD_digitsOf : Cond.code y_CD_digitsOf b_CD_digitsOf 5 (some .int) ∈ BG := (zm_1 (i := 202) rfl rfl)
abbrev b_CD_isGood : ByteArray := prog_1_method_21_code
def y_CD_isGood : MethodName := ⟨R_CD, "isGood", "(J)Z"⟩
set_option maxRecDepth 20000 in
theorem mc_CD_isGood : Cond.code y_CD_isGood b_CD_isGood 2 (some .boolean) ∈ BG := (zm_2 (i := 55) rfl rfl)
abbrev b_CD_checkSum : ByteArray := prog_1_method_22_code
def y_CD_checkSum : MethodName := ⟨R_CD, "checkSum", "(J)I"⟩
set_option maxRecDepth 20000 in
theorem mc_CD_checkSum : Cond.code y_CD_checkSum b_CD_checkSum 7 (some .int) ∈ BG := (zm_2 (i := 58) rfl rfl)
abbrev b_CD_doubled : ByteArray := prog_1_method_23_code
def y_CD_doubled : MethodName := ⟨R_CD, "doubled", "(I)I"⟩
set_option maxRecDepth 20000 in
theorem mc_CD_doubled : Cond.code y_CD_doubled b_CD_doubled 2 (some .int) ∈ BG := (zm_2 (i := 61) rfl rfl)
abbrev b_MO_init : ByteArray := prog_6_method_1_code
def y_MO_init : MethodName := ⟨R_MO, "<init>", "(II)V"⟩
set_option maxRecDepth 20000 in
theorem mc_MO_init : Cond.code y_MO_init b_MO_init 3 none ∈ BG := (zm_2 (i := 176) rfl rfl)
abbrev b_MO_thrown : ByteArray := prog_6_method_2_code
def y_MO_thrown : MethodName := ⟨R_MO, "thrown", "()I"⟩
set_option maxRecDepth 20000 in
theorem mc_MO_thrown : Cond.code y_MO_thrown b_MO_thrown 1 (some .int) ∈ BG := (zm_2 (i := 230) rfl rfl)
abbrev b_MO_goes : ByteArray := prog_6_method_3_code
def y_MO_goes : MethodName := ⟨R_MO, "goes", "(ZZ)Z"⟩
set_option maxRecDepth 20000 in
theorem mc_MO_goes : Cond.code y_MO_goes b_MO_goes 3 (some .boolean) ∈ BG := (zm_3 (i := 9) rfl rfl)
abbrev b_MO_width : ByteArray := prog_6_method_4_code
def y_MO_width : MethodName := ⟨R_MO, "width", "(J)I"⟩
set_option maxRecDepth 20000 in
theorem mc_MO_width : Cond.code y_MO_width b_MO_width 5 (some .int) ∈ BG := (zm_3 (i := 4) rfl rfl)
abbrev b_MO_isNumber : ByteArray := prog_6_method_5_code
def y_MO_isNumber : MethodName := ⟨R_MO, "isNumber", "(JI)Z"⟩
set_option maxRecDepth 20000 in
theorem mc_MO_isNumber : Cond.code y_MO_isNumber b_MO_isNumber 3 (some .boolean) ∈ BG := (zm_3 (i := 24) rfl rfl)
abbrev b_MO_front : ByteArray := prog_6_method_6_code
def y_MO_front : MethodName := ⟨R_MO, "front", "(JI)J"⟩
set_option maxRecDepth 20000 in
theorem mc_MO_front : Cond.code y_MO_front b_MO_front 6 (some .long) ∈ BG := (zm_3 (i := 31) rfl rfl)
abbrev b_MO_isPrefix : ByteArray := prog_6_method_7_code
def y_MO_isPrefix : MethodName := ⟨R_MO, "isPrefix", "(II)Z"⟩
set_option maxRecDepth 20000 in
theorem mc_MO_isPrefix : Cond.code y_MO_isPrefix b_MO_isPrefix 2 (some .boolean) ∈ BG := (zm_3 (i := 1) rfl rfl)
abbrev b_MO_placeOf : ByteArray := prog_6_method_8_code
def y_MO_placeOf : MethodName := ⟨R_MO, "placeOf", "(II)I"⟩
set_option maxRecDepth 20000 in
theorem mc_MO_placeOf : Cond.code y_MO_placeOf b_MO_placeOf 4 (some .int) ∈ BG := (zm_2 (i := 238) rfl rfl)
abbrev b_MO_route : ByteArray := prog_6_method_9_code
def y_MO_route : MethodName := ⟨R_MO, "route", "(III)I"⟩
set_option maxRecDepth 20000 in
theorem mc_MO_route : Cond.code y_MO_route b_MO_route 6 (some .int) ∈ BG := (zm_2 (i := 234) rfl rfl)
abbrev b_MO_unroute : ByteArray := prog_6_method_10_code
def y_MO_unroute : MethodName := ⟨R_MO, "unroute", "(II)I"⟩
set_option maxRecDepth 20000 in
theorem mc_MO_unroute : Cond.code y_MO_unroute b_MO_unroute 5 (some .int) ∈ BG := (zm_3 (i := 13) rfl rfl)
abbrev b_MO_routes : ByteArray := prog_6_method_11_code
def y_MO_routes : MethodName := ⟨R_MO, "routes", "()I"⟩
set_option maxRecDepth 20000 in
theorem mc_MO_routes : Cond.code y_MO_routes b_MO_routes 1 (some .int) ∈ BG := (zm_3 (i := 17) rfl rfl)
abbrev b_MO_routed : ByteArray := prog_6_method_12_code
def y_MO_routed : MethodName := ⟨R_MO, "routed", "(J)I"⟩
set_option maxRecDepth 20000 in
theorem mc_MO_routed : Cond.code y_MO_routed b_MO_routed 6 (some .int) ∈ BG := (zm_3 (i := 28) rfl rfl)
abbrev b_MO_whose : ByteArray := prog_6_method_13_code
def y_MO_whose : MethodName := ⟨R_MO, "whose", "(J)I"⟩
set_option maxRecDepth 20000 in
theorem mc_MO_whose : Cond.code y_MO_whose b_MO_whose 3 (some .int) ∈ BG := (zm_3 (i := 21) rfl rfl)
abbrev b_MO_sum : ByteArray := prog_6_method_14_code
def y_MO_sum : MethodName := ⟨R_MO, "sum", "(JZ)I"⟩
set_option maxRecDepth 20000 in
theorem mc_MO_sum : Cond.code y_MO_sum b_MO_sum 8 (some .int) ∈ BG := (zm_3 (i := 38) rfl rfl)
abbrev b_MO_good : ByteArray := prog_6_method_15_code
def y_MO_good : MethodName := ⟨R_MO, "good", "(J)Z"⟩
set_option maxRecDepth 20000 in
theorem mc_MO_good : Cond.code y_MO_good b_MO_good 3 (some .boolean) ∈ BG := (zm_3 (i := 35) rfl rfl)
abbrev b_MO_digit : ByteArray := prog_6_method_16_code
def y_MO_digit : MethodName := ⟨R_MO, "digit", "(J)I"⟩
set_option maxRecDepth 20000 in
theorem mc_MO_digit : Cond.code y_MO_digit b_MO_digit 4 (some .int) ∈ BG := (zm_3 (i := 42) rfl rfl)
abbrev b_MO_account : ByteArray := prog_6_method_17_code
def y_MO_account : MethodName := ⟨R_MO, "account", "(I)I"⟩
set_option maxRecDepth 20000 in
theorem mc_MO_account : Cond.code y_MO_account b_MO_account 2 (some .int) ∈ BG := (zm_3 (i := 46) rfl rfl)
abbrev b_MO_cardOf : ByteArray := prog_6_method_18_code
def y_MO_cardOf : MethodName := ⟨R_MO, "cardOf", "(J)I"⟩
set_option maxRecDepth 20000 in
theorem mc_MO_cardOf : Cond.code y_MO_cardOf b_MO_cardOf 5 (some .int) ∈ BG := (zm_3 (i := 54) rfl rfl)
abbrev b_MO_card : ByteArray := prog_6_method_19_code
def y_MO_card : MethodName := ⟨R_MO, "card", "(JI)I"⟩
set_option maxRecDepth 20000 in
theorem mc_MO_card : Cond.code y_MO_card b_MO_card 5 (some .int) ∈ BG := (zm_3 (i := 50) rfl rfl)
abbrev b_MO_block : ByteArray := prog_6_method_20_code
def y_MO_block : MethodName := ⟨R_MO, "block", "(IZ)Z"⟩
set_option maxRecDepth 20000 in
theorem mc_MO_block : Cond.code y_MO_block b_MO_block 4 (some .boolean) ∈ BG := (zm_3 (i := 58) rfl rfl)
abbrev b_MO_since : ByteArray := prog_6_method_21_code
def y_MO_since : MethodName := ⟨R_MO, "since", "(II)I"⟩
set_option maxRecDepth 20000 in
theorem mc_MO_since : Cond.code y_MO_since b_MO_since 5 (some .int) ∈ BG := (zm_3 (i := 66) rfl rfl)
abbrev b_MO_use : ByteArray := prog_6_method_22_code
def y_MO_use : MethodName := ⟨R_MO, "use", "(JI)I"⟩
set_option maxRecDepth 20000 in
theorem mc_MO_use : Cond.code y_MO_use b_MO_use 7 (some .int) ∈ BG := (zm_3 (i := 62) rfl rfl)
abbrev b_MO_used : ByteArray := prog_6_method_23_code
def y_MO_used : MethodName := ⟨R_MO, "used", "(II)I"⟩
set_option maxRecDepth 20000 in
theorem mc_MO_used : Cond.code y_MO_used b_MO_used 3 (some .int) ∈ BG := (zm_3 (i := 70) rfl rfl)
abbrev b_MO_told : ByteArray := prog_6_method_24_code
def y_MO_told : MethodName := ⟨R_MO, "told", "(II)J"⟩
set_option maxRecDepth 20000 in
theorem mc_MO_told : Cond.code y_MO_told b_MO_told 3 (some .long) ∈ BG := (zm_3 (i := 74) rfl rfl)
abbrev b_LW_cell : ByteArray := method_2_code
def y_LW_cell : MethodName := ⟨R_LW, "cell", "([II)I"⟩
set_option maxRecDepth 20000 in
theorem mc_LW_cell : Cond.code y_LW_cell b_LW_cell 2 (some .int) ∈ BG := (zm_1 (i := 116) rfl rfl)
abbrev b_LW_route : ByteArray := method_3_code
def y_LW_route : MethodName := ⟨R_LW, "route", "(LCardDirectory;III[J)I"⟩
set_option maxRecDepth 20000 in
theorem mc_LW_route : Cond.codeWith y_LW_route b_LW_route 6 (some .int) [(0, 12, 15, 13), (0, 12, 19, 15)] ∈ BG := (zm_1 (i := 119) rfl rfl)
abbrev b_LW_unroute : ByteArray := method_4_code
def y_LW_unroute : MethodName := ⟨R_LW, "unroute", "(LCardDirectory;II[J)I"⟩
set_option maxRecDepth 20000 in
theorem mc_LW_unroute : Cond.codeWith y_LW_unroute b_LW_unroute 5 (some .int) [(0, 10, 13, 13)] ∈ BG := (zm_2 (i := 3) rfl rfl)
abbrev b_LW_account : ByteArray := method_5_code
def y_LW_account : MethodName := ⟨R_LW, "account", "(LCardDirectory;I[J)I"⟩
set_option maxRecDepth 20000 in
theorem mc_LW_account : Cond.codeWith y_LW_account b_LW_account 4 (some .int) [(0, 9, 12, 13), (0, 9, 15, 15)] ∈ BG := (zm_2 (i := 14) rfl rfl)
abbrev b_LW_card : ByteArray := method_6_code
def y_LW_card : MethodName := ⟨R_LW, "card", "(LCardDirectory;JI[J)I"⟩
set_option maxRecDepth 20000 in
theorem mc_LW_card : Cond.codeWith y_LW_card b_LW_card 6 (some .int) [(0, 11, 14, 13), (0, 11, 18, 15)] ∈ BG := (zm_2 (i := 30) rfl rfl)
abbrev b_LW_block : ByteArray := method_7_code
def y_LW_block : MethodName := ⟨R_LW, "block", "(LCardDirectory;IZ[J)I"⟩
set_option maxRecDepth 20000 in
theorem mc_LW_block : Cond.codeWith y_LW_block b_LW_block 5 (some .int) [(0, 17, 20, 13)] ∈ BG := (zm_2 (i := 84) rfl rfl)
abbrev b_LW_whose : ByteArray := method_8_code
def y_LW_whose : MethodName := ⟨R_LW, "whose", "(LCardDirectory;J[J)I"⟩
set_option maxRecDepth 20000 in
theorem mc_LW_whose : Cond.codeWith y_LW_whose b_LW_whose 5 (some .int) [(0, 9, 12, 13)] ∈ BG := (zm_2 (i := 109) rfl rfl)
abbrev b_LW_good : ByteArray := method_9_code
def y_LW_good : MethodName := ⟨R_LW, "good", "(LCardDirectory;J[J)I"⟩
set_option maxRecDepth 20000 in
theorem mc_LW_good : Cond.codeWith y_LW_good b_LW_good 5 (some .int) [(0, 16, 19, 13)] ∈ BG := (zm_2 (i := 116) rfl rfl)
abbrev b_LW_digit : ByteArray := method_10_code
def y_LW_digit : MethodName := ⟨R_LW, "digit", "(LCardDirectory;J[J)I"⟩
set_option maxRecDepth 20000 in
theorem mc_LW_digit : Cond.codeWith y_LW_digit b_LW_digit 5 (some .int) [(0, 9, 12, 13)] ∈ BG := (zm_2 (i := 123) rfl rfl)
abbrev b_LW_use : ByteArray := method_11_code
def y_LW_use : MethodName := ⟨R_LW, "use", "(LCardDirectory;JI[J)I"⟩
set_option maxRecDepth 20000 in
theorem mc_LW_use : Cond.codeWith y_LW_use b_LW_use 6 (some .int) [(0, 11, 14, 13)] ∈ BG := (zm_2 (i := 130) rfl rfl)
abbrev b_LW_used : ByteArray := method_12_code
def y_LW_used : MethodName := ⟨R_LW, "used", "(LCardDirectory;II[J)I"⟩
set_option maxRecDepth 20000 in
theorem mc_LW_used : Cond.codeWith y_LW_used b_LW_used 5 (some .int) [(0, 10, 13, 13)] ∈ BG := (zm_2 (i := 155) rfl rfl)
abbrev b_LW_told : ByteArray := method_13_code
def y_LW_told : MethodName := ⟨R_LW, "told", "(LCardDirectory;II[J)I"⟩
set_option maxRecDepth 20000 in
theorem mc_LW_told : Cond.codeWith y_LW_told b_LW_told 5 (some .int) [(0, 9, 12, 13)] ∈ BG := (zm_2 (i := 162) rfl rfl)
